/-! PART h1: lists at sites, of the reference. -/
section Wh1
variable {xs : List (Nat × List Int32)} {M : Nat → Prop} {d : Nat} {S Z A : wS} {sl : Nat → List Int} {T : List aO} {l : List Int} {t c p h tp ba s kd gb es sz k1 v1 ky vy lk lv s0 v0 la ec nm : Int} {Q : wO → wS → Prop}
set_option maxHeartbeats 4000000 in
theorem rlz_ok (hP : mP t c p h tp S) (h73 : S 237 173 = 2100 * t + ba) (hba : 0 ≤ ba ∧ ba < h) (h74 : S 237 174 = 6) (h75 : S 237 175 = gb) (hgb : 0 ≤ gb ∧ gb < 8000) (h76 : S 237 176 = es) (h17 : S 317 gb = sz) (hsz : 0 ≤ sz ∧ sz ≤ 60000) (hkd : kd = 0) (hes : es = 0) : wJ (pe_GA xs) wY0 M (d + 8) t_M_actsOnRow ((pe_at t_M_actsOnRow.bl 0).getD (0, [])).2 [(0, (2, 237)), (1, (0, s)), (2, (0, kd))] [] S (fun o Z => o = .inl none ∧ gvZ t ba tp p 2 sz S = Z) := by
  have hP0 := hP
  obtain ⟨hM, ⟨mt, mt0, mt1⟩, mp, mf, ⟨mc, mc0, mc1⟩, ⟨mtp, mtq⟩, ⟨mpa, mp0, mp1⟩, mh, mh0, mh1⟩ := hP
  refine wa_aload_n (n := 0) rfl ?_
  refine wb_gfl 237 rfl (wy_pr rfl) wt_237 wf_15_175 (v := gb) (h75) (fun r1 => ?_)
  refine wb_l2i_r (wb_l2i_id ⟨(by omega), (by omega)⟩) ?_
  refine wa_istore_n (n := 3) rfl ?_
  refine wa_aload_n (n := 0) rfl ?_
  refine wb_gfi 237 rfl (wy_pr rfl) wt_237 wf_15_174 (v := 6) (h74) (fun r2 => ?_)
  refine wa_bipush (w_rg2 (by omega) (by omega)) ?_
  refine wa_icmpne (w_rg0 (by omega) (by omega)) (w_rg0 (by omega) (by omega)) ⟨_, rfl⟩ (fun c3 => ?_) (fun c3 => ?_)
  · skip
    exact absurd c3 (by omega)
  · skip
    refine wa_iconst ?_
    refine wa_goto ⟨_, rfl⟩ ?_
    refine wa_istore (n := 4) rfl ?_
    refine wa_iload (n := 4) rfl ?_
    refine wa_ifeq (w_rg0 (by omega) (by omega)) ⟨_, rfl⟩ (fun c4 => ?_) (fun c4 => ?_)
    · skip
      exact absurd c4 (by omega)
    · skip
      refine wa_aload_n (n := 0) rfl ?_
      refine wb_gf4 237 rfl (wy_pr rfl) wt_237 wf_15_73 (v := 317) wl_237_73 ?_
      refine wa_iload_n (n := 3) rfl ?_
      refine wb_iald 317 rfl (wy_pr rfl) wt_317 (n := 8000) ((ml_317 hM)) (by omega) (by omega) (v := sz) (h17) (fun r5 => ?_)
      refine wa_goto ⟨_, rfl⟩ ?_
      refine wa_istore (n := 5) rfl ?_
      refine wa_aload_n (n := 0) rfl ?_
      refine wb_gfi 237 rfl (wy_pr rfl) wt_237 wf_15_176 (v := es) (h76) (fun r6 => ?_)
      refine wa_ifle (w_rg0 (by omega) (by omega)) ⟨_, rfl⟩ (fun c7 => ?_) (fun c7 => ?_)
      · skip
        refine wb_lconst (m := 0) rfl ?_
        refine wa_fall ⟨_, rfl⟩ ?_
        refine wa_lstore (n := 6) rfl ?_
        refine wa_aload_n (n := 0) rfl ?_
        refine wb_gfi 237 rfl (wy_pr rfl) wt_237 wf_15_176 (v := es) (h76) (fun r8 => ?_)
        refine wa_ifle (w_rg0 (by omega) (by omega)) ⟨_, rfl⟩ (fun c9 => ?_) (fun c9 => ?_)
        · skip
          refine wa_iconst ?_
          refine wa_fall ⟨_, rfl⟩ ?_
          refine wa_istore (n := 8) rfl ?_
          refine wa_iload_n (n := 2) rfl ?_
          refine wa_ifne (w_rg0 (by omega) (by omega)) ⟨_, rfl⟩ (fun c10 => ?_) (fun c10 => ?_)
          · skip
            exact absurd c10 (by omega)
          · skip
            refine wa_aload_n (n := 0) rfl ?_
            refine wa_iconst ?_
            refine wa_iload (n := 5) rfl ?_
            refine wa_i2l (w_rg0 (by omega) (by omega)) ?_
            have hPg : mP t c p h tp S := hP0
            refine wa_cv 237 rfl (wy_pr rfl) wt_237 (M2 := fun _ => False) rfl at_M_gives ⟨_, rfl⟩ rfl rfl ⟨trivial, trivial, trivial, trivial, trivial, (Or.inr ⟨wy_pr rfl, fun q => q⟩), trivial, trivial, trivial⟩ trivial (fun _ _ q => False.elim q) (gvs_ok (S := S) (k := 2) (v := sz) hPg ((h73)) ⟨by omega, by omega⟩ ⟨by omega, by omega⟩ ⟨by omega, by omega⟩) (fun oq11 Sq11 hp12 q11 => ?_)
            rcases q11 with ⟨rfl, rfl⟩
            show wJ _ _ _ _ _ _ _ _ _ _
            refine wa_goto ⟨_, rfl⟩ ?_
            refine wa_return rfl ?_
            exact ⟨rfl, rfl⟩
        · skip
          exact absurd c9 (by omega)
      · skip
        exact absurd c7 (by omega)
set_option maxHeartbeats 4000000 in
theorem rle_ok (hP : mP t c p h tp S) (h73 : S 237 173 = 2100 * t + ba) (hba : 0 ≤ ba ∧ ba < h) (h74 : S 237 174 = 6) (h75 : S 237 175 = gb) (hgb : 0 ≤ gb ∧ gb < 8000) (h76 : S 237 176 = es) (h17 : S 317 gb = sz) (hsz : 0 ≤ sz ∧ sz ≤ 60000) (hk1 : S 363 (2100 * t + ba + 1) = k1) (hv1 : S 364 (2100 * t + ba + 1) = v1) (hk1r : 0 ≤ k1 ∧ k1 ≤ 8) (hv1r : -9223372036854775808 ≤ v1 ∧ v1 ≤ 9223372036854775807) (hsl : slC S gb l) (hll : (l.length : Int) = sz) (hel : k1 = 2 → 0 ≤ v1 → v1 < sz → S 325 (l.getD v1.toNat 0) = lk ∧ S 326 (l.getD v1.toNat 0) = lv) (hlr : 0 ≤ lk ∧ lk ≤ 8) (hlw : -9223372036854775808 ≤ lv ∧ lv ≤ 9223372036854775807) (hkd : kd = 2) (hes : es = 1) (hb1 : ba + 1 < h) : wJ (pe_GA xs) wY0 M (d + 8) t_M_actsOnRow ((pe_at t_M_actsOnRow.bl 0).getD (0, [])).2 [(0, (2, 237)), (1, (0, s)), (2, (0, kd))] [] S (fun o Z => (¬ (k1 = 2 ∧ 0 ≤ v1 ∧ v1 < sz) ∧ o = .inr 238 ∧ hZ 6 S = Z) ∨ ((k1 = 2 ∧ 0 ≤ v1 ∧ v1 < sz) ∧ o = .inl none ∧ gvZ t ba tp p lk lv S = Z)) := by
  have hP0 := hP
  obtain ⟨hM, ⟨mt, mt0, mt1⟩, mp, mf, ⟨mc, mc0, mc1⟩, ⟨mtp, mtq⟩, ⟨mpa, mp0, mp1⟩, mh, mh0, mh1⟩ := hP
  refine wa_aload_n (n := 0) rfl ?_
  refine wb_gfl 237 rfl (wy_pr rfl) wt_237 wf_15_175 (v := gb) (h75) (fun r201 => ?_)
  refine wb_l2i_r (wb_l2i_id ⟨(by omega), (by omega)⟩) ?_
  refine wa_istore_n (n := 3) rfl ?_
  refine wa_aload_n (n := 0) rfl ?_
  refine wb_gfi 237 rfl (wy_pr rfl) wt_237 wf_15_174 (v := 6) (h74) (fun r202 => ?_)
  refine wa_bipush (w_rg2 (by omega) (by omega)) ?_
  refine wa_icmpne (w_rg0 (by omega) (by omega)) (w_rg0 (by omega) (by omega)) ⟨_, rfl⟩ (fun c203 => ?_) (fun c203 => ?_)
  · skip
    exact absurd c203 (by omega)
  · skip
    refine wa_iconst ?_
    refine wa_goto ⟨_, rfl⟩ ?_
    refine wa_istore (n := 4) rfl ?_
    refine wa_iload (n := 4) rfl ?_
    refine wa_ifeq (w_rg0 (by omega) (by omega)) ⟨_, rfl⟩ (fun c204 => ?_) (fun c204 => ?_)
    · skip
      exact absurd c204 (by omega)
    · skip
      refine wa_aload_n (n := 0) rfl ?_
      refine wb_gf4 237 rfl (wy_pr rfl) wt_237 wf_15_73 (v := 317) wl_237_73 ?_
      refine wa_iload_n (n := 3) rfl ?_
      refine wb_iald 317 rfl (wy_pr rfl) wt_317 (n := 8000) ((ml_317 hM)) (by omega) (by omega) (v := sz) (h17) (fun r205 => ?_)
      refine wa_goto ⟨_, rfl⟩ ?_
      refine wa_istore (n := 5) rfl ?_
      refine wa_aload_n (n := 0) rfl ?_
      refine wb_gfi 237 rfl (wy_pr rfl) wt_237 wf_15_176 (v := es) (h76) (fun r206 => ?_)
      refine wa_ifle (w_rg0 (by omega) (by omega)) ⟨_, rfl⟩ (fun c207 => ?_) (fun c207 => ?_)
      · skip
        exact absurd c207 (by omega)
      · skip
        refine wa_aload_n (n := 0) rfl ?_
        refine wb_gf4 237 rfl (wy_pr rfl) wt_237 wf_15_139 (v := 364) wl_237_139 ?_
        refine wa_aload_n (n := 0) rfl ?_
        refine wb_gfi 237 rfl (wy_pr rfl) wt_237 wf_15_173 (v := ((2100 * t) + ba)) (h73) (fun r208 => ?_)
        refine wa_iconst ?_
        refine wa_iadd ?_
        refine wb_lald 364 rfl (wy_pr rfl) wt_364 (n := 4200) ((ml_364 hM)) (by omega) (by omega) (v := v1) (hv1) (fun r209 => ?_)
        refine wa_goto ⟨_, rfl⟩ ?_
        refine wa_lstore (n := 6) rfl ?_
        refine wa_aload_n (n := 0) rfl ?_
        refine wb_gfi 237 rfl (wy_pr rfl) wt_237 wf_15_176 (v := es) (h76) (fun r210 => ?_)
        refine wa_ifle (w_rg0 (by omega) (by omega)) ⟨_, rfl⟩ (fun c211 => ?_) (fun c211 => ?_)
        · skip
          exact absurd c211 (by omega)
        · skip
          refine wa_aload_n (n := 0) rfl ?_
          refine wb_gf4 237 rfl (wy_pr rfl) wt_237 wf_15_138 (v := 363) wl_237_138 ?_
          refine wa_aload_n (n := 0) rfl ?_
          refine wb_gfi 237 rfl (wy_pr rfl) wt_237 wf_15_173 (v := ((2100 * t) + ba)) (h73) (fun r212 => ?_)
          refine wa_iconst ?_
          refine wa_iadd ?_
          refine wb_iald 363 rfl (wy_pr rfl) wt_363 (n := 4200) ((ml_363 hM)) (by omega) (by omega) (v := k1) (hk1) (fun r213 => ?_)
          refine wa_iconst ?_
          refine wa_icmpne (w_rg0 (by omega) (by omega)) (w_rg0 (by omega) (by omega)) ⟨_, rfl⟩ (fun c214 => ?_) (fun c214 => ?_)
          · skip
            refine wa_iconst ?_
            refine wa_fall ⟨_, rfl⟩ ?_
            refine wa_istore (n := 8) rfl ?_
            refine wa_iload_n (n := 2) rfl ?_
            refine wa_ifne (w_rg0 (by omega) (by omega)) ⟨_, rfl⟩ (fun c215 => ?_) (fun c215 => ?_)
            · skip
              refine wa_iload_n (n := 2) rfl ?_
              refine wa_iconst ?_
              refine wa_icmpne (w_rg0 (by omega) (by omega)) (w_rg0 (by omega) (by omega)) ⟨_, rfl⟩ (fun c216 => ?_) (fun c216 => ?_)
              · skip
                exact absurd c216 (by omega)
              · skip
                refine wa_iload (n := 8) rfl ?_
                refine wa_ifeq (w_rg0 (by omega) (by omega)) ⟨_, rfl⟩ (fun c217 => ?_) (fun c217 => ?_)
                · skip
                  refine wa_aload_n (n := 0) rfl ?_
                  refine wa_bipush (w_rg2 (by omega) (by omega)) ?_
                  refine wa_cv 237 rfl (wy_pr rfl) wt_237 (M2 := fun _ => False) rfl at_M_error ⟨_, rfl⟩ rfl rfl ⟨trivial, trivial, trivial, trivial, trivial, (Or.inr ⟨wy_pr rfl, fun q => q⟩), trivial, trivial, trivial⟩ trivial (fun _ _ q => False.elim q) ?_ (fun _ _ _ q => q)
                  refine wa_aload_n (n := 0) rfl ?_
                  refine wb_gf4 237 rfl (wy_pr rfl) wt_237 wf_15_1 (v := 238) wl_237_1 ?_
                  refine wa_iload_n (n := 1) rfl ?_
                  refine wa_iconst ?_
                  refine wa_cv 238 rfl (wy_pr rfl) wt_238 (M2 := fun _ => False) rfl at_MH_of ⟨_, rfl⟩ rfl rfl ⟨(Or.inr ⟨wy_pr rfl, fun q => q⟩), trivial, trivial⟩ trivial (fun _ _ q => False.elim q) ?_ (fun _ _ _ q => q)
                  refine wa_aload_n (n := 0) rfl ?_
                  refine wa_iload_n (n := 1) rfl ?_
                  refine wb_pfi 238 rfl (wy_pr rfl) wt_238 wf_11_5 (n := 5) rfl ⟨(by omega), (by omega)⟩ ?_
                  refine wa_aload_n (n := 0) rfl ?_
                  refine wa_iload_n (n := 2) rfl ?_
                  refine wb_pfi 238 rfl (wy_pr rfl) wt_238 wf_11_6 (n := 6) rfl ⟨(by omega), (by omega)⟩ ?_
                  refine wa_aload_n (n := 0) rfl ?_
                  refine wa_oreturn rfl ?_
                  show wJ _ _ _ _ _ _ _ _ _ _
                  refine wa_th (j := 238) ?_
                  refine ⟨rfl, ?_⟩
                  exact Or.inl ⟨by omega, rfl, rfl⟩
                · skip
                  exact absurd c217 (by omega)
            · skip
              exact absurd c215 (by omega)
          · skip
            refine wa_iconst ?_
            refine wa_goto ⟨_, rfl⟩ ?_
            refine wa_istore (n := 8) rfl ?_
            refine wa_iload_n (n := 2) rfl ?_
            refine wa_ifne (w_rg0 (by omega) (by omega)) ⟨_, rfl⟩ (fun c218 => ?_) (fun c218 => ?_)
            · skip
              refine wa_iload_n (n := 2) rfl ?_
              refine wa_iconst ?_
              refine wa_icmpne (w_rg0 (by omega) (by omega)) (w_rg0 (by omega) (by omega)) ⟨_, rfl⟩ (fun c219 => ?_) (fun c219 => ?_)
              · skip
                exact absurd c219 (by omega)
              · skip
                refine wa_iload (n := 8) rfl ?_
                refine wa_ifeq (w_rg0 (by omega) (by omega)) ⟨_, rfl⟩ (fun c220 => ?_) (fun c220 => ?_)
                · skip
                  exact absurd c220 (by omega)
                · skip
                  refine wa_lload (n := 6) rfl ?_
                  refine wb_lconst (m := 0) rfl ?_
                  refine wa_iload (n := 5) rfl ?_
                  refine wa_iconst ?_
                  refine wa_isub ?_
                  refine wa_i2l (w_rg0 (by omega) (by omega)) ?_
                  refine wa_cs (M2 := fun _ => False) rfl at_M_in ⟨_, rfl⟩ rfl rfl ⟨trivial, trivial, trivial, trivial, trivial, (Or.inr ⟨wy_pr rfl, fun q => q⟩), trivial, trivial, trivial⟩ trivial (fun _ _ q => False.elim q) ?_ (fun _ _ _ q => q)
                  refine wa_lload_n (n := 0) rfl ?_
                  refine wa_lload_n (n := 2) rfl ?_
                  refine wa_lcmp (w_rg1 (by omega) (by omega)) (w_rg1 (by omega) (by omega)) ?_
                  refine wa_iflt (by have := @wb_lcmp_cases; exact w_lcmp_rg) ⟨_, rfl⟩ (fun c221 => ?_) (fun c221 => ?_)
                  · skip
                    have c221x := @wb_lcmp_cases v1 0
                    refine wa_iconst ?_
                    refine wa_fall ⟨_, rfl⟩ ?_
                    refine wa_zreturn rfl (Or.inl rfl) ?_
                    show wJ _ _ _ _ _ _ _ _ _ _
                    refine wa_ifne (w_rg0 (by omega) (by omega)) ⟨_, rfl⟩ (fun c222 => ?_) (fun c222 => ?_)
                    · skip
                      exact absurd c222 (by omega)
                    · skip
                      refine wa_fall ⟨_, rfl⟩ ?_
                      refine wa_aload_n (n := 0) rfl ?_
                      refine wa_bipush (w_rg2 (by omega) (by omega)) ?_
                      refine wa_cv 237 rfl (wy_pr rfl) wt_237 (M2 := fun _ => False) rfl at_M_error ⟨_, rfl⟩ rfl rfl ⟨trivial, trivial, trivial, trivial, trivial, (Or.inr ⟨wy_pr rfl, fun q => q⟩), trivial, trivial, trivial⟩ trivial (fun _ _ q => False.elim q) ?_ (fun _ _ _ q => q)
                      refine wa_aload_n (n := 0) rfl ?_
                      refine wb_gf4 237 rfl (wy_pr rfl) wt_237 wf_15_1 (v := 238) wl_237_1 ?_
                      refine wa_iload_n (n := 1) rfl ?_
                      refine wa_iconst ?_
                      refine wa_cv 238 rfl (wy_pr rfl) wt_238 (M2 := fun _ => False) rfl at_MH_of ⟨_, rfl⟩ rfl rfl ⟨(Or.inr ⟨wy_pr rfl, fun q => q⟩), trivial, trivial⟩ trivial (fun _ _ q => False.elim q) ?_ (fun _ _ _ q => q)
                      refine wa_aload_n (n := 0) rfl ?_
                      refine wa_iload_n (n := 1) rfl ?_
                      refine wb_pfi 238 rfl (wy_pr rfl) wt_238 wf_11_5 (n := 5) rfl ⟨(by omega), (by omega)⟩ ?_
                      refine wa_aload_n (n := 0) rfl ?_
                      refine wa_iload_n (n := 2) rfl ?_
                      refine wb_pfi 238 rfl (wy_pr rfl) wt_238 wf_11_6 (n := 6) rfl ⟨(by omega), (by omega)⟩ ?_
                      refine wa_aload_n (n := 0) rfl ?_
                      refine wa_oreturn rfl ?_
                      show wJ _ _ _ _ _ _ _ _ _ _
                      refine wa_th (j := 238) ?_
                      refine ⟨rfl, ?_⟩
                      exact Or.inl ⟨by omega, rfl, rfl⟩
                  · skip
                    have c221x := @wb_lcmp_cases v1 0
                    refine wa_lload_n (n := 0) rfl ?_
                    refine wa_lload (n := 4) rfl ?_
                    refine wa_lcmp (w_rg1 (by omega) (by omega)) (w_rg1 (by omega) (by omega)) ?_
                    refine wa_ifgt (by have := @wb_lcmp_cases; exact w_lcmp_rg) ⟨_, rfl⟩ (fun c223 => ?_) (fun c223 => ?_)
                    · skip
                      have c223x := @wb_lcmp_cases v1 (sz - 1)
                      refine wa_iconst ?_
                      refine wa_fall ⟨_, rfl⟩ ?_
                      refine wa_zreturn rfl (Or.inl rfl) ?_
                      show wJ _ _ _ _ _ _ _ _ _ _
                      refine wa_ifne (w_rg0 (by omega) (by omega)) ⟨_, rfl⟩ (fun c224 => ?_) (fun c224 => ?_)
                      · skip
                        exact absurd c224 (by omega)
                      · skip
                        refine wa_fall ⟨_, rfl⟩ ?_
                        refine wa_aload_n (n := 0) rfl ?_
                        refine wa_bipush (w_rg2 (by omega) (by omega)) ?_
                        refine wa_cv 237 rfl (wy_pr rfl) wt_237 (M2 := fun _ => False) rfl at_M_error ⟨_, rfl⟩ rfl rfl ⟨trivial, trivial, trivial, trivial, trivial, (Or.inr ⟨wy_pr rfl, fun q => q⟩), trivial, trivial, trivial⟩ trivial (fun _ _ q => False.elim q) ?_ (fun _ _ _ q => q)
                        refine wa_aload_n (n := 0) rfl ?_
                        refine wb_gf4 237 rfl (wy_pr rfl) wt_237 wf_15_1 (v := 238) wl_237_1 ?_
                        refine wa_iload_n (n := 1) rfl ?_
                        refine wa_iconst ?_
                        refine wa_cv 238 rfl (wy_pr rfl) wt_238 (M2 := fun _ => False) rfl at_MH_of ⟨_, rfl⟩ rfl rfl ⟨(Or.inr ⟨wy_pr rfl, fun q => q⟩), trivial, trivial⟩ trivial (fun _ _ q => False.elim q) ?_ (fun _ _ _ q => q)
                        refine wa_aload_n (n := 0) rfl ?_
                        refine wa_iload_n (n := 1) rfl ?_
                        refine wb_pfi 238 rfl (wy_pr rfl) wt_238 wf_11_5 (n := 5) rfl ⟨(by omega), (by omega)⟩ ?_
                        refine wa_aload_n (n := 0) rfl ?_
                        refine wa_iload_n (n := 2) rfl ?_
                        refine wb_pfi 238 rfl (wy_pr rfl) wt_238 wf_11_6 (n := 6) rfl ⟨(by omega), (by omega)⟩ ?_
                        refine wa_aload_n (n := 0) rfl ?_
                        refine wa_oreturn rfl ?_
                        show wJ _ _ _ _ _ _ _ _ _ _
                        refine wa_th (j := 238) ?_
                        refine ⟨rfl, ?_⟩
                        exact Or.inl ⟨by omega, rfl, rfl⟩
                    · skip
                      have c223x := @wb_lcmp_cases v1 (sz - 1)
                      refine wa_iconst ?_
                      refine wa_goto ⟨_, rfl⟩ ?_
                      refine wa_zreturn rfl (Or.inr rfl) ?_
                      show wJ _ _ _ _ _ _ _ _ _ _
                      refine wa_ifne (w_rg0 (by omega) (by omega)) ⟨_, rfl⟩ (fun c225 => ?_) (fun c225 => ?_)
                      · skip
                        refine wa_iload (n := 4) rfl ?_
                        refine wa_ifeq (w_rg0 (by omega) (by omega)) ⟨_, rfl⟩ (fun c226 => ?_) (fun c226 => ?_)
                        · skip
                          exact absurd c226 (by omega)
                        · skip
                          refine wa_aload_n (n := 0) rfl ?_
                          refine wa_iload_n (n := 3) rfl ?_
                          refine wa_lload (n := 6) rfl ?_
                          refine wb_l2i_r (wb_l2i_id ⟨(by omega), (by omega)⟩) ?_
                          obtain ⟨se, hse⟩ : ∃ i : Int, i = l.getD v1.toNat 0 := ⟨_, rfl⟩
                          obtain ⟨hel1, hel2⟩ := hel (by omega) (by omega) (by omega)
                          rw [← hse] at hel1 hel2
                          have hser : 0 ≤ se ∧ se < 60000 := by rw [hse]; exact (hsl.2.2 v1.toNat (by omega)).1
                          refine wa_cv 237 rfl (wy_pr rfl) wt_237 (M2 := fun _ => False) rfl at_M_slotAt ⟨_, rfl⟩ rfl rfl ⟨trivial, trivial, trivial, trivial, trivial, (Or.inr ⟨wy_pr rfl, fun q => q⟩), trivial, trivial, trivial⟩ trivial (fun _ _ q => False.elim q) (wJ_mono (saM_ok (S := S) (th := gb) (i := v1) (l := l) hM hgb hsl ⟨by omega, by omega⟩ (by omega)) (fun o Z hz => (⟨hz.1, by rw [hse]; exact hz.2⟩ : S = Z ∧ o = .inl (some (0, se))))) (fun oq227 Sq227 hp228 q227 => ?_)
                          rcases q227 with ⟨rfl, rfl⟩
                          show wJ _ _ _ _ _ _ _ _ _ _
                          refine wa_istore (n := 9) rfl ?_
                          refine wa_aload_n (n := 0) rfl ?_
                          refine wa_aload_n (n := 0) rfl ?_
                          refine wb_gf4 237 rfl (wy_pr rfl) wt_237 wf_15_83 (v := 325) wl_237_83 ?_
                          refine wa_iload (n := 9) rfl ?_
                          refine wb_iald 325 rfl (wy_pr rfl) wt_325 (n := 60000) ((ml_325 hM)) (by omega) (by omega) (v := lk) (hel1) (fun r229 => ?_)
                          refine wa_aload_n (n := 0) rfl ?_
                          refine wb_gf4 237 rfl (wy_pr rfl) wt_237 wf_15_84 (v := 326) wl_237_84 ?_
                          refine wa_iload (n := 9) rfl ?_
                          refine wb_lald 326 rfl (wy_pr rfl) wt_326 (n := 60000) ((ml_326 hM)) (by omega) (by omega) (v := lv) (hel2) (fun r230 => ?_)
                          have hPg : mP t c p h tp S := hP0
                          refine wa_cv 237 rfl (wy_pr rfl) wt_237 (M2 := fun _ => False) rfl at_M_gives ⟨_, rfl⟩ rfl rfl ⟨trivial, trivial, trivial, trivial, trivial, trivial, (Or.inr ⟨wy_pr rfl, fun q => q⟩), trivial, trivial, trivial⟩ trivial (fun _ _ q => False.elim q) (gvs_ok (S := S) (k := lk) (v := lv) hPg ((h73)) ⟨by omega, by omega⟩ ⟨by omega, by omega⟩ ⟨by omega, by omega⟩) (fun oq231 Sq231 hp232 q231 => ?_)
                          rcases q231 with ⟨rfl, rfl⟩
                          show wJ _ _ _ _ _ _ _ _ _ _
                          refine wa_goto ⟨_, rfl⟩ ?_
                          refine wa_return rfl ?_
                          exact Or.inr ⟨⟨by omega, by omega, by omega⟩, rfl, rfl⟩
                      · skip
                        exact absurd c225 (by omega)
            · skip
              exact absurd c218 (by omega)
set_option maxHeartbeats 4000000 in
theorem rls_ok2 (hP : mP t c p h tp S) (h73 : S 237 173 = 2100 * t + ba) (hba : 0 ≤ ba ∧ ba < h) (h74 : S 237 174 = 6) (h75 : S 237 175 = gb) (hgb : 0 ≤ gb ∧ gb < 8000) (h76 : S 237 176 = es) (h17 : S 317 gb = sz) (hsz : 0 ≤ sz ∧ sz ≤ 60000) (hk1 : S 363 (2100 * t + ba + 1) = k1) (hv1 : S 364 (2100 * t + ba + 1) = v1) (hk1r : 0 ≤ k1 ∧ k1 ≤ 8) (hv1r : -9223372036854775808 ≤ v1 ∧ v1 ≤ 9223372036854775807) (hky : S 363 (2100 * t + ba + 2) = ky) (hvy : S 364 (2100 * t + ba + 2) = vy) (hkr : 0 ≤ ky ∧ ky ≤ 8) (hvr : -9223372036854775808 ≤ vy ∧ vy ≤ 9223372036854775807) (h63 : S 237 63 = v0) (hv0 : 0 ≤ v0 ∧ v0 ≤ 60000) (h82 : S 237 82 = s0) (hs0 : 0 ≤ s0 ∧ s0 ≤ v0) (h18 : S 318 gb = la) (hla : sz ≠ 0 → 0 ≤ la ∧ la < 60000) (hsl : slC S gb l) (hll : (l.length : Int) = sz) (hkd : kd = 3) (hes : es = 2) (hb1 : ba + 2 < h) : wJ (pe_GA xs) wY0 M (d + 8) t_M_actsOnRow ((pe_at t_M_actsOnRow.bl 0).getD (0, [])).2 [(0, (2, 237)), (1, (0, s)), (2, (0, kd))] [] S (fun o Z => (¬ (k1 = 2 ∧ 0 ≤ v1 ∧ v1 ≤ sz) ∧ o = .inr 238 ∧ hZ 6 S = Z) ∨ ((k1 = 2 ∧ v1 = sz) ∧ 60000 ≤ v0 ∧ o = .inr 238 ∧ hZ 99 S = Z) ∨ ((k1 = 2 ∧ v1 = sz) ∧ v0 < 60000 ∧ o = .inl none ∧ gvZ t ba tp p ky vy (asZ gb (-1) ky vy s0 v0 sz la S) = Z) ∨ ((k1 = 2 ∧ 0 ≤ v1 ∧ v1 < sz) ∧ o = .inl none ∧ gvZ t ba tp p ky vy (w_up (w_up S 325 (l.getD v1.toNat 0) ky) 326 (l.getD v1.toNat 0) vy) = Z)) := by
  have hP0 := hP
  obtain ⟨hM, ⟨mt, mt0, mt1⟩, mp, mf, ⟨mc, mc0, mc1⟩, ⟨mtp, mtq⟩, ⟨mpa, mp0, mp1⟩, mh, mh0, mh1⟩ := hP
  refine wa_aload_n (n := 0) rfl ?_
  refine wb_gfl 237 rfl (wy_pr rfl) wt_237 wf_15_175 (v := gb) (h75) (fun r501 => ?_)
  refine wb_l2i_r (wb_l2i_id ⟨(by omega), (by omega)⟩) ?_
  refine wa_istore_n (n := 3) rfl ?_
  refine wa_aload_n (n := 0) rfl ?_
  refine wb_gfi 237 rfl (wy_pr rfl) wt_237 wf_15_174 (v := 6) (h74) (fun r502 => ?_)
  refine wa_bipush (w_rg2 (by omega) (by omega)) ?_
  refine wa_icmpne (w_rg0 (by omega) (by omega)) (w_rg0 (by omega) (by omega)) ⟨_, rfl⟩ (fun c503 => ?_) (fun c503 => ?_)
  · skip
    exact absurd c503 (by omega)
  · skip
    refine wa_iconst ?_
    refine wa_goto ⟨_, rfl⟩ ?_
    refine wa_istore (n := 4) rfl ?_
    refine wa_iload (n := 4) rfl ?_
    refine wa_ifeq (w_rg0 (by omega) (by omega)) ⟨_, rfl⟩ (fun c504 => ?_) (fun c504 => ?_)
    · skip
      exact absurd c504 (by omega)
    · skip
      refine wa_aload_n (n := 0) rfl ?_
      refine wb_gf4 237 rfl (wy_pr rfl) wt_237 wf_15_73 (v := 317) wl_237_73 ?_
      refine wa_iload_n (n := 3) rfl ?_
      refine wb_iald 317 rfl (wy_pr rfl) wt_317 (n := 8000) ((ml_317 hM)) (by omega) (by omega) (v := sz) (h17) (fun r505 => ?_)
      refine wa_goto ⟨_, rfl⟩ ?_
      refine wa_istore (n := 5) rfl ?_
      refine wa_aload_n (n := 0) rfl ?_
      refine wb_gfi 237 rfl (wy_pr rfl) wt_237 wf_15_176 (v := es) (h76) (fun r506 => ?_)
      refine wa_ifle (w_rg0 (by omega) (by omega)) ⟨_, rfl⟩ (fun c507 => ?_) (fun c507 => ?_)
      · skip
        exact absurd c507 (by omega)
      · skip
        refine wa_aload_n (n := 0) rfl ?_
        refine wb_gf4 237 rfl (wy_pr rfl) wt_237 wf_15_139 (v := 364) wl_237_139 ?_
        refine wa_aload_n (n := 0) rfl ?_
        refine wb_gfi 237 rfl (wy_pr rfl) wt_237 wf_15_173 (v := ((2100 * t) + ba)) (h73) (fun r508 => ?_)
        refine wa_iconst ?_
        refine wa_iadd ?_
        refine wb_lald 364 rfl (wy_pr rfl) wt_364 (n := 4200) ((ml_364 hM)) (by omega) (by omega) (v := v1) (hv1) (fun r509 => ?_)
        refine wa_goto ⟨_, rfl⟩ ?_
        refine wa_lstore (n := 6) rfl ?_
        refine wa_aload_n (n := 0) rfl ?_
        refine wb_gfi 237 rfl (wy_pr rfl) wt_237 wf_15_176 (v := es) (h76) (fun r510 => ?_)
        refine wa_ifle (w_rg0 (by omega) (by omega)) ⟨_, rfl⟩ (fun c511 => ?_) (fun c511 => ?_)
        · skip
          exact absurd c511 (by omega)
        · skip
          refine wa_aload_n (n := 0) rfl ?_
          refine wb_gf4 237 rfl (wy_pr rfl) wt_237 wf_15_138 (v := 363) wl_237_138 ?_
          refine wa_aload_n (n := 0) rfl ?_
          refine wb_gfi 237 rfl (wy_pr rfl) wt_237 wf_15_173 (v := ((2100 * t) + ba)) (h73) (fun r512 => ?_)
          refine wa_iconst ?_
          refine wa_iadd ?_
          refine wb_iald 363 rfl (wy_pr rfl) wt_363 (n := 4200) ((ml_363 hM)) (by omega) (by omega) (v := k1) (hk1) (fun r513 => ?_)
          refine wa_iconst ?_
          refine wa_icmpne (w_rg0 (by omega) (by omega)) (w_rg0 (by omega) (by omega)) ⟨_, rfl⟩ (fun c514 => ?_) (fun c514 => ?_)
          · skip
            refine wa_iconst ?_
            refine wa_fall ⟨_, rfl⟩ ?_
            refine wa_istore (n := 8) rfl ?_
            refine wa_iload_n (n := 2) rfl ?_
            refine wa_ifne (w_rg0 (by omega) (by omega)) ⟨_, rfl⟩ (fun c515 => ?_) (fun c515 => ?_)
            · skip
              refine wa_iload_n (n := 2) rfl ?_
              refine wa_iconst ?_
              refine wa_icmpne (w_rg0 (by omega) (by omega)) (w_rg0 (by omega) (by omega)) ⟨_, rfl⟩ (fun c516 => ?_) (fun c516 => ?_)
              · skip
                refine wa_iload_n (n := 2) rfl ?_
                refine wa_iconst ?_
                refine wa_icmpne (w_rg0 (by omega) (by omega)) (w_rg0 (by omega) (by omega)) ⟨_, rfl⟩ (fun c517 => ?_) (fun c517 => ?_)
                · skip
                  exact absurd c517 (by omega)
                · skip
                  refine wa_aload_n (n := 0) rfl ?_
                  refine wa_iload_n (n := 3) rfl ?_
                  refine wa_iload (n := 8) rfl ?_
                  refine wa_lload (n := 6) rfl ?_
                  refine wa_cv 237 rfl (wy_pr rfl) wt_237 (M2 := fun _ => False) rfl at_M_setsElement ⟨_, rfl⟩ rfl rfl ⟨trivial, trivial, trivial, trivial, trivial, (Or.inr ⟨wy_pr rfl, fun q => q⟩), trivial, trivial, trivial⟩ trivial (fun _ _ q => False.elim q) ?_ (fun _ _ _ q => q)
                  refine wa_iload_n (n := 2) rfl ?_
                  refine wa_ifeq (w_rg0 (by omega) (by omega)) ⟨_, rfl⟩ (fun c518 => ?_) (fun c518 => ?_)
                  · skip
                    refine wa_aload_n (n := 0) rfl ?_
                    refine wa_bipush (w_rg2 (by omega) (by omega)) ?_
                    refine wa_cv 237 rfl (wy_pr rfl) wt_237 (M2 := fun _ => False) rfl at_M_error ⟨_, rfl⟩ rfl rfl ⟨(Or.inr ⟨wy_pr rfl, fun q => q⟩), trivial, trivial, trivial, trivial⟩ trivial (fun _ _ q => False.elim q) ?_ (fun _ _ _ q => q)
                    refine wa_aload_n (n := 0) rfl ?_
                    refine wb_gf4 237 rfl (wy_pr rfl) wt_237 wf_15_1 (v := 238) wl_237_1 ?_
                    refine wa_iload_n (n := 1) rfl ?_
                    refine wa_iconst ?_
                    refine wa_cv 238 rfl (wy_pr rfl) wt_238 (M2 := fun _ => False) rfl at_MH_of ⟨_, rfl⟩ rfl rfl ⟨(Or.inr ⟨wy_pr rfl, fun q => q⟩), trivial, trivial⟩ trivial (fun _ _ q => False.elim q) ?_ (fun _ _ _ q => q)
                    refine wa_aload_n (n := 0) rfl ?_
                    refine wa_iload_n (n := 1) rfl ?_
                    refine wb_pfi 238 rfl (wy_pr rfl) wt_238 wf_11_5 (n := 5) rfl ⟨(by omega), (by omega)⟩ ?_
                    refine wa_aload_n (n := 0) rfl ?_
                    refine wa_iload_n (n := 2) rfl ?_
                    refine wb_pfi 238 rfl (wy_pr rfl) wt_238 wf_11_6 (n := 6) rfl ⟨(by omega), (by omega)⟩ ?_
                    refine wa_aload_n (n := 0) rfl ?_
                    refine wa_oreturn rfl ?_
                    show wJ _ _ _ _ _ _ _ _ _ _
                    refine wa_th (j := 238) ?_
                    refine ⟨rfl, ?_⟩
                    refine ⟨rfl, ?_⟩
                    exact Or.inl ⟨by omega, rfl, rfl⟩
                  · skip
                    exact absurd c518 (by omega)
              · skip
                exact absurd c516 (by omega)
            · skip
              exact absurd c515 (by omega)
          · skip
            refine wa_iconst ?_
            refine wa_goto ⟨_, rfl⟩ ?_
            refine wa_istore (n := 8) rfl ?_
            refine wa_iload_n (n := 2) rfl ?_
            refine wa_ifne (w_rg0 (by omega) (by omega)) ⟨_, rfl⟩ (fun c519 => ?_) (fun c519 => ?_)
            · skip
              refine wa_iload_n (n := 2) rfl ?_
              refine wa_iconst ?_
              refine wa_icmpne (w_rg0 (by omega) (by omega)) (w_rg0 (by omega) (by omega)) ⟨_, rfl⟩ (fun c520 => ?_) (fun c520 => ?_)
              · skip
                refine wa_iload_n (n := 2) rfl ?_
                refine wa_iconst ?_
                refine wa_icmpne (w_rg0 (by omega) (by omega)) (w_rg0 (by omega) (by omega)) ⟨_, rfl⟩ (fun c521 => ?_) (fun c521 => ?_)
                · skip
                  exact absurd c521 (by omega)
                · skip
                  refine wa_aload_n (n := 0) rfl ?_
                  refine wa_iload_n (n := 3) rfl ?_
                  refine wa_iload (n := 8) rfl ?_
                  refine wa_lload (n := 6) rfl ?_
                  refine wa_cv 237 rfl (wy_pr rfl) wt_237 (M2 := fun _ => False) rfl at_M_setsElement ⟨_, rfl⟩ rfl rfl ⟨trivial, trivial, trivial, trivial, trivial, (Or.inr ⟨wy_pr rfl, fun q => q⟩), trivial, trivial, trivial⟩ trivial (fun _ _ q => False.elim q) ?_ (fun _ _ _ q => q)
                  refine wa_iload_n (n := 2) rfl ?_
                  refine wa_ifeq (w_rg0 (by omega) (by omega)) ⟨_, rfl⟩ (fun c522 => ?_) (fun c522 => ?_)
                  · skip
                    exact absurd c522 (by omega)
                  · skip
                    refine wa_lload_n (n := 3) rfl ?_
                    refine wb_lconst (m := 0) rfl ?_
                    refine wa_aload_n (n := 0) rfl ?_
                    refine wb_gf4 237 rfl (wy_pr rfl) wt_237 wf_15_73 (v := 317) wl_237_73 ?_
                    refine wa_iload_n (n := 1) rfl ?_
                    refine wb_iald 317 rfl (wy_pr rfl) wt_317 (n := 8000) ((ml_317 hM)) (by omega) (by omega) (v := sz) (h17) (fun r523 => ?_)
                    refine wa_i2l (w_rg0 (by omega) (by omega)) ?_
                    refine wa_cs (M2 := fun _ => False) rfl at_M_in ⟨_, rfl⟩ rfl rfl ⟨(Or.inr ⟨wy_pr rfl, fun q => q⟩), trivial, trivial, trivial, trivial⟩ trivial (fun _ _ q => False.elim q) ?_ (fun _ _ _ q => q)
                    refine wa_lload_n (n := 0) rfl ?_
                    refine wa_lload_n (n := 2) rfl ?_
                    refine wa_lcmp (w_rg1 (by omega) (by omega)) (w_rg1 (by omega) (by omega)) ?_
                    refine wa_iflt (by have := @wb_lcmp_cases; exact w_lcmp_rg) ⟨_, rfl⟩ (fun c524 => ?_) (fun c524 => ?_)
                    · skip
                      have c524x := @wb_lcmp_cases v1 0
                      refine wa_iconst ?_
                      refine wa_fall ⟨_, rfl⟩ ?_
                      refine wa_zreturn rfl (Or.inl rfl) ?_
                      show wJ _ _ _ _ _ _ _ _ _ _
                      refine wa_ifne (w_rg0 (by omega) (by omega)) ⟨_, rfl⟩ (fun c525 => ?_) (fun c525 => ?_)
                      · skip
                        exact absurd c525 (by omega)
                      · skip
                        refine wa_fall ⟨_, rfl⟩ ?_
                        refine wa_aload_n (n := 0) rfl ?_
                        refine wa_bipush (w_rg2 (by omega) (by omega)) ?_
                        refine wa_cv 237 rfl (wy_pr rfl) wt_237 (M2 := fun _ => False) rfl at_M_error ⟨_, rfl⟩ rfl rfl ⟨(Or.inr ⟨wy_pr rfl, fun q => q⟩), trivial, trivial, trivial, trivial⟩ trivial (fun _ _ q => False.elim q) ?_ (fun _ _ _ q => q)
                        refine wa_aload_n (n := 0) rfl ?_
                        refine wb_gf4 237 rfl (wy_pr rfl) wt_237 wf_15_1 (v := 238) wl_237_1 ?_
                        refine wa_iload_n (n := 1) rfl ?_
                        refine wa_iconst ?_
                        refine wa_cv 238 rfl (wy_pr rfl) wt_238 (M2 := fun _ => False) rfl at_MH_of ⟨_, rfl⟩ rfl rfl ⟨(Or.inr ⟨wy_pr rfl, fun q => q⟩), trivial, trivial⟩ trivial (fun _ _ q => False.elim q) ?_ (fun _ _ _ q => q)
                        refine wa_aload_n (n := 0) rfl ?_
                        refine wa_iload_n (n := 1) rfl ?_
                        refine wb_pfi 238 rfl (wy_pr rfl) wt_238 wf_11_5 (n := 5) rfl ⟨(by omega), (by omega)⟩ ?_
                        refine wa_aload_n (n := 0) rfl ?_
                        refine wa_iload_n (n := 2) rfl ?_
                        refine wb_pfi 238 rfl (wy_pr rfl) wt_238 wf_11_6 (n := 6) rfl ⟨(by omega), (by omega)⟩ ?_
                        refine wa_aload_n (n := 0) rfl ?_
                        refine wa_oreturn rfl ?_
                        show wJ _ _ _ _ _ _ _ _ _ _
                        refine wa_th (j := 238) ?_
                        refine ⟨rfl, ?_⟩
                        refine ⟨rfl, ?_⟩
                        exact Or.inl ⟨by omega, rfl, rfl⟩
                    · skip
                      have c524x := @wb_lcmp_cases v1 0
                      refine wa_lload_n (n := 0) rfl ?_
                      refine wa_lload (n := 4) rfl ?_
                      refine wa_lcmp (w_rg1 (by omega) (by omega)) (w_rg1 (by omega) (by omega)) ?_
                      refine wa_ifgt (by have := @wb_lcmp_cases; exact w_lcmp_rg) ⟨_, rfl⟩ (fun c526 => ?_) (fun c526 => ?_)
                      · skip
                        have c526x := @wb_lcmp_cases v1 sz
                        refine wa_iconst ?_
                        refine wa_fall ⟨_, rfl⟩ ?_
                        refine wa_zreturn rfl (Or.inl rfl) ?_
                        show wJ _ _ _ _ _ _ _ _ _ _
                        refine wa_ifne (w_rg0 (by omega) (by omega)) ⟨_, rfl⟩ (fun c527 => ?_) (fun c527 => ?_)
                        · skip
                          exact absurd c527 (by omega)
                        · skip
                          refine wa_fall ⟨_, rfl⟩ ?_
                          refine wa_aload_n (n := 0) rfl ?_
                          refine wa_bipush (w_rg2 (by omega) (by omega)) ?_
                          refine wa_cv 237 rfl (wy_pr rfl) wt_237 (M2 := fun _ => False) rfl at_M_error ⟨_, rfl⟩ rfl rfl ⟨(Or.inr ⟨wy_pr rfl, fun q => q⟩), trivial, trivial, trivial, trivial⟩ trivial (fun _ _ q => False.elim q) ?_ (fun _ _ _ q => q)
                          refine wa_aload_n (n := 0) rfl ?_
                          refine wb_gf4 237 rfl (wy_pr rfl) wt_237 wf_15_1 (v := 238) wl_237_1 ?_
                          refine wa_iload_n (n := 1) rfl ?_
                          refine wa_iconst ?_
                          refine wa_cv 238 rfl (wy_pr rfl) wt_238 (M2 := fun _ => False) rfl at_MH_of ⟨_, rfl⟩ rfl rfl ⟨(Or.inr ⟨wy_pr rfl, fun q => q⟩), trivial, trivial⟩ trivial (fun _ _ q => False.elim q) ?_ (fun _ _ _ q => q)
                          refine wa_aload_n (n := 0) rfl ?_
                          refine wa_iload_n (n := 1) rfl ?_
                          refine wb_pfi 238 rfl (wy_pr rfl) wt_238 wf_11_5 (n := 5) rfl ⟨(by omega), (by omega)⟩ ?_
                          refine wa_aload_n (n := 0) rfl ?_
                          refine wa_iload_n (n := 2) rfl ?_
                          refine wb_pfi 238 rfl (wy_pr rfl) wt_238 wf_11_6 (n := 6) rfl ⟨(by omega), (by omega)⟩ ?_
                          refine wa_aload_n (n := 0) rfl ?_
                          refine wa_oreturn rfl ?_
                          show wJ _ _ _ _ _ _ _ _ _ _
                          refine wa_th (j := 238) ?_
                          refine ⟨rfl, ?_⟩
                          refine ⟨rfl, ?_⟩
                          exact Or.inl ⟨by omega, rfl, rfl⟩
                      · skip
                        have c526x := @wb_lcmp_cases v1 sz
                        refine wa_iconst ?_
                        refine wa_goto ⟨_, rfl⟩ ?_
                        refine wa_zreturn rfl (Or.inr rfl) ?_
                        show wJ _ _ _ _ _ _ _ _ _ _
                        refine wa_ifne (w_rg0 (by omega) (by omega)) ⟨_, rfl⟩ (fun c528 => ?_) (fun c528 => ?_)
                        · skip
                          refine wa_lload_n (n := 3) rfl ?_
                          refine wa_aload_n (n := 0) rfl ?_
                          refine wb_gf4 237 rfl (wy_pr rfl) wt_237 wf_15_73 (v := 317) wl_237_73 ?_
                          refine wa_iload_n (n := 1) rfl ?_
                          refine wb_iald 317 rfl (wy_pr rfl) wt_317 (n := 8000) ((ml_317 hM)) (by omega) (by omega) (v := sz) (h17) (fun r529 => ?_)
                          refine wa_i2l (w_rg0 (by omega) (by omega)) ?_
                          refine wa_lcmp (w_rg1 (by omega) (by omega)) (w_rg1 (by omega) (by omega)) ?_
                          refine wa_ifne (by have := @wb_lcmp_cases; exact w_lcmp_rg) ⟨_, rfl⟩ (fun c530 => ?_) (fun c530 => ?_)
                          · skip
                            have c530x := @wb_lcmp_cases v1 sz
                            refine wa_aload_n (n := 0) rfl ?_
                            refine wa_iload_n (n := 1) rfl ?_
                            refine wa_lload_n (n := 3) rfl ?_
                            refine wb_l2i_r (wb_l2i_id ⟨(by omega), (by omega)⟩) ?_
                            obtain ⟨se, hse⟩ : ∃ i : Int, i = l.getD v1.toNat 0 := ⟨_, rfl⟩
                            have hser : 0 ≤ se ∧ se < 60000 := by rw [hse]; exact (hsl.2.2 v1.toNat (by omega)).1
                            rw [← hse]
                            refine wa_cv 237 rfl (wy_pr rfl) wt_237 (M2 := fun _ => False) rfl at_M_slotAt ⟨_, rfl⟩ rfl rfl ⟨(Or.inr ⟨wy_pr rfl, fun q => q⟩), trivial, trivial, trivial, trivial⟩ trivial (fun _ _ q => False.elim q) (wJ_mono (saM_ok (S := S) (th := gb) (i := v1) (l := l) hM hgb hsl ⟨by omega, by omega⟩ (by omega)) (fun o Z hz => (⟨hz.1, by rw [hse]; exact hz.2⟩ : S = Z ∧ o = .inl (some (0, se))))) (fun oq531 Sq531 hp532 q531 => ?_)
                            rcases q531 with ⟨rfl, rfl⟩
                            show wJ _ _ _ _ _ _ _ _ _ _
                            refine wa_istore (n := 5) rfl ?_
                            refine wa_aload_n (n := 0) rfl ?_
                            refine wb_gf4 237 rfl (wy_pr rfl) wt_237 wf_15_83 (v := 325) wl_237_83 ?_
                            refine wa_iload (n := 5) rfl ?_
                            refine wa_aload_n (n := 0) rfl ?_
                            refine wb_gf4 237 rfl (wy_pr rfl) wt_237 wf_15_138 (v := 363) wl_237_138 ?_
                            refine wa_aload_n (n := 0) rfl ?_
                            refine wb_gfi 237 rfl (wy_pr rfl) wt_237 wf_15_173 (v := ((2100 * t) + ba)) (h73) (fun r533 => ?_)
                            refine wa_iconst ?_
                            refine wa_iadd ?_
                            refine wb_iald 363 rfl (wy_pr rfl) wt_363 (n := 4200) ((ml_363 hM)) (by omega) (by omega) (v := ky) (hky) (fun r534 => ?_)
                            refine wb_iast 325 rfl (wy_pr rfl) wt_325 (n := 60000) ((ml_325 hM)) (by omega) (by omega) ⟨(by omega), (by omega)⟩ ?_
                            refine wa_aload_n (n := 0) rfl ?_
                            refine wb_gf4 237 rfl (wy_pr rfl) wt_237 wf_15_84 (v := 326) wl_237_84 ?_
                            refine wa_iload (n := 5) rfl ?_
                            refine wa_aload_n (n := 0) rfl ?_
                            refine wb_gf4 237 rfl (wy_pr rfl) wt_237 wf_15_139 (v := 364) wl_237_139 ?_
                            refine wa_aload_n (n := 0) rfl ?_
                            refine wb_gfi 237 rfl (wy_pr rfl) wt_237 wf_15_173 (v := ((2100 * t) + ba)) ((w_up_slot (by decide)).trans (h73)) (fun r535 => ?_)
                            refine wa_iconst ?_
                            refine wa_iadd ?_
                            refine wb_lald 364 rfl (wy_pr rfl) wt_364 (n := 4200) ((w_up_slot (by decide)).trans ((ml_364 hM))) (by omega) (by omega) (v := vy) ((w_up_slot (by decide)).trans (hvy)) (fun r536 => ?_)
                            refine wb_last 326 rfl (wy_pr rfl) wt_326 (n := 60000) ((w_up_slot (by decide)).trans ((ml_326 hM))) (by omega) (by omega) ⟨(by omega), (by omega)⟩ ?_
                            refine wa_fall ⟨_, rfl⟩ ?_
                            refine wa_aload_n (n := 0) rfl ?_
                            refine wa_aload_n (n := 0) rfl ?_
                            refine wb_gf4 237 rfl (wy_pr rfl) wt_237 wf_15_138 (v := 363) wl_237_138 ?_
                            refine wa_aload_n (n := 0) rfl ?_
                            refine wb_gfi 237 rfl (wy_pr rfl) wt_237 wf_15_173 (v := ((2100 * t) + ba)) ((w_up_slot (by decide)).trans ((w_up_slot (by decide)).trans (h73))) (fun r537 => ?_)
                            refine wa_iconst ?_
                            refine wa_iadd ?_
                            refine wb_iald 363 rfl (wy_pr rfl) wt_363 (n := 4200) ((w_up_slot (by decide)).trans ((w_up_slot (by decide)).trans ((ml_363 hM)))) (by omega) (by omega) (v := ky) ((w_up_slot (by decide)).trans ((w_up_slot (by decide)).trans (hky))) (fun r538 => ?_)
                            refine wa_aload_n (n := 0) rfl ?_
                            refine wb_gf4 237 rfl (wy_pr rfl) wt_237 wf_15_139 (v := 364) wl_237_139 ?_
                            refine wa_aload_n (n := 0) rfl ?_
                            refine wb_gfi 237 rfl (wy_pr rfl) wt_237 wf_15_173 (v := ((2100 * t) + ba)) ((w_up_slot (by decide)).trans ((w_up_slot (by decide)).trans (h73))) (fun r539 => ?_)
                            refine wa_iconst ?_
                            refine wa_iadd ?_
                            refine wb_lald 364 rfl (wy_pr rfl) wt_364 (n := 4200) ((w_up_slot (by decide)).trans ((w_up_slot (by decide)).trans ((ml_364 hM)))) (by omega) (by omega) (v := vy) ((w_up_slot (by decide)).trans ((w_up_slot (by decide)).trans (hvy))) (fun r540 => ?_)
                            have hPg : mP t c p h tp (w_up (w_up S 325 se ky) 326 se vy) := mP_ag hP0 (w_ML_up (w_ML_up hM (by omega)) (by omega)) (fun j x hj => (w_up_slot (by omega)).trans (w_up_slot (by omega)))
                            refine wa_cv 237 rfl (wy_pr rfl) wt_237 (M2 := fun _ => False) rfl at_M_gives ⟨_, rfl⟩ rfl rfl ⟨trivial, (Or.inr ⟨wy_pr rfl, fun q => q⟩), trivial, trivial, trivial, trivial⟩ trivial (fun _ _ q => False.elim q) (gvs_ok (S := (w_up (w_up S 325 se ky) 326 se vy)) (k := ky) (v := vy) hPg (((w_up_slot (by decide)).trans ((w_up_slot (by decide)).trans (h73)))) ⟨by omega, by omega⟩ ⟨by omega, by omega⟩ ⟨by omega, by omega⟩) (fun oq541 Sq541 hp542 q541 => ?_)
                            rcases q541 with ⟨rfl, rfl⟩
                            show wJ _ _ _ _ _ _ _ _ _ _
                            refine wa_return rfl ?_
                            show wJ _ _ _ _ _ _ _ _ _ _
                            refine wa_goto ⟨_, rfl⟩ ?_
                            refine wa_return rfl ?_
                            exact Or.inr (Or.inr (Or.inr ⟨⟨by omega, by omega, by omega⟩, rfl, rfl⟩))
                          · skip
                            have c530x := @wb_lcmp_cases v1 sz
                            refine wa_aload_n (n := 0) rfl ?_
                            refine wa_aload_n (n := 0) rfl ?_
                            refine wb_gfi 237 rfl (wy_pr rfl) wt_237 wf_15_63 (v := v0) (h63) (fun r543 => ?_)
                            refine wb_ki (n := 60000) rfl ?_
                            refine wa_icmpge (w_rg0 (by omega) (by omega)) (w_rg0 (by omega) (by omega)) ⟨_, rfl⟩ (fun c544 => ?_) (fun c544 => ?_)
                            · skip
                              refine wa_iconst ?_
                              refine wa_fall ⟨_, rfl⟩ ?_
                              refine wa_cv 237 rfl (wy_pr rfl) wt_237 (M2 := fun _ => False) rfl at_M_room ⟨_, rfl⟩ rfl rfl ⟨(Or.inr ⟨wy_pr rfl, fun q => q⟩), trivial, trivial, trivial, trivial⟩ trivial (fun _ _ q => False.elim q) ?_ (fun _ _ _ q => q)
                              refine wa_iload_n (n := 1) rfl ?_
                              refine wa_ifne (w_rg0 (by omega) (by omega)) ⟨_, rfl⟩ (fun c545 => ?_) (fun c545 => ?_)
                              · skip
                                exact absurd c545 (by omega)
                              · skip
                                refine wa_aload_n (n := 0) rfl ?_
                                refine wb_gf4 237 rfl (wy_pr rfl) wt_237 wf_15_1 (v := 238) wl_237_1 ?_
                                refine wa_bipush (w_rg2 (by omega) (by omega)) ?_
                                refine wa_iconst ?_
                                refine wa_cv 238 rfl (wy_pr rfl) wt_238 (M2 := fun _ => False) rfl at_MH_of ⟨_, rfl⟩ rfl rfl ⟨(Or.inr ⟨wy_pr rfl, fun q => q⟩), trivial, trivial⟩ trivial (fun _ _ q => False.elim q) ?_ (fun _ _ _ q => q)
                                refine wa_aload_n (n := 0) rfl ?_
                                refine wa_iload_n (n := 1) rfl ?_
                                refine wb_pfi 238 rfl (wy_pr rfl) wt_238 wf_11_5 (n := 5) rfl ⟨(by omega), (by omega)⟩ ?_
                                refine wa_aload_n (n := 0) rfl ?_
                                refine wa_iload_n (n := 2) rfl ?_
                                refine wb_pfi 238 rfl (wy_pr rfl) wt_238 wf_11_6 (n := 6) rfl ⟨(by omega), (by omega)⟩ ?_
                                refine wa_aload_n (n := 0) rfl ?_
                                refine wa_oreturn rfl ?_
                                show wJ _ _ _ _ _ _ _ _ _ _
                                refine wa_th (j := 238) ?_
                                refine ⟨rfl, ?_⟩
                                refine ⟨rfl, ?_⟩
                                exact Or.inr (Or.inl ⟨⟨by omega, by omega⟩, by omega, rfl, rfl⟩)
                            · skip
                              refine wa_iconst ?_
                              refine wa_goto ⟨_, rfl⟩ ?_
                              refine wa_cv 237 rfl (wy_pr rfl) wt_237 (M2 := fun _ => False) rfl at_M_room ⟨_, rfl⟩ rfl rfl ⟨(Or.inr ⟨wy_pr rfl, fun q => q⟩), trivial, trivial, trivial, trivial⟩ trivial (fun _ _ q => False.elim q) ?_ (fun _ _ _ q => q)
                              refine wa_iload_n (n := 1) rfl ?_
                              refine wa_ifne (w_rg0 (by omega) (by omega)) ⟨_, rfl⟩ (fun c546 => ?_) (fun c546 => ?_)
                              · skip
                                refine wa_return rfl ?_
                                show wJ _ _ _ _ _ _ _ _ _ _
                                refine wa_aload_n (n := 0) rfl ?_
                                refine wa_iload_n (n := 1) rfl ?_
                                refine wa_iconst ?_
                                refine wa_aload_n (n := 0) rfl ?_
                                refine wb_gf4 237 rfl (wy_pr rfl) wt_237 wf_15_138 (v := 363) wl_237_138 ?_
                                refine wa_aload_n (n := 0) rfl ?_
                                refine wb_gfi 237 rfl (wy_pr rfl) wt_237 wf_15_173 (v := ((2100 * t) + ba)) (h73) (fun r547 => ?_)
                                refine wa_iconst ?_
                                refine wa_iadd ?_
                                refine wb_iald 363 rfl (wy_pr rfl) wt_363 (n := 4200) ((ml_363 hM)) (by omega) (by omega) (v := ky) (hky) (fun r548 => ?_)
                                refine wa_aload_n (n := 0) rfl ?_
                                refine wb_gf4 237 rfl (wy_pr rfl) wt_237 wf_15_139 (v := 364) wl_237_139 ?_
                                refine wa_aload_n (n := 0) rfl ?_
                                refine wb_gfi 237 rfl (wy_pr rfl) wt_237 wf_15_173 (v := ((2100 * t) + ba)) (h73) (fun r549 => ?_)
                                refine wa_iconst ?_
                                refine wa_iadd ?_
                                refine wb_lald 364 rfl (wy_pr rfl) wt_364 (n := 4200) ((ml_364 hM)) (by omega) (by omega) (v := vy) (hvy) (fun r550 => ?_)
                                refine wa_cv 237 rfl (wy_pr rfl) wt_237 (M2 := fun _ => False) rfl at_M_addSlot ⟨_, rfl⟩ rfl rfl ⟨(Or.inr ⟨wy_pr rfl, fun q => q⟩), trivial, trivial, trivial, trivial⟩ trivial (fun _ _ q => False.elim q) (adM_ok (S := S) (th := gb) (nm := -1) (ty := ky) (va := vy) (s := s0) (v0 := v0) (n := sz) (la := la) hM hgb h82 ⟨by omega, by omega⟩ h63 hv0 h17 ⟨by omega, by omega⟩ h18 hla ⟨by omega, by omega⟩ ⟨by omega, by omega⟩ ⟨by omega, by omega⟩) (fun oq551 Sq551 hp552 q551 => ?_)
                                rcases q551 with ⟨rfl, rfl⟩
                                show wJ _ _ _ _ _ _ _ _ _ _
                                have hMA : w_ML (asZ gb (-1) ky vy s0 v0 sz la S) := asZ_m hM hgb.1 hs0.1 (fun z => (hla z).1)
                                refine wa_goto ⟨_, rfl⟩ ?_
                                refine wa_aload_n (n := 0) rfl ?_
                                refine wa_aload_n (n := 0) rfl ?_
                                refine wb_gf4 237 rfl (wy_pr rfl) wt_237 wf_15_138 (v := 363) wl_237_138 ?_
                                refine wa_aload_n (n := 0) rfl ?_
                                refine wb_gfi 237 rfl (wy_pr rfl) wt_237 wf_15_173 (v := ((2100 * t) + ba)) ((asZ_e 237 173 (by decide) (by decide) (by decide) (by decide) (by omega)).trans ((h73))) (fun r553 => ?_)
                                refine wa_iconst ?_
                                refine wa_iadd ?_
                                refine wb_iald 363 rfl (wy_pr rfl) wt_363 (n := 4200) ((asZ_e 363 (-1) (by decide) (by decide) (by decide) (by decide) (by omega)).trans (((ml_363 hM)))) (by omega) (by omega) (v := ky) ((asZ_e 363 (((2100 * t) + ba) + 2) (by decide) (by decide) (by decide) (by decide) (by omega)).trans ((hky))) (fun r554 => ?_)
                                refine wa_aload_n (n := 0) rfl ?_
                                refine wb_gf4 237 rfl (wy_pr rfl) wt_237 wf_15_139 (v := 364) wl_237_139 ?_
                                refine wa_aload_n (n := 0) rfl ?_
                                refine wb_gfi 237 rfl (wy_pr rfl) wt_237 wf_15_173 (v := ((2100 * t) + ba)) ((asZ_e 237 173 (by decide) (by decide) (by decide) (by decide) (by omega)).trans ((h73))) (fun r555 => ?_)
                                refine wa_iconst ?_
                                refine wa_iadd ?_
                                refine wb_lald 364 rfl (wy_pr rfl) wt_364 (n := 4200) ((asZ_e 364 (-1) (by decide) (by decide) (by decide) (by decide) (by omega)).trans (((ml_364 hM)))) (by omega) (by omega) (v := vy) ((asZ_e 364 (((2100 * t) + ba) + 2) (by decide) (by decide) (by decide) (by decide) (by omega)).trans ((hvy))) (fun r556 => ?_)
                                have hPg : mP t c p h tp (asZ gb (-1) ky vy s0 v0 sz la S) := mP_ag hP0 hMA (fun j x hj => asZ_e j x (by omega) (by omega) (by omega) (by omega) (by omega))
                                refine wa_cv 237 rfl (wy_pr rfl) wt_237 (M2 := fun _ => False) rfl at_M_gives ⟨_, rfl⟩ rfl rfl ⟨(Or.inr ⟨wy_pr rfl, fun q => q⟩), trivial, trivial, trivial, trivial⟩ trivial (fun _ _ q => False.elim q) (gvs_ok (S := (asZ gb (-1) ky vy s0 v0 sz la S)) (k := ky) (v := vy) hPg (((asZ_e 237 173 (by decide) (by decide) (by decide) (by decide) (by omega)).trans ((h73)))) ⟨by omega, by omega⟩ ⟨by omega, by omega⟩ ⟨by omega, by omega⟩) (fun oq557 Sq557 hp558 q557 => ?_)
                                rcases q557 with ⟨rfl, rfl⟩
                                show wJ _ _ _ _ _ _ _ _ _ _
                                refine wa_return rfl ?_
                                show wJ _ _ _ _ _ _ _ _ _ _
                                refine wa_goto ⟨_, rfl⟩ ?_
                                refine wa_return rfl ?_
                                exact Or.inr (Or.inr (Or.inl ⟨⟨by omega, by omega⟩, by omega, rfl, rfl⟩))
                              · skip
                                exact absurd c546 (by omega)
                        · skip
                          exact absurd c528 (by omega)
              · skip
                exact absurd c520 (by omega)
            · skip
              exact absurd c519 (by omega)
set_option maxHeartbeats 4000000 in
theorem rlp_ok (hP : mP t c p h tp S) (h73 : S 237 173 = 2100 * t + ba) (hba : 0 ≤ ba ∧ ba < h) (h74 : S 237 174 = 6) (h75 : S 237 175 = gb) (hgb : 0 ≤ gb ∧ gb < 8000) (h76 : S 237 176 = es) (h17 : S 317 gb = sz) (hsz : 0 ≤ sz ∧ sz ≤ 60000) (hk1 : S 363 (2100 * t + ba + 1) = k1) (hv1 : S 364 (2100 * t + ba + 1) = v1) (hk1r : 0 ≤ k1 ∧ k1 ≤ 8) (hv1r : -9223372036854775808 ≤ v1 ∧ v1 ≤ 9223372036854775807) (h63 : S 237 63 = v0) (hv0 : 0 ≤ v0 ∧ v0 ≤ 60000) (h82 : S 237 82 = s0) (hs0 : 0 ≤ s0 ∧ s0 ≤ v0) (h18 : S 318 gb = la) (hla : sz ≠ 0 → 0 ≤ la ∧ la < 60000) (hs : 0 ≤ s ∧ s < 4000) (h06 : S 306 s = ec) (hkd : kd = 5) (hes : es = 1) (hec : ec = 1) (hb1 : ba + 1 < h) : wJ (pe_GA xs) wY0 M (d + 8) t_M_actsOnRow ((pe_at t_M_actsOnRow.bl 0).getD (0, [])).2 [(0, (2, 237)), (1, (0, s)), (2, (0, kd))] [] S (fun o Z => (60000 ≤ v0 ∧ o = .inr 238 ∧ hZ 99 S = Z) ∨ (v0 < 60000 ∧ o = .inl none ∧ gvZ t ba tp p 2 (sz + 1) (asZ gb (-1) k1 v1 s0 v0 sz la S) = Z)) := by
  have hP0 := hP
  obtain ⟨hM, ⟨mt, mt0, mt1⟩, mp, mf, ⟨mc, mc0, mc1⟩, ⟨mtp, mtq⟩, ⟨mpa, mp0, mp1⟩, mh, mh0, mh1⟩ := hP
  refine wa_aload_n (n := 0) rfl ?_
  refine wb_gfl 237 rfl (wy_pr rfl) wt_237 wf_15_175 (v := gb) (h75) (fun r901 => ?_)
  refine wb_l2i_r (wb_l2i_id ⟨(by omega), (by omega)⟩) ?_
  refine wa_istore_n (n := 3) rfl ?_
  refine wa_aload_n (n := 0) rfl ?_
  refine wb_gfi 237 rfl (wy_pr rfl) wt_237 wf_15_174 (v := 6) (h74) (fun r902 => ?_)
  refine wa_bipush (w_rg2 (by omega) (by omega)) ?_
  refine wa_icmpne (w_rg0 (by omega) (by omega)) (w_rg0 (by omega) (by omega)) ⟨_, rfl⟩ (fun c903 => ?_) (fun c903 => ?_)
  · skip
    exact absurd c903 (by omega)
  · skip
    refine wa_iconst ?_
    refine wa_goto ⟨_, rfl⟩ ?_
    refine wa_istore (n := 4) rfl ?_
    refine wa_iload (n := 4) rfl ?_
    refine wa_ifeq (w_rg0 (by omega) (by omega)) ⟨_, rfl⟩ (fun c904 => ?_) (fun c904 => ?_)
    · skip
      exact absurd c904 (by omega)
    · skip
      refine wa_aload_n (n := 0) rfl ?_
      refine wb_gf4 237 rfl (wy_pr rfl) wt_237 wf_15_73 (v := 317) wl_237_73 ?_
      refine wa_iload_n (n := 3) rfl ?_
      refine wb_iald 317 rfl (wy_pr rfl) wt_317 (n := 8000) ((ml_317 hM)) (by omega) (by omega) (v := sz) (h17) (fun r905 => ?_)
      refine wa_goto ⟨_, rfl⟩ ?_
      refine wa_istore (n := 5) rfl ?_
      refine wa_aload_n (n := 0) rfl ?_
      refine wb_gfi 237 rfl (wy_pr rfl) wt_237 wf_15_176 (v := es) (h76) (fun r906 => ?_)
      refine wa_ifle (w_rg0 (by omega) (by omega)) ⟨_, rfl⟩ (fun c907 => ?_) (fun c907 => ?_)
      · skip
        exact absurd c907 (by omega)
      · skip
        refine wa_aload_n (n := 0) rfl ?_
        refine wb_gf4 237 rfl (wy_pr rfl) wt_237 wf_15_139 (v := 364) wl_237_139 ?_
        refine wa_aload_n (n := 0) rfl ?_
        refine wb_gfi 237 rfl (wy_pr rfl) wt_237 wf_15_173 (v := ((2100 * t) + ba)) (h73) (fun r908 => ?_)
        refine wa_iconst ?_
        refine wa_iadd ?_
        refine wb_lald 364 rfl (wy_pr rfl) wt_364 (n := 4200) ((ml_364 hM)) (by omega) (by omega) (v := v1) (hv1) (fun r909 => ?_)
        refine wa_goto ⟨_, rfl⟩ ?_
        refine wa_lstore (n := 6) rfl ?_
        refine wa_aload_n (n := 0) rfl ?_
        refine wb_gfi 237 rfl (wy_pr rfl) wt_237 wf_15_176 (v := es) (h76) (fun r910 => ?_)
        refine wa_ifle (w_rg0 (by omega) (by omega)) ⟨_, rfl⟩ (fun c911 => ?_) (fun c911 => ?_)
        · skip
          exact absurd c911 (by omega)
        · skip
          refine wa_aload_n (n := 0) rfl ?_
          refine wb_gf4 237 rfl (wy_pr rfl) wt_237 wf_15_138 (v := 363) wl_237_138 ?_
          refine wa_aload_n (n := 0) rfl ?_
          refine wb_gfi 237 rfl (wy_pr rfl) wt_237 wf_15_173 (v := ((2100 * t) + ba)) (h73) (fun r912 => ?_)
          refine wa_iconst ?_
          refine wa_iadd ?_
          refine wb_iald 363 rfl (wy_pr rfl) wt_363 (n := 4200) ((ml_363 hM)) (by omega) (by omega) (v := k1) (hk1) (fun r913 => ?_)
          refine wa_iconst ?_
          refine wa_icmpne (w_rg0 (by omega) (by omega)) (w_rg0 (by omega) (by omega)) ⟨_, rfl⟩ (fun c914 => ?_) (fun c914 => ?_)
          · skip
            refine wa_iconst ?_
            refine wa_fall ⟨_, rfl⟩ ?_
            refine wa_istore (n := 8) rfl ?_
            refine wa_iload_n (n := 2) rfl ?_
            refine wa_ifne (w_rg0 (by omega) (by omega)) ⟨_, rfl⟩ (fun c915 => ?_) (fun c915 => ?_)
            · skip
              refine wa_iload_n (n := 2) rfl ?_
              refine wa_iconst ?_
              refine wa_icmpne (w_rg0 (by omega) (by omega)) (w_rg0 (by omega) (by omega)) ⟨_, rfl⟩ (fun c916 => ?_) (fun c916 => ?_)
              · skip
                refine wa_iload_n (n := 2) rfl ?_
                refine wa_iconst ?_
                refine wa_icmpne (w_rg0 (by omega) (by omega)) (w_rg0 (by omega) (by omega)) ⟨_, rfl⟩ (fun c917 => ?_) (fun c917 => ?_)
                · skip
                  refine wa_iload (n := 4) rfl ?_
                  refine wa_ifeq (w_rg0 (by omega) (by omega)) ⟨_, rfl⟩ (fun c918 => ?_) (fun c918 => ?_)
                  · skip
                    exact absurd c918 (by omega)
                  · skip
                    refine wa_aload_n (n := 0) rfl ?_
                    refine wa_iload_n (n := 1) rfl ?_
                    refine wa_iload_n (n := 3) rfl ?_
                    refine wa_cv 237 rfl (wy_pr rfl) wt_237 (M2 := fun _ => False) rfl at_M_lists ⟨_, rfl⟩ rfl rfl ⟨trivial, trivial, trivial, trivial, trivial, (Or.inr ⟨wy_pr rfl, fun q => q⟩), trivial, trivial, trivial⟩ trivial (fun _ _ q => False.elim q) ?_ (fun _ _ _ q => q)
                    refine wa_aload_n (n := 0) rfl ?_
                    refine wb_gf4 237 rfl (wy_pr rfl) wt_237 wf_15_51 (v := 306) wl_237_51 ?_
                    refine wa_iload_n (n := 1) rfl ?_
                    refine wb_iald 306 rfl (wy_pr rfl) wt_306 (n := 4000) ((ml_306 hM)) (by omega) (by omega) (v := ec) (h06) (fun r919 => ?_)
                    refine wa_iconst ?_
                    refine wa_icmpne (w_rg0 (by omega) (by omega)) (w_rg0 (by omega) (by omega)) ⟨_, rfl⟩ (fun c920 => ?_) (fun c920 => ?_)
                    · skip
                      exact absurd c920 (by omega)
                    · skip
                      refine wa_aload_n (n := 0) rfl ?_
                      refine wa_aload_n (n := 0) rfl ?_
                      refine wb_gfi 237 rfl (wy_pr rfl) wt_237 wf_15_63 (v := v0) (h63) (fun r921 => ?_)
                      refine wb_ki (n := 60000) rfl ?_
                      refine wa_icmpge (w_rg0 (by omega) (by omega)) (w_rg0 (by omega) (by omega)) ⟨_, rfl⟩ (fun c922 => ?_) (fun c922 => ?_)
                      · skip
                        refine wa_iconst ?_
                        refine wa_fall ⟨_, rfl⟩ ?_
                        refine wa_cv 237 rfl (wy_pr rfl) wt_237 (M2 := fun _ => False) rfl at_M_room ⟨_, rfl⟩ rfl rfl ⟨(Or.inr ⟨wy_pr rfl, fun q => q⟩), trivial, trivial, trivial⟩ trivial (fun _ _ q => False.elim q) ?_ (fun _ _ _ q => q)
                        refine wa_iload_n (n := 1) rfl ?_
                        refine wa_ifne (w_rg0 (by omega) (by omega)) ⟨_, rfl⟩ (fun c923 => ?_) (fun c923 => ?_)
                        · skip
                          exact absurd c923 (by omega)
                        · skip
                          refine wa_aload_n (n := 0) rfl ?_
                          refine wb_gf4 237 rfl (wy_pr rfl) wt_237 wf_15_1 (v := 238) wl_237_1 ?_
                          refine wa_bipush (w_rg2 (by omega) (by omega)) ?_
                          refine wa_iconst ?_
                          refine wa_cv 238 rfl (wy_pr rfl) wt_238 (M2 := fun _ => False) rfl at_MH_of ⟨_, rfl⟩ rfl rfl ⟨(Or.inr ⟨wy_pr rfl, fun q => q⟩), trivial, trivial⟩ trivial (fun _ _ q => False.elim q) ?_ (fun _ _ _ q => q)
                          refine wa_aload_n (n := 0) rfl ?_
                          refine wa_iload_n (n := 1) rfl ?_
                          refine wb_pfi 238 rfl (wy_pr rfl) wt_238 wf_11_5 (n := 5) rfl ⟨(by omega), (by omega)⟩ ?_
                          refine wa_aload_n (n := 0) rfl ?_
                          refine wa_iload_n (n := 2) rfl ?_
                          refine wb_pfi 238 rfl (wy_pr rfl) wt_238 wf_11_6 (n := 6) rfl ⟨(by omega), (by omega)⟩ ?_
                          refine wa_aload_n (n := 0) rfl ?_
                          refine wa_oreturn rfl ?_
                          show wJ _ _ _ _ _ _ _ _ _ _
                          refine wa_th (j := 238) ?_
                          refine ⟨rfl, ?_⟩
                          refine ⟨rfl, ?_⟩
                          exact Or.inl ⟨by omega, rfl, rfl⟩
                      · skip
                        refine wa_iconst ?_
                        refine wa_goto ⟨_, rfl⟩ ?_
                        refine wa_cv 237 rfl (wy_pr rfl) wt_237 (M2 := fun _ => False) rfl at_M_room ⟨_, rfl⟩ rfl rfl ⟨(Or.inr ⟨wy_pr rfl, fun q => q⟩), trivial, trivial, trivial⟩ trivial (fun _ _ q => False.elim q) ?_ (fun _ _ _ q => q)
                        refine wa_iload_n (n := 1) rfl ?_
                        refine wa_ifne (w_rg0 (by omega) (by omega)) ⟨_, rfl⟩ (fun c924 => ?_) (fun c924 => ?_)
                        · skip
                          refine wa_return rfl ?_
                          show wJ _ _ _ _ _ _ _ _ _ _
                          refine wa_aload_n (n := 0) rfl ?_
                          refine wa_iload_n (n := 2) rfl ?_
                          refine wa_iconst ?_
                          refine wa_aload_n (n := 0) rfl ?_
                          refine wb_gf4 237 rfl (wy_pr rfl) wt_237 wf_15_138 (v := 363) wl_237_138 ?_
                          refine wa_aload_n (n := 0) rfl ?_
                          refine wb_gfi 237 rfl (wy_pr rfl) wt_237 wf_15_173 (v := ((2100 * t) + ba)) (h73) (fun r925 => ?_)
                          refine wa_iconst ?_
                          refine wa_iadd ?_
                          refine wb_iald 363 rfl (wy_pr rfl) wt_363 (n := 4200) ((ml_363 hM)) (by omega) (by omega) (v := k1) (hk1) (fun r926 => ?_)
                          refine wa_aload_n (n := 0) rfl ?_
                          refine wb_gf4 237 rfl (wy_pr rfl) wt_237 wf_15_139 (v := 364) wl_237_139 ?_
                          refine wa_aload_n (n := 0) rfl ?_
                          refine wb_gfi 237 rfl (wy_pr rfl) wt_237 wf_15_173 (v := ((2100 * t) + ba)) (h73) (fun r927 => ?_)
                          refine wa_iconst ?_
                          refine wa_iadd ?_
                          refine wb_lald 364 rfl (wy_pr rfl) wt_364 (n := 4200) ((ml_364 hM)) (by omega) (by omega) (v := v1) (hv1) (fun r928 => ?_)
                          refine wa_cv 237 rfl (wy_pr rfl) wt_237 (M2 := fun _ => False) rfl at_M_addSlot ⟨_, rfl⟩ rfl rfl ⟨(Or.inr ⟨wy_pr rfl, fun q => q⟩), trivial, trivial, trivial⟩ trivial (fun _ _ q => False.elim q) (adM_ok (S := S) (th := gb) (nm := -1) (ty := k1) (va := v1) (s := s0) (v0 := v0) (n := sz) (la := la) hM hgb h82 ⟨by omega, by omega⟩ h63 hv0 h17 ⟨by omega, by omega⟩ h18 hla ⟨by omega, by omega⟩ ⟨by omega, by omega⟩ ⟨by omega, by omega⟩) (fun oq929 Sq929 hp930 q929 => ?_)
                          rcases q929 with ⟨rfl, rfl⟩
                          show wJ _ _ _ _ _ _ _ _ _ _
                          have hMA : w_ML (asZ gb (-1) k1 v1 s0 v0 sz la S) := asZ_m hM hgb.1 hs0.1 (fun z => (hla z).1)
                          refine wa_aload_n (n := 0) rfl ?_
                          refine wa_iconst ?_
                          refine wa_aload_n (n := 0) rfl ?_
                          refine wb_gf4 237 rfl (wy_pr rfl) wt_237 wf_15_73 (v := 317) wl_237_73 ?_
                          refine wa_iload_n (n := 2) rfl ?_
                          refine wb_iald 317 rfl (wy_pr rfl) wt_317 (n := 8000) ((ml_317 hMA)) (by omega) (by omega) (v := (sz + 1)) (asZ_n) (fun r931 => ?_)
                          refine wa_i2l (w_rg0 (by omega) (by omega)) ?_
                          have hPg : mP t c p h tp (asZ gb (-1) k1 v1 s0 v0 sz la S) := mP_ag hP0 hMA (fun j x hj => asZ_e j x (by omega) (by omega) (by omega) (by omega) (by omega))
                          refine wa_cv 237 rfl (wy_pr rfl) wt_237 (M2 := fun _ => False) rfl at_M_gives ⟨_, rfl⟩ rfl rfl ⟨(Or.inr ⟨wy_pr rfl, fun q => q⟩), trivial, trivial, trivial⟩ trivial (fun _ _ q => False.elim q) (gvs_ok (S := (asZ gb (-1) k1 v1 s0 v0 sz la S)) (k := 2) (v := (sz + 1)) hPg (((asZ_e 237 173 (by decide) (by decide) (by decide) (by decide) (by omega)).trans ((h73)))) ⟨by omega, by omega⟩ ⟨by omega, by omega⟩ ⟨by omega, by omega⟩) (fun oq932 Sq932 hp933 q932 => ?_)
                          rcases q932 with ⟨rfl, rfl⟩
                          show wJ _ _ _ _ _ _ _ _ _ _
                          refine wa_goto ⟨_, rfl⟩ ?_
                          refine wa_return rfl ?_
                          show wJ _ _ _ _ _ _ _ _ _ _
                          refine wa_goto ⟨_, rfl⟩ ?_
                          refine wa_return rfl ?_
                          exact Or.inr ⟨by omega, rfl, rfl⟩
                        · skip
                          exact absurd c924 (by omega)
                · skip
                  exact absurd c917 (by omega)
              · skip
                exact absurd c916 (by omega)
            · skip
              exact absurd c915 (by omega)
          · skip
            refine wa_iconst ?_
            refine wa_goto ⟨_, rfl⟩ ?_
            refine wa_istore (n := 8) rfl ?_
            refine wa_iload_n (n := 2) rfl ?_
            refine wa_ifne (w_rg0 (by omega) (by omega)) ⟨_, rfl⟩ (fun c934 => ?_) (fun c934 => ?_)
            · skip
              refine wa_iload_n (n := 2) rfl ?_
              refine wa_iconst ?_
              refine wa_icmpne (w_rg0 (by omega) (by omega)) (w_rg0 (by omega) (by omega)) ⟨_, rfl⟩ (fun c935 => ?_) (fun c935 => ?_)
              · skip
                refine wa_iload_n (n := 2) rfl ?_
                refine wa_iconst ?_
                refine wa_icmpne (w_rg0 (by omega) (by omega)) (w_rg0 (by omega) (by omega)) ⟨_, rfl⟩ (fun c936 => ?_) (fun c936 => ?_)
                · skip
                  refine wa_iload (n := 4) rfl ?_
                  refine wa_ifeq (w_rg0 (by omega) (by omega)) ⟨_, rfl⟩ (fun c937 => ?_) (fun c937 => ?_)
                  · skip
                    exact absurd c937 (by omega)
                  · skip
                    refine wa_aload_n (n := 0) rfl ?_
                    refine wa_iload_n (n := 1) rfl ?_
                    refine wa_iload_n (n := 3) rfl ?_
                    refine wa_cv 237 rfl (wy_pr rfl) wt_237 (M2 := fun _ => False) rfl at_M_lists ⟨_, rfl⟩ rfl rfl ⟨trivial, trivial, trivial, trivial, trivial, (Or.inr ⟨wy_pr rfl, fun q => q⟩), trivial, trivial, trivial⟩ trivial (fun _ _ q => False.elim q) ?_ (fun _ _ _ q => q)
                    refine wa_aload_n (n := 0) rfl ?_
                    refine wb_gf4 237 rfl (wy_pr rfl) wt_237 wf_15_51 (v := 306) wl_237_51 ?_
                    refine wa_iload_n (n := 1) rfl ?_
                    refine wb_iald 306 rfl (wy_pr rfl) wt_306 (n := 4000) ((ml_306 hM)) (by omega) (by omega) (v := ec) (h06) (fun r938 => ?_)
                    refine wa_iconst ?_
                    refine wa_icmpne (w_rg0 (by omega) (by omega)) (w_rg0 (by omega) (by omega)) ⟨_, rfl⟩ (fun c939 => ?_) (fun c939 => ?_)
                    · skip
                      exact absurd c939 (by omega)
                    · skip
                      refine wa_aload_n (n := 0) rfl ?_
                      refine wa_aload_n (n := 0) rfl ?_
                      refine wb_gfi 237 rfl (wy_pr rfl) wt_237 wf_15_63 (v := v0) (h63) (fun r940 => ?_)
                      refine wb_ki (n := 60000) rfl ?_
                      refine wa_icmpge (w_rg0 (by omega) (by omega)) (w_rg0 (by omega) (by omega)) ⟨_, rfl⟩ (fun c941 => ?_) (fun c941 => ?_)
                      · skip
                        refine wa_iconst ?_
                        refine wa_fall ⟨_, rfl⟩ ?_
                        refine wa_cv 237 rfl (wy_pr rfl) wt_237 (M2 := fun _ => False) rfl at_M_room ⟨_, rfl⟩ rfl rfl ⟨(Or.inr ⟨wy_pr rfl, fun q => q⟩), trivial, trivial, trivial⟩ trivial (fun _ _ q => False.elim q) ?_ (fun _ _ _ q => q)
                        refine wa_iload_n (n := 1) rfl ?_
                        refine wa_ifne (w_rg0 (by omega) (by omega)) ⟨_, rfl⟩ (fun c942 => ?_) (fun c942 => ?_)
                        · skip
                          exact absurd c942 (by omega)
                        · skip
                          refine wa_aload_n (n := 0) rfl ?_
                          refine wb_gf4 237 rfl (wy_pr rfl) wt_237 wf_15_1 (v := 238) wl_237_1 ?_
                          refine wa_bipush (w_rg2 (by omega) (by omega)) ?_
                          refine wa_iconst ?_
                          refine wa_cv 238 rfl (wy_pr rfl) wt_238 (M2 := fun _ => False) rfl at_MH_of ⟨_, rfl⟩ rfl rfl ⟨(Or.inr ⟨wy_pr rfl, fun q => q⟩), trivial, trivial⟩ trivial (fun _ _ q => False.elim q) ?_ (fun _ _ _ q => q)
                          refine wa_aload_n (n := 0) rfl ?_
                          refine wa_iload_n (n := 1) rfl ?_
                          refine wb_pfi 238 rfl (wy_pr rfl) wt_238 wf_11_5 (n := 5) rfl ⟨(by omega), (by omega)⟩ ?_
                          refine wa_aload_n (n := 0) rfl ?_
                          refine wa_iload_n (n := 2) rfl ?_
                          refine wb_pfi 238 rfl (wy_pr rfl) wt_238 wf_11_6 (n := 6) rfl ⟨(by omega), (by omega)⟩ ?_
                          refine wa_aload_n (n := 0) rfl ?_
                          refine wa_oreturn rfl ?_
                          show wJ _ _ _ _ _ _ _ _ _ _
                          refine wa_th (j := 238) ?_
                          refine ⟨rfl, ?_⟩
                          refine ⟨rfl, ?_⟩
                          exact Or.inl ⟨by omega, rfl, rfl⟩
                      · skip
                        refine wa_iconst ?_
                        refine wa_goto ⟨_, rfl⟩ ?_
                        refine wa_cv 237 rfl (wy_pr rfl) wt_237 (M2 := fun _ => False) rfl at_M_room ⟨_, rfl⟩ rfl rfl ⟨(Or.inr ⟨wy_pr rfl, fun q => q⟩), trivial, trivial, trivial⟩ trivial (fun _ _ q => False.elim q) ?_ (fun _ _ _ q => q)
                        refine wa_iload_n (n := 1) rfl ?_
                        refine wa_ifne (w_rg0 (by omega) (by omega)) ⟨_, rfl⟩ (fun c943 => ?_) (fun c943 => ?_)
                        · skip
                          refine wa_return rfl ?_
                          show wJ _ _ _ _ _ _ _ _ _ _
                          refine wa_aload_n (n := 0) rfl ?_
                          refine wa_iload_n (n := 2) rfl ?_
                          refine wa_iconst ?_
                          refine wa_aload_n (n := 0) rfl ?_
                          refine wb_gf4 237 rfl (wy_pr rfl) wt_237 wf_15_138 (v := 363) wl_237_138 ?_
                          refine wa_aload_n (n := 0) rfl ?_
                          refine wb_gfi 237 rfl (wy_pr rfl) wt_237 wf_15_173 (v := ((2100 * t) + ba)) (h73) (fun r944 => ?_)
                          refine wa_iconst ?_
                          refine wa_iadd ?_
                          refine wb_iald 363 rfl (wy_pr rfl) wt_363 (n := 4200) ((ml_363 hM)) (by omega) (by omega) (v := k1) (hk1) (fun r945 => ?_)
                          refine wa_aload_n (n := 0) rfl ?_
                          refine wb_gf4 237 rfl (wy_pr rfl) wt_237 wf_15_139 (v := 364) wl_237_139 ?_
                          refine wa_aload_n (n := 0) rfl ?_
                          refine wb_gfi 237 rfl (wy_pr rfl) wt_237 wf_15_173 (v := ((2100 * t) + ba)) (h73) (fun r946 => ?_)
                          refine wa_iconst ?_
                          refine wa_iadd ?_
                          refine wb_lald 364 rfl (wy_pr rfl) wt_364 (n := 4200) ((ml_364 hM)) (by omega) (by omega) (v := v1) (hv1) (fun r947 => ?_)
                          refine wa_cv 237 rfl (wy_pr rfl) wt_237 (M2 := fun _ => False) rfl at_M_addSlot ⟨_, rfl⟩ rfl rfl ⟨(Or.inr ⟨wy_pr rfl, fun q => q⟩), trivial, trivial, trivial⟩ trivial (fun _ _ q => False.elim q) (adM_ok (S := S) (th := gb) (nm := -1) (ty := k1) (va := v1) (s := s0) (v0 := v0) (n := sz) (la := la) hM hgb h82 ⟨by omega, by omega⟩ h63 hv0 h17 ⟨by omega, by omega⟩ h18 hla ⟨by omega, by omega⟩ ⟨by omega, by omega⟩ ⟨by omega, by omega⟩) (fun oq948 Sq948 hp949 q948 => ?_)
                          rcases q948 with ⟨rfl, rfl⟩
                          show wJ _ _ _ _ _ _ _ _ _ _
                          have hMA : w_ML (asZ gb (-1) k1 v1 s0 v0 sz la S) := asZ_m hM hgb.1 hs0.1 (fun z => (hla z).1)
                          refine wa_aload_n (n := 0) rfl ?_
                          refine wa_iconst ?_
                          refine wa_aload_n (n := 0) rfl ?_
                          refine wb_gf4 237 rfl (wy_pr rfl) wt_237 wf_15_73 (v := 317) wl_237_73 ?_
                          refine wa_iload_n (n := 2) rfl ?_
                          refine wb_iald 317 rfl (wy_pr rfl) wt_317 (n := 8000) ((ml_317 hMA)) (by omega) (by omega) (v := (sz + 1)) (asZ_n) (fun r950 => ?_)
                          refine wa_i2l (w_rg0 (by omega) (by omega)) ?_
                          have hPg : mP t c p h tp (asZ gb (-1) k1 v1 s0 v0 sz la S) := mP_ag hP0 hMA (fun j x hj => asZ_e j x (by omega) (by omega) (by omega) (by omega) (by omega))
                          refine wa_cv 237 rfl (wy_pr rfl) wt_237 (M2 := fun _ => False) rfl at_M_gives ⟨_, rfl⟩ rfl rfl ⟨(Or.inr ⟨wy_pr rfl, fun q => q⟩), trivial, trivial, trivial⟩ trivial (fun _ _ q => False.elim q) (gvs_ok (S := (asZ gb (-1) k1 v1 s0 v0 sz la S)) (k := 2) (v := (sz + 1)) hPg (((asZ_e 237 173 (by decide) (by decide) (by decide) (by decide) (by omega)).trans ((h73)))) ⟨by omega, by omega⟩ ⟨by omega, by omega⟩ ⟨by omega, by omega⟩) (fun oq951 Sq951 hp952 q951 => ?_)
                          rcases q951 with ⟨rfl, rfl⟩
                          show wJ _ _ _ _ _ _ _ _ _ _
                          refine wa_goto ⟨_, rfl⟩ ?_
                          refine wa_return rfl ?_
                          show wJ _ _ _ _ _ _ _ _ _ _
                          refine wa_goto ⟨_, rfl⟩ ?_
                          refine wa_return rfl ?_
                          exact Or.inr ⟨by omega, rfl, rfl⟩
                        · skip
                          exact absurd c943 (by omega)
                · skip
                  exact absurd c936 (by omega)
              · skip
                exact absurd c935 (by omega)
            · skip
              exact absurd c934 (by omega)
set_option maxHeartbeats 4000000 in
theorem rln_ok2 (hP : mP t c p h tp S) (h73 : S 237 173 = 2100 * t + ba) (hba : 0 ≤ ba ∧ ba < h) (h74 : S 237 174 = 6) (h75 : S 237 175 = gb) (hgb : 0 ≤ gb ∧ gb < 8000) (h76 : S 237 176 = es) (h17 : S 317 gb = sz) (hsz : 0 ≤ sz ∧ sz ≤ 60000) (hs : 0 ≤ s ∧ s < 4000) (h06 : S 306 s = ec) (hkd : kd = 5) (hes : es = 0) (hec : ec = 0) (hz0 : sz = 0) : wJ (pe_GA xs) wY0 M (d + 8) t_M_actsOnRow ((pe_at t_M_actsOnRow.bl 0).getD (0, [])).2 [(0, (2, 237)), (1, (0, s)), (2, (0, kd))] [] S (fun o Z => o = .inl none ∧ gvZ t ba tp p 0 0 S = Z) := by
  have hP0 := hP
  obtain ⟨hM, ⟨mt, mt0, mt1⟩, mp, mf, ⟨mc, mc0, mc1⟩, ⟨mtp, mtq⟩, ⟨mpa, mp0, mp1⟩, mh, mh0, mh1⟩ := hP
  refine wa_aload_n (n := 0) rfl ?_
  refine wb_gfl 237 rfl (wy_pr rfl) wt_237 wf_15_175 (v := gb) (h75) (fun r1201 => ?_)
  refine wb_l2i_r (wb_l2i_id ⟨(by omega), (by omega)⟩) ?_
  refine wa_istore_n (n := 3) rfl ?_
  refine wa_aload_n (n := 0) rfl ?_
  refine wb_gfi 237 rfl (wy_pr rfl) wt_237 wf_15_174 (v := 6) (h74) (fun r1202 => ?_)
  refine wa_bipush (w_rg2 (by omega) (by omega)) ?_
  refine wa_icmpne (w_rg0 (by omega) (by omega)) (w_rg0 (by omega) (by omega)) ⟨_, rfl⟩ (fun c1203 => ?_) (fun c1203 => ?_)
  · skip
    exact absurd c1203 (by omega)
  · skip
    refine wa_iconst ?_
    refine wa_goto ⟨_, rfl⟩ ?_
    refine wa_istore (n := 4) rfl ?_
    refine wa_iload (n := 4) rfl ?_
    refine wa_ifeq (w_rg0 (by omega) (by omega)) ⟨_, rfl⟩ (fun c1204 => ?_) (fun c1204 => ?_)
    · skip
      exact absurd c1204 (by omega)
    · skip
      refine wa_aload_n (n := 0) rfl ?_
      refine wb_gf4 237 rfl (wy_pr rfl) wt_237 wf_15_73 (v := 317) wl_237_73 ?_
      refine wa_iload_n (n := 3) rfl ?_
      refine wb_iald 317 rfl (wy_pr rfl) wt_317 (n := 8000) ((ml_317 hM)) (by omega) (by omega) (v := sz) (h17) (fun r1205 => ?_)
      refine wa_goto ⟨_, rfl⟩ ?_
      refine wa_istore (n := 5) rfl ?_
      refine wa_aload_n (n := 0) rfl ?_
      refine wb_gfi 237 rfl (wy_pr rfl) wt_237 wf_15_176 (v := es) (h76) (fun r1206 => ?_)
      refine wa_ifle (w_rg0 (by omega) (by omega)) ⟨_, rfl⟩ (fun c1207 => ?_) (fun c1207 => ?_)
      · skip
        refine wb_lconst (m := 0) rfl ?_
        refine wa_fall ⟨_, rfl⟩ ?_
        refine wa_lstore (n := 6) rfl ?_
        refine wa_aload_n (n := 0) rfl ?_
        refine wb_gfi 237 rfl (wy_pr rfl) wt_237 wf_15_176 (v := es) (h76) (fun r1208 => ?_)
        refine wa_ifle (w_rg0 (by omega) (by omega)) ⟨_, rfl⟩ (fun c1209 => ?_) (fun c1209 => ?_)
        · skip
          refine wa_iconst ?_
          refine wa_fall ⟨_, rfl⟩ ?_
          refine wa_istore (n := 8) rfl ?_
          refine wa_iload_n (n := 2) rfl ?_
          refine wa_ifne (w_rg0 (by omega) (by omega)) ⟨_, rfl⟩ (fun c1210 => ?_) (fun c1210 => ?_)
          · skip
            refine wa_iload_n (n := 2) rfl ?_
            refine wa_iconst ?_
            refine wa_icmpne (w_rg0 (by omega) (by omega)) (w_rg0 (by omega) (by omega)) ⟨_, rfl⟩ (fun c1211 => ?_) (fun c1211 => ?_)
            · skip
              refine wa_iload_n (n := 2) rfl ?_
              refine wa_iconst ?_
              refine wa_icmpne (w_rg0 (by omega) (by omega)) (w_rg0 (by omega) (by omega)) ⟨_, rfl⟩ (fun c1212 => ?_) (fun c1212 => ?_)
              · skip
                refine wa_iload (n := 4) rfl ?_
                refine wa_ifeq (w_rg0 (by omega) (by omega)) ⟨_, rfl⟩ (fun c1213 => ?_) (fun c1213 => ?_)
                · skip
                  exact absurd c1213 (by omega)
                · skip
                  refine wa_aload_n (n := 0) rfl ?_
                  refine wa_iload_n (n := 1) rfl ?_
                  refine wa_iload_n (n := 3) rfl ?_
                  refine wa_cv 237 rfl (wy_pr rfl) wt_237 (M2 := fun _ => False) rfl at_M_lists ⟨_, rfl⟩ rfl rfl ⟨trivial, trivial, trivial, trivial, trivial, (Or.inr ⟨wy_pr rfl, fun q => q⟩), trivial, trivial, trivial⟩ trivial (fun _ _ q => False.elim q) ?_ (fun _ _ _ q => q)
                  refine wa_aload_n (n := 0) rfl ?_
                  refine wb_gf4 237 rfl (wy_pr rfl) wt_237 wf_15_51 (v := 306) wl_237_51 ?_
                  refine wa_iload_n (n := 1) rfl ?_
                  refine wb_iald 306 rfl (wy_pr rfl) wt_306 (n := 4000) ((ml_306 hM)) (by omega) (by omega) (v := ec) (h06) (fun r1214 => ?_)
                  refine wa_iconst ?_
                  refine wa_icmpne (w_rg0 (by omega) (by omega)) (w_rg0 (by omega) (by omega)) ⟨_, rfl⟩ (fun c1215 => ?_) (fun c1215 => ?_)
                  · skip
                    refine wa_aload_n (n := 0) rfl ?_
                    refine wb_gf4 237 rfl (wy_pr rfl) wt_237 wf_15_73 (v := 317) wl_237_73 ?_
                    refine wa_iload_n (n := 2) rfl ?_
                    refine wb_iald 317 rfl (wy_pr rfl) wt_317 (n := 8000) ((ml_317 hM)) (by omega) (by omega) (v := sz) (h17) (fun r1216 => ?_)
                    refine wa_ifne (w_rg0 (by omega) (by omega)) ⟨_, rfl⟩ (fun c1217 => ?_) (fun c1217 => ?_)
                    · skip
                      exfalso; omega
                    · skip
                      refine wa_aload_n (n := 0) rfl ?_
                      refine wa_iconst ?_
                      refine wb_lconst (m := 0) rfl ?_
                      have hPg : mP t c p h tp S := hP0
                      refine wa_cv 237 rfl (wy_pr rfl) wt_237 (M2 := fun _ => False) rfl at_M_gives ⟨_, rfl⟩ rfl rfl ⟨(Or.inr ⟨wy_pr rfl, fun q => q⟩), trivial, trivial, trivial⟩ trivial (fun _ _ q => False.elim q) (gvs_ok (S := S) (k := 0) (v := 0) hPg ((h73)) ⟨by omega, by omega⟩ ⟨by omega, by omega⟩ ⟨by omega, by omega⟩) (fun oq1218 Sq1218 hp1219 q1218 => ?_)
                      rcases q1218 with ⟨rfl, rfl⟩
                      show wJ _ _ _ _ _ _ _ _ _ _
                      refine wa_goto ⟨_, rfl⟩ ?_
                      refine wa_return rfl ?_
                      show wJ _ _ _ _ _ _ _ _ _ _
                      refine wa_goto ⟨_, rfl⟩ ?_
                      refine wa_return rfl ?_
                      exact ⟨rfl, rfl⟩
                  · skip
                    exact absurd c1215 (by omega)
              · skip
                exact absurd c1212 (by omega)
            · skip
              exact absurd c1211 (by omega)
          · skip
            exact absurd c1210 (by omega)
        · skip
          exact absurd c1209 (by omega)
      · skip
        exact absurd c1207 (by omega)
set_option maxHeartbeats 4000000 in
theorem rlo_ok (hP : mP t c p h tp S) (h73 : S 237 173 = 2100 * t + ba) (hba : 0 ≤ ba ∧ ba < h) (h74 : S 237 174 = 6) (h75 : S 237 175 = gb) (hgb : 0 ≤ gb ∧ gb < 8000) (h76 : S 237 176 = es) (h17 : S 317 gb = sz) (hsz : 0 ≤ sz ∧ sz ≤ 60000) (hs : 0 ≤ s ∧ s < 4000) (h06 : S 306 s = ec) (ht : rTh S sl T) (hgT : gb < (T.length : Int)) (hT : (T.length : Int) ≤ 8000) (h82 : S 237 82 ≤ 60000) (hl : l = sl gb.toNat) (hsl : slC S gb l) (hll : (l.length : Int) = sz) (hel : S 325 (l.getD (sz - 1).toNat 0) = lk ∧ S 326 (l.getD (sz - 1).toNat 0) = lv) (hlr : 0 ≤ lk ∧ lk ≤ 8) (hlw : -9223372036854775808 ≤ lv ∧ lv ≤ 9223372036854775807) (hkd : kd = 5) (hes : es = 0) (hec : ec = 0) (hz0 : 0 < sz) : wJ (pe_GA xs) wY0 M (d + 8) t_M_actsOnRow ((pe_at t_M_actsOnRow.bl 0).getD (0, [])).2 [(0, (2, 237)), (1, (0, s)), (2, (0, kd))] [] S (fun o Z => o = .inl none ∧ ∃ A : wS, ds_ag gb (sz - 1) l S A ∧ gvZ t ba tp p lk lv A = Z) := by
  have hP0 := hP
  obtain ⟨hM, ⟨mt, mt0, mt1⟩, mp, mf, ⟨mc, mc0, mc1⟩, ⟨mtp, mtq⟩, ⟨mpa, mp0, mp1⟩, mh, mh0, mh1⟩ := hP
  obtain ⟨se, hse⟩ : ∃ i : Int, i = l.getD (sz - 1).toNat 0 := ⟨_, rfl⟩
  obtain ⟨hel1, hel2⟩ := hel
  rw [← hse] at hel1 hel2
  have hser : 0 ≤ se ∧ se < 60000 := by rw [hse]; exact (hsl.2.2 (sz - 1).toNat (by omega)).1
  refine wa_aload_n (n := 0) rfl ?_
  refine wb_gfl 237 rfl (wy_pr rfl) wt_237 wf_15_175 (v := gb) (h75) (fun r1401 => ?_)
  refine wb_l2i_r (wb_l2i_id ⟨(by omega), (by omega)⟩) ?_
  refine wa_istore_n (n := 3) rfl ?_
  refine wa_aload_n (n := 0) rfl ?_
  refine wb_gfi 237 rfl (wy_pr rfl) wt_237 wf_15_174 (v := 6) (h74) (fun r1402 => ?_)
  refine wa_bipush (w_rg2 (by omega) (by omega)) ?_
  refine wa_icmpne (w_rg0 (by omega) (by omega)) (w_rg0 (by omega) (by omega)) ⟨_, rfl⟩ (fun c1403 => ?_) (fun c1403 => ?_)
  · skip
    exact absurd c1403 (by omega)
  · skip
    refine wa_iconst ?_
    refine wa_goto ⟨_, rfl⟩ ?_
    refine wa_istore (n := 4) rfl ?_
    refine wa_iload (n := 4) rfl ?_
    refine wa_ifeq (w_rg0 (by omega) (by omega)) ⟨_, rfl⟩ (fun c1404 => ?_) (fun c1404 => ?_)
    · skip
      exact absurd c1404 (by omega)
    · skip
      refine wa_aload_n (n := 0) rfl ?_
      refine wb_gf4 237 rfl (wy_pr rfl) wt_237 wf_15_73 (v := 317) wl_237_73 ?_
      refine wa_iload_n (n := 3) rfl ?_
      refine wb_iald 317 rfl (wy_pr rfl) wt_317 (n := 8000) ((ml_317 hM)) (by omega) (by omega) (v := sz) (h17) (fun r1405 => ?_)
      refine wa_goto ⟨_, rfl⟩ ?_
      refine wa_istore (n := 5) rfl ?_
      refine wa_aload_n (n := 0) rfl ?_
      refine wb_gfi 237 rfl (wy_pr rfl) wt_237 wf_15_176 (v := es) (h76) (fun r1406 => ?_)
      refine wa_ifle (w_rg0 (by omega) (by omega)) ⟨_, rfl⟩ (fun c1407 => ?_) (fun c1407 => ?_)
      · skip
        refine wb_lconst (m := 0) rfl ?_
        refine wa_fall ⟨_, rfl⟩ ?_
        refine wa_lstore (n := 6) rfl ?_
        refine wa_aload_n (n := 0) rfl ?_
        refine wb_gfi 237 rfl (wy_pr rfl) wt_237 wf_15_176 (v := es) (h76) (fun r1408 => ?_)
        refine wa_ifle (w_rg0 (by omega) (by omega)) ⟨_, rfl⟩ (fun c1409 => ?_) (fun c1409 => ?_)
        · skip
          refine wa_iconst ?_
          refine wa_fall ⟨_, rfl⟩ ?_
          refine wa_istore (n := 8) rfl ?_
          refine wa_iload_n (n := 2) rfl ?_
          refine wa_ifne (w_rg0 (by omega) (by omega)) ⟨_, rfl⟩ (fun c1410 => ?_) (fun c1410 => ?_)
          · skip
            refine wa_iload_n (n := 2) rfl ?_
            refine wa_iconst ?_
            refine wa_icmpne (w_rg0 (by omega) (by omega)) (w_rg0 (by omega) (by omega)) ⟨_, rfl⟩ (fun c1411 => ?_) (fun c1411 => ?_)
            · skip
              refine wa_iload_n (n := 2) rfl ?_
              refine wa_iconst ?_
              refine wa_icmpne (w_rg0 (by omega) (by omega)) (w_rg0 (by omega) (by omega)) ⟨_, rfl⟩ (fun c1412 => ?_) (fun c1412 => ?_)
              · skip
                refine wa_iload (n := 4) rfl ?_
                refine wa_ifeq (w_rg0 (by omega) (by omega)) ⟨_, rfl⟩ (fun c1413 => ?_) (fun c1413 => ?_)
                · skip
                  exact absurd c1413 (by omega)
                · skip
                  refine wa_aload_n (n := 0) rfl ?_
                  refine wa_iload_n (n := 1) rfl ?_
                  refine wa_iload_n (n := 3) rfl ?_
                  refine wa_cv 237 rfl (wy_pr rfl) wt_237 (M2 := fun _ => False) rfl at_M_lists ⟨_, rfl⟩ rfl rfl ⟨trivial, trivial, trivial, trivial, trivial, (Or.inr ⟨wy_pr rfl, fun q => q⟩), trivial, trivial, trivial⟩ trivial (fun _ _ q => False.elim q) ?_ (fun _ _ _ q => q)
                  refine wa_aload_n (n := 0) rfl ?_
                  refine wb_gf4 237 rfl (wy_pr rfl) wt_237 wf_15_51 (v := 306) wl_237_51 ?_
                  refine wa_iload_n (n := 1) rfl ?_
                  refine wb_iald 306 rfl (wy_pr rfl) wt_306 (n := 4000) ((ml_306 hM)) (by omega) (by omega) (v := ec) (h06) (fun r1414 => ?_)
                  refine wa_iconst ?_
                  refine wa_icmpne (w_rg0 (by omega) (by omega)) (w_rg0 (by omega) (by omega)) ⟨_, rfl⟩ (fun c1415 => ?_) (fun c1415 => ?_)
                  · skip
                    refine wa_aload_n (n := 0) rfl ?_
                    refine wb_gf4 237 rfl (wy_pr rfl) wt_237 wf_15_73 (v := 317) wl_237_73 ?_
                    refine wa_iload_n (n := 2) rfl ?_
                    refine wb_iald 317 rfl (wy_pr rfl) wt_317 (n := 8000) ((ml_317 hM)) (by omega) (by omega) (v := sz) (h17) (fun r1416 => ?_)
                    refine wa_ifne (w_rg0 (by omega) (by omega)) ⟨_, rfl⟩ (fun c1417 => ?_) (fun c1417 => ?_)
                    · skip
                      refine wa_aload_n (n := 0) rfl ?_
                      refine wa_iload_n (n := 2) rfl ?_
                      refine wa_aload_n (n := 0) rfl ?_
                      refine wb_gf4 237 rfl (wy_pr rfl) wt_237 wf_15_73 (v := 317) wl_237_73 ?_
                      refine wa_iload_n (n := 2) rfl ?_
                      refine wb_iald 317 rfl (wy_pr rfl) wt_317 (n := 8000) ((ml_317 hM)) (by omega) (by omega) (v := sz) (h17) (fun r1418 => ?_)
                      refine wa_iconst ?_
                      refine wa_isub ?_
                      refine wa_cv 237 rfl (wy_pr rfl) wt_237 (M2 := fun _ => False) rfl at_M_slotAt ⟨_, rfl⟩ rfl rfl ⟨(Or.inr ⟨wy_pr rfl, fun q => q⟩), trivial, trivial, trivial⟩ trivial (fun _ _ q => False.elim q) (wJ_mono (saM_ok (S := S) (th := gb) (i := sz - 1) (l := l) hM hgb hsl ⟨by omega, by omega⟩ (by omega)) (fun o Z hz => (⟨hz.1, by rw [hse]; exact hz.2⟩ : S = Z ∧ o = .inl (some (0, se))))) (fun oq1419 Sq1419 hp1420 q1419 => ?_)
                      rcases q1419 with ⟨rfl, rfl⟩
                      show wJ _ _ _ _ _ _ _ _ _ _
                      refine wa_istore_n (n := 3) rfl ?_
                      refine wa_aload_n (n := 0) rfl ?_
                      refine wb_gf4 237 rfl (wy_pr rfl) wt_237 wf_15_83 (v := 325) wl_237_83 ?_
                      refine wa_iload_n (n := 3) rfl ?_
                      refine wb_iald 325 rfl (wy_pr rfl) wt_325 (n := 60000) ((ml_325 hM)) (by omega) (by omega) (v := lk) (hel1) (fun r1421 => ?_)
                      refine wa_istore (n := 4) rfl ?_
                      refine wa_aload_n (n := 0) rfl ?_
                      refine wb_gf4 237 rfl (wy_pr rfl) wt_237 wf_15_84 (v := 326) wl_237_84 ?_
                      refine wa_iload_n (n := 3) rfl ?_
                      refine wb_lald 326 rfl (wy_pr rfl) wt_326 (n := 60000) ((ml_326 hM)) (by omega) (by omega) (v := lv) (hel2) (fun r1422 => ?_)
                      refine wa_lstore (n := 5) rfl ?_
                      refine wa_aload_n (n := 0) rfl ?_
                      refine wa_iload_n (n := 2) rfl ?_
                      refine wa_aload_n (n := 0) rfl ?_
                      refine wb_gf4 237 rfl (wy_pr rfl) wt_237 wf_15_73 (v := 317) wl_237_73 ?_
                      refine wa_iload_n (n := 2) rfl ?_
                      refine wb_iald 317 rfl (wy_pr rfl) wt_317 (n := 8000) ((ml_317 hM)) (by omega) (by omega) (v := sz) (h17) (fun r1423 => ?_)
                      refine wa_iconst ?_
                      refine wa_isub ?_
                      refine wa_cv 237 rfl (wy_pr rfl) wt_237 (M2 := fun _ => False) rfl at_M_dropSlot ⟨_, rfl⟩ rfl rfl ⟨trivial, trivial, trivial, (Or.inr ⟨wy_pr rfl, fun q => q⟩), trivial, trivial, trivial⟩ trivial (fun _ _ q => False.elim q) (wJ_mono (r_dp (S := S) (sl := sl) (T := T) (k := gb) (ix := sz - 1) hM ht ⟨hgb.1, hgT⟩ hT h82 (by rw [← hl]; omega) ⟨by omega, by rw [← hl]; omega⟩) (fun o Z hz => (⟨hz.1, by rw [hl]; exact hz.2⟩ : o = .inl none ∧ ds_ag gb (sz - 1) l S Z))) (fun oq1424 Sq1424 hp1425 q1424 => ?_)
                      rcases q1424 with ⟨rfl, hds⟩
                      show wJ _ _ _ _ _ _ _ _ _ _
                      have hMA := hds.2.2.2
                      refine wa_aload_n (n := 0) rfl ?_
                      refine wa_iload (n := 4) rfl ?_
                      refine wa_lload (n := 5) rfl ?_
                      have hPg : mP t c p h tp Sq1424 := mP_ag hP0 hMA (fun j x hj => hds.2.2.1 j x (Or.inl ⟨by omega, by omega, by omega⟩) (Or.inl (by omega)))
                      refine wa_cv 237 rfl (wy_pr rfl) wt_237 (M2 := fun _ => False) rfl at_M_gives ⟨_, rfl⟩ rfl rfl ⟨trivial, trivial, trivial, (Or.inr ⟨wy_pr rfl, fun q => q⟩), trivial, trivial, trivial⟩ trivial (fun _ _ q => False.elim q) (gvs_ok (S := Sq1424) (k := lk) (v := lv) hPg (((hds.2.2.1 237 173 (Or.inl (by decide)) (Or.inl (by decide))).trans ((h73)))) ⟨by omega, by omega⟩ ⟨by omega, by omega⟩ ⟨by omega, by omega⟩) (fun oq1426 Sq1426 hp1427 q1426 => ?_)
                      rcases q1426 with ⟨rfl, rfl⟩
                      show wJ _ _ _ _ _ _ _ _ _ _
                      refine wa_fall ⟨_, rfl⟩ ?_
                      refine wa_return rfl ?_
                      show wJ _ _ _ _ _ _ _ _ _ _
                      refine wa_goto ⟨_, rfl⟩ ?_
                      refine wa_return rfl ?_
                      exact ⟨rfl, _, hds, rfl⟩
                    · skip
                      exfalso; omega
                  · skip
                    exact absurd c1415 (by omega)
              · skip
                exact absurd c1412 (by omega)
            · skip
              exact absurd c1411 (by omega)
          · skip
            exact absurd c1410 (by omega)
        · skip
          exact absurd c1409 (by omega)
      · skip
        exact absurd c1407 (by omega)
end Wh1
