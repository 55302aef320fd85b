/-! PART jf: acting at a site by tasks: texts: of the reference. -/
section Wjf0
variable {xs : List (Nat × List Int32)} {M : Nat → Prop} {d : Nat} {S S0 Z A : wS} {t c p h tp ba s kd gb es a b ln pf m bt u2 u3 k1 v1 kl vl : Int} {Q : wO → wS → Prop}
set_option maxHeartbeats 4000000 in
theorem sbt_okL (hP : mP t c p h tp S) (h73 : S 237 173 = 2100 * t + ba) (hba : 0 ≤ ba ∧ ba ≤ h) (hgb : 0 ≤ gb ∧ gb < 16000) (h84 : S 284 gb = pf) (h85 : S 285 gb = ln) (hln : 0 ≤ pf ∧ 0 ≤ ln ∧ pf + ln ≤ 69632 + bt) (hgm : gb ≠ 4000 + m) (h102 : S 237 102 = m) (h103 : S 237 103 = bt) (h64 : S 237 64 = u2) (h65 : S 237 65 = u3) (hm : 0 ≤ m ∧ m ≤ u2) (hbt : 0 ≤ bt ∧ bt ≤ u3) (hu2 : u2 ≤ 12000) (hu3 : u3 ≤ 200000) (hl6 : ln ≤ 300000) (ha : 0 ≤ a ∧ a ≤ b ∧ b ≤ ln) : wJ (pe_GA xs) wY0 M (d + 5) t_M_sub ((pe_at t_M_sub.bl 0).getD (0, [])).2 [(0, (2, 237)), (1, (0, gb)), (2, (1, a)), (4, (1, b))] [] S (fun o Z => ((12000 ≤ u2 ∨ 200000 < u3 + (b - a)) ∧ o = .inr 238 ∧ hZ 99 S = Z) ∨ (u2 < 12000 ∧ u3 + (b - a) ≤ 200000 ∧ o = .inl none ∧ ∃ A : wS, sbQ (pf + a) (b - a) m bt u2 u3 S A ∧ gvZ t ba tp p 3 (4000 + m) A = Z)) := by
  have hP0 := hP
  obtain ⟨hM, ⟨mt, mt0, mt1⟩, mp, mf, ⟨mc, mc0, mc1⟩, ⟨mtp, mtq⟩, ⟨mpa, mp0, mp1⟩, mh, mh0, mh1⟩ := hP
  refine wa_aload_n (n := 0) rfl ?_
  refine wa_lload (n := 4) rfl ?_
  refine wa_lload_n (n := 2) rfl ?_
  refine wa_lsub ?_
  refine wb_l2i_r (wb_l2i_id ⟨(by omega), (by omega)⟩) ?_
  refine wa_cv 237 rfl (wy_pr rfl) wt_237 (M2 := fun _ => False) rfl at_M_newText ⟨_, rfl⟩ rfl rfl ⟨(Or.inr ⟨wy_pr rfl, fun q => q⟩), trivial, trivial, trivial, trivial⟩ trivial (fun _ _ q => False.elim q) (ntx_okL (S := S) (n := b - a) hM h102 h103 h64 h65 hm hbt hu2 hu3 ⟨by omega, by omega⟩) (fun oq301 Sq301 hp302 q301 => ?_)
  rcases q301 with ⟨hr1, rfl, rfl⟩ | ⟨hr1, hr2, rfl, rfl⟩
  · skip
    refine ⟨rfl, ?_⟩
    exact Or.inl ⟨hr1, rfl, rfl⟩
  · skip
    show wJ _ _ _ _ _ _ _ _ _ _
    refine wa_istore (n := 6) rfl ?_
    refine wa_iconst ?_
    refine wa_istore (n := 7) rfl ?_
    refine wa_fall ⟨_, rfl⟩ ?_
    obtain ⟨n, hn⟩ : ∃ n : Nat, (n : Int) = b - a := ⟨(b - a).toNat, by omega⟩
    have e84 : (nxZ (b - a) m bt u2 u3 S) 284 (4000 + m) = 69632 + bt := nxZ_v.1
    have e85 : (nxZ (b - a) m bt u2 u3 S) 285 (4000 + m) = (n : Int) := nxZ_v.2.1.trans hn.symm
    refine wJ_S (sbt_l (S0 := (nxZ (b - a) m bt u2 u3 S)) (n := n) (pf := pf) hgb ⟨by omega, by omega⟩ ⟨by omega, by omega⟩ ⟨by omega, by omega⟩ e84 e85 ((nxZ_e 284 gb (Or.inr hgm) (by first | decide | omega)).trans h84) ⟨by omega, by omega⟩ (fun i hi X hX => hX.2.1 283 _ (by omega)) (fun Z hZ => ?_) n 0 (nxZ (b - a) m bt u2 u3 S) (by omega) ⟨fun i hi => absurd hi (Nat.not_lt_zero _), fun _ _ _ => rfl, nxZ_m hM hm.1⟩) ⟨rfl, rfl, rfl, rfl, rfl, rfl, trivial⟩
    have zf : ∀ (j : Nat) (x : Int), j ≠ 283 → ((j ≠ 284 ∧ j ≠ 285) ∨ x ≠ 4000 + m) → (j ≠ 237 ∨ (x ≠ 102 ∧ x ≠ 103 ∧ x ≠ 64 ∧ x ≠ 65)) → Z j x = S j x := fun j x j0 j1 j2 => (hZ.2.1 j x (Or.inl j0)).trans (nxZ_e j x j1 j2)
    have hPz : mP t c p h tp Z := mP_ag hP0 hZ.2.2 (fun j x hj => zf j x (by omega) (by omega) (by omega))
    replace hM := hZ.2.2
    refine wa_aload_n (n := 0) rfl ?_
    refine wa_iconst ?_
    refine wa_iload (n := 6) rfl ?_
    refine wa_i2l (w_rg0 (by omega) (by omega)) ?_
    refine wa_cv 237 rfl (wy_pr rfl) wt_237 (M2 := fun _ => False) rfl at_M_gives ⟨_, rfl⟩ rfl rfl ⟨(Or.inr ⟨wy_pr rfl, fun q => q⟩), trivial, trivial, trivial, trivial, trivial⟩ trivial (fun _ _ q => False.elim q) (gvs_ok (S := Z) (k := 3) (v := 4000 + m) hPz ((zf 237 173 (by decide) (by omega) (by decide)).trans h73) hba ⟨by omega, by omega⟩ ⟨by omega, by omega⟩) (fun oq303 Sq303 hp304 q303 => ?_)
    rcases q303 with ⟨rfl, rfl⟩
    show wJ _ _ _ _ _ _ _ _ _ _
    refine wa_return rfl ?_
    exact Or.inr ⟨hr1, hr2, rfl, _, ⟨n, hn, hZ⟩, rfl⟩
set_option maxHeartbeats 4000000 in
theorem rtz_okL (hP : mP t c p h tp S) (h73 : S 237 173 = 2100 * t + ba) (hba : 0 ≤ ba ∧ ba ≤ h) (h74 : S 237 174 = 3) (h75 : S 237 175 = gb) (h76 : S 237 176 = es) (hgb : 0 ≤ gb ∧ gb < 16000) (h84 : S 284 gb = pf) (h85 : S 285 gb = ln) (hln : 0 ≤ pf ∧ 0 ≤ ln ∧ pf + ln ≤ 69632 + bt) (hgm : gb ≠ 4000 + m) (h102 : S 237 102 = m) (h103 : S 237 103 = bt) (h64 : S 237 64 = u2) (h65 : S 237 65 = u3) (hm : 0 ≤ m ∧ m ≤ u2) (hbt : 0 ≤ bt ∧ bt ≤ u3) (hu2 : u2 ≤ 12000) (hu3 : u3 ≤ 200000) (hl6 : ln ≤ 300000) (hkd : kd = 0) (hes : es = 0) : wJ (pe_GA xs) wY0 M (d + 8) t_M_actsOnRow ((pe_at t_M_actsOnRow.bl 0).getD (0, [])).2 [(0, (2, 237)), (1, (0, s)), (2, (0, kd))] [] S (fun o Z => o = .inl none ∧ gvZ t ba tp p 2 ln S = Z) := by
  have hP0 := hP
  obtain ⟨hM, ⟨mt, mt0, mt1⟩, mp, mf, ⟨mc, mc0, mc1⟩, ⟨mtp, mtq⟩, ⟨mpa, mp0, mp1⟩, mh, mh0, mh1⟩ := hP
  refine wa_aload_n (n := 0) rfl ?_
  refine wb_gfl 237 rfl (wy_pr rfl) wt_237 wf_15_175 (v := gb) (h75) (fun r601 => ?_)
  refine wb_l2i_r (wb_l2i_id ⟨(by omega), (by omega)⟩) ?_
  refine wa_istore_n (n := 3) rfl ?_
  refine wa_aload_n (n := 0) rfl ?_
  refine wb_gfi 237 rfl (wy_pr rfl) wt_237 wf_15_174 (v := 3) (h74) (fun r602 => ?_)
  refine wa_bipush (w_rg2 (by omega) (by omega)) ?_
  refine wa_icmpne (w_rg0 (by omega) (by omega)) (w_rg0 (by omega) (by omega)) ⟨_, rfl⟩ (fun c603 => ?_) (fun c603 => ?_)
  · skip
    refine wa_iconst ?_
    refine wa_fall ⟨_, rfl⟩ ?_
    refine wa_istore (n := 4) rfl ?_
    refine wa_iload (n := 4) rfl ?_
    refine wa_ifeq (w_rg0 (by omega) (by omega)) ⟨_, rfl⟩ (fun c604 => ?_) (fun c604 => ?_)
    · skip
      refine wa_aload_n (n := 0) rfl ?_
      refine wb_gf4 237 rfl (wy_pr rfl) wt_237 wf_15_23 (v := 285) wl_237_23 ?_
      refine wa_iload_n (n := 3) rfl ?_
      refine wb_iald 285 rfl (wy_pr rfl) wt_285 (n := 16000) ((ml_285 hM)) (by omega) (by omega) (v := ln) (h85) (fun r605 => ?_)
      refine wa_fall ⟨_, rfl⟩ ?_
      refine wa_istore (n := 5) rfl ?_
      refine wa_aload_n (n := 0) rfl ?_
      refine wb_gfi 237 rfl (wy_pr rfl) wt_237 wf_15_176 (v := es) (h76) (fun r606 => ?_)
      refine wa_ifle (w_rg0 (by omega) (by omega)) ⟨_, rfl⟩ (fun c607 => ?_) (fun c607 => ?_)
      · skip
        refine wb_lconst (m := 0) rfl ?_
        refine wa_fall ⟨_, rfl⟩ ?_
        refine wa_lstore (n := 6) rfl ?_
        refine wa_aload_n (n := 0) rfl ?_
        refine wb_gfi 237 rfl (wy_pr rfl) wt_237 wf_15_176 (v := es) (h76) (fun r608 => ?_)
        refine wa_ifle (w_rg0 (by omega) (by omega)) ⟨_, rfl⟩ (fun c609 => ?_) (fun c609 => ?_)
        · skip
          refine wa_iconst ?_
          refine wa_fall ⟨_, rfl⟩ ?_
          refine wa_istore (n := 8) rfl ?_
          refine wa_iload_n (n := 2) rfl ?_
          refine wa_ifne (w_rg0 (by omega) (by omega)) ⟨_, rfl⟩ (fun c610 => ?_) (fun c610 => ?_)
          · skip
            exact absurd c610 (by omega)
          · skip
            refine wa_aload_n (n := 0) rfl ?_
            refine wa_iconst ?_
            refine wa_iload (n := 5) rfl ?_
            refine wa_i2l (w_rg0 (by omega) (by omega)) ?_
            refine wa_cv 237 rfl (wy_pr rfl) wt_237 (M2 := fun _ => False) rfl at_M_gives ⟨_, rfl⟩ rfl rfl ⟨trivial, trivial, trivial, trivial, trivial, (Or.inr ⟨wy_pr rfl, fun q => q⟩), trivial, trivial, trivial⟩ trivial (fun _ _ q => False.elim q) (gvs_ok (S := S) (k := 2) (v := ln) hP0 h73 hba ⟨by omega, by omega⟩ ⟨by omega, by omega⟩) (fun oq611 Sq611 hp612 q611 => ?_)
            rcases q611 with ⟨rfl, rfl⟩
            show wJ _ _ _ _ _ _ _ _ _ _
            refine wa_goto ⟨_, rfl⟩ ?_
            refine wa_return rfl ?_
            exact ⟨rfl, rfl⟩
        · skip
          exact absurd c609 (by omega)
      · skip
        exact absurd c607 (by omega)
    · skip
      exact absurd c604 (by omega)
  · skip
    exact absurd c603 (by omega)
set_option maxHeartbeats 4000000 in
theorem rte_okL (hP : mP t c p h tp S) (h73 : S 237 173 = 2100 * t + ba) (hba : 0 ≤ ba ∧ ba ≤ h) (h74 : S 237 174 = 3) (h75 : S 237 175 = gb) (h76 : S 237 176 = es) (hgb : 0 ≤ gb ∧ gb < 16000) (h84 : S 284 gb = pf) (h85 : S 285 gb = ln) (hln : 0 ≤ pf ∧ 0 ≤ ln ∧ pf + ln ≤ 69632 + bt) (hgm : gb ≠ 4000 + m) (h102 : S 237 102 = m) (h103 : S 237 103 = bt) (h64 : S 237 64 = u2) (h65 : S 237 65 = u3) (hm : 0 ≤ m ∧ m ≤ u2) (hbt : 0 ≤ bt ∧ bt ≤ u3) (hu2 : u2 ≤ 12000) (hu3 : u3 ≤ 200000) (hl6 : ln ≤ 300000) (hk1 : S 363 (2100 * t + ba + 1) = k1) (hv1 : S 364 (2100 * t + ba + 1) = v1) (hk1r : 0 ≤ k1 ∧ k1 ≤ 8) (hv1r : -9223372036854775808 ≤ v1 ∧ v1 ≤ 9223372036854775807) (hkd : kd = 2) (hes : es = 1) : wJ (pe_GA xs) wY0 M (d + 8) t_M_actsOnRow ((pe_at t_M_actsOnRow.bl 0).getD (0, [])).2 [(0, (2, 237)), (1, (0, s)), (2, (0, kd))] [] S (fun o Z => (¬ (k1 = 2 ∧ 0 ≤ v1 ∧ v1 < ln) ∧ o = .inr 238 ∧ hZ 6 S = Z) ∨ ((k1 = 2 ∧ 0 ≤ v1 ∧ v1 < ln) ∧ (12000 ≤ u2 ∨ 200000 < u3 + ((v1 + 1) - v1)) ∧ o = .inr 238 ∧ hZ 99 S = Z) ∨ ((k1 = 2 ∧ 0 ≤ v1 ∧ v1 < ln) ∧ u2 < 12000 ∧ u3 + ((v1 + 1) - v1) ≤ 200000 ∧ o = .inl none ∧ ∃ A : wS, sbQ (pf + v1) ((v1 + 1) - v1) m bt u2 u3 S A ∧ gvZ t ba tp p 3 (4000 + m) A = Z)) := by
  have hP0 := hP
  obtain ⟨hM, ⟨mt, mt0, mt1⟩, mp, mf, ⟨mc, mc0, mc1⟩, ⟨mtp, mtq⟩, ⟨mpa, mp0, mp1⟩, mh, mh0, mh1⟩ := hP
  refine wa_aload_n (n := 0) rfl ?_
  refine wb_gfl 237 rfl (wy_pr rfl) wt_237 wf_15_175 (v := gb) (h75) (fun r801 => ?_)
  refine wb_l2i_r (wb_l2i_id ⟨(by omega), (by omega)⟩) ?_
  refine wa_istore_n (n := 3) rfl ?_
  refine wa_aload_n (n := 0) rfl ?_
  refine wb_gfi 237 rfl (wy_pr rfl) wt_237 wf_15_174 (v := 3) (h74) (fun r802 => ?_)
  refine wa_bipush (w_rg2 (by omega) (by omega)) ?_
  refine wa_icmpne (w_rg0 (by omega) (by omega)) (w_rg0 (by omega) (by omega)) ⟨_, rfl⟩ (fun c803 => ?_) (fun c803 => ?_)
  · skip
    refine wa_iconst ?_
    refine wa_fall ⟨_, rfl⟩ ?_
    refine wa_istore (n := 4) rfl ?_
    refine wa_iload (n := 4) rfl ?_
    refine wa_ifeq (w_rg0 (by omega) (by omega)) ⟨_, rfl⟩ (fun c804 => ?_) (fun c804 => ?_)
    · skip
      refine wa_aload_n (n := 0) rfl ?_
      refine wb_gf4 237 rfl (wy_pr rfl) wt_237 wf_15_23 (v := 285) wl_237_23 ?_
      refine wa_iload_n (n := 3) rfl ?_
      refine wb_iald 285 rfl (wy_pr rfl) wt_285 (n := 16000) ((ml_285 hM)) (by omega) (by omega) (v := ln) (h85) (fun r805 => ?_)
      refine wa_fall ⟨_, rfl⟩ ?_
      refine wa_istore (n := 5) rfl ?_
      refine wa_aload_n (n := 0) rfl ?_
      refine wb_gfi 237 rfl (wy_pr rfl) wt_237 wf_15_176 (v := es) (h76) (fun r806 => ?_)
      refine wa_ifle (w_rg0 (by omega) (by omega)) ⟨_, rfl⟩ (fun c807 => ?_) (fun c807 => ?_)
      · skip
        exact absurd c807 (by omega)
      · skip
        refine wa_aload_n (n := 0) rfl ?_
        refine wb_gf4 237 rfl (wy_pr rfl) wt_237 wf_15_139 (v := 364) wl_237_139 ?_
        refine wa_aload_n (n := 0) rfl ?_
        refine wb_gfi 237 rfl (wy_pr rfl) wt_237 wf_15_173 (v := ((2100 * t) + ba)) (h73) (fun r808 => ?_)
        refine wa_iconst ?_
        refine wa_iadd ?_
        refine wb_lald 364 rfl (wy_pr rfl) wt_364 (n := 4200) ((ml_364 hM)) (by omega) (by omega) (v := v1) (hv1) (fun r809 => ?_)
        refine wa_goto ⟨_, rfl⟩ ?_
        refine wa_lstore (n := 6) rfl ?_
        refine wa_aload_n (n := 0) rfl ?_
        refine wb_gfi 237 rfl (wy_pr rfl) wt_237 wf_15_176 (v := es) (h76) (fun r810 => ?_)
        refine wa_ifle (w_rg0 (by omega) (by omega)) ⟨_, rfl⟩ (fun c811 => ?_) (fun c811 => ?_)
        · skip
          exact absurd c811 (by omega)
        · skip
          refine wa_aload_n (n := 0) rfl ?_
          refine wb_gf4 237 rfl (wy_pr rfl) wt_237 wf_15_138 (v := 363) wl_237_138 ?_
          refine wa_aload_n (n := 0) rfl ?_
          refine wb_gfi 237 rfl (wy_pr rfl) wt_237 wf_15_173 (v := ((2100 * t) + ba)) (h73) (fun r812 => ?_)
          refine wa_iconst ?_
          refine wa_iadd ?_
          refine wb_iald 363 rfl (wy_pr rfl) wt_363 (n := 4200) ((ml_363 hM)) (by omega) (by omega) (v := k1) (hk1) (fun r813 => ?_)
          refine wa_iconst ?_
          refine wa_icmpne (w_rg0 (by omega) (by omega)) (w_rg0 (by omega) (by omega)) ⟨_, rfl⟩ (fun c814 => ?_) (fun c814 => ?_)
          · skip
            refine wa_iconst ?_
            refine wa_fall ⟨_, rfl⟩ ?_
            refine wa_istore (n := 8) rfl ?_
            refine wa_iload_n (n := 2) rfl ?_
            refine wa_ifne (w_rg0 (by omega) (by omega)) ⟨_, rfl⟩ (fun c815 => ?_) (fun c815 => ?_)
            · skip
              refine wa_iload_n (n := 2) rfl ?_
              refine wa_iconst ?_
              refine wa_icmpne (w_rg0 (by omega) (by omega)) (w_rg0 (by omega) (by omega)) ⟨_, rfl⟩ (fun c816 => ?_) (fun c816 => ?_)
              · skip
                exact absurd c816 (by omega)
              · skip
                refine wa_iload (n := 8) rfl ?_
                refine wa_ifeq (w_rg0 (by omega) (by omega)) ⟨_, rfl⟩ (fun c817 => ?_) (fun c817 => ?_)
                · skip
                  refine wa_aload_n (n := 0) rfl ?_
                  refine wa_bipush (w_rg2 (by omega) (by omega)) ?_
                  refine wa_cv 237 rfl (wy_pr rfl) wt_237 (M2 := fun _ => False) rfl at_M_error ⟨_, rfl⟩ rfl rfl ⟨trivial, trivial, trivial, trivial, trivial, (Or.inr ⟨wy_pr rfl, fun q => q⟩), trivial, trivial, trivial⟩ trivial (fun _ _ q => False.elim q) ?_ (fun _ _ _ q => q)
                  refine wa_aload_n (n := 0) rfl ?_
                  refine wb_gf4 237 rfl (wy_pr rfl) wt_237 wf_15_1 (v := 238) wl_237_1 ?_
                  refine wa_iload_n (n := 1) rfl ?_
                  refine wa_iconst ?_
                  refine wa_cv 238 rfl (wy_pr rfl) wt_238 (M2 := fun _ => False) rfl at_MH_of ⟨_, rfl⟩ rfl rfl ⟨(Or.inr ⟨wy_pr rfl, fun q => q⟩), trivial, trivial⟩ trivial (fun _ _ q => False.elim q) ?_ (fun _ _ _ q => q)
                  refine wa_aload_n (n := 0) rfl ?_
                  refine wa_iload_n (n := 1) rfl ?_
                  refine wb_pfi 238 rfl (wy_pr rfl) wt_238 wf_11_5 (n := 5) rfl ⟨(by omega), (by omega)⟩ ?_
                  refine wa_aload_n (n := 0) rfl ?_
                  refine wa_iload_n (n := 2) rfl ?_
                  refine wb_pfi 238 rfl (wy_pr rfl) wt_238 wf_11_6 (n := 6) rfl ⟨(by omega), (by omega)⟩ ?_
                  refine wa_aload_n (n := 0) rfl ?_
                  refine wa_oreturn rfl ?_
                  show wJ _ _ _ _ _ _ _ _ _ _
                  refine wa_th (j := 238) ?_
                  refine ⟨rfl, ?_⟩
                  exact Or.inl ⟨by omega, rfl, rfl⟩
                · skip
                  exact absurd c817 (by omega)
            · skip
              exact absurd c815 (by omega)
          · skip
            refine wa_iconst ?_
            refine wa_goto ⟨_, rfl⟩ ?_
            refine wa_istore (n := 8) rfl ?_
            refine wa_iload_n (n := 2) rfl ?_
            refine wa_ifne (w_rg0 (by omega) (by omega)) ⟨_, rfl⟩ (fun c818 => ?_) (fun c818 => ?_)
            · skip
              refine wa_iload_n (n := 2) rfl ?_
              refine wa_iconst ?_
              refine wa_icmpne (w_rg0 (by omega) (by omega)) (w_rg0 (by omega) (by omega)) ⟨_, rfl⟩ (fun c819 => ?_) (fun c819 => ?_)
              · skip
                exact absurd c819 (by omega)
              · skip
                refine wa_iload (n := 8) rfl ?_
                refine wa_ifeq (w_rg0 (by omega) (by omega)) ⟨_, rfl⟩ (fun c820 => ?_) (fun c820 => ?_)
                · skip
                  exact absurd c820 (by omega)
                · skip
                  refine wa_lload (n := 6) rfl ?_
                  refine wb_lconst (m := 0) rfl ?_
                  refine wa_iload (n := 5) rfl ?_
                  refine wa_iconst ?_
                  refine wa_isub ?_
                  refine wa_i2l (w_rg0 (by omega) (by omega)) ?_
                  refine wa_cs (M2 := fun _ => False) rfl at_M_in ⟨_, rfl⟩ rfl rfl ⟨trivial, trivial, trivial, trivial, trivial, (Or.inr ⟨wy_pr rfl, fun q => q⟩), trivial, trivial, trivial⟩ trivial (fun _ _ q => False.elim q) ?_ (fun _ _ _ q => q)
                  refine wa_lload_n (n := 0) rfl ?_
                  refine wa_lload_n (n := 2) rfl ?_
                  refine wa_lcmp (w_rg1 (by omega) (by omega)) (w_rg1 (by omega) (by omega)) ?_
                  refine wa_iflt (by have := @wb_lcmp_cases; exact w_lcmp_rg) ⟨_, rfl⟩ (fun c821 => ?_) (fun c821 => ?_)
                  · skip
                    have c821x := @wb_lcmp_cases v1 0
                    refine wa_iconst ?_
                    refine wa_fall ⟨_, rfl⟩ ?_
                    refine wa_zreturn rfl (Or.inl rfl) ?_
                    show wJ _ _ _ _ _ _ _ _ _ _
                    refine wa_ifne (w_rg0 (by omega) (by omega)) ⟨_, rfl⟩ (fun c822 => ?_) (fun c822 => ?_)
                    · skip
                      exact absurd c822 (by omega)
                    · skip
                      refine wa_fall ⟨_, rfl⟩ ?_
                      refine wa_aload_n (n := 0) rfl ?_
                      refine wa_bipush (w_rg2 (by omega) (by omega)) ?_
                      refine wa_cv 237 rfl (wy_pr rfl) wt_237 (M2 := fun _ => False) rfl at_M_error ⟨_, rfl⟩ rfl rfl ⟨trivial, trivial, trivial, trivial, trivial, (Or.inr ⟨wy_pr rfl, fun q => q⟩), trivial, trivial, trivial⟩ trivial (fun _ _ q => False.elim q) ?_ (fun _ _ _ q => q)
                      refine wa_aload_n (n := 0) rfl ?_
                      refine wb_gf4 237 rfl (wy_pr rfl) wt_237 wf_15_1 (v := 238) wl_237_1 ?_
                      refine wa_iload_n (n := 1) rfl ?_
                      refine wa_iconst ?_
                      refine wa_cv 238 rfl (wy_pr rfl) wt_238 (M2 := fun _ => False) rfl at_MH_of ⟨_, rfl⟩ rfl rfl ⟨(Or.inr ⟨wy_pr rfl, fun q => q⟩), trivial, trivial⟩ trivial (fun _ _ q => False.elim q) ?_ (fun _ _ _ q => q)
                      refine wa_aload_n (n := 0) rfl ?_
                      refine wa_iload_n (n := 1) rfl ?_
                      refine wb_pfi 238 rfl (wy_pr rfl) wt_238 wf_11_5 (n := 5) rfl ⟨(by omega), (by omega)⟩ ?_
                      refine wa_aload_n (n := 0) rfl ?_
                      refine wa_iload_n (n := 2) rfl ?_
                      refine wb_pfi 238 rfl (wy_pr rfl) wt_238 wf_11_6 (n := 6) rfl ⟨(by omega), (by omega)⟩ ?_
                      refine wa_aload_n (n := 0) rfl ?_
                      refine wa_oreturn rfl ?_
                      show wJ _ _ _ _ _ _ _ _ _ _
                      refine wa_th (j := 238) ?_
                      refine ⟨rfl, ?_⟩
                      exact Or.inl ⟨by omega, rfl, rfl⟩
                  · skip
                    have c821x := @wb_lcmp_cases v1 0
                    refine wa_lload_n (n := 0) rfl ?_
                    refine wa_lload (n := 4) rfl ?_
                    refine wa_lcmp (w_rg1 (by omega) (by omega)) (w_rg1 (by omega) (by omega)) ?_
                    refine wa_ifgt (by have := @wb_lcmp_cases; exact w_lcmp_rg) ⟨_, rfl⟩ (fun c823 => ?_) (fun c823 => ?_)
                    · skip
                      have c823x := @wb_lcmp_cases v1 (ln - 1)
                      refine wa_iconst ?_
                      refine wa_fall ⟨_, rfl⟩ ?_
                      refine wa_zreturn rfl (Or.inl rfl) ?_
                      show wJ _ _ _ _ _ _ _ _ _ _
                      refine wa_ifne (w_rg0 (by omega) (by omega)) ⟨_, rfl⟩ (fun c824 => ?_) (fun c824 => ?_)
                      · skip
                        exact absurd c824 (by omega)
                      · skip
                        refine wa_fall ⟨_, rfl⟩ ?_
                        refine wa_aload_n (n := 0) rfl ?_
                        refine wa_bipush (w_rg2 (by omega) (by omega)) ?_
                        refine wa_cv 237 rfl (wy_pr rfl) wt_237 (M2 := fun _ => False) rfl at_M_error ⟨_, rfl⟩ rfl rfl ⟨trivial, trivial, trivial, trivial, trivial, (Or.inr ⟨wy_pr rfl, fun q => q⟩), trivial, trivial, trivial⟩ trivial (fun _ _ q => False.elim q) ?_ (fun _ _ _ q => q)
                        refine wa_aload_n (n := 0) rfl ?_
                        refine wb_gf4 237 rfl (wy_pr rfl) wt_237 wf_15_1 (v := 238) wl_237_1 ?_
                        refine wa_iload_n (n := 1) rfl ?_
                        refine wa_iconst ?_
                        refine wa_cv 238 rfl (wy_pr rfl) wt_238 (M2 := fun _ => False) rfl at_MH_of ⟨_, rfl⟩ rfl rfl ⟨(Or.inr ⟨wy_pr rfl, fun q => q⟩), trivial, trivial⟩ trivial (fun _ _ q => False.elim q) ?_ (fun _ _ _ q => q)
                        refine wa_aload_n (n := 0) rfl ?_
                        refine wa_iload_n (n := 1) rfl ?_
                        refine wb_pfi 238 rfl (wy_pr rfl) wt_238 wf_11_5 (n := 5) rfl ⟨(by omega), (by omega)⟩ ?_
                        refine wa_aload_n (n := 0) rfl ?_
                        refine wa_iload_n (n := 2) rfl ?_
                        refine wb_pfi 238 rfl (wy_pr rfl) wt_238 wf_11_6 (n := 6) rfl ⟨(by omega), (by omega)⟩ ?_
                        refine wa_aload_n (n := 0) rfl ?_
                        refine wa_oreturn rfl ?_
                        show wJ _ _ _ _ _ _ _ _ _ _
                        refine wa_th (j := 238) ?_
                        refine ⟨rfl, ?_⟩
                        exact Or.inl ⟨by omega, rfl, rfl⟩
                    · skip
                      have c823x := @wb_lcmp_cases v1 (ln - 1)
                      refine wa_iconst ?_
                      refine wa_goto ⟨_, rfl⟩ ?_
                      refine wa_zreturn rfl (Or.inr rfl) ?_
                      show wJ _ _ _ _ _ _ _ _ _ _
                      refine wa_ifne (w_rg0 (by omega) (by omega)) ⟨_, rfl⟩ (fun c825 => ?_) (fun c825 => ?_)
                      · skip
                        refine wa_iload (n := 4) rfl ?_
                        refine wa_ifeq (w_rg0 (by omega) (by omega)) ⟨_, rfl⟩ (fun c826 => ?_) (fun c826 => ?_)
                        · skip
                          refine wa_aload_n (n := 0) rfl ?_
                          refine wa_iload_n (n := 3) rfl ?_
                          refine wa_lload (n := 6) rfl ?_
                          refine wa_lload (n := 6) rfl ?_
                          refine wb_lconst (m := 1) rfl ?_
                          refine wa_ladd ?_
                          refine wa_cv 237 rfl (wy_pr rfl) wt_237 (M2 := fun _ => False) rfl at_M_sub ⟨_, rfl⟩ rfl rfl ⟨trivial, trivial, trivial, trivial, trivial, (Or.inr ⟨wy_pr rfl, fun q => q⟩), trivial, trivial, trivial⟩ trivial (fun _ _ q => False.elim q) (sbt_okL (S := S) (a := v1) (b := (v1 + 1)) (u2 := u2) (u3 := u3) hP0 h73 hba hgb h84 h85 hln hgm h102 h103 h64 h65 hm hbt hu2 hu3 hl6 ⟨by omega, by omega, by omega⟩) (fun oq827 Sq827 hp828 q827 => ?_)
                          rcases q827 with ⟨hr1, rfl, rfl⟩ | ⟨hr1, hr2, rfl, SA, hsA, rfl⟩
                          · skip
                            refine ⟨rfl, ?_⟩
                            exact Or.inr (Or.inl ⟨by omega, by omega, rfl, rfl⟩)
                          · skip
                            show wJ _ _ _ _ _ _ _ _ _ _
                            refine wa_goto ⟨_, rfl⟩ ?_
                            refine wa_return rfl ?_
                            exact Or.inr (Or.inr ⟨by omega, by omega, by omega, rfl, SA, hsA, rfl⟩)
                        · skip
                          exact absurd c826 (by omega)
                      · skip
                        exact absurd c825 (by omega)
            · skip
              exact absurd c818 (by omega)
    · skip
      exact absurd c804 (by omega)
  · skip
    exact absurd c803 (by omega)
set_option maxHeartbeats 4000000 in
theorem rtb_okL (hP : mP t c p h tp S) (h73 : S 237 173 = 2100 * t + ba) (hba : 0 ≤ ba ∧ ba ≤ h) (h74 : S 237 174 = 3) (h75 : S 237 175 = gb) (h76 : S 237 176 = es) (hgb : 0 ≤ gb ∧ gb < 16000) (h84 : S 284 gb = pf) (h85 : S 285 gb = ln) (hln : 0 ≤ pf ∧ 0 ≤ ln ∧ pf + ln ≤ 69632 + bt) (hgm : gb ≠ 4000 + m) (h102 : S 237 102 = m) (h103 : S 237 103 = bt) (h64 : S 237 64 = u2) (h65 : S 237 65 = u3) (hm : 0 ≤ m ∧ m ≤ u2) (hbt : 0 ≤ bt ∧ bt ≤ u3) (hu2 : u2 ≤ 12000) (hu3 : u3 ≤ 200000) (hl6 : ln ≤ 300000) (hk1 : S 363 (2100 * t + ba + 1) = k1) (hv1 : S 364 (2100 * t + ba + 1) = v1) (hk1r : 0 ≤ k1 ∧ k1 ≤ 8) (hv1r : -9223372036854775808 ≤ v1 ∧ v1 ≤ 9223372036854775807) (hkl : S 363 (2100 * t + ba + 2) = kl) (hvl : S 364 (2100 * t + ba + 2) = vl) (hklr : 0 ≤ kl ∧ kl ≤ 8) (hvlr : -9223372036854775808 ≤ vl ∧ vl ≤ 9223372036854775807) (hkd : kd = 5) (hes : es = 2) : wJ (pe_GA xs) wY0 M (d + 8) t_M_actsOnRow ((pe_at t_M_actsOnRow.bl 0).getD (0, [])).2 [(0, (2, 237)), (1, (0, s)), (2, (0, kd))] [] S (fun o Z => (¬ (k1 = 2 ∧ kl = 2 ∧ 0 ≤ v1 ∧ v1 ≤ vl ∧ vl ≤ ln) ∧ o = .inr 238 ∧ hZ 6 S = Z) ∨ ((k1 = 2 ∧ kl = 2 ∧ 0 ≤ v1 ∧ v1 ≤ vl ∧ vl ≤ ln) ∧ (12000 ≤ u2 ∨ 200000 < u3 + (vl - v1)) ∧ o = .inr 238 ∧ hZ 99 S = Z) ∨ ((k1 = 2 ∧ kl = 2 ∧ 0 ≤ v1 ∧ v1 ≤ vl ∧ vl ≤ ln) ∧ u2 < 12000 ∧ u3 + (vl - v1) ≤ 200000 ∧ o = .inl none ∧ ∃ A : wS, sbQ (pf + v1) (vl - v1) m bt u2 u3 S A ∧ gvZ t ba tp p 3 (4000 + m) A = Z)) := by
  have hP0 := hP
  obtain ⟨hM, ⟨mt, mt0, mt1⟩, mp, mf, ⟨mc, mc0, mc1⟩, ⟨mtp, mtq⟩, ⟨mpa, mp0, mp1⟩, mh, mh0, mh1⟩ := hP
  refine wa_aload_n (n := 0) rfl ?_
  refine wb_gfl 237 rfl (wy_pr rfl) wt_237 wf_15_175 (v := gb) (h75) (fun r801 => ?_)
  refine wb_l2i_r (wb_l2i_id ⟨(by omega), (by omega)⟩) ?_
  refine wa_istore_n (n := 3) rfl ?_
  refine wa_aload_n (n := 0) rfl ?_
  refine wb_gfi 237 rfl (wy_pr rfl) wt_237 wf_15_174 (v := 3) (h74) (fun r802 => ?_)
  refine wa_bipush (w_rg2 (by omega) (by omega)) ?_
  refine wa_icmpne (w_rg0 (by omega) (by omega)) (w_rg0 (by omega) (by omega)) ⟨_, rfl⟩ (fun c803 => ?_) (fun c803 => ?_)
  · skip
    refine wa_iconst ?_
    refine wa_fall ⟨_, rfl⟩ ?_
    refine wa_istore (n := 4) rfl ?_
    refine wa_iload (n := 4) rfl ?_
    refine wa_ifeq (w_rg0 (by omega) (by omega)) ⟨_, rfl⟩ (fun c804 => ?_) (fun c804 => ?_)
    · skip
      refine wa_aload_n (n := 0) rfl ?_
      refine wb_gf4 237 rfl (wy_pr rfl) wt_237 wf_15_23 (v := 285) wl_237_23 ?_
      refine wa_iload_n (n := 3) rfl ?_
      refine wb_iald 285 rfl (wy_pr rfl) wt_285 (n := 16000) ((ml_285 hM)) (by omega) (by omega) (v := ln) (h85) (fun r805 => ?_)
      refine wa_fall ⟨_, rfl⟩ ?_
      refine wa_istore (n := 5) rfl ?_
      refine wa_aload_n (n := 0) rfl ?_
      refine wb_gfi 237 rfl (wy_pr rfl) wt_237 wf_15_176 (v := es) (h76) (fun r806 => ?_)
      refine wa_ifle (w_rg0 (by omega) (by omega)) ⟨_, rfl⟩ (fun c807 => ?_) (fun c807 => ?_)
      · skip
        exact absurd c807 (by omega)
      · skip
        refine wa_aload_n (n := 0) rfl ?_
        refine wb_gf4 237 rfl (wy_pr rfl) wt_237 wf_15_139 (v := 364) wl_237_139 ?_
        refine wa_aload_n (n := 0) rfl ?_
        refine wb_gfi 237 rfl (wy_pr rfl) wt_237 wf_15_173 (v := ((2100 * t) + ba)) (h73) (fun r808 => ?_)
        refine wa_iconst ?_
        refine wa_iadd ?_
        refine wb_lald 364 rfl (wy_pr rfl) wt_364 (n := 4200) ((ml_364 hM)) (by omega) (by omega) (v := v1) (hv1) (fun r809 => ?_)
        refine wa_goto ⟨_, rfl⟩ ?_
        refine wa_lstore (n := 6) rfl ?_
        refine wa_aload_n (n := 0) rfl ?_
        refine wb_gfi 237 rfl (wy_pr rfl) wt_237 wf_15_176 (v := es) (h76) (fun r810 => ?_)
        refine wa_ifle (w_rg0 (by omega) (by omega)) ⟨_, rfl⟩ (fun c811 => ?_) (fun c811 => ?_)
        · skip
          exact absurd c811 (by omega)
        · skip
          refine wa_aload_n (n := 0) rfl ?_
          refine wb_gf4 237 rfl (wy_pr rfl) wt_237 wf_15_138 (v := 363) wl_237_138 ?_
          refine wa_aload_n (n := 0) rfl ?_
          refine wb_gfi 237 rfl (wy_pr rfl) wt_237 wf_15_173 (v := ((2100 * t) + ba)) (h73) (fun r812 => ?_)
          refine wa_iconst ?_
          refine wa_iadd ?_
          refine wb_iald 363 rfl (wy_pr rfl) wt_363 (n := 4200) ((ml_363 hM)) (by omega) (by omega) (v := k1) (hk1) (fun r813 => ?_)
          refine wa_iconst ?_
          refine wa_icmpne (w_rg0 (by omega) (by omega)) (w_rg0 (by omega) (by omega)) ⟨_, rfl⟩ (fun c814 => ?_) (fun c814 => ?_)
          · skip
            refine wa_iconst ?_
            refine wa_fall ⟨_, rfl⟩ ?_
            refine wa_istore (n := 8) rfl ?_
            refine wa_iload_n (n := 2) rfl ?_
            refine wa_ifne (w_rg0 (by omega) (by omega)) ⟨_, rfl⟩ (fun c815 => ?_) (fun c815 => ?_)
            · skip
              refine wa_iload_n (n := 2) rfl ?_
              refine wa_iconst ?_
              refine wa_icmpne (w_rg0 (by omega) (by omega)) (w_rg0 (by omega) (by omega)) ⟨_, rfl⟩ (fun c816 => ?_) (fun c816 => ?_)
              · skip
                refine wa_iload_n (n := 2) rfl ?_
                refine wa_iconst ?_
                refine wa_icmpne (w_rg0 (by omega) (by omega)) (w_rg0 (by omega) (by omega)) ⟨_, rfl⟩ (fun c817 => ?_) (fun c817 => ?_)
                · skip
                  refine wa_iload (n := 4) rfl ?_
                  refine wa_ifeq (w_rg0 (by omega) (by omega)) ⟨_, rfl⟩ (fun c818 => ?_) (fun c818 => ?_)
                  · skip
                    refine wa_iload (n := 8) rfl ?_
                    refine wa_ifeq (w_rg0 (by omega) (by omega)) ⟨_, rfl⟩ (fun c819 => ?_) (fun c819 => ?_)
                    · skip
                      refine wa_iconst ?_
                      refine wa_fall ⟨_, rfl⟩ ?_
                      refine wa_istore (n := 9) rfl ?_
                      refine wa_iload (n := 9) rfl ?_
                      refine wa_ifne (w_rg0 (by omega) (by omega)) ⟨_, rfl⟩ (fun c820 => ?_) (fun c820 => ?_)
                      · skip
                        exact absurd c820 (by omega)
                      · skip
                        refine wa_aload_n (n := 0) rfl ?_
                        refine wa_bipush (w_rg2 (by omega) (by omega)) ?_
                        refine wa_cv 237 rfl (wy_pr rfl) wt_237 (M2 := fun _ => False) rfl at_M_error ⟨_, rfl⟩ rfl rfl ⟨trivial, trivial, trivial, trivial, trivial, trivial, (Or.inr ⟨wy_pr rfl, fun q => q⟩), trivial, trivial, trivial⟩ trivial (fun _ _ q => False.elim q) ?_ (fun _ _ _ q => q)
                        refine wa_aload_n (n := 0) rfl ?_
                        refine wb_gf4 237 rfl (wy_pr rfl) wt_237 wf_15_1 (v := 238) wl_237_1 ?_
                        refine wa_iload_n (n := 1) rfl ?_
                        refine wa_iconst ?_
                        refine wa_cv 238 rfl (wy_pr rfl) wt_238 (M2 := fun _ => False) rfl at_MH_of ⟨_, rfl⟩ rfl rfl ⟨(Or.inr ⟨wy_pr rfl, fun q => q⟩), trivial, trivial⟩ trivial (fun _ _ q => False.elim q) ?_ (fun _ _ _ q => q)
                        refine wa_aload_n (n := 0) rfl ?_
                        refine wa_iload_n (n := 1) rfl ?_
                        refine wb_pfi 238 rfl (wy_pr rfl) wt_238 wf_11_5 (n := 5) rfl ⟨(by omega), (by omega)⟩ ?_
                        refine wa_aload_n (n := 0) rfl ?_
                        refine wa_iload_n (n := 2) rfl ?_
                        refine wb_pfi 238 rfl (wy_pr rfl) wt_238 wf_11_6 (n := 6) rfl ⟨(by omega), (by omega)⟩ ?_
                        refine wa_aload_n (n := 0) rfl ?_
                        refine wa_oreturn rfl ?_
                        show wJ _ _ _ _ _ _ _ _ _ _
                        refine wa_th (j := 238) ?_
                        refine ⟨rfl, ?_⟩
                        exact Or.inl ⟨by omega, rfl, rfl⟩
                    · skip
                      exact absurd c819 (by omega)
                  · skip
                    exact absurd c818 (by omega)
                · skip
                  exact absurd c817 (by omega)
              · skip
                exact absurd c816 (by omega)
            · skip
              exact absurd c815 (by omega)
          · skip
            refine wa_iconst ?_
            refine wa_goto ⟨_, rfl⟩ ?_
            refine wa_istore (n := 8) rfl ?_
            refine wa_iload_n (n := 2) rfl ?_
            refine wa_ifne (w_rg0 (by omega) (by omega)) ⟨_, rfl⟩ (fun c821 => ?_) (fun c821 => ?_)
            · skip
              refine wa_iload_n (n := 2) rfl ?_
              refine wa_iconst ?_
              refine wa_icmpne (w_rg0 (by omega) (by omega)) (w_rg0 (by omega) (by omega)) ⟨_, rfl⟩ (fun c822 => ?_) (fun c822 => ?_)
              · skip
                refine wa_iload_n (n := 2) rfl ?_
                refine wa_iconst ?_
                refine wa_icmpne (w_rg0 (by omega) (by omega)) (w_rg0 (by omega) (by omega)) ⟨_, rfl⟩ (fun c823 => ?_) (fun c823 => ?_)
                · skip
                  refine wa_iload (n := 4) rfl ?_
                  refine wa_ifeq (w_rg0 (by omega) (by omega)) ⟨_, rfl⟩ (fun c824 => ?_) (fun c824 => ?_)
                  · skip
                    refine wa_iload (n := 8) rfl ?_
                    refine wa_ifeq (w_rg0 (by omega) (by omega)) ⟨_, rfl⟩ (fun c825 => ?_) (fun c825 => ?_)
                    · skip
                      exact absurd c825 (by omega)
                    · skip
                      refine wa_aload_n (n := 0) rfl ?_
                      refine wb_gf4 237 rfl (wy_pr rfl) wt_237 wf_15_138 (v := 363) wl_237_138 ?_
                      refine wa_aload_n (n := 0) rfl ?_
                      refine wb_gfi 237 rfl (wy_pr rfl) wt_237 wf_15_173 (v := ((2100 * t) + ba)) (h73) (fun r826 => ?_)
                      refine wa_iconst ?_
                      refine wa_iadd ?_
                      refine wb_iald 363 rfl (wy_pr rfl) wt_363 (n := 4200) ((ml_363 hM)) (by omega) (by omega) (v := kl) (hkl) (fun r827 => ?_)
                      refine wa_iconst ?_
                      refine wa_icmpne (w_rg0 (by omega) (by omega)) (w_rg0 (by omega) (by omega)) ⟨_, rfl⟩ (fun c828 => ?_) (fun c828 => ?_)
                      · skip
                        refine wa_iconst ?_
                        refine wa_fall ⟨_, rfl⟩ ?_
                        refine wa_istore (n := 9) rfl ?_
                        refine wa_iload (n := 9) rfl ?_
                        refine wa_ifne (w_rg0 (by omega) (by omega)) ⟨_, rfl⟩ (fun c829 => ?_) (fun c829 => ?_)
                        · skip
                          exact absurd c829 (by omega)
                        · skip
                          refine wa_aload_n (n := 0) rfl ?_
                          refine wa_bipush (w_rg2 (by omega) (by omega)) ?_
                          refine wa_cv 237 rfl (wy_pr rfl) wt_237 (M2 := fun _ => False) rfl at_M_error ⟨_, rfl⟩ rfl rfl ⟨trivial, trivial, trivial, trivial, trivial, trivial, (Or.inr ⟨wy_pr rfl, fun q => q⟩), trivial, trivial, trivial⟩ trivial (fun _ _ q => False.elim q) ?_ (fun _ _ _ q => q)
                          refine wa_aload_n (n := 0) rfl ?_
                          refine wb_gf4 237 rfl (wy_pr rfl) wt_237 wf_15_1 (v := 238) wl_237_1 ?_
                          refine wa_iload_n (n := 1) rfl ?_
                          refine wa_iconst ?_
                          refine wa_cv 238 rfl (wy_pr rfl) wt_238 (M2 := fun _ => False) rfl at_MH_of ⟨_, rfl⟩ rfl rfl ⟨(Or.inr ⟨wy_pr rfl, fun q => q⟩), trivial, trivial⟩ trivial (fun _ _ q => False.elim q) ?_ (fun _ _ _ q => q)
                          refine wa_aload_n (n := 0) rfl ?_
                          refine wa_iload_n (n := 1) rfl ?_
                          refine wb_pfi 238 rfl (wy_pr rfl) wt_238 wf_11_5 (n := 5) rfl ⟨(by omega), (by omega)⟩ ?_
                          refine wa_aload_n (n := 0) rfl ?_
                          refine wa_iload_n (n := 2) rfl ?_
                          refine wb_pfi 238 rfl (wy_pr rfl) wt_238 wf_11_6 (n := 6) rfl ⟨(by omega), (by omega)⟩ ?_
                          refine wa_aload_n (n := 0) rfl ?_
                          refine wa_oreturn rfl ?_
                          show wJ _ _ _ _ _ _ _ _ _ _
                          refine wa_th (j := 238) ?_
                          refine ⟨rfl, ?_⟩
                          exact Or.inl ⟨by omega, rfl, rfl⟩
                      · skip
                        refine wa_lload (n := 6) rfl ?_
                        refine wb_lconst (m := 0) rfl ?_
                        refine wa_iload (n := 5) rfl ?_
                        refine wa_i2l (w_rg0 (by omega) (by omega)) ?_
                        refine wa_cs (M2 := fun _ => False) rfl at_M_in ⟨_, rfl⟩ rfl rfl ⟨trivial, trivial, trivial, trivial, trivial, (Or.inr ⟨wy_pr rfl, fun q => q⟩), trivial, trivial, trivial⟩ trivial (fun _ _ q => False.elim q) ?_ (fun _ _ _ q => q)
                        refine wa_lload_n (n := 0) rfl ?_
                        refine wa_lload_n (n := 2) rfl ?_
                        refine wa_lcmp (w_rg1 (by omega) (by omega)) (w_rg1 (by omega) (by omega)) ?_
                        refine wa_iflt (by have := @wb_lcmp_cases; exact w_lcmp_rg) ⟨_, rfl⟩ (fun c830 => ?_) (fun c830 => ?_)
                        · skip
                          have c830x := @wb_lcmp_cases v1 0
                          refine wa_iconst ?_
                          refine wa_fall ⟨_, rfl⟩ ?_
                          refine wa_zreturn rfl (Or.inl rfl) ?_
                          show wJ _ _ _ _ _ _ _ _ _ _
                          refine wa_ifeq (w_rg0 (by omega) (by omega)) ⟨_, rfl⟩ (fun c831 => ?_) (fun c831 => ?_)
                          · skip
                            refine wa_iconst ?_
                            refine wa_fall ⟨_, rfl⟩ ?_
                            refine wa_istore (n := 9) rfl ?_
                            refine wa_iload (n := 9) rfl ?_
                            refine wa_ifne (w_rg0 (by omega) (by omega)) ⟨_, rfl⟩ (fun c832 => ?_) (fun c832 => ?_)
                            · skip
                              exact absurd c832 (by omega)
                            · skip
                              refine wa_aload_n (n := 0) rfl ?_
                              refine wa_bipush (w_rg2 (by omega) (by omega)) ?_
                              refine wa_cv 237 rfl (wy_pr rfl) wt_237 (M2 := fun _ => False) rfl at_M_error ⟨_, rfl⟩ rfl rfl ⟨trivial, trivial, trivial, trivial, trivial, trivial, (Or.inr ⟨wy_pr rfl, fun q => q⟩), trivial, trivial, trivial⟩ trivial (fun _ _ q => False.elim q) ?_ (fun _ _ _ q => q)
                              refine wa_aload_n (n := 0) rfl ?_
                              refine wb_gf4 237 rfl (wy_pr rfl) wt_237 wf_15_1 (v := 238) wl_237_1 ?_
                              refine wa_iload_n (n := 1) rfl ?_
                              refine wa_iconst ?_
                              refine wa_cv 238 rfl (wy_pr rfl) wt_238 (M2 := fun _ => False) rfl at_MH_of ⟨_, rfl⟩ rfl rfl ⟨(Or.inr ⟨wy_pr rfl, fun q => q⟩), trivial, trivial⟩ trivial (fun _ _ q => False.elim q) ?_ (fun _ _ _ q => q)
                              refine wa_aload_n (n := 0) rfl ?_
                              refine wa_iload_n (n := 1) rfl ?_
                              refine wb_pfi 238 rfl (wy_pr rfl) wt_238 wf_11_5 (n := 5) rfl ⟨(by omega), (by omega)⟩ ?_
                              refine wa_aload_n (n := 0) rfl ?_
                              refine wa_iload_n (n := 2) rfl ?_
                              refine wb_pfi 238 rfl (wy_pr rfl) wt_238 wf_11_6 (n := 6) rfl ⟨(by omega), (by omega)⟩ ?_
                              refine wa_aload_n (n := 0) rfl ?_
                              refine wa_oreturn rfl ?_
                              show wJ _ _ _ _ _ _ _ _ _ _
                              refine wa_th (j := 238) ?_
                              refine ⟨rfl, ?_⟩
                              exact Or.inl ⟨by omega, rfl, rfl⟩
                          · skip
                            exact absurd c831 (by omega)
                        · skip
                          have c830x := @wb_lcmp_cases v1 0
                          refine wa_lload_n (n := 0) rfl ?_
                          refine wa_lload (n := 4) rfl ?_
                          refine wa_lcmp (w_rg1 (by omega) (by omega)) (w_rg1 (by omega) (by omega)) ?_
                          refine wa_ifgt (by have := @wb_lcmp_cases; exact w_lcmp_rg) ⟨_, rfl⟩ (fun c833 => ?_) (fun c833 => ?_)
                          · skip
                            have c833x := @wb_lcmp_cases v1 ln
                            refine wa_iconst ?_
                            refine wa_fall ⟨_, rfl⟩ ?_
                            refine wa_zreturn rfl (Or.inl rfl) ?_
                            show wJ _ _ _ _ _ _ _ _ _ _
                            refine wa_ifeq (w_rg0 (by omega) (by omega)) ⟨_, rfl⟩ (fun c834 => ?_) (fun c834 => ?_)
                            · skip
                              refine wa_iconst ?_
                              refine wa_fall ⟨_, rfl⟩ ?_
                              refine wa_istore (n := 9) rfl ?_
                              refine wa_iload (n := 9) rfl ?_
                              refine wa_ifne (w_rg0 (by omega) (by omega)) ⟨_, rfl⟩ (fun c835 => ?_) (fun c835 => ?_)
                              · skip
                                exact absurd c835 (by omega)
                              · skip
                                refine wa_aload_n (n := 0) rfl ?_
                                refine wa_bipush (w_rg2 (by omega) (by omega)) ?_
                                refine wa_cv 237 rfl (wy_pr rfl) wt_237 (M2 := fun _ => False) rfl at_M_error ⟨_, rfl⟩ rfl rfl ⟨trivial, trivial, trivial, trivial, trivial, trivial, (Or.inr ⟨wy_pr rfl, fun q => q⟩), trivial, trivial, trivial⟩ trivial (fun _ _ q => False.elim q) ?_ (fun _ _ _ q => q)
                                refine wa_aload_n (n := 0) rfl ?_
                                refine wb_gf4 237 rfl (wy_pr rfl) wt_237 wf_15_1 (v := 238) wl_237_1 ?_
                                refine wa_iload_n (n := 1) rfl ?_
                                refine wa_iconst ?_
                                refine wa_cv 238 rfl (wy_pr rfl) wt_238 (M2 := fun _ => False) rfl at_MH_of ⟨_, rfl⟩ rfl rfl ⟨(Or.inr ⟨wy_pr rfl, fun q => q⟩), trivial, trivial⟩ trivial (fun _ _ q => False.elim q) ?_ (fun _ _ _ q => q)
                                refine wa_aload_n (n := 0) rfl ?_
                                refine wa_iload_n (n := 1) rfl ?_
                                refine wb_pfi 238 rfl (wy_pr rfl) wt_238 wf_11_5 (n := 5) rfl ⟨(by omega), (by omega)⟩ ?_
                                refine wa_aload_n (n := 0) rfl ?_
                                refine wa_iload_n (n := 2) rfl ?_
                                refine wb_pfi 238 rfl (wy_pr rfl) wt_238 wf_11_6 (n := 6) rfl ⟨(by omega), (by omega)⟩ ?_
                                refine wa_aload_n (n := 0) rfl ?_
                                refine wa_oreturn rfl ?_
                                show wJ _ _ _ _ _ _ _ _ _ _
                                refine wa_th (j := 238) ?_
                                refine ⟨rfl, ?_⟩
                                exact Or.inl ⟨by omega, rfl, rfl⟩
                            · skip
                              exact absurd c834 (by omega)
                          · skip
                            have c833x := @wb_lcmp_cases v1 ln
                            refine wa_iconst ?_
                            refine wa_goto ⟨_, rfl⟩ ?_
                            refine wa_zreturn rfl (Or.inr rfl) ?_
                            show wJ _ _ _ _ _ _ _ _ _ _
                            refine wa_ifeq (w_rg0 (by omega) (by omega)) ⟨_, rfl⟩ (fun c836 => ?_) (fun c836 => ?_)
                            · skip
                              exact absurd c836 (by omega)
                            · skip
                              refine wa_aload_n (n := 0) rfl ?_
                              refine wb_gf4 237 rfl (wy_pr rfl) wt_237 wf_15_139 (v := 364) wl_237_139 ?_
                              refine wa_aload_n (n := 0) rfl ?_
                              refine wb_gfi 237 rfl (wy_pr rfl) wt_237 wf_15_173 (v := ((2100 * t) + ba)) (h73) (fun r837 => ?_)
                              refine wa_iconst ?_
                              refine wa_iadd ?_
                              refine wb_lald 364 rfl (wy_pr rfl) wt_364 (n := 4200) ((ml_364 hM)) (by omega) (by omega) (v := vl) (hvl) (fun r838 => ?_)
                              refine wa_lload (n := 6) rfl ?_
                              refine wa_iload (n := 5) rfl ?_
                              refine wa_i2l (w_rg0 (by omega) (by omega)) ?_
                              refine wa_cs (M2 := fun _ => False) rfl at_M_in ⟨_, rfl⟩ rfl rfl ⟨trivial, trivial, trivial, trivial, trivial, (Or.inr ⟨wy_pr rfl, fun q => q⟩), trivial, trivial, trivial⟩ trivial (fun _ _ q => False.elim q) ?_ (fun _ _ _ q => q)
                              refine wa_lload_n (n := 0) rfl ?_
                              refine wa_lload_n (n := 2) rfl ?_
                              refine wa_lcmp (w_rg1 (by omega) (by omega)) (w_rg1 (by omega) (by omega)) ?_
                              refine wa_iflt (by have := @wb_lcmp_cases; exact w_lcmp_rg) ⟨_, rfl⟩ (fun c839 => ?_) (fun c839 => ?_)
                              · skip
                                have c839x := @wb_lcmp_cases vl v1
                                refine wa_iconst ?_
                                refine wa_fall ⟨_, rfl⟩ ?_
                                refine wa_zreturn rfl (Or.inl rfl) ?_
                                show wJ _ _ _ _ _ _ _ _ _ _
                                refine wa_ifeq (w_rg0 (by omega) (by omega)) ⟨_, rfl⟩ (fun c840 => ?_) (fun c840 => ?_)
                                · skip
                                  refine wa_iconst ?_
                                  refine wa_fall ⟨_, rfl⟩ ?_
                                  refine wa_istore (n := 9) rfl ?_
                                  refine wa_iload (n := 9) rfl ?_
                                  refine wa_ifne (w_rg0 (by omega) (by omega)) ⟨_, rfl⟩ (fun c841 => ?_) (fun c841 => ?_)
                                  · skip
                                    exact absurd c841 (by omega)
                                  · skip
                                    refine wa_aload_n (n := 0) rfl ?_
                                    refine wa_bipush (w_rg2 (by omega) (by omega)) ?_
                                    refine wa_cv 237 rfl (wy_pr rfl) wt_237 (M2 := fun _ => False) rfl at_M_error ⟨_, rfl⟩ rfl rfl ⟨trivial, trivial, trivial, trivial, trivial, trivial, (Or.inr ⟨wy_pr rfl, fun q => q⟩), trivial, trivial, trivial⟩ trivial (fun _ _ q => False.elim q) ?_ (fun _ _ _ q => q)
                                    refine wa_aload_n (n := 0) rfl ?_
                                    refine wb_gf4 237 rfl (wy_pr rfl) wt_237 wf_15_1 (v := 238) wl_237_1 ?_
                                    refine wa_iload_n (n := 1) rfl ?_
                                    refine wa_iconst ?_
                                    refine wa_cv 238 rfl (wy_pr rfl) wt_238 (M2 := fun _ => False) rfl at_MH_of ⟨_, rfl⟩ rfl rfl ⟨(Or.inr ⟨wy_pr rfl, fun q => q⟩), trivial, trivial⟩ trivial (fun _ _ q => False.elim q) ?_ (fun _ _ _ q => q)
                                    refine wa_aload_n (n := 0) rfl ?_
                                    refine wa_iload_n (n := 1) rfl ?_
                                    refine wb_pfi 238 rfl (wy_pr rfl) wt_238 wf_11_5 (n := 5) rfl ⟨(by omega), (by omega)⟩ ?_
                                    refine wa_aload_n (n := 0) rfl ?_
                                    refine wa_iload_n (n := 2) rfl ?_
                                    refine wb_pfi 238 rfl (wy_pr rfl) wt_238 wf_11_6 (n := 6) rfl ⟨(by omega), (by omega)⟩ ?_
                                    refine wa_aload_n (n := 0) rfl ?_
                                    refine wa_oreturn rfl ?_
                                    show wJ _ _ _ _ _ _ _ _ _ _
                                    refine wa_th (j := 238) ?_
                                    refine ⟨rfl, ?_⟩
                                    exact Or.inl ⟨by omega, rfl, rfl⟩
                                · skip
                                  exact absurd c840 (by omega)
                              · skip
                                have c839x := @wb_lcmp_cases vl v1
                                refine wa_lload_n (n := 0) rfl ?_
                                refine wa_lload (n := 4) rfl ?_
                                refine wa_lcmp (w_rg1 (by omega) (by omega)) (w_rg1 (by omega) (by omega)) ?_
                                refine wa_ifgt (by have := @wb_lcmp_cases; exact w_lcmp_rg) ⟨_, rfl⟩ (fun c842 => ?_) (fun c842 => ?_)
                                · skip
                                  have c842x := @wb_lcmp_cases vl ln
                                  refine wa_iconst ?_
                                  refine wa_fall ⟨_, rfl⟩ ?_
                                  refine wa_zreturn rfl (Or.inl rfl) ?_
                                  show wJ _ _ _ _ _ _ _ _ _ _
                                  refine wa_ifeq (w_rg0 (by omega) (by omega)) ⟨_, rfl⟩ (fun c843 => ?_) (fun c843 => ?_)
                                  · skip
                                    refine wa_iconst ?_
                                    refine wa_fall ⟨_, rfl⟩ ?_
                                    refine wa_istore (n := 9) rfl ?_
                                    refine wa_iload (n := 9) rfl ?_
                                    refine wa_ifne (w_rg0 (by omega) (by omega)) ⟨_, rfl⟩ (fun c844 => ?_) (fun c844 => ?_)
                                    · skip
                                      exact absurd c844 (by omega)
                                    · skip
                                      refine wa_aload_n (n := 0) rfl ?_
                                      refine wa_bipush (w_rg2 (by omega) (by omega)) ?_
                                      refine wa_cv 237 rfl (wy_pr rfl) wt_237 (M2 := fun _ => False) rfl at_M_error ⟨_, rfl⟩ rfl rfl ⟨trivial, trivial, trivial, trivial, trivial, trivial, (Or.inr ⟨wy_pr rfl, fun q => q⟩), trivial, trivial, trivial⟩ trivial (fun _ _ q => False.elim q) ?_ (fun _ _ _ q => q)
                                      refine wa_aload_n (n := 0) rfl ?_
                                      refine wb_gf4 237 rfl (wy_pr rfl) wt_237 wf_15_1 (v := 238) wl_237_1 ?_
                                      refine wa_iload_n (n := 1) rfl ?_
                                      refine wa_iconst ?_
                                      refine wa_cv 238 rfl (wy_pr rfl) wt_238 (M2 := fun _ => False) rfl at_MH_of ⟨_, rfl⟩ rfl rfl ⟨(Or.inr ⟨wy_pr rfl, fun q => q⟩), trivial, trivial⟩ trivial (fun _ _ q => False.elim q) ?_ (fun _ _ _ q => q)
                                      refine wa_aload_n (n := 0) rfl ?_
                                      refine wa_iload_n (n := 1) rfl ?_
                                      refine wb_pfi 238 rfl (wy_pr rfl) wt_238 wf_11_5 (n := 5) rfl ⟨(by omega), (by omega)⟩ ?_
                                      refine wa_aload_n (n := 0) rfl ?_
                                      refine wa_iload_n (n := 2) rfl ?_
                                      refine wb_pfi 238 rfl (wy_pr rfl) wt_238 wf_11_6 (n := 6) rfl ⟨(by omega), (by omega)⟩ ?_
                                      refine wa_aload_n (n := 0) rfl ?_
                                      refine wa_oreturn rfl ?_
                                      show wJ _ _ _ _ _ _ _ _ _ _
                                      refine wa_th (j := 238) ?_
                                      refine ⟨rfl, ?_⟩
                                      exact Or.inl ⟨by omega, rfl, rfl⟩
                                  · skip
                                    exact absurd c843 (by omega)
                                · skip
                                  have c842x := @wb_lcmp_cases vl ln
                                  refine wa_iconst ?_
                                  refine wa_goto ⟨_, rfl⟩ ?_
                                  refine wa_zreturn rfl (Or.inr rfl) ?_
                                  show wJ _ _ _ _ _ _ _ _ _ _
                                  refine wa_ifeq (w_rg0 (by omega) (by omega)) ⟨_, rfl⟩ (fun c845 => ?_) (fun c845 => ?_)
                                  · skip
                                    exact absurd c845 (by omega)
                                  · skip
                                    refine wa_iconst ?_
                                    refine wa_goto ⟨_, rfl⟩ ?_
                                    refine wa_istore (n := 9) rfl ?_
                                    refine wa_iload (n := 9) rfl ?_
                                    refine wa_ifne (w_rg0 (by omega) (by omega)) ⟨_, rfl⟩ (fun c846 => ?_) (fun c846 => ?_)
                                    · skip
                                      refine wa_aload_n (n := 0) rfl ?_
                                      refine wa_iload_n (n := 3) rfl ?_
                                      refine wa_lload (n := 6) rfl ?_
                                      refine wa_aload_n (n := 0) rfl ?_
                                      refine wb_gf4 237 rfl (wy_pr rfl) wt_237 wf_15_139 (v := 364) wl_237_139 ?_
                                      refine wa_aload_n (n := 0) rfl ?_
                                      refine wb_gfi 237 rfl (wy_pr rfl) wt_237 wf_15_173 (v := ((2100 * t) + ba)) (h73) (fun r847 => ?_)
                                      refine wa_iconst ?_
                                      refine wa_iadd ?_
                                      refine wb_lald 364 rfl (wy_pr rfl) wt_364 (n := 4200) ((ml_364 hM)) (by omega) (by omega) (v := vl) (hvl) (fun r848 => ?_)
                                      refine wa_cv 237 rfl (wy_pr rfl) wt_237 (M2 := fun _ => False) rfl at_M_sub ⟨_, rfl⟩ rfl rfl ⟨trivial, trivial, trivial, trivial, trivial, trivial, (Or.inr ⟨wy_pr rfl, fun q => q⟩), trivial, trivial, trivial⟩ trivial (fun _ _ q => False.elim q) (sbt_okL (S := S) (a := v1) (b := vl) (u2 := u2) (u3 := u3) hP0 h73 hba hgb h84 h85 hln hgm h102 h103 h64 h65 hm hbt hu2 hu3 hl6 ⟨by omega, by omega, by omega⟩) (fun oq849 Sq849 hp850 q849 => ?_)
                                      rcases q849 with ⟨hr1, rfl, rfl⟩ | ⟨hr1, hr2, rfl, SA, hsA, rfl⟩
                                      · skip
                                        refine ⟨rfl, ?_⟩
                                        exact Or.inr (Or.inl ⟨by omega, by omega, rfl, rfl⟩)
                                      · skip
                                        show wJ _ _ _ _ _ _ _ _ _ _
                                        refine wa_fall ⟨_, rfl⟩ ?_
                                        refine wa_return rfl ?_
                                        exact Or.inr (Or.inr ⟨by omega, by omega, by omega, rfl, SA, hsA, rfl⟩)
                                    · skip
                                      exact absurd c846 (by omega)
                  · skip
                    exact absurd c824 (by omega)
                · skip
                  exact absurd c823 (by omega)
              · skip
                exact absurd c822 (by omega)
            · skip
              exact absurd c821 (by omega)
    · skip
      exact absurd c804 (by omega)
  · skip
    exact absurd c803 (by omega)
end Wjf0
section Wjf
variable {xs : List (Nat × List Int32)} {M : Nat → Prop} {d : Nat} {Y : wS} {K : aK} {T : List aO} {H : List aH} {L : List aC} {G : Int → aV} {sl : Nat → List Int} {t s kd gk gb es hd wh e50 l : Int} {ba : Nat} {A : wS}
theorem sb_jt {q n m bt u2 u3 : Int} {x : List Int} (h : sbQ q n m bt u2 u3 Y A) (hl : (x.length : Int) = n) (hq : q + n ≤ 69632 + bt) (hs : ∀ i : Nat, i < x.length → Y 283 (q + (i : Int)) = x.getD i 0) : jtA x m bt u2 u3 Y A := by
  obtain ⟨k, hk, h1, h2, h3⟩ := h
  have v1 := nxZ_v (n := n) (m := m) (bt := bt) (u2 := u2) (u3 := u3) (S := Y)
  have ek : k = x.length := by omega
  subst ek
  have e2 : ∀ (j : Nat) (x : Int), j ≠ 283 → A j x = nxZ n m bt u2 u3 Y j x := fun j x j0 => h2 j x (Or.inl j0)
  refine ⟨fun i hi => ?_, ⟨(e2 284 _ (by first | decide | omega)).trans v1.1, ((e2 285 _ (by first | decide | omega)).trans v1.2.1).trans hl.symm⟩, ⟨(e2 237 102 (by first | decide | omega)).trans v1.2.2.1, ((e2 237 103 (by first | decide | omega)).trans v1.2.2.2.1).trans (by rw [hl]), (e2 237 64 (by first | decide | omega)).trans v1.2.2.2.2.1, ((e2 237 65 (by first | decide | omega)).trans v1.2.2.2.2.2).trans (by rw [hl])⟩, fun j y j0 j1 j2 => ?_, h3⟩
  · rw [h1 i hi, nxZ_e 283 _ (Or.inl (by first | decide | omega)) (Or.inl (by first | decide | omega)), hs i hi]
  · exact (h2 j y j0).trans (nxZ_e j y (by omega) (by omega))
/-- what a part of a text comes to -/
def sbR (t : Int) (K : aK) (ba : Nat) (sl : Nat → List Int) (T : List aO) (L : List aC) (G : Int → aV) (C : Prop) (x : List Int) (i j : Int) (Y : wS) (o : wO) (Z : wS) : Prop := (¬ C ∧ o = .inr 238 ∧ hZ 6 Y = Z) ∨ (C ∧ (12000 ≤ Y 237 64 ∨ 200000 < Y 237 65 + (j - i)) ∧ o = .inr 238 ∧ hZ 99 Y = Z) ∨ (C ∧ (Y 237 64 < 12000 ∧ Y 237 65 + (j - i) ≤ 200000) ∧ o = .inl none ∧ rTk t Z (kP K (K.1.length - ba) (3, 0, sbL x i j)) ∧ rWd Z sl T L G ∧ rTm t rMj Y Z ∧ rTx Y Z ∧ (rTt Z ∧ rTb Z) ∧ Z 237 102 = Y 237 102 + 1 ∧ Z 237 103 = Y 237 103 + (j - i) ∧ Z 237 64 = Y 237 64 + 1 ∧ Z 237 65 = Y 237 65 + (j - i))
theorem sbR_o {C : Prop} {x : List Int} {i j : Int} {o : wO} {Z : wS} (h : sbR t K ba sl T L G C x i j Y o Z) : o = .inl none ∨ o = .inr 238 := by
  rcases h with h | h | h
  · exact Or.inr h.2.1
  · exact Or.inr h.2.2.1
  · exact Or.inl h.2.2.1
theorem sbX {i j : Int} (hK : rTk t Y K) (hW : rWd Y sl T L G) (ht : 0 ≤ t ∧ t ≤ 1) (hKl : 0 < K.2.1.length ∧ K.2.1.length ≤ 200 ∧ K.1.length ≤ 2001) (hba : ba < K.1.length) (hgv : rVl Y 3 gb (K.1.getD ba (0, 0, []))) (htt : rTt Y) (htb : rTb Y) (h : 0 ≤ i ∧ i ≤ j ∧ j ≤ ((K.1.getD ba (0, 0, [])).2.2.length : Int)) (hr : Y 237 64 < 12000 ∧ Y 237 65 + (j - i) ≤ 200000) (hA : sbQ (Y 284 gb + i) (j - i) (Y 237 102) (Y 237 103) (Y 237 64) (Y 237 65) Y A) : rTk t (gvZ t (ba : Int) (200 * t + (K.2.1.length : Int) - 1) (K.2.1.getD (K.2.1.length - 1) (0, 0, 0, (0, 0, []), 0, 0, 0)).2.1 3 (4000 + Y 237 102) A) (kP K (K.1.length - ba) (3, 0, sbL (K.1.getD ba (0, 0, [])).2.2 i j)) ∧ rWd (gvZ t (ba : Int) (200 * t + (K.2.1.length : Int) - 1) (K.2.1.getD (K.2.1.length - 1) (0, 0, 0, (0, 0, []), 0, 0, 0)).2.1 3 (4000 + Y 237 102) A) sl T L G ∧ rTm t rMj Y (gvZ t (ba : Int) (200 * t + (K.2.1.length : Int) - 1) (K.2.1.getD (K.2.1.length - 1) (0, 0, 0, (0, 0, []), 0, 0, 0)).2.1 3 (4000 + Y 237 102) A) ∧ rTx Y (gvZ t (ba : Int) (200 * t + (K.2.1.length : Int) - 1) (K.2.1.getD (K.2.1.length - 1) (0, 0, 0, (0, 0, []), 0, 0, 0)).2.1 3 (4000 + Y 237 102) A) ∧ (rTt (gvZ t (ba : Int) (200 * t + (K.2.1.length : Int) - 1) (K.2.1.getD (K.2.1.length - 1) (0, 0, 0, (0, 0, []), 0, 0, 0)).2.1 3 (4000 + Y 237 102) A) ∧ rTb (gvZ t (ba : Int) (200 * t + (K.2.1.length : Int) - 1) (K.2.1.getD (K.2.1.length - 1) (0, 0, 0, (0, 0, []), 0, 0, 0)).2.1 3 (4000 + Y 237 102) A)) ∧ (gvZ t (ba : Int) (200 * t + (K.2.1.length : Int) - 1) (K.2.1.getD (K.2.1.length - 1) (0, 0, 0, (0, 0, []), 0, 0, 0)).2.1 3 (4000 + Y 237 102) A) 237 102 = Y 237 102 + 1 ∧ (gvZ t (ba : Int) (200 * t + (K.2.1.length : Int) - 1) (K.2.1.getD (K.2.1.length - 1) (0, 0, 0, (0, 0, []), 0, 0, 0)).2.1 3 (4000 + Y 237 102) A) 237 103 = Y 237 103 + (j - i) ∧ (gvZ t (ba : Int) (200 * t + (K.2.1.length : Int) - 1) (K.2.1.getD (K.2.1.length - 1) (0, 0, 0, (0, 0, []), 0, 0, 0)).2.1 3 (4000 + Y 237 102) A) 237 64 = Y 237 64 + 1 ∧ (gvZ t (ba : Int) (200 * t + (K.2.1.length : Int) - 1) (K.2.1.getD (K.2.1.length - 1) (0, 0, 0, (0, 0, []), 0, 0, 0)).2.1 3 (4000 + Y 237 102) A) 237 65 = Y 237 65 + (j - i) := by
  obtain ⟨g0, g1, g2, g3⟩ := hgv.2.2 hgv.1.symm
  obtain ⟨y1, y2, y3⟩ := htt.2.2 _ g1
  have y4 := htb.2.2 _ g1
  have y5 := htt.2.1
  have hl := sbL_l h
  have hj : jtA (sbL (K.1.getD ba (0, 0, [])).2.2 i j) (Y 237 102) (Y 237 103) (Y 237 64) (Y 237 65) Y A := sb_jt hA hl (by omega) (fun q hq => by
    rw [sbL_g h (by omega), ← g3 (i.toNat + q) (by omega)]
    congr 1
    omega)
  have xA := jtA_x hj htt htb rfl rfl
  have tA := jtA_t hj htt htb rfl rfl rfl rfl ⟨by omega, by omega⟩
  have hvA := jtA_v hj (by omega)
  obtain ⟨-, -, ⟨m4, m5, m6, m7⟩, fr, m8⟩ := hj
  rw [hl] at m5 m7
  have fA : ∀ (q : Nat) (y : Int), ¬ rMj q y → A q y = Y q y := fun q y j0 => by
    unfold rMj at j0
    exact fr q y (by omega) (by omega) (by omega)
  have hKA : rTk t A K := rTk_fr hK xA (fun q y j0 j1 => fA q y (by unfold rMj; omega))
  have hWA : rWd A sl T L G := rWd_ag hW xA (fun q y hq => fA q y (by unfold rWo at hq; unfold rMj; omega))
  have gf := gvZ_f (t := t) (ba := ba) (K := K) (k := 3) (v := 4000 + Y 237 102) (Y := A) ht ⟨hKl.1, hKl.2.1⟩ (by omega)
  have g6 : ∀ (q : Nat) (y : Int), q < 357 → (q ≠ 237 ∨ y < 110) → gvZ t (ba : Int) (200 * t + (K.2.1.length : Int) - 1) (K.2.1.getD (K.2.1.length - 1) (0, 0, 0, (0, 0, []), 0, 0, 0)).2.1 3 (4000 + Y 237 102) A q y = A q y := fun q y q0 q1 => (w_up_slot (by omega)).trans ((w_up_slot (by omega)).trans ((w_up_slot (by omega)).trans ((w_up_slot (by omega)).trans (w_up_slot (by omega)))))
  exact ⟨rTk_gv hKA ht hKl.1 (by omega) hvA, gvZ_w hWA, fun q y o n => (gf q y o).trans (fA q y n), rTx_tr xA (rTx_of (g6 237 19 (by first | decide | omega) (by first | decide | omega)) (g6 237 102 (by first | decide | omega) (by first | decide | omega)) (fun q y j0 j1 => g6 q y (by omega) (by omega))), ⟨rTt_ag tA.1 (g6 237 19 (by first | decide | omega) (by first | decide | omega)) (g6 237 102 (by first | decide | omega) (by first | decide | omega)) (fun y => ⟨g6 284 y (by first | decide | omega) (by omega), g6 285 y (by first | decide | omega) (by omega)⟩), rTb_ag tA.2 (g6 237 19 (by first | decide | omega) (by first | decide | omega)) (g6 237 102 (by first | decide | omega) (by first | decide | omega)) (g6 237 103 (by first | decide | omega) (by first | decide | omega)) (g6 237 64 (by first | decide | omega) (by first | decide | omega)) (g6 237 65 (by first | decide | omega) (by first | decide | omega)) (fun y => ⟨g6 284 y (by first | decide | omega) (by omega), g6 285 y (by first | decide | omega) (by omega)⟩)⟩, (g6 237 102 (by first | decide | omega) (by first | decide | omega)).trans m4, (g6 237 103 (by first | decide | omega) (by first | decide | omega)).trans m5, (g6 237 64 (by first | decide | omega) (by first | decide | omega)).trans m6, (g6 237 65 (by first | decide | omega) (by first | decide | omega)).trans m7⟩
theorem rtzT {ho sh : Int} (h : rdR t kd ba gk gb es 3 ho wh sh K T sl L G Y) (hgk : gk = 3) (hgv : rVl Y 3 gb (K.1.getD ba (0, 0, []))) (htt : rTt Y) (htb : rTb Y) (hu2 : Y 237 64 ≤ 12000) (hu3 : Y 237 65 ≤ 200000) (hes : es = 0) (hkd : kd = 0) : wJ (pe_GA xs) wY0 M (d + 8) t_M_actsOnRow ((pe_at t_M_actsOnRow.bl 0).getD (0, [])).2 [(0, (2, 237)), (1, (0, s)), (2, (0, kd))] [] Y (fun o Z => o = .inl none ∧ rTk t Z (kP K (K.1.length - ba) (2, ((K.1.getD ba (0, 0, [])).2.2.length : Int), [])) ∧ rWd Z sl T L G ∧ rTf t Y Z) := by
  obtain ⟨⟨hP, hK, hW, ht⟩, hKl, ⟨hT, h82, hll⟩, ⟨h73, hba, h74, h75, h76⟩, h66, h69, h70, h71⟩ := h
  obtain ⟨hTh, hCa, -, ⟨hL8, h94⟩, -⟩ := id hW
  have k0 := hKl.1
  rw [hgk] at h74
  obtain ⟨g0, g1, g2, g3⟩ := hgv.2.2 hgv.1.symm
  obtain ⟨y1, y2, y3⟩ := htt.2.2 _ g1
  have y4 := htb.2.2 _ g1
  have y5 := htt.2.1
  have y6 := htt.1
  have y7 := htb.1
  have y8 := htb.2.1
  have hbb : 0 ≤ (ba : Int) ∧ (ba : Int) ≤ (K.1.length : Int) := ⟨by omega, by omega⟩
  refine wJ_mono (rtz_okL (d := d) (pf := Y 284 gb) (ln := ((K.1.getD ba (0, 0, [])).2.2.length : Int)) (m := Y 237 102) (bt := Y 237 103) (u2 := Y 237 64) (u3 := Y 237 65) hP h73 hbb h74 h75 h76 ⟨by omega, by omega⟩ rfl g2 ⟨y1, by omega, by omega⟩ (by omega) rfl rfl rfl rfl ⟨by omega, by omega⟩ ⟨by omega, by omega⟩ hu2 hu3 (by omega) hkd hes) (fun o Z hq => ?_)
  obtain ⟨rfl, rfl⟩ := hq
  exact ⟨rfl, rTk_gv hK ht hKl.1 (by omega) (rV_e (by first | decide | omega) rfl), gvZ_w hW, gvZ_f ht ⟨hKl.1, hKl.2.1⟩ (by omega)⟩
theorem rteT {ho sh : Int} (h : rdR t kd ba gk gb es 3 ho wh sh K T sl L G Y) (hgk : gk = 3) (hgv : rVl Y 3 gb (K.1.getD ba (0, 0, []))) (htt : rTt Y) (htb : rTb Y) (hu2 : Y 237 64 ≤ 12000) (hu3 : Y 237 65 ≤ 200000) (hes : es = 1) (hkd : kd = 2) (hbl : ba + 2 = K.1.length) (hk1r : 0 ≤ (K.1.getD (ba + 1) (0, 0, [])).1 ∧ (K.1.getD (ba + 1) (0, 0, [])).1 ≤ 8) : wJ (pe_GA xs) wY0 M (d + 8) t_M_actsOnRow ((pe_at t_M_actsOnRow.bl 0).getD (0, [])).2 [(0, (2, 237)), (1, (0, s)), (2, (0, kd))] [] Y (sbR t K ba sl T L G ((K.1.getD (ba + 1) (0, 0, [])).1 = 2 ∧ 0 ≤ (K.1.getD (ba + 1) (0, 0, [])).2.1 ∧ (K.1.getD (ba + 1) (0, 0, [])).2.1 < ((K.1.getD ba (0, 0, [])).2.2.length : Int)) (K.1.getD ba (0, 0, [])).2.2 (K.1.getD (ba + 1) (0, 0, [])).2.1 ((K.1.getD (ba + 1) (0, 0, [])).2.1 + 1) Y) := wJ_E (fun hE => by
  obtain ⟨⟨hP, hK, hW, ht⟩, hKl, ⟨hT, h82, hll⟩, ⟨h73, hba, h74, h75, h76⟩, h66, h69, h70, h71⟩ := h
  obtain ⟨hTh, hCa, -, ⟨hL8, h94⟩, -⟩ := id hW
  have k0 := hKl.1
  rw [hgk] at h74
  obtain ⟨g0, g1, g2, g3⟩ := hgv.2.2 hgv.1.symm
  obtain ⟨y1, y2, y3⟩ := htt.2.2 _ g1
  have y4 := htb.2.2 _ g1
  have y5 := htt.2.1
  have y6 := htt.1
  have y7 := htb.1
  have y8 := htb.2.1
  have hbb : 0 ≤ (ba : Int) ∧ (ba : Int) ≤ (K.1.length : Int) := ⟨by omega, by omega⟩
  have hu1 : rVl Y (Y 363 (2100 * t + (ba : Int) + 1)) (Y 364 (2100 * t + (ba : Int) + 1)) (K.1.getD (ba + 1) (0, 0, [])) := by
    have z := hK.1.2 (ba + 1) (by omega)
    rw [show 2100 * t + ((ba + 1 : Nat) : Int) = 2100 * t + (ba : Int) + 1 by omega] at z
    exact z
  have e1 := hu1.1
  obtain ⟨v1, hv1e, hv1c⟩ : ∃ v1 : Int, Y 364 (2100 * t + (ba : Int) + 1) = v1 ∧ ((K.1.getD (ba + 1) (0, 0, [])).1 = 2 → v1 = (K.1.getD (ba + 1) (0, 0, [])).2.1) := ⟨_, rfl, fun z => (hu1.2.1 (by omega)).1⟩
  refine wJ_mono (rte_okL (d := d) (pf := Y 284 gb) (ln := ((K.1.getD ba (0, 0, [])).2.2.length : Int)) (m := Y 237 102) (bt := Y 237 103) (u2 := Y 237 64) (u3 := Y 237 65) (k1 := Y 363 (2100 * t + (ba : Int) + 1)) (v1 := v1) hP h73 hbb h74 h75 h76 ⟨by omega, by omega⟩ rfl g2 ⟨y1, by omega, by omega⟩ (by omega) rfl rfl rfl rfl ⟨by omega, by omega⟩ ⟨by omega, by omega⟩ hu2 hu3 (by omega) rfl hv1e (by rw [e1]; exact hk1r) (by rw [← hv1e]; exact p_lr hE hP.1 (by omega) (by omega)) hkd hes) (fun o Z hq => ?_)
  rcases hq with ⟨n1, n2, n3⟩ | ⟨⟨n1, n2, n3⟩, n4, n5, n6⟩ | ⟨⟨n1, n2, n3⟩, n4, n5, rfl, A, hA, rfl⟩
  · refine Or.inl ⟨fun c => n1 ?_, n2, n3⟩
    rw [hv1c c.1]
    exact ⟨e1.trans c.1, c.2⟩
  · have q1 := hv1c (e1.symm.trans n1)
    rw [q1] at n4
    exact Or.inr (Or.inl ⟨⟨e1.symm.trans n1, by omega, by omega⟩, n4, n5, n6⟩)
  · have q1 := hv1c (e1.symm.trans n1)
    rw [q1] at hA n5
    exact Or.inr (Or.inr ⟨⟨e1.symm.trans n1, by omega, by omega⟩, ⟨n4, n5⟩, rfl, sbX hK hW ht hKl hba hgv htt htb ⟨by omega, by omega, by omega⟩ ⟨n4, n5⟩ hA⟩))
theorem rtbT {ho sh : Int} (h : rdR t kd ba gk gb es 3 ho wh sh K T sl L G Y) (hgk : gk = 3) (hgv : rVl Y 3 gb (K.1.getD ba (0, 0, []))) (htt : rTt Y) (htb : rTb Y) (hu2 : Y 237 64 ≤ 12000) (hu3 : Y 237 65 ≤ 200000) (hes : es = 2) (hkd : kd = 5) (hbl : ba + 3 = K.1.length) (hk1r : 0 ≤ (K.1.getD (ba + 1) (0, 0, [])).1 ∧ (K.1.getD (ba + 1) (0, 0, [])).1 ≤ 8) (hk2r : 0 ≤ (K.1.getD (K.1.length - 1) (0, 0, [])).1 ∧ (K.1.getD (K.1.length - 1) (0, 0, [])).1 ≤ 8) : wJ (pe_GA xs) wY0 M (d + 8) t_M_actsOnRow ((pe_at t_M_actsOnRow.bl 0).getD (0, [])).2 [(0, (2, 237)), (1, (0, s)), (2, (0, kd))] [] Y (sbR t K ba sl T L G ((K.1.getD (ba + 1) (0, 0, [])).1 = 2 ∧ (K.1.getD (K.1.length - 1) (0, 0, [])).1 = 2 ∧ 0 ≤ (K.1.getD (ba + 1) (0, 0, [])).2.1 ∧ (K.1.getD (ba + 1) (0, 0, [])).2.1 ≤ (K.1.getD (K.1.length - 1) (0, 0, [])).2.1 ∧ (K.1.getD (K.1.length - 1) (0, 0, [])).2.1 ≤ ((K.1.getD ba (0, 0, [])).2.2.length : Int)) (K.1.getD ba (0, 0, [])).2.2 (K.1.getD (ba + 1) (0, 0, [])).2.1 (K.1.getD (K.1.length - 1) (0, 0, [])).2.1 Y) := wJ_E (fun hE => by
  obtain ⟨⟨hP, hK, hW, ht⟩, hKl, ⟨hT, h82, hll⟩, ⟨h73, hba, h74, h75, h76⟩, h66, h69, h70, h71⟩ := h
  obtain ⟨hTh, hCa, -, ⟨hL8, h94⟩, -⟩ := id hW
  have k0 := hKl.1
  rw [hgk] at h74
  obtain ⟨g0, g1, g2, g3⟩ := hgv.2.2 hgv.1.symm
  obtain ⟨y1, y2, y3⟩ := htt.2.2 _ g1
  have y4 := htb.2.2 _ g1
  have y5 := htt.2.1
  have y6 := htt.1
  have y7 := htb.1
  have y8 := htb.2.1
  have hbb : 0 ≤ (ba : Int) ∧ (ba : Int) ≤ (K.1.length : Int) := ⟨by omega, by omega⟩
  have hu1 : rVl Y (Y 363 (2100 * t + (ba : Int) + 1)) (Y 364 (2100 * t + (ba : Int) + 1)) (K.1.getD (ba + 1) (0, 0, [])) := by
    have z := hK.1.2 (ba + 1) (by omega)
    rw [show 2100 * t + ((ba + 1 : Nat) : Int) = 2100 * t + (ba : Int) + 1 by omega] at z
    exact z
  have hu : rVl Y (Y 363 (2100 * t + (ba : Int) + 2)) (Y 364 (2100 * t + (ba : Int) + 2)) (K.1.getD (ba + 2) (0, 0, [])) := by
    have z := hK.1.2 (ba + 2) (by omega)
    rw [show 2100 * t + ((ba + 2 : Nat) : Int) = 2100 * t + (ba : Int) + 2 by omega] at z
    exact z
  rw [show ba + 2 = K.1.length - 1 by omega] at hu
  have e1 := hu1.1
  have e2 := hu.1
  obtain ⟨v1, hv1e, hv1c⟩ : ∃ v1 : Int, Y 364 (2100 * t + (ba : Int) + 1) = v1 ∧ ((K.1.getD (ba + 1) (0, 0, [])).1 = 2 → v1 = (K.1.getD (ba + 1) (0, 0, [])).2.1) := ⟨_, rfl, fun z => (hu1.2.1 (by omega)).1⟩
  obtain ⟨vl, hvle, hvlc⟩ : ∃ v1 : Int, Y 364 (2100 * t + (ba : Int) + 2) = v1 ∧ ((K.1.getD (K.1.length - 1) (0, 0, [])).1 = 2 → v1 = (K.1.getD (K.1.length - 1) (0, 0, [])).2.1) := ⟨_, rfl, fun z => (hu.2.1 (by omega)).1⟩
  refine wJ_mono (rtb_okL (d := d) (pf := Y 284 gb) (ln := ((K.1.getD ba (0, 0, [])).2.2.length : Int)) (m := Y 237 102) (bt := Y 237 103) (u2 := Y 237 64) (u3 := Y 237 65) (k1 := Y 363 (2100 * t + (ba : Int) + 1)) (v1 := v1) (kl := Y 363 (2100 * t + (ba : Int) + 2)) (vl := vl) hP h73 hbb h74 h75 h76 ⟨by omega, by omega⟩ rfl g2 ⟨y1, by omega, by omega⟩ (by omega) rfl rfl rfl rfl ⟨by omega, by omega⟩ ⟨by omega, by omega⟩ hu2 hu3 (by omega) rfl hv1e (by rw [e1]; exact hk1r) (by rw [← hv1e]; exact p_lr hE hP.1 (by omega) (by omega)) rfl hvle (by rw [e2]; exact hk2r) (by rw [← hvle]; exact p_lr hE hP.1 (by omega) (by omega)) hkd hes) (fun o Z hq => ?_)
  rcases hq with ⟨n1, n2, n3⟩ | ⟨⟨n1, n1b, n2, n3, n3b⟩, n4, n5, n6⟩ | ⟨⟨n1, n1b, n2, n3, n3b⟩, n4, n5, rfl, A, hA, rfl⟩
  · refine Or.inl ⟨fun c => n1 ?_, n2, n3⟩
    rw [hv1c c.1, hvlc c.2.1]
    exact ⟨e1.trans c.1, e2.trans c.2.1, c.2.2⟩
  · have q1 := hv1c (e1.symm.trans n1)
    have q2 := hvlc (e2.symm.trans n1b)
    rw [q1, q2] at n4
    exact Or.inr (Or.inl ⟨⟨e1.symm.trans n1, e2.symm.trans n1b, by omega, by omega, by omega⟩, n4, n5, n6⟩)
  · have q1 := hv1c (e1.symm.trans n1)
    have q2 := hvlc (e2.symm.trans n1b)
    rw [q1, q2] at hA n5
    exact Or.inr (Or.inr ⟨⟨e1.symm.trans n1, e2.symm.trans n1b, by omega, by omega, by omega⟩, ⟨n4, n5⟩, rfl, sbX hK hW ht hKl hba hgv htt htb ⟨by omega, by omega, by omega⟩ ⟨n4, n5⟩ hA⟩))
end Wjf
