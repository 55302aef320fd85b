/-! PART h2: texts at sites, of the reference. -/
section Wh2
variable {xs : List (Nat × List Int32)} {M : Nat → Prop} {d : Nat} {S S0 Z A : wS} {t c p h tp ba s kd gb es a b ln pf m bt u2 u3 k1 v1 kl vl : Int} {Q : wO → wS → Prop}
/-- n signs of a text have come to the end of the texts made -/
def sbI (q bt : Int) (n : Nat) (S0 S : wS) : Prop := (∀ i : Nat, i < n → S 283 (69632 + bt + (i : Int)) = S0 283 (q + (i : Int))) ∧ (∀ (j : Nat) (x : Int), (j ≠ 283 ∨ x < 69632 + bt ∨ 69632 + bt + (n : Int) ≤ x) → S j x = S0 j x) ∧ w_ML S
theorem sbI_s {q : Int} {n : Nat} (h : sbI q bt n S0 S) (hb : 0 ≤ bt) : sbI q bt (n + 1) S0 (w_up S 283 (69632 + bt + (n : Int)) (S0 283 (q + (n : Int)))) := by
  obtain ⟨h1, h2, h3⟩ := h
  refine ⟨fun i hi => ?_, fun j x hj => (w_up_no (by omega)).trans (h2 j x (by omega)), w_ML_up h3 (by omega)⟩
  by_cases c : i = n
  · rw [c]; exact w_up_same _ _ _ _
  · exact (w_up_at (by omega)).trans (h1 i (by omega))
/-- a text that is part of another has been made -/
def sbQ (q n m bt u2 u3 : Int) (S Z : wS) : Prop := ∃ k : Nat, (k : Int) = n ∧ sbI q bt k (nxZ n m bt u2 u3 S) Z
set_option maxHeartbeats 4000000 in
theorem sbt_l {n : Nat} (hgb : 0 ≤ gb ∧ gb < 16000) (ha : 0 ≤ a ∧ a ≤ 1000000) (hm : 0 ≤ m ∧ m < 12000) (hbt : 0 ≤ bt ∧ bt + (n : Int) ≤ 200000) (e84 : S0 284 (4000 + m) = 69632 + bt) (e85 : S0 285 (4000 + m) = (n : Int)) (f84 : S0 284 gb = pf) (hpf : 0 ≤ pf ∧ pf + a + (n : Int) ≤ 269632) (hcp : ∀ i : Nat, i < n → ∀ X : wS, sbI (pf + a) bt i S0 X → X 283 (pf + a + (i : Int)) = S0 283 (pf + a + (i : Int))) (hk : ∀ Z : wS, sbI (pf + a) bt n S0 Z → wJ (pe_GA xs) wY0 M (d + 4) t_M_sub ((pe_at t_M_sub.bl 2).getD (0, [])).2 [(0, (2, 237)), (1, (0, gb)), (2, (1, a)), (4, (1, b)), (6, (0, 4000 + m))] [] Z Q) : ∀ (f i : Nat) (S : wS), i + f = n → sbI (pf + a) bt i S0 S → wJ (pe_GA xs) wY0 M (d + 4) t_M_sub ((pe_at t_M_sub.bl 1).getD (0, [])).2 [(0, (2, 237)), (1, (0, gb)), (2, (1, a)), (4, (1, b)), (6, (0, 4000 + m)), (7, (0, (i : Int)))] [] S Q := by
  intro f
  induction f with
  | zero =>
    intro i S hi hS
    have ei : i = n := by omega
    subst ei
    obtain ⟨y1, y2, hM⟩ := id hS
    have g85 := (y2 285 (4000 + m) (by first | decide | omega)).trans e85
    refine wa_iload (n := 7) rfl ?_
    refine wa_aload_n (n := 0) rfl ?_
    refine wb_gf4 237 rfl (wy_pr rfl) wt_237 wf_15_23 (v := 285) wl_237_23 ?_
    refine wa_iload (n := 6) rfl ?_
    refine wb_iald 285 rfl (wy_pr rfl) wt_285 (n := 16000) ((ml_285 hM)) (by omega) (by omega) (v := (i : Int)) (g85) (fun r1 => ?_)
    refine wa_icmpge (w_rg0 (by omega) (by omega)) (w_rg0 (by omega) (by omega)) ⟨_, rfl⟩ (fun c2 => ?_) (fun c2 => ?_)
    · skip
      exact wJ_S (hk S hS) ⟨rfl, rfl, rfl, rfl, rfl, trivial⟩
    · skip
      exfalso; omega
  | succ f ih =>
    intro i S hi hS
    obtain ⟨y1, y2, hM⟩ := id hS
    have g85 := (y2 285 (4000 + m) (by first | decide | omega)).trans e85
    have g84 := (y2 284 (4000 + m) (by first | decide | omega)).trans e84
    have h84 := (y2 284 gb (by first | decide | omega)).trans f84
    have hc := hcp i (by omega) S hS
    obtain ⟨cv, hcv⟩ : ∃ v : Int, v = S0 283 (pf + a + (i : Int)) := ⟨_, rfl⟩
    rw [← hcv] at hc
    refine wa_iload (n := 7) rfl ?_
    refine wa_aload_n (n := 0) rfl ?_
    refine wb_gf4 237 rfl (wy_pr rfl) wt_237 wf_15_23 (v := 285) wl_237_23 ?_
    refine wa_iload (n := 6) rfl ?_
    refine wb_iald 285 rfl (wy_pr rfl) wt_285 (n := 16000) ((ml_285 hM)) (by omega) (by omega) (v := (n : Int)) (g85) (fun r101 => ?_)
    refine wa_icmpge (w_rg0 (by omega) (by omega)) (w_rg0 (by omega) (by omega)) ⟨_, rfl⟩ (fun c102 => ?_) (fun c102 => ?_)
    · skip
      exfalso; omega
    · skip
      refine wa_aload_n (n := 0) rfl ?_
      refine wb_gf4 237 rfl (wy_pr rfl) wt_237 wf_15_21 (v := 283) wl_237_21 ?_
      refine wa_aload_n (n := 0) rfl ?_
      refine wb_gf4 237 rfl (wy_pr rfl) wt_237 wf_15_22 (v := 284) wl_237_22 ?_
      refine wa_iload (n := 6) rfl ?_
      refine wb_iald 284 rfl (wy_pr rfl) wt_284 (n := 16000) ((ml_284 hM)) (by omega) (by omega) (v := (69632 + bt)) (g84) (fun r103 => ?_)
      refine wa_iload (n := 7) rfl ?_
      refine wa_iadd ?_
      refine wa_aload_n (n := 0) rfl ?_
      refine wb_gf4 237 rfl (wy_pr rfl) wt_237 wf_15_21 (v := 283) wl_237_21 ?_
      refine wa_aload_n (n := 0) rfl ?_
      refine wb_gf4 237 rfl (wy_pr rfl) wt_237 wf_15_22 (v := 284) wl_237_22 ?_
      refine wa_iload_n (n := 1) rfl ?_
      refine wb_iald 284 rfl (wy_pr rfl) wt_284 (n := 16000) ((ml_284 hM)) (by omega) (by omega) (v := pf) (h84) (fun r104 => ?_)
      refine wa_lload_n (n := 2) rfl ?_
      refine wb_l2i_r (wb_l2i_id ⟨(by omega), (by omega)⟩) ?_
      refine wa_iadd ?_
      refine wa_iload (n := 7) rfl ?_
      refine wa_iadd ?_
      refine wb_bald 283 rfl (wy_pr rfl) wt_283 (n := 269632) ((ml_283 hM)) (by omega) (by omega) (v := cv) (hc) (fun r105 => ?_)
      refine wb_bast 283 rfl (wy_pr rfl) wt_283 (n := 269632) ((ml_283 hM)) (by omega) (by omega) ⟨(by omega), (by omega)⟩ ?_
      refine wa_iinc rfl rfl ?_
      refine wa_goto ⟨_, rfl⟩ ?_
      have hS2 := sbI_s hS hbt.1
      rw [← hcv] at hS2
      exact wJ_S (ih (i + 1) _ (by omega) hS2) ⟨rfl, rfl, rfl, rfl, rfl, rfl, trivial⟩
set_option maxHeartbeats 4000000 in
theorem sbt_ok (hP : mP t c p h tp S) (h73 : S 237 173 = 2100 * t + ba) (hba : 0 ≤ ba ∧ ba ≤ h) (hgb : 0 ≤ gb ∧ gb < 16000) (h84 : S 284 gb = pf) (h85 : S 285 gb = ln) (hln : 0 ≤ pf ∧ 0 ≤ ln ∧ pf + ln ≤ 69632 + bt) (hgm : gb ≠ 4000 + m) (h102 : S 237 102 = m) (h103 : S 237 103 = bt) (h64 : S 237 64 = u2) (h65 : S 237 65 = u3) (hm : 0 ≤ m ∧ m ≤ u2) (hbt : 0 ≤ bt ∧ bt ≤ u3) (hu2 : u2 ≤ 12000) (hu3 : u3 ≤ 200000) (hl6 : ln ≤ 60000) (ha : 0 ≤ a ∧ a ≤ b ∧ b ≤ ln) : wJ (pe_GA xs) wY0 M (d + 5) t_M_sub ((pe_at t_M_sub.bl 0).getD (0, [])).2 [(0, (2, 237)), (1, (0, gb)), (2, (1, a)), (4, (1, b))] [] S (fun o Z => ((12000 ≤ u2 ∨ 200000 < u3 + (b - a)) ∧ o = .inr 238 ∧ hZ 99 S = Z) ∨ (u2 < 12000 ∧ u3 + (b - a) ≤ 200000 ∧ o = .inl none ∧ ∃ A : wS, sbQ (pf + a) (b - a) m bt u2 u3 S A ∧ gvZ t ba tp p 3 (4000 + m) A = Z)) := by
  have hP0 := hP
  obtain ⟨hM, ⟨mt, mt0, mt1⟩, mp, mf, ⟨mc, mc0, mc1⟩, ⟨mtp, mtq⟩, ⟨mpa, mp0, mp1⟩, mh, mh0, mh1⟩ := hP
  refine wa_aload_n (n := 0) rfl ?_
  refine wa_lload (n := 4) rfl ?_
  refine wa_lload_n (n := 2) rfl ?_
  refine wa_lsub ?_
  refine wb_l2i_r (wb_l2i_id ⟨(by omega), (by omega)⟩) ?_
  refine wa_cv 237 rfl (wy_pr rfl) wt_237 (M2 := fun _ => False) rfl at_M_newText ⟨_, rfl⟩ rfl rfl ⟨(Or.inr ⟨wy_pr rfl, fun q => q⟩), trivial, trivial, trivial, trivial⟩ trivial (fun _ _ q => False.elim q) (ntx_ok (S := S) (n := b - a) hM h102 h103 h64 h65 hm hbt hu2 hu3 ⟨by omega, by omega⟩) (fun oq301 Sq301 hp302 q301 => ?_)
  rcases q301 with ⟨hr1, rfl, rfl⟩ | ⟨hr1, hr2, rfl, rfl⟩
  · skip
    refine ⟨rfl, ?_⟩
    exact Or.inl ⟨hr1, rfl, rfl⟩
  · skip
    show wJ _ _ _ _ _ _ _ _ _ _
    refine wa_istore (n := 6) rfl ?_
    refine wa_iconst ?_
    refine wa_istore (n := 7) rfl ?_
    refine wa_fall ⟨_, rfl⟩ ?_
    obtain ⟨n, hn⟩ : ∃ n : Nat, (n : Int) = b - a := ⟨(b - a).toNat, by omega⟩
    have e84 : (nxZ (b - a) m bt u2 u3 S) 284 (4000 + m) = 69632 + bt := nxZ_v.1
    have e85 : (nxZ (b - a) m bt u2 u3 S) 285 (4000 + m) = (n : Int) := nxZ_v.2.1.trans hn.symm
    refine wJ_S (sbt_l (S0 := (nxZ (b - a) m bt u2 u3 S)) (n := n) (pf := pf) hgb ⟨by omega, by omega⟩ ⟨by omega, by omega⟩ ⟨by omega, by omega⟩ e84 e85 ((nxZ_e 284 gb (Or.inr hgm) (by first | decide | omega)).trans h84) ⟨by omega, by omega⟩ (fun i hi X hX => hX.2.1 283 _ (by omega)) (fun Z hZ => ?_) n 0 (nxZ (b - a) m bt u2 u3 S) (by omega) ⟨fun i hi => absurd hi (Nat.not_lt_zero _), fun _ _ _ => rfl, nxZ_m hM hm.1⟩) ⟨rfl, rfl, rfl, rfl, rfl, rfl, trivial⟩
    have zf : ∀ (j : Nat) (x : Int), j ≠ 283 → ((j ≠ 284 ∧ j ≠ 285) ∨ x ≠ 4000 + m) → (j ≠ 237 ∨ (x ≠ 102 ∧ x ≠ 103 ∧ x ≠ 64 ∧ x ≠ 65)) → Z j x = S j x := fun j x j0 j1 j2 => (hZ.2.1 j x (Or.inl j0)).trans (nxZ_e j x j1 j2)
    have hPz : mP t c p h tp Z := mP_ag hP0 hZ.2.2 (fun j x hj => zf j x (by omega) (by omega) (by omega))
    replace hM := hZ.2.2
    refine wa_aload_n (n := 0) rfl ?_
    refine wa_iconst ?_
    refine wa_iload (n := 6) rfl ?_
    refine wa_i2l (w_rg0 (by omega) (by omega)) ?_
    refine wa_cv 237 rfl (wy_pr rfl) wt_237 (M2 := fun _ => False) rfl at_M_gives ⟨_, rfl⟩ rfl rfl ⟨(Or.inr ⟨wy_pr rfl, fun q => q⟩), trivial, trivial, trivial, trivial, trivial⟩ trivial (fun _ _ q => False.elim q) (gvs_ok (S := Z) (k := 3) (v := 4000 + m) hPz ((zf 237 173 (by decide) (by omega) (by decide)).trans h73) hba ⟨by omega, by omega⟩ ⟨by omega, by omega⟩) (fun oq303 Sq303 hp304 q303 => ?_)
    rcases q303 with ⟨rfl, rfl⟩
    show wJ _ _ _ _ _ _ _ _ _ _
    refine wa_return rfl ?_
    exact Or.inr ⟨hr1, hr2, rfl, _, ⟨n, hn, hZ⟩, rfl⟩
set_option maxHeartbeats 4000000 in
theorem rtz_ok (hP : mP t c p h tp S) (h73 : S 237 173 = 2100 * t + ba) (hba : 0 ≤ ba ∧ ba ≤ h) (h74 : S 237 174 = 3) (h75 : S 237 175 = gb) (h76 : S 237 176 = es) (hgb : 0 ≤ gb ∧ gb < 16000) (h84 : S 284 gb = pf) (h85 : S 285 gb = ln) (hln : 0 ≤ pf ∧ 0 ≤ ln ∧ pf + ln ≤ 69632 + bt) (hgm : gb ≠ 4000 + m) (h102 : S 237 102 = m) (h103 : S 237 103 = bt) (h64 : S 237 64 = u2) (h65 : S 237 65 = u3) (hm : 0 ≤ m ∧ m ≤ u2) (hbt : 0 ≤ bt ∧ bt ≤ u3) (hu2 : u2 ≤ 12000) (hu3 : u3 ≤ 200000) (hl6 : ln ≤ 60000) (hkd : kd = 0) (hes : es = 0) : wJ (pe_GA xs) wY0 M (d + 8) t_M_actsOnRow ((pe_at t_M_actsOnRow.bl 0).getD (0, [])).2 [(0, (2, 237)), (1, (0, s)), (2, (0, kd))] [] S (fun o Z => o = .inl none ∧ gvZ t ba tp p 2 ln S = Z) := by
  have hP0 := hP
  obtain ⟨hM, ⟨mt, mt0, mt1⟩, mp, mf, ⟨mc, mc0, mc1⟩, ⟨mtp, mtq⟩, ⟨mpa, mp0, mp1⟩, mh, mh0, mh1⟩ := hP
  refine wa_aload_n (n := 0) rfl ?_
  refine wb_gfl 237 rfl (wy_pr rfl) wt_237 wf_15_175 (v := gb) (h75) (fun r601 => ?_)
  refine wb_l2i_r (wb_l2i_id ⟨(by omega), (by omega)⟩) ?_
  refine wa_istore_n (n := 3) rfl ?_
  refine wa_aload_n (n := 0) rfl ?_
  refine wb_gfi 237 rfl (wy_pr rfl) wt_237 wf_15_174 (v := 3) (h74) (fun r602 => ?_)
  refine wa_bipush (w_rg2 (by omega) (by omega)) ?_
  refine wa_icmpne (w_rg0 (by omega) (by omega)) (w_rg0 (by omega) (by omega)) ⟨_, rfl⟩ (fun c603 => ?_) (fun c603 => ?_)
  · skip
    refine wa_iconst ?_
    refine wa_fall ⟨_, rfl⟩ ?_
    refine wa_istore (n := 4) rfl ?_
    refine wa_iload (n := 4) rfl ?_
    refine wa_ifeq (w_rg0 (by omega) (by omega)) ⟨_, rfl⟩ (fun c604 => ?_) (fun c604 => ?_)
    · skip
      refine wa_aload_n (n := 0) rfl ?_
      refine wb_gf4 237 rfl (wy_pr rfl) wt_237 wf_15_23 (v := 285) wl_237_23 ?_
      refine wa_iload_n (n := 3) rfl ?_
      refine wb_iald 285 rfl (wy_pr rfl) wt_285 (n := 16000) ((ml_285 hM)) (by omega) (by omega) (v := ln) (h85) (fun r605 => ?_)
      refine wa_fall ⟨_, rfl⟩ ?_
      refine wa_istore (n := 5) rfl ?_
      refine wa_aload_n (n := 0) rfl ?_
      refine wb_gfi 237 rfl (wy_pr rfl) wt_237 wf_15_176 (v := es) (h76) (fun r606 => ?_)
      refine wa_ifle (w_rg0 (by omega) (by omega)) ⟨_, rfl⟩ (fun c607 => ?_) (fun c607 => ?_)
      · skip
        refine wb_lconst (m := 0) rfl ?_
        refine wa_fall ⟨_, rfl⟩ ?_
        refine wa_lstore (n := 6) rfl ?_
        refine wa_aload_n (n := 0) rfl ?_
        refine wb_gfi 237 rfl (wy_pr rfl) wt_237 wf_15_176 (v := es) (h76) (fun r608 => ?_)
        refine wa_ifle (w_rg0 (by omega) (by omega)) ⟨_, rfl⟩ (fun c609 => ?_) (fun c609 => ?_)
        · skip
          refine wa_iconst ?_
          refine wa_fall ⟨_, rfl⟩ ?_
          refine wa_istore (n := 8) rfl ?_
          refine wa_iload_n (n := 2) rfl ?_
          refine wa_ifne (w_rg0 (by omega) (by omega)) ⟨_, rfl⟩ (fun c610 => ?_) (fun c610 => ?_)
          · skip
            exact absurd c610 (by omega)
          · skip
            refine wa_aload_n (n := 0) rfl ?_
            refine wa_iconst ?_
            refine wa_iload (n := 5) rfl ?_
            refine wa_i2l (w_rg0 (by omega) (by omega)) ?_
            refine wa_cv 237 rfl (wy_pr rfl) wt_237 (M2 := fun _ => False) rfl at_M_gives ⟨_, rfl⟩ rfl rfl ⟨trivial, trivial, trivial, trivial, trivial, (Or.inr ⟨wy_pr rfl, fun q => q⟩), trivial, trivial, trivial⟩ trivial (fun _ _ q => False.elim q) (gvs_ok (S := S) (k := 2) (v := ln) hP0 h73 hba ⟨by omega, by omega⟩ ⟨by omega, by omega⟩) (fun oq611 Sq611 hp612 q611 => ?_)
            rcases q611 with ⟨rfl, rfl⟩
            show wJ _ _ _ _ _ _ _ _ _ _
            refine wa_goto ⟨_, rfl⟩ ?_
            refine wa_return rfl ?_
            exact ⟨rfl, rfl⟩
        · skip
          exact absurd c609 (by omega)
      · skip
        exact absurd c607 (by omega)
    · skip
      exact absurd c604 (by omega)
  · skip
    exact absurd c603 (by omega)
set_option maxHeartbeats 4000000 in
theorem rte_ok (hP : mP t c p h tp S) (h73 : S 237 173 = 2100 * t + ba) (hba : 0 ≤ ba ∧ ba ≤ h) (h74 : S 237 174 = 3) (h75 : S 237 175 = gb) (h76 : S 237 176 = es) (hgb : 0 ≤ gb ∧ gb < 16000) (h84 : S 284 gb = pf) (h85 : S 285 gb = ln) (hln : 0 ≤ pf ∧ 0 ≤ ln ∧ pf + ln ≤ 69632 + bt) (hgm : gb ≠ 4000 + m) (h102 : S 237 102 = m) (h103 : S 237 103 = bt) (h64 : S 237 64 = u2) (h65 : S 237 65 = u3) (hm : 0 ≤ m ∧ m ≤ u2) (hbt : 0 ≤ bt ∧ bt ≤ u3) (hu2 : u2 ≤ 12000) (hu3 : u3 ≤ 200000) (hl6 : ln ≤ 60000) (hk1 : S 363 (2100 * t + ba + 1) = k1) (hv1 : S 364 (2100 * t + ba + 1) = v1) (hk1r : 0 ≤ k1 ∧ k1 ≤ 8) (hv1r : -9223372036854775808 ≤ v1 ∧ v1 ≤ 9223372036854775807) (hkd : kd = 2) (hes : es = 1) : wJ (pe_GA xs) wY0 M (d + 8) t_M_actsOnRow ((pe_at t_M_actsOnRow.bl 0).getD (0, [])).2 [(0, (2, 237)), (1, (0, s)), (2, (0, kd))] [] S (fun o Z => (¬ (k1 = 2 ∧ 0 ≤ v1 ∧ v1 < ln) ∧ o = .inr 238 ∧ hZ 6 S = Z) ∨ ((k1 = 2 ∧ 0 ≤ v1 ∧ v1 < ln) ∧ (12000 ≤ u2 ∨ 200000 < u3 + ((v1 + 1) - v1)) ∧ o = .inr 238 ∧ hZ 99 S = Z) ∨ ((k1 = 2 ∧ 0 ≤ v1 ∧ v1 < ln) ∧ u2 < 12000 ∧ u3 + ((v1 + 1) - v1) ≤ 200000 ∧ o = .inl none ∧ ∃ A : wS, sbQ (pf + v1) ((v1 + 1) - v1) m bt u2 u3 S A ∧ gvZ t ba tp p 3 (4000 + m) A = Z)) := by
  have hP0 := hP
  obtain ⟨hM, ⟨mt, mt0, mt1⟩, mp, mf, ⟨mc, mc0, mc1⟩, ⟨mtp, mtq⟩, ⟨mpa, mp0, mp1⟩, mh, mh0, mh1⟩ := hP
  refine wa_aload_n (n := 0) rfl ?_
  refine wb_gfl 237 rfl (wy_pr rfl) wt_237 wf_15_175 (v := gb) (h75) (fun r801 => ?_)
  refine wb_l2i_r (wb_l2i_id ⟨(by omega), (by omega)⟩) ?_
  refine wa_istore_n (n := 3) rfl ?_
  refine wa_aload_n (n := 0) rfl ?_
  refine wb_gfi 237 rfl (wy_pr rfl) wt_237 wf_15_174 (v := 3) (h74) (fun r802 => ?_)
  refine wa_bipush (w_rg2 (by omega) (by omega)) ?_
  refine wa_icmpne (w_rg0 (by omega) (by omega)) (w_rg0 (by omega) (by omega)) ⟨_, rfl⟩ (fun c803 => ?_) (fun c803 => ?_)
  · skip
    refine wa_iconst ?_
    refine wa_fall ⟨_, rfl⟩ ?_
    refine wa_istore (n := 4) rfl ?_
    refine wa_iload (n := 4) rfl ?_
    refine wa_ifeq (w_rg0 (by omega) (by omega)) ⟨_, rfl⟩ (fun c804 => ?_) (fun c804 => ?_)
    · skip
      refine wa_aload_n (n := 0) rfl ?_
      refine wb_gf4 237 rfl (wy_pr rfl) wt_237 wf_15_23 (v := 285) wl_237_23 ?_
      refine wa_iload_n (n := 3) rfl ?_
      refine wb_iald 285 rfl (wy_pr rfl) wt_285 (n := 16000) ((ml_285 hM)) (by omega) (by omega) (v := ln) (h85) (fun r805 => ?_)
      refine wa_fall ⟨_, rfl⟩ ?_
      refine wa_istore (n := 5) rfl ?_
      refine wa_aload_n (n := 0) rfl ?_
      refine wb_gfi 237 rfl (wy_pr rfl) wt_237 wf_15_176 (v := es) (h76) (fun r806 => ?_)
      refine wa_ifle (w_rg0 (by omega) (by omega)) ⟨_, rfl⟩ (fun c807 => ?_) (fun c807 => ?_)
      · skip
        exact absurd c807 (by omega)
      · skip
        refine wa_aload_n (n := 0) rfl ?_
        refine wb_gf4 237 rfl (wy_pr rfl) wt_237 wf_15_139 (v := 364) wl_237_139 ?_
        refine wa_aload_n (n := 0) rfl ?_
        refine wb_gfi 237 rfl (wy_pr rfl) wt_237 wf_15_173 (v := ((2100 * t) + ba)) (h73) (fun r808 => ?_)
        refine wa_iconst ?_
        refine wa_iadd ?_
        refine wb_lald 364 rfl (wy_pr rfl) wt_364 (n := 4200) ((ml_364 hM)) (by omega) (by omega) (v := v1) (hv1) (fun r809 => ?_)
        refine wa_goto ⟨_, rfl⟩ ?_
        refine wa_lstore (n := 6) rfl ?_
        refine wa_aload_n (n := 0) rfl ?_
        refine wb_gfi 237 rfl (wy_pr rfl) wt_237 wf_15_176 (v := es) (h76) (fun r810 => ?_)
        refine wa_ifle (w_rg0 (by omega) (by omega)) ⟨_, rfl⟩ (fun c811 => ?_) (fun c811 => ?_)
        · skip
          exact absurd c811 (by omega)
        · skip
          refine wa_aload_n (n := 0) rfl ?_
          refine wb_gf4 237 rfl (wy_pr rfl) wt_237 wf_15_138 (v := 363) wl_237_138 ?_
          refine wa_aload_n (n := 0) rfl ?_
          refine wb_gfi 237 rfl (wy_pr rfl) wt_237 wf_15_173 (v := ((2100 * t) + ba)) (h73) (fun r812 => ?_)
          refine wa_iconst ?_
          refine wa_iadd ?_
          refine wb_iald 363 rfl (wy_pr rfl) wt_363 (n := 4200) ((ml_363 hM)) (by omega) (by omega) (v := k1) (hk1) (fun r813 => ?_)
          refine wa_iconst ?_
          refine wa_icmpne (w_rg0 (by omega) (by omega)) (w_rg0 (by omega) (by omega)) ⟨_, rfl⟩ (fun c814 => ?_) (fun c814 => ?_)
          · skip
            refine wa_iconst ?_
            refine wa_fall ⟨_, rfl⟩ ?_
            refine wa_istore (n := 8) rfl ?_
            refine wa_iload_n (n := 2) rfl ?_
            refine wa_ifne (w_rg0 (by omega) (by omega)) ⟨_, rfl⟩ (fun c815 => ?_) (fun c815 => ?_)
            · skip
              refine wa_iload_n (n := 2) rfl ?_
              refine wa_iconst ?_
              refine wa_icmpne (w_rg0 (by omega) (by omega)) (w_rg0 (by omega) (by omega)) ⟨_, rfl⟩ (fun c816 => ?_) (fun c816 => ?_)
              · skip
                exact absurd c816 (by omega)
              · skip
                refine wa_iload (n := 8) rfl ?_
                refine wa_ifeq (w_rg0 (by omega) (by omega)) ⟨_, rfl⟩ (fun c817 => ?_) (fun c817 => ?_)
                · skip
                  refine wa_aload_n (n := 0) rfl ?_
                  refine wa_bipush (w_rg2 (by omega) (by omega)) ?_
                  refine wa_cv 237 rfl (wy_pr rfl) wt_237 (M2 := fun _ => False) rfl at_M_error ⟨_, rfl⟩ rfl rfl ⟨trivial, trivial, trivial, trivial, trivial, (Or.inr ⟨wy_pr rfl, fun q => q⟩), trivial, trivial, trivial⟩ trivial (fun _ _ q => False.elim q) ?_ (fun _ _ _ q => q)
                  refine wa_aload_n (n := 0) rfl ?_
                  refine wb_gf4 237 rfl (wy_pr rfl) wt_237 wf_15_1 (v := 238) wl_237_1 ?_
                  refine wa_iload_n (n := 1) rfl ?_
                  refine wa_iconst ?_
                  refine wa_cv 238 rfl (wy_pr rfl) wt_238 (M2 := fun _ => False) rfl at_MH_of ⟨_, rfl⟩ rfl rfl ⟨(Or.inr ⟨wy_pr rfl, fun q => q⟩), trivial, trivial⟩ trivial (fun _ _ q => False.elim q) ?_ (fun _ _ _ q => q)
                  refine wa_aload_n (n := 0) rfl ?_
                  refine wa_iload_n (n := 1) rfl ?_
                  refine wb_pfi 238 rfl (wy_pr rfl) wt_238 wf_11_5 (n := 5) rfl ⟨(by omega), (by omega)⟩ ?_
                  refine wa_aload_n (n := 0) rfl ?_
                  refine wa_iload_n (n := 2) rfl ?_
                  refine wb_pfi 238 rfl (wy_pr rfl) wt_238 wf_11_6 (n := 6) rfl ⟨(by omega), (by omega)⟩ ?_
                  refine wa_aload_n (n := 0) rfl ?_
                  refine wa_oreturn rfl ?_
                  show wJ _ _ _ _ _ _ _ _ _ _
                  refine wa_th (j := 238) ?_
                  refine ⟨rfl, ?_⟩
                  exact Or.inl ⟨by omega, rfl, rfl⟩
                · skip
                  exact absurd c817 (by omega)
            · skip
              exact absurd c815 (by omega)
          · skip
            refine wa_iconst ?_
            refine wa_goto ⟨_, rfl⟩ ?_
            refine wa_istore (n := 8) rfl ?_
            refine wa_iload_n (n := 2) rfl ?_
            refine wa_ifne (w_rg0 (by omega) (by omega)) ⟨_, rfl⟩ (fun c818 => ?_) (fun c818 => ?_)
            · skip
              refine wa_iload_n (n := 2) rfl ?_
              refine wa_iconst ?_
              refine wa_icmpne (w_rg0 (by omega) (by omega)) (w_rg0 (by omega) (by omega)) ⟨_, rfl⟩ (fun c819 => ?_) (fun c819 => ?_)
              · skip
                exact absurd c819 (by omega)
              · skip
                refine wa_iload (n := 8) rfl ?_
                refine wa_ifeq (w_rg0 (by omega) (by omega)) ⟨_, rfl⟩ (fun c820 => ?_) (fun c820 => ?_)
                · skip
                  exact absurd c820 (by omega)
                · skip
                  refine wa_lload (n := 6) rfl ?_
                  refine wb_lconst (m := 0) rfl ?_
                  refine wa_iload (n := 5) rfl ?_
                  refine wa_iconst ?_
                  refine wa_isub ?_
                  refine wa_i2l (w_rg0 (by omega) (by omega)) ?_
                  refine wa_cs (M2 := fun _ => False) rfl at_M_in ⟨_, rfl⟩ rfl rfl ⟨trivial, trivial, trivial, trivial, trivial, (Or.inr ⟨wy_pr rfl, fun q => q⟩), trivial, trivial, trivial⟩ trivial (fun _ _ q => False.elim q) ?_ (fun _ _ _ q => q)
                  refine wa_lload_n (n := 0) rfl ?_
                  refine wa_lload_n (n := 2) rfl ?_
                  refine wa_lcmp (w_rg1 (by omega) (by omega)) (w_rg1 (by omega) (by omega)) ?_
                  refine wa_iflt (by have := @wb_lcmp_cases; exact w_lcmp_rg) ⟨_, rfl⟩ (fun c821 => ?_) (fun c821 => ?_)
                  · skip
                    have c821x := @wb_lcmp_cases v1 0
                    refine wa_iconst ?_
                    refine wa_fall ⟨_, rfl⟩ ?_
                    refine wa_zreturn rfl (Or.inl rfl) ?_
                    show wJ _ _ _ _ _ _ _ _ _ _
                    refine wa_ifne (w_rg0 (by omega) (by omega)) ⟨_, rfl⟩ (fun c822 => ?_) (fun c822 => ?_)
                    · skip
                      exact absurd c822 (by omega)
                    · skip
                      refine wa_fall ⟨_, rfl⟩ ?_
                      refine wa_aload_n (n := 0) rfl ?_
                      refine wa_bipush (w_rg2 (by omega) (by omega)) ?_
                      refine wa_cv 237 rfl (wy_pr rfl) wt_237 (M2 := fun _ => False) rfl at_M_error ⟨_, rfl⟩ rfl rfl ⟨trivial, trivial, trivial, trivial, trivial, (Or.inr ⟨wy_pr rfl, fun q => q⟩), trivial, trivial, trivial⟩ trivial (fun _ _ q => False.elim q) ?_ (fun _ _ _ q => q)
                      refine wa_aload_n (n := 0) rfl ?_
                      refine wb_gf4 237 rfl (wy_pr rfl) wt_237 wf_15_1 (v := 238) wl_237_1 ?_
                      refine wa_iload_n (n := 1) rfl ?_
                      refine wa_iconst ?_
                      refine wa_cv 238 rfl (wy_pr rfl) wt_238 (M2 := fun _ => False) rfl at_MH_of ⟨_, rfl⟩ rfl rfl ⟨(Or.inr ⟨wy_pr rfl, fun q => q⟩), trivial, trivial⟩ trivial (fun _ _ q => False.elim q) ?_ (fun _ _ _ q => q)
                      refine wa_aload_n (n := 0) rfl ?_
                      refine wa_iload_n (n := 1) rfl ?_
                      refine wb_pfi 238 rfl (wy_pr rfl) wt_238 wf_11_5 (n := 5) rfl ⟨(by omega), (by omega)⟩ ?_
                      refine wa_aload_n (n := 0) rfl ?_
                      refine wa_iload_n (n := 2) rfl ?_
                      refine wb_pfi 238 rfl (wy_pr rfl) wt_238 wf_11_6 (n := 6) rfl ⟨(by omega), (by omega)⟩ ?_
                      refine wa_aload_n (n := 0) rfl ?_
                      refine wa_oreturn rfl ?_
                      show wJ _ _ _ _ _ _ _ _ _ _
                      refine wa_th (j := 238) ?_
                      refine ⟨rfl, ?_⟩
                      exact Or.inl ⟨by omega, rfl, rfl⟩
                  · skip
                    have c821x := @wb_lcmp_cases v1 0
                    refine wa_lload_n (n := 0) rfl ?_
                    refine wa_lload (n := 4) rfl ?_
                    refine wa_lcmp (w_rg1 (by omega) (by omega)) (w_rg1 (by omega) (by omega)) ?_
                    refine wa_ifgt (by have := @wb_lcmp_cases; exact w_lcmp_rg) ⟨_, rfl⟩ (fun c823 => ?_) (fun c823 => ?_)
                    · skip
                      have c823x := @wb_lcmp_cases v1 (ln - 1)
                      refine wa_iconst ?_
                      refine wa_fall ⟨_, rfl⟩ ?_
                      refine wa_zreturn rfl (Or.inl rfl) ?_
                      show wJ _ _ _ _ _ _ _ _ _ _
                      refine wa_ifne (w_rg0 (by omega) (by omega)) ⟨_, rfl⟩ (fun c824 => ?_) (fun c824 => ?_)
                      · skip
                        exact absurd c824 (by omega)
                      · skip
                        refine wa_fall ⟨_, rfl⟩ ?_
                        refine wa_aload_n (n := 0) rfl ?_
                        refine wa_bipush (w_rg2 (by omega) (by omega)) ?_
                        refine wa_cv 237 rfl (wy_pr rfl) wt_237 (M2 := fun _ => False) rfl at_M_error ⟨_, rfl⟩ rfl rfl ⟨trivial, trivial, trivial, trivial, trivial, (Or.inr ⟨wy_pr rfl, fun q => q⟩), trivial, trivial, trivial⟩ trivial (fun _ _ q => False.elim q) ?_ (fun _ _ _ q => q)
                        refine wa_aload_n (n := 0) rfl ?_
                        refine wb_gf4 237 rfl (wy_pr rfl) wt_237 wf_15_1 (v := 238) wl_237_1 ?_
                        refine wa_iload_n (n := 1) rfl ?_
                        refine wa_iconst ?_
                        refine wa_cv 238 rfl (wy_pr rfl) wt_238 (M2 := fun _ => False) rfl at_MH_of ⟨_, rfl⟩ rfl rfl ⟨(Or.inr ⟨wy_pr rfl, fun q => q⟩), trivial, trivial⟩ trivial (fun _ _ q => False.elim q) ?_ (fun _ _ _ q => q)
                        refine wa_aload_n (n := 0) rfl ?_
                        refine wa_iload_n (n := 1) rfl ?_
                        refine wb_pfi 238 rfl (wy_pr rfl) wt_238 wf_11_5 (n := 5) rfl ⟨(by omega), (by omega)⟩ ?_
                        refine wa_aload_n (n := 0) rfl ?_
                        refine wa_iload_n (n := 2) rfl ?_
                        refine wb_pfi 238 rfl (wy_pr rfl) wt_238 wf_11_6 (n := 6) rfl ⟨(by omega), (by omega)⟩ ?_
                        refine wa_aload_n (n := 0) rfl ?_
                        refine wa_oreturn rfl ?_
                        show wJ _ _ _ _ _ _ _ _ _ _
                        refine wa_th (j := 238) ?_
                        refine ⟨rfl, ?_⟩
                        exact Or.inl ⟨by omega, rfl, rfl⟩
                    · skip
                      have c823x := @wb_lcmp_cases v1 (ln - 1)
                      refine wa_iconst ?_
                      refine wa_goto ⟨_, rfl⟩ ?_
                      refine wa_zreturn rfl (Or.inr rfl) ?_
                      show wJ _ _ _ _ _ _ _ _ _ _
                      refine wa_ifne (w_rg0 (by omega) (by omega)) ⟨_, rfl⟩ (fun c825 => ?_) (fun c825 => ?_)
                      · skip
                        refine wa_iload (n := 4) rfl ?_
                        refine wa_ifeq (w_rg0 (by omega) (by omega)) ⟨_, rfl⟩ (fun c826 => ?_) (fun c826 => ?_)
                        · skip
                          refine wa_aload_n (n := 0) rfl ?_
                          refine wa_iload_n (n := 3) rfl ?_
                          refine wa_lload (n := 6) rfl ?_
                          refine wa_lload (n := 6) rfl ?_
                          refine wb_lconst (m := 1) rfl ?_
                          refine wa_ladd ?_
                          refine wa_cv 237 rfl (wy_pr rfl) wt_237 (M2 := fun _ => False) rfl at_M_sub ⟨_, rfl⟩ rfl rfl ⟨trivial, trivial, trivial, trivial, trivial, (Or.inr ⟨wy_pr rfl, fun q => q⟩), trivial, trivial, trivial⟩ trivial (fun _ _ q => False.elim q) (sbt_ok (S := S) (a := v1) (b := (v1 + 1)) (u2 := u2) (u3 := u3) hP0 h73 hba hgb h84 h85 hln hgm h102 h103 h64 h65 hm hbt hu2 hu3 hl6 ⟨by omega, by omega, by omega⟩) (fun oq827 Sq827 hp828 q827 => ?_)
                          rcases q827 with ⟨hr1, rfl, rfl⟩ | ⟨hr1, hr2, rfl, SA, hsA, rfl⟩
                          · skip
                            refine ⟨rfl, ?_⟩
                            exact Or.inr (Or.inl ⟨by omega, by omega, rfl, rfl⟩)
                          · skip
                            show wJ _ _ _ _ _ _ _ _ _ _
                            refine wa_goto ⟨_, rfl⟩ ?_
                            refine wa_return rfl ?_
                            exact Or.inr (Or.inr ⟨by omega, by omega, by omega, rfl, SA, hsA, rfl⟩)
                        · skip
                          exact absurd c826 (by omega)
                      · skip
                        exact absurd c825 (by omega)
            · skip
              exact absurd c818 (by omega)
    · skip
      exact absurd c804 (by omega)
  · skip
    exact absurd c803 (by omega)
set_option maxHeartbeats 4000000 in
theorem rtb_ok (hP : mP t c p h tp S) (h73 : S 237 173 = 2100 * t + ba) (hba : 0 ≤ ba ∧ ba ≤ h) (h74 : S 237 174 = 3) (h75 : S 237 175 = gb) (h76 : S 237 176 = es) (hgb : 0 ≤ gb ∧ gb < 16000) (h84 : S 284 gb = pf) (h85 : S 285 gb = ln) (hln : 0 ≤ pf ∧ 0 ≤ ln ∧ pf + ln ≤ 69632 + bt) (hgm : gb ≠ 4000 + m) (h102 : S 237 102 = m) (h103 : S 237 103 = bt) (h64 : S 237 64 = u2) (h65 : S 237 65 = u3) (hm : 0 ≤ m ∧ m ≤ u2) (hbt : 0 ≤ bt ∧ bt ≤ u3) (hu2 : u2 ≤ 12000) (hu3 : u3 ≤ 200000) (hl6 : ln ≤ 60000) (hk1 : S 363 (2100 * t + ba + 1) = k1) (hv1 : S 364 (2100 * t + ba + 1) = v1) (hk1r : 0 ≤ k1 ∧ k1 ≤ 8) (hv1r : -9223372036854775808 ≤ v1 ∧ v1 ≤ 9223372036854775807) (hkl : S 363 (2100 * t + ba + 2) = kl) (hvl : S 364 (2100 * t + ba + 2) = vl) (hklr : 0 ≤ kl ∧ kl ≤ 8) (hvlr : -9223372036854775808 ≤ vl ∧ vl ≤ 9223372036854775807) (hkd : kd = 5) (hes : es = 2) : wJ (pe_GA xs) wY0 M (d + 8) t_M_actsOnRow ((pe_at t_M_actsOnRow.bl 0).getD (0, [])).2 [(0, (2, 237)), (1, (0, s)), (2, (0, kd))] [] S (fun o Z => (¬ (k1 = 2 ∧ kl = 2 ∧ 0 ≤ v1 ∧ v1 ≤ vl ∧ vl ≤ ln) ∧ o = .inr 238 ∧ hZ 6 S = Z) ∨ ((k1 = 2 ∧ kl = 2 ∧ 0 ≤ v1 ∧ v1 ≤ vl ∧ vl ≤ ln) ∧ (12000 ≤ u2 ∨ 200000 < u3 + (vl - v1)) ∧ o = .inr 238 ∧ hZ 99 S = Z) ∨ ((k1 = 2 ∧ kl = 2 ∧ 0 ≤ v1 ∧ v1 ≤ vl ∧ vl ≤ ln) ∧ u2 < 12000 ∧ u3 + (vl - v1) ≤ 200000 ∧ o = .inl none ∧ ∃ A : wS, sbQ (pf + v1) (vl - v1) m bt u2 u3 S A ∧ gvZ t ba tp p 3 (4000 + m) A = Z)) := by
  have hP0 := hP
  obtain ⟨hM, ⟨mt, mt0, mt1⟩, mp, mf, ⟨mc, mc0, mc1⟩, ⟨mtp, mtq⟩, ⟨mpa, mp0, mp1⟩, mh, mh0, mh1⟩ := hP
  refine wa_aload_n (n := 0) rfl ?_
  refine wb_gfl 237 rfl (wy_pr rfl) wt_237 wf_15_175 (v := gb) (h75) (fun r801 => ?_)
  refine wb_l2i_r (wb_l2i_id ⟨(by omega), (by omega)⟩) ?_
  refine wa_istore_n (n := 3) rfl ?_
  refine wa_aload_n (n := 0) rfl ?_
  refine wb_gfi 237 rfl (wy_pr rfl) wt_237 wf_15_174 (v := 3) (h74) (fun r802 => ?_)
  refine wa_bipush (w_rg2 (by omega) (by omega)) ?_
  refine wa_icmpne (w_rg0 (by omega) (by omega)) (w_rg0 (by omega) (by omega)) ⟨_, rfl⟩ (fun c803 => ?_) (fun c803 => ?_)
  · skip
    refine wa_iconst ?_
    refine wa_fall ⟨_, rfl⟩ ?_
    refine wa_istore (n := 4) rfl ?_
    refine wa_iload (n := 4) rfl ?_
    refine wa_ifeq (w_rg0 (by omega) (by omega)) ⟨_, rfl⟩ (fun c804 => ?_) (fun c804 => ?_)
    · skip
      refine wa_aload_n (n := 0) rfl ?_
      refine wb_gf4 237 rfl (wy_pr rfl) wt_237 wf_15_23 (v := 285) wl_237_23 ?_
      refine wa_iload_n (n := 3) rfl ?_
      refine wb_iald 285 rfl (wy_pr rfl) wt_285 (n := 16000) ((ml_285 hM)) (by omega) (by omega) (v := ln) (h85) (fun r805 => ?_)
      refine wa_fall ⟨_, rfl⟩ ?_
      refine wa_istore (n := 5) rfl ?_
      refine wa_aload_n (n := 0) rfl ?_
      refine wb_gfi 237 rfl (wy_pr rfl) wt_237 wf_15_176 (v := es) (h76) (fun r806 => ?_)
      refine wa_ifle (w_rg0 (by omega) (by omega)) ⟨_, rfl⟩ (fun c807 => ?_) (fun c807 => ?_)
      · skip
        exact absurd c807 (by omega)
      · skip
        refine wa_aload_n (n := 0) rfl ?_
        refine wb_gf4 237 rfl (wy_pr rfl) wt_237 wf_15_139 (v := 364) wl_237_139 ?_
        refine wa_aload_n (n := 0) rfl ?_
        refine wb_gfi 237 rfl (wy_pr rfl) wt_237 wf_15_173 (v := ((2100 * t) + ba)) (h73) (fun r808 => ?_)
        refine wa_iconst ?_
        refine wa_iadd ?_
        refine wb_lald 364 rfl (wy_pr rfl) wt_364 (n := 4200) ((ml_364 hM)) (by omega) (by omega) (v := v1) (hv1) (fun r809 => ?_)
        refine wa_goto ⟨_, rfl⟩ ?_
        refine wa_lstore (n := 6) rfl ?_
        refine wa_aload_n (n := 0) rfl ?_
        refine wb_gfi 237 rfl (wy_pr rfl) wt_237 wf_15_176 (v := es) (h76) (fun r810 => ?_)
        refine wa_ifle (w_rg0 (by omega) (by omega)) ⟨_, rfl⟩ (fun c811 => ?_) (fun c811 => ?_)
        · skip
          exact absurd c811 (by omega)
        · skip
          refine wa_aload_n (n := 0) rfl ?_
          refine wb_gf4 237 rfl (wy_pr rfl) wt_237 wf_15_138 (v := 363) wl_237_138 ?_
          refine wa_aload_n (n := 0) rfl ?_
          refine wb_gfi 237 rfl (wy_pr rfl) wt_237 wf_15_173 (v := ((2100 * t) + ba)) (h73) (fun r812 => ?_)
          refine wa_iconst ?_
          refine wa_iadd ?_
          refine wb_iald 363 rfl (wy_pr rfl) wt_363 (n := 4200) ((ml_363 hM)) (by omega) (by omega) (v := k1) (hk1) (fun r813 => ?_)
          refine wa_iconst ?_
          refine wa_icmpne (w_rg0 (by omega) (by omega)) (w_rg0 (by omega) (by omega)) ⟨_, rfl⟩ (fun c814 => ?_) (fun c814 => ?_)
          · skip
            refine wa_iconst ?_
            refine wa_fall ⟨_, rfl⟩ ?_
            refine wa_istore (n := 8) rfl ?_
            refine wa_iload_n (n := 2) rfl ?_
            refine wa_ifne (w_rg0 (by omega) (by omega)) ⟨_, rfl⟩ (fun c815 => ?_) (fun c815 => ?_)
            · skip
              refine wa_iload_n (n := 2) rfl ?_
              refine wa_iconst ?_
              refine wa_icmpne (w_rg0 (by omega) (by omega)) (w_rg0 (by omega) (by omega)) ⟨_, rfl⟩ (fun c816 => ?_) (fun c816 => ?_)
              · skip
                refine wa_iload_n (n := 2) rfl ?_
                refine wa_iconst ?_
                refine wa_icmpne (w_rg0 (by omega) (by omega)) (w_rg0 (by omega) (by omega)) ⟨_, rfl⟩ (fun c817 => ?_) (fun c817 => ?_)
                · skip
                  refine wa_iload (n := 4) rfl ?_
                  refine wa_ifeq (w_rg0 (by omega) (by omega)) ⟨_, rfl⟩ (fun c818 => ?_) (fun c818 => ?_)
                  · skip
                    refine wa_iload (n := 8) rfl ?_
                    refine wa_ifeq (w_rg0 (by omega) (by omega)) ⟨_, rfl⟩ (fun c819 => ?_) (fun c819 => ?_)
                    · skip
                      refine wa_iconst ?_
                      refine wa_fall ⟨_, rfl⟩ ?_
                      refine wa_istore (n := 9) rfl ?_
                      refine wa_iload (n := 9) rfl ?_
                      refine wa_ifne (w_rg0 (by omega) (by omega)) ⟨_, rfl⟩ (fun c820 => ?_) (fun c820 => ?_)
                      · skip
                        exact absurd c820 (by omega)
                      · skip
                        refine wa_aload_n (n := 0) rfl ?_
                        refine wa_bipush (w_rg2 (by omega) (by omega)) ?_
                        refine wa_cv 237 rfl (wy_pr rfl) wt_237 (M2 := fun _ => False) rfl at_M_error ⟨_, rfl⟩ rfl rfl ⟨trivial, trivial, trivial, trivial, trivial, trivial, (Or.inr ⟨wy_pr rfl, fun q => q⟩), trivial, trivial, trivial⟩ trivial (fun _ _ q => False.elim q) ?_ (fun _ _ _ q => q)
                        refine wa_aload_n (n := 0) rfl ?_
                        refine wb_gf4 237 rfl (wy_pr rfl) wt_237 wf_15_1 (v := 238) wl_237_1 ?_
                        refine wa_iload_n (n := 1) rfl ?_
                        refine wa_iconst ?_
                        refine wa_cv 238 rfl (wy_pr rfl) wt_238 (M2 := fun _ => False) rfl at_MH_of ⟨_, rfl⟩ rfl rfl ⟨(Or.inr ⟨wy_pr rfl, fun q => q⟩), trivial, trivial⟩ trivial (fun _ _ q => False.elim q) ?_ (fun _ _ _ q => q)
                        refine wa_aload_n (n := 0) rfl ?_
                        refine wa_iload_n (n := 1) rfl ?_
                        refine wb_pfi 238 rfl (wy_pr rfl) wt_238 wf_11_5 (n := 5) rfl ⟨(by omega), (by omega)⟩ ?_
                        refine wa_aload_n (n := 0) rfl ?_
                        refine wa_iload_n (n := 2) rfl ?_
                        refine wb_pfi 238 rfl (wy_pr rfl) wt_238 wf_11_6 (n := 6) rfl ⟨(by omega), (by omega)⟩ ?_
                        refine wa_aload_n (n := 0) rfl ?_
                        refine wa_oreturn rfl ?_
                        show wJ _ _ _ _ _ _ _ _ _ _
                        refine wa_th (j := 238) ?_
                        refine ⟨rfl, ?_⟩
                        exact Or.inl ⟨by omega, rfl, rfl⟩
                    · skip
                      exact absurd c819 (by omega)
                  · skip
                    exact absurd c818 (by omega)
                · skip
                  exact absurd c817 (by omega)
              · skip
                exact absurd c816 (by omega)
            · skip
              exact absurd c815 (by omega)
          · skip
            refine wa_iconst ?_
            refine wa_goto ⟨_, rfl⟩ ?_
            refine wa_istore (n := 8) rfl ?_
            refine wa_iload_n (n := 2) rfl ?_
            refine wa_ifne (w_rg0 (by omega) (by omega)) ⟨_, rfl⟩ (fun c821 => ?_) (fun c821 => ?_)
            · skip
              refine wa_iload_n (n := 2) rfl ?_
              refine wa_iconst ?_
              refine wa_icmpne (w_rg0 (by omega) (by omega)) (w_rg0 (by omega) (by omega)) ⟨_, rfl⟩ (fun c822 => ?_) (fun c822 => ?_)
              · skip
                refine wa_iload_n (n := 2) rfl ?_
                refine wa_iconst ?_
                refine wa_icmpne (w_rg0 (by omega) (by omega)) (w_rg0 (by omega) (by omega)) ⟨_, rfl⟩ (fun c823 => ?_) (fun c823 => ?_)
                · skip
                  refine wa_iload (n := 4) rfl ?_
                  refine wa_ifeq (w_rg0 (by omega) (by omega)) ⟨_, rfl⟩ (fun c824 => ?_) (fun c824 => ?_)
                  · skip
                    refine wa_iload (n := 8) rfl ?_
                    refine wa_ifeq (w_rg0 (by omega) (by omega)) ⟨_, rfl⟩ (fun c825 => ?_) (fun c825 => ?_)
                    · skip
                      exact absurd c825 (by omega)
                    · skip
                      refine wa_aload_n (n := 0) rfl ?_
                      refine wb_gf4 237 rfl (wy_pr rfl) wt_237 wf_15_138 (v := 363) wl_237_138 ?_
                      refine wa_aload_n (n := 0) rfl ?_
                      refine wb_gfi 237 rfl (wy_pr rfl) wt_237 wf_15_173 (v := ((2100 * t) + ba)) (h73) (fun r826 => ?_)
                      refine wa_iconst ?_
                      refine wa_iadd ?_
                      refine wb_iald 363 rfl (wy_pr rfl) wt_363 (n := 4200) ((ml_363 hM)) (by omega) (by omega) (v := kl) (hkl) (fun r827 => ?_)
                      refine wa_iconst ?_
                      refine wa_icmpne (w_rg0 (by omega) (by omega)) (w_rg0 (by omega) (by omega)) ⟨_, rfl⟩ (fun c828 => ?_) (fun c828 => ?_)
                      · skip
                        refine wa_iconst ?_
                        refine wa_fall ⟨_, rfl⟩ ?_
                        refine wa_istore (n := 9) rfl ?_
                        refine wa_iload (n := 9) rfl ?_
                        refine wa_ifne (w_rg0 (by omega) (by omega)) ⟨_, rfl⟩ (fun c829 => ?_) (fun c829 => ?_)
                        · skip
                          exact absurd c829 (by omega)
                        · skip
                          refine wa_aload_n (n := 0) rfl ?_
                          refine wa_bipush (w_rg2 (by omega) (by omega)) ?_
                          refine wa_cv 237 rfl (wy_pr rfl) wt_237 (M2 := fun _ => False) rfl at_M_error ⟨_, rfl⟩ rfl rfl ⟨trivial, trivial, trivial, trivial, trivial, trivial, (Or.inr ⟨wy_pr rfl, fun q => q⟩), trivial, trivial, trivial⟩ trivial (fun _ _ q => False.elim q) ?_ (fun _ _ _ q => q)
                          refine wa_aload_n (n := 0) rfl ?_
                          refine wb_gf4 237 rfl (wy_pr rfl) wt_237 wf_15_1 (v := 238) wl_237_1 ?_
                          refine wa_iload_n (n := 1) rfl ?_
                          refine wa_iconst ?_
                          refine wa_cv 238 rfl (wy_pr rfl) wt_238 (M2 := fun _ => False) rfl at_MH_of ⟨_, rfl⟩ rfl rfl ⟨(Or.inr ⟨wy_pr rfl, fun q => q⟩), trivial, trivial⟩ trivial (fun _ _ q => False.elim q) ?_ (fun _ _ _ q => q)
                          refine wa_aload_n (n := 0) rfl ?_
                          refine wa_iload_n (n := 1) rfl ?_
                          refine wb_pfi 238 rfl (wy_pr rfl) wt_238 wf_11_5 (n := 5) rfl ⟨(by omega), (by omega)⟩ ?_
                          refine wa_aload_n (n := 0) rfl ?_
                          refine wa_iload_n (n := 2) rfl ?_
                          refine wb_pfi 238 rfl (wy_pr rfl) wt_238 wf_11_6 (n := 6) rfl ⟨(by omega), (by omega)⟩ ?_
                          refine wa_aload_n (n := 0) rfl ?_
                          refine wa_oreturn rfl ?_
                          show wJ _ _ _ _ _ _ _ _ _ _
                          refine wa_th (j := 238) ?_
                          refine ⟨rfl, ?_⟩
                          exact Or.inl ⟨by omega, rfl, rfl⟩
                      · skip
                        refine wa_lload (n := 6) rfl ?_
                        refine wb_lconst (m := 0) rfl ?_
                        refine wa_iload (n := 5) rfl ?_
                        refine wa_i2l (w_rg0 (by omega) (by omega)) ?_
                        refine wa_cs (M2 := fun _ => False) rfl at_M_in ⟨_, rfl⟩ rfl rfl ⟨trivial, trivial, trivial, trivial, trivial, (Or.inr ⟨wy_pr rfl, fun q => q⟩), trivial, trivial, trivial⟩ trivial (fun _ _ q => False.elim q) ?_ (fun _ _ _ q => q)
                        refine wa_lload_n (n := 0) rfl ?_
                        refine wa_lload_n (n := 2) rfl ?_
                        refine wa_lcmp (w_rg1 (by omega) (by omega)) (w_rg1 (by omega) (by omega)) ?_
                        refine wa_iflt (by have := @wb_lcmp_cases; exact w_lcmp_rg) ⟨_, rfl⟩ (fun c830 => ?_) (fun c830 => ?_)
                        · skip
                          have c830x := @wb_lcmp_cases v1 0
                          refine wa_iconst ?_
                          refine wa_fall ⟨_, rfl⟩ ?_
                          refine wa_zreturn rfl (Or.inl rfl) ?_
                          show wJ _ _ _ _ _ _ _ _ _ _
                          refine wa_ifeq (w_rg0 (by omega) (by omega)) ⟨_, rfl⟩ (fun c831 => ?_) (fun c831 => ?_)
                          · skip
                            refine wa_iconst ?_
                            refine wa_fall ⟨_, rfl⟩ ?_
                            refine wa_istore (n := 9) rfl ?_
                            refine wa_iload (n := 9) rfl ?_
                            refine wa_ifne (w_rg0 (by omega) (by omega)) ⟨_, rfl⟩ (fun c832 => ?_) (fun c832 => ?_)
                            · skip
                              exact absurd c832 (by omega)
                            · skip
                              refine wa_aload_n (n := 0) rfl ?_
                              refine wa_bipush (w_rg2 (by omega) (by omega)) ?_
                              refine wa_cv 237 rfl (wy_pr rfl) wt_237 (M2 := fun _ => False) rfl at_M_error ⟨_, rfl⟩ rfl rfl ⟨trivial, trivial, trivial, trivial, trivial, trivial, (Or.inr ⟨wy_pr rfl, fun q => q⟩), trivial, trivial, trivial⟩ trivial (fun _ _ q => False.elim q) ?_ (fun _ _ _ q => q)
                              refine wa_aload_n (n := 0) rfl ?_
                              refine wb_gf4 237 rfl (wy_pr rfl) wt_237 wf_15_1 (v := 238) wl_237_1 ?_
                              refine wa_iload_n (n := 1) rfl ?_
                              refine wa_iconst ?_
                              refine wa_cv 238 rfl (wy_pr rfl) wt_238 (M2 := fun _ => False) rfl at_MH_of ⟨_, rfl⟩ rfl rfl ⟨(Or.inr ⟨wy_pr rfl, fun q => q⟩), trivial, trivial⟩ trivial (fun _ _ q => False.elim q) ?_ (fun _ _ _ q => q)
                              refine wa_aload_n (n := 0) rfl ?_
                              refine wa_iload_n (n := 1) rfl ?_
                              refine wb_pfi 238 rfl (wy_pr rfl) wt_238 wf_11_5 (n := 5) rfl ⟨(by omega), (by omega)⟩ ?_
                              refine wa_aload_n (n := 0) rfl ?_
                              refine wa_iload_n (n := 2) rfl ?_
                              refine wb_pfi 238 rfl (wy_pr rfl) wt_238 wf_11_6 (n := 6) rfl ⟨(by omega), (by omega)⟩ ?_
                              refine wa_aload_n (n := 0) rfl ?_
                              refine wa_oreturn rfl ?_
                              show wJ _ _ _ _ _ _ _ _ _ _
                              refine wa_th (j := 238) ?_
                              refine ⟨rfl, ?_⟩
                              exact Or.inl ⟨by omega, rfl, rfl⟩
                          · skip
                            exact absurd c831 (by omega)
                        · skip
                          have c830x := @wb_lcmp_cases v1 0
                          refine wa_lload_n (n := 0) rfl ?_
                          refine wa_lload (n := 4) rfl ?_
                          refine wa_lcmp (w_rg1 (by omega) (by omega)) (w_rg1 (by omega) (by omega)) ?_
                          refine wa_ifgt (by have := @wb_lcmp_cases; exact w_lcmp_rg) ⟨_, rfl⟩ (fun c833 => ?_) (fun c833 => ?_)
                          · skip
                            have c833x := @wb_lcmp_cases v1 ln
                            refine wa_iconst ?_
                            refine wa_fall ⟨_, rfl⟩ ?_
                            refine wa_zreturn rfl (Or.inl rfl) ?_
                            show wJ _ _ _ _ _ _ _ _ _ _
                            refine wa_ifeq (w_rg0 (by omega) (by omega)) ⟨_, rfl⟩ (fun c834 => ?_) (fun c834 => ?_)
                            · skip
                              refine wa_iconst ?_
                              refine wa_fall ⟨_, rfl⟩ ?_
                              refine wa_istore (n := 9) rfl ?_
                              refine wa_iload (n := 9) rfl ?_
                              refine wa_ifne (w_rg0 (by omega) (by omega)) ⟨_, rfl⟩ (fun c835 => ?_) (fun c835 => ?_)
                              · skip
                                exact absurd c835 (by omega)
                              · skip
                                refine wa_aload_n (n := 0) rfl ?_
                                refine wa_bipush (w_rg2 (by omega) (by omega)) ?_
                                refine wa_cv 237 rfl (wy_pr rfl) wt_237 (M2 := fun _ => False) rfl at_M_error ⟨_, rfl⟩ rfl rfl ⟨trivial, trivial, trivial, trivial, trivial, trivial, (Or.inr ⟨wy_pr rfl, fun q => q⟩), trivial, trivial, trivial⟩ trivial (fun _ _ q => False.elim q) ?_ (fun _ _ _ q => q)
                                refine wa_aload_n (n := 0) rfl ?_
                                refine wb_gf4 237 rfl (wy_pr rfl) wt_237 wf_15_1 (v := 238) wl_237_1 ?_
                                refine wa_iload_n (n := 1) rfl ?_
                                refine wa_iconst ?_
                                refine wa_cv 238 rfl (wy_pr rfl) wt_238 (M2 := fun _ => False) rfl at_MH_of ⟨_, rfl⟩ rfl rfl ⟨(Or.inr ⟨wy_pr rfl, fun q => q⟩), trivial, trivial⟩ trivial (fun _ _ q => False.elim q) ?_ (fun _ _ _ q => q)
                                refine wa_aload_n (n := 0) rfl ?_
                                refine wa_iload_n (n := 1) rfl ?_
                                refine wb_pfi 238 rfl (wy_pr rfl) wt_238 wf_11_5 (n := 5) rfl ⟨(by omega), (by omega)⟩ ?_
                                refine wa_aload_n (n := 0) rfl ?_
                                refine wa_iload_n (n := 2) rfl ?_
                                refine wb_pfi 238 rfl (wy_pr rfl) wt_238 wf_11_6 (n := 6) rfl ⟨(by omega), (by omega)⟩ ?_
                                refine wa_aload_n (n := 0) rfl ?_
                                refine wa_oreturn rfl ?_
                                show wJ _ _ _ _ _ _ _ _ _ _
                                refine wa_th (j := 238) ?_
                                refine ⟨rfl, ?_⟩
                                exact Or.inl ⟨by omega, rfl, rfl⟩
                            · skip
                              exact absurd c834 (by omega)
                          · skip
                            have c833x := @wb_lcmp_cases v1 ln
                            refine wa_iconst ?_
                            refine wa_goto ⟨_, rfl⟩ ?_
                            refine wa_zreturn rfl (Or.inr rfl) ?_
                            show wJ _ _ _ _ _ _ _ _ _ _
                            refine wa_ifeq (w_rg0 (by omega) (by omega)) ⟨_, rfl⟩ (fun c836 => ?_) (fun c836 => ?_)
                            · skip
                              exact absurd c836 (by omega)
                            · skip
                              refine wa_aload_n (n := 0) rfl ?_
                              refine wb_gf4 237 rfl (wy_pr rfl) wt_237 wf_15_139 (v := 364) wl_237_139 ?_
                              refine wa_aload_n (n := 0) rfl ?_
                              refine wb_gfi 237 rfl (wy_pr rfl) wt_237 wf_15_173 (v := ((2100 * t) + ba)) (h73) (fun r837 => ?_)
                              refine wa_iconst ?_
                              refine wa_iadd ?_
                              refine wb_lald 364 rfl (wy_pr rfl) wt_364 (n := 4200) ((ml_364 hM)) (by omega) (by omega) (v := vl) (hvl) (fun r838 => ?_)
                              refine wa_lload (n := 6) rfl ?_
                              refine wa_iload (n := 5) rfl ?_
                              refine wa_i2l (w_rg0 (by omega) (by omega)) ?_
                              refine wa_cs (M2 := fun _ => False) rfl at_M_in ⟨_, rfl⟩ rfl rfl ⟨trivial, trivial, trivial, trivial, trivial, (Or.inr ⟨wy_pr rfl, fun q => q⟩), trivial, trivial, trivial⟩ trivial (fun _ _ q => False.elim q) ?_ (fun _ _ _ q => q)
                              refine wa_lload_n (n := 0) rfl ?_
                              refine wa_lload_n (n := 2) rfl ?_
                              refine wa_lcmp (w_rg1 (by omega) (by omega)) (w_rg1 (by omega) (by omega)) ?_
                              refine wa_iflt (by have := @wb_lcmp_cases; exact w_lcmp_rg) ⟨_, rfl⟩ (fun c839 => ?_) (fun c839 => ?_)
                              · skip
                                have c839x := @wb_lcmp_cases vl v1
                                refine wa_iconst ?_
                                refine wa_fall ⟨_, rfl⟩ ?_
                                refine wa_zreturn rfl (Or.inl rfl) ?_
                                show wJ _ _ _ _ _ _ _ _ _ _
                                refine wa_ifeq (w_rg0 (by omega) (by omega)) ⟨_, rfl⟩ (fun c840 => ?_) (fun c840 => ?_)
                                · skip
                                  refine wa_iconst ?_
                                  refine wa_fall ⟨_, rfl⟩ ?_
                                  refine wa_istore (n := 9) rfl ?_
                                  refine wa_iload (n := 9) rfl ?_
                                  refine wa_ifne (w_rg0 (by omega) (by omega)) ⟨_, rfl⟩ (fun c841 => ?_) (fun c841 => ?_)
                                  · skip
                                    exact absurd c841 (by omega)
                                  · skip
                                    refine wa_aload_n (n := 0) rfl ?_
                                    refine wa_bipush (w_rg2 (by omega) (by omega)) ?_
                                    refine wa_cv 237 rfl (wy_pr rfl) wt_237 (M2 := fun _ => False) rfl at_M_error ⟨_, rfl⟩ rfl rfl ⟨trivial, trivial, trivial, trivial, trivial, trivial, (Or.inr ⟨wy_pr rfl, fun q => q⟩), trivial, trivial, trivial⟩ trivial (fun _ _ q => False.elim q) ?_ (fun _ _ _ q => q)
                                    refine wa_aload_n (n := 0) rfl ?_
                                    refine wb_gf4 237 rfl (wy_pr rfl) wt_237 wf_15_1 (v := 238) wl_237_1 ?_
                                    refine wa_iload_n (n := 1) rfl ?_
                                    refine wa_iconst ?_
                                    refine wa_cv 238 rfl (wy_pr rfl) wt_238 (M2 := fun _ => False) rfl at_MH_of ⟨_, rfl⟩ rfl rfl ⟨(Or.inr ⟨wy_pr rfl, fun q => q⟩), trivial, trivial⟩ trivial (fun _ _ q => False.elim q) ?_ (fun _ _ _ q => q)
                                    refine wa_aload_n (n := 0) rfl ?_
                                    refine wa_iload_n (n := 1) rfl ?_
                                    refine wb_pfi 238 rfl (wy_pr rfl) wt_238 wf_11_5 (n := 5) rfl ⟨(by omega), (by omega)⟩ ?_
                                    refine wa_aload_n (n := 0) rfl ?_
                                    refine wa_iload_n (n := 2) rfl ?_
                                    refine wb_pfi 238 rfl (wy_pr rfl) wt_238 wf_11_6 (n := 6) rfl ⟨(by omega), (by omega)⟩ ?_
                                    refine wa_aload_n (n := 0) rfl ?_
                                    refine wa_oreturn rfl ?_
                                    show wJ _ _ _ _ _ _ _ _ _ _
                                    refine wa_th (j := 238) ?_
                                    refine ⟨rfl, ?_⟩
                                    exact Or.inl ⟨by omega, rfl, rfl⟩
                                · skip
                                  exact absurd c840 (by omega)
                              · skip
                                have c839x := @wb_lcmp_cases vl v1
                                refine wa_lload_n (n := 0) rfl ?_
                                refine wa_lload (n := 4) rfl ?_
                                refine wa_lcmp (w_rg1 (by omega) (by omega)) (w_rg1 (by omega) (by omega)) ?_
                                refine wa_ifgt (by have := @wb_lcmp_cases; exact w_lcmp_rg) ⟨_, rfl⟩ (fun c842 => ?_) (fun c842 => ?_)
                                · skip
                                  have c842x := @wb_lcmp_cases vl ln
                                  refine wa_iconst ?_
                                  refine wa_fall ⟨_, rfl⟩ ?_
                                  refine wa_zreturn rfl (Or.inl rfl) ?_
                                  show wJ _ _ _ _ _ _ _ _ _ _
                                  refine wa_ifeq (w_rg0 (by omega) (by omega)) ⟨_, rfl⟩ (fun c843 => ?_) (fun c843 => ?_)
                                  · skip
                                    refine wa_iconst ?_
                                    refine wa_fall ⟨_, rfl⟩ ?_
                                    refine wa_istore (n := 9) rfl ?_
                                    refine wa_iload (n := 9) rfl ?_
                                    refine wa_ifne (w_rg0 (by omega) (by omega)) ⟨_, rfl⟩ (fun c844 => ?_) (fun c844 => ?_)
                                    · skip
                                      exact absurd c844 (by omega)
                                    · skip
                                      refine wa_aload_n (n := 0) rfl ?_
                                      refine wa_bipush (w_rg2 (by omega) (by omega)) ?_
                                      refine wa_cv 237 rfl (wy_pr rfl) wt_237 (M2 := fun _ => False) rfl at_M_error ⟨_, rfl⟩ rfl rfl ⟨trivial, trivial, trivial, trivial, trivial, trivial, (Or.inr ⟨wy_pr rfl, fun q => q⟩), trivial, trivial, trivial⟩ trivial (fun _ _ q => False.elim q) ?_ (fun _ _ _ q => q)
                                      refine wa_aload_n (n := 0) rfl ?_
                                      refine wb_gf4 237 rfl (wy_pr rfl) wt_237 wf_15_1 (v := 238) wl_237_1 ?_
                                      refine wa_iload_n (n := 1) rfl ?_
                                      refine wa_iconst ?_
                                      refine wa_cv 238 rfl (wy_pr rfl) wt_238 (M2 := fun _ => False) rfl at_MH_of ⟨_, rfl⟩ rfl rfl ⟨(Or.inr ⟨wy_pr rfl, fun q => q⟩), trivial, trivial⟩ trivial (fun _ _ q => False.elim q) ?_ (fun _ _ _ q => q)
                                      refine wa_aload_n (n := 0) rfl ?_
                                      refine wa_iload_n (n := 1) rfl ?_
                                      refine wb_pfi 238 rfl (wy_pr rfl) wt_238 wf_11_5 (n := 5) rfl ⟨(by omega), (by omega)⟩ ?_
                                      refine wa_aload_n (n := 0) rfl ?_
                                      refine wa_iload_n (n := 2) rfl ?_
                                      refine wb_pfi 238 rfl (wy_pr rfl) wt_238 wf_11_6 (n := 6) rfl ⟨(by omega), (by omega)⟩ ?_
                                      refine wa_aload_n (n := 0) rfl ?_
                                      refine wa_oreturn rfl ?_
                                      show wJ _ _ _ _ _ _ _ _ _ _
                                      refine wa_th (j := 238) ?_
                                      refine ⟨rfl, ?_⟩
                                      exact Or.inl ⟨by omega, rfl, rfl⟩
                                  · skip
                                    exact absurd c843 (by omega)
                                · skip
                                  have c842x := @wb_lcmp_cases vl ln
                                  refine wa_iconst ?_
                                  refine wa_goto ⟨_, rfl⟩ ?_
                                  refine wa_zreturn rfl (Or.inr rfl) ?_
                                  show wJ _ _ _ _ _ _ _ _ _ _
                                  refine wa_ifeq (w_rg0 (by omega) (by omega)) ⟨_, rfl⟩ (fun c845 => ?_) (fun c845 => ?_)
                                  · skip
                                    exact absurd c845 (by omega)
                                  · skip
                                    refine wa_iconst ?_
                                    refine wa_goto ⟨_, rfl⟩ ?_
                                    refine wa_istore (n := 9) rfl ?_
                                    refine wa_iload (n := 9) rfl ?_
                                    refine wa_ifne (w_rg0 (by omega) (by omega)) ⟨_, rfl⟩ (fun c846 => ?_) (fun c846 => ?_)
                                    · skip
                                      refine wa_aload_n (n := 0) rfl ?_
                                      refine wa_iload_n (n := 3) rfl ?_
                                      refine wa_lload (n := 6) rfl ?_
                                      refine wa_aload_n (n := 0) rfl ?_
                                      refine wb_gf4 237 rfl (wy_pr rfl) wt_237 wf_15_139 (v := 364) wl_237_139 ?_
                                      refine wa_aload_n (n := 0) rfl ?_
                                      refine wb_gfi 237 rfl (wy_pr rfl) wt_237 wf_15_173 (v := ((2100 * t) + ba)) (h73) (fun r847 => ?_)
                                      refine wa_iconst ?_
                                      refine wa_iadd ?_
                                      refine wb_lald 364 rfl (wy_pr rfl) wt_364 (n := 4200) ((ml_364 hM)) (by omega) (by omega) (v := vl) (hvl) (fun r848 => ?_)
                                      refine wa_cv 237 rfl (wy_pr rfl) wt_237 (M2 := fun _ => False) rfl at_M_sub ⟨_, rfl⟩ rfl rfl ⟨trivial, trivial, trivial, trivial, trivial, trivial, (Or.inr ⟨wy_pr rfl, fun q => q⟩), trivial, trivial, trivial⟩ trivial (fun _ _ q => False.elim q) (sbt_ok (S := S) (a := v1) (b := vl) (u2 := u2) (u3 := u3) hP0 h73 hba hgb h84 h85 hln hgm h102 h103 h64 h65 hm hbt hu2 hu3 hl6 ⟨by omega, by omega, by omega⟩) (fun oq849 Sq849 hp850 q849 => ?_)
                                      rcases q849 with ⟨hr1, rfl, rfl⟩ | ⟨hr1, hr2, rfl, SA, hsA, rfl⟩
                                      · skip
                                        refine ⟨rfl, ?_⟩
                                        exact Or.inr (Or.inl ⟨by omega, by omega, rfl, rfl⟩)
                                      · skip
                                        show wJ _ _ _ _ _ _ _ _ _ _
                                        refine wa_fall ⟨_, rfl⟩ ?_
                                        refine wa_return rfl ?_
                                        exact Or.inr (Or.inr ⟨by omega, by omega, by omega, rfl, SA, hsA, rfl⟩)
                                    · skip
                                      exact absurd c846 (by omega)
                  · skip
                    exact absurd c824 (by omega)
                · skip
                  exact absurd c823 (by omega)
              · skip
                exact absurd c822 (by omega)
            · skip
              exact absurd c821 (by omega)
    · skip
      exact absurd c804 (by omega)
  · skip
    exact absurd c803 (by omega)
end Wh2
