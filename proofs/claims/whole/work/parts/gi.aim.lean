/-! PART gi: aim of the class's linker, whole. -/
section Wgi
variable {xs : List (Nat × List Int32)} {M : Nat → Prop} {d : Nat} {S S0 Z A : wS} {T : List aO} {N X : List (List Int)} {x cl : List Int} {s : Int} {Q : wO → wS → Prop}
theorem am_ite {kd : Int} : ((kd = 2 ∨ kd = 3) ∧ (if kd = 2 ∨ kd = 3 then 1 else 0 : Int) = 1) ∨ (¬ (kd = 2 ∨ kd = 3) ∧ (if kd = 2 ∨ kd = 3 then 1 else 0 : Int) = 0) := by
  by_cases c : kd = 2 ∨ kd = 3
  · exact Or.inl ⟨c, if_pos c⟩
  · exact Or.inr ⟨c, if_neg c⟩
theorem enQ_r {w : Nat} {r : Int} (h : enQ w N X x S r Z) (hb : cNt N X A) : -1 ≤ r ∧ r ≤ 4000 := by
  have h1 := @ixL_rr N x
  have h2 := hb.1.1.2.2.1.1
  have h3 := hb.1.1.1.2.2.1.2.2.2.2.2.2.1
  replace h3 : A 2 10 ≤ 4000 := h3
  rcases h with ⟨-, z, -⟩ | ⟨-, ⟨-, z, -⟩ | ⟨-, -, z, -⟩ | ⟨-, -, z, -⟩⟩
  · omega
  · omega
  · omega
  · omega
theorem ain_215 {kd ec ba gk gb bh ne h : Int} {nms : Int} (hP : w_CL S0) (hlt : cLt S0 T) (hT : (T.length : Int) ≤ 8000) (hb2 : S0 218 (-1) = S0 217 (-1)) (hln : S0 217 (-1) ≤ 4095) (hba : 0 ≤ ba ∧ ba + 1 + ec ≤ S0 217 (-1)) (hec : ec = (cl.length : Int) ∧ cl.length ≤ 8) (hcl : esOk cl) (hcv : ∀ i : Nat, i < cl.length → clS S0 (S0 217 (ba + 1 + (i : Int))) (S0 218 (ba + 1 + (i : Int))) = cl.getD i 0 ∧ (0 ≤ S0 217 (ba + 1 + (i : Int)) ∧ S0 217 (ba + 1 + (i : Int)) ≤ 8) ∧ (S0 217 (ba + 1 + (i : Int)) = 7 → 0 ≤ S0 218 (ba + 1 + (i : Int)) ∧ S0 218 (ba + 1 + (i : Int)) < (T.length : Int) ∧ 0 ≤ S0 129 (S0 218 (ba + 1 + (i : Int))) ∧ S0 129 (S0 218 (ba + 1 + (i : Int))) < 60)) (hl : cSl S0) (hs : 0 ≤ s ∧ s < S0 35 (-1)) (hkd : S0 35 s = kd) (hkr : 0 ≤ kd ∧ kd ≤ 6) (hne : S0 37 s = ne) (hner : 0 ≤ ne ∧ ne ≤ 8) (hece : ec = if kd = 1 then 1 else ne) (hbhe : bh = if kd = 2 then 1 else if kd = 3 then 2 else ec) (hh : S0 216 2 = h) (hbae : ba = h - 1 - bh) (hhr : 0 ≤ h ∧ h ≤ S0 217 (-1)) (hgk : S0 217 ba = gk) (hgb : S0 218 ba = gb) (hnm : S0 36 s = nms) (hc : ¬ ((kd = 2 ∨ kd = 3) ∧ (gk = 4 ∨ gk = 5))) : wJ (pe_GA xs) wY0 M (d + 4) t_XL_aim ((pe_at t_XL_aim.bl 0).getD (0, [])).2 [(0, (2, 158)), (1, (2, 215)), (2, (0, s))] [] S0 (fun o Z => o = .inl none ∧ amQ 215 s kd ec ba gk gb nms (esV cl) S0 Z) := by
  refine am_215 hP hlt hT hb2 hln hba hec hcl hcv hl hs hkd hkr hne hner hece hbhe hh hbae hhr hgk hgb (fun Z hZ => ?_)
  have h35 := hl.2.1
  obtain ⟨⟨h1, h2, h3, h4, h5, h6, h7, h8, h10⟩, h9⟩ := id hZ
  have e36 : Z 36 s = nms := (h9 36 s (Or.inl (by first | decide | omega))).trans hnm
  have l36 : Z 36 (-1) = S0 35 (-1) := (h9 36 (-1) (Or.inl (by first | decide | omega))).trans (hl.1 1 (by first | decide | omega))
  have l34 : Z 34 (-1) = 12 := (h9 34 (-1) (Or.inl (by first | decide | omega))).trans (cl_34 hP)
  obtain ⟨oe, hoe⟩ : ∃ i : Int, i = (if kd = 2 ∨ kd = 3 then 1 else 0) := ⟨_, rfl⟩
  have hom := am_ite (kd := kd)
  rw [← hoe] at hom ⊢
  refine wa_aload_n (n := 0) rfl ?_
  refine wa_iload_n (n := 3) rfl ?_
  refine wa_ifeq (w_rg0 (by omega) (by omega)) ⟨_, rfl⟩ (fun c1 => ?_) (fun c1 => ?_)
  · skip
    refine wa_aload_n (n := 0) rfl ?_
    refine wb_gf4 158 rfl (wy_pr rfl) wt_158 wf_5_2 (v := 34) wl_158_2 ?_
    refine wa_iconst ?_
    refine wb_aald5 34 1 rfl rfl (wy_pr rfl) wt_34 (by rw [show _ = _ from (l34)]; omega) wl_34_1 ?_
    refine wa_iload_n (n := 2) rfl ?_
    refine wb_iald 36 rfl (wy_pr rfl) wt_36 (n := (S0 35 (-1))) (l36) (by omega) (by omega) (v := nms) (e36) (fun r2 => ?_)
    refine wa_fall ⟨_, rfl⟩ ?_
    refine wb_pfi 158 rfl (wy_pr rfl) wt_158 wf_5_11 (n := 11) rfl ⟨(by omega), (by omega)⟩ ?_
    refine wa_return rfl ?_
    exact ⟨rfl, amI_n hZ⟩
  · skip
    refine wa_aload_n (n := 0) rfl ?_
    refine wa_cv 158 rfl (wy_pr rfl) wt_158 (M2 := fun _ => False) rfl at_XL_isHolder ⟨_, rfl⟩ rfl rfl ⟨(Or.inr ⟨wy_pr rfl, fun q => q⟩), (Or.inr ⟨wy_pr rfl, fun q => q⟩), trivial, trivial, trivial⟩ ⟨(Or.inr ⟨wy_pr rfl, fun q => q⟩), trivial⟩ (fun _ _ q => False.elim q) ?_ (fun _ _ _ q => q)
    refine wa_aload_n (n := 0) rfl ?_
    refine wb_gfi 158 rfl (wy_pr rfl) wt_158 wf_5_9 (v := gk) (h6) (fun r3 => ?_)
    refine wa_iconst ?_
    refine wa_icmpeq (w_rg0 (by omega) (by omega)) (w_rg0 (by omega) (by omega)) ⟨_, rfl⟩ (fun c4 => ?_) (fun c4 => ?_)
    · skip
      refine wa_iconst ?_
      refine wa_goto ⟨_, rfl⟩ ?_
      refine wa_zreturn rfl (Or.inr rfl) ?_
      show wJ _ _ _ _ _ _ _ _ _ _
      refine wa_ifeq (w_rg0 (by omega) (by omega)) ⟨_, rfl⟩ (fun c5 => ?_) (fun c5 => ?_)
      · skip
        exact absurd c5 (by omega)
      · skip
        exfalso; omega
    · skip
      refine wa_aload_n (n := 0) rfl ?_
      refine wb_gfi 158 rfl (wy_pr rfl) wt_158 wf_5_9 (v := gk) (h6) (fun r6 => ?_)
      refine wa_iconst ?_
      refine wa_icmpne (w_rg0 (by omega) (by omega)) (w_rg0 (by omega) (by omega)) ⟨_, rfl⟩ (fun c7 => ?_) (fun c7 => ?_)
      · skip
        refine wa_iconst ?_
        refine wa_fall ⟨_, rfl⟩ ?_
        refine wa_zreturn rfl (Or.inl rfl) ?_
        show wJ _ _ _ _ _ _ _ _ _ _
        refine wa_ifeq (w_rg0 (by omega) (by omega)) ⟨_, rfl⟩ (fun c8 => ?_) (fun c8 => ?_)
        · skip
          refine wa_aload_n (n := 0) rfl ?_
          refine wb_gf4 158 rfl (wy_pr rfl) wt_158 wf_5_2 (v := 34) wl_158_2 ?_
          refine wa_iconst ?_
          refine wb_aald5 34 1 rfl rfl (wy_pr rfl) wt_34 (by rw [show _ = _ from (l34)]; omega) wl_34_1 ?_
          refine wa_iload_n (n := 2) rfl ?_
          refine wb_iald 36 rfl (wy_pr rfl) wt_36 (n := (S0 35 (-1))) (l36) (by omega) (by omega) (v := nms) (e36) (fun r9 => ?_)
          refine wa_fall ⟨_, rfl⟩ ?_
          refine wb_pfi 158 rfl (wy_pr rfl) wt_158 wf_5_11 (n := 11) rfl ⟨(by omega), (by omega)⟩ ?_
          refine wa_return rfl ?_
          exact ⟨rfl, amI_n hZ⟩
        · skip
          exact absurd c8 (by omega)
      · skip
        refine wa_fall ⟨_, rfl⟩ ?_
        refine wa_iconst ?_
        refine wa_goto ⟨_, rfl⟩ ?_
        refine wa_zreturn rfl (Or.inr rfl) ?_
        show wJ _ _ _ _ _ _ _ _ _ _
        refine wa_ifeq (w_rg0 (by omega) (by omega)) ⟨_, rfl⟩ (fun c10 => ?_) (fun c10 => ?_)
        · skip
          exact absurd c10 (by omega)
        · skip
          exfalso; omega
theorem aie_215 {kd ec ba gk gb bh ne h : Int} {k v : Int} (hP : w_CL S0) (hlt : cLt S0 T) (hT : (T.length : Int) ≤ 8000) (hb2 : S0 218 (-1) = S0 217 (-1)) (hln : S0 217 (-1) ≤ 4095) (hba : 0 ≤ ba ∧ ba + 1 + ec ≤ S0 217 (-1)) (hec : ec = (cl.length : Int) ∧ cl.length ≤ 8) (hcl : esOk cl) (hcv : ∀ i : Nat, i < cl.length → clS S0 (S0 217 (ba + 1 + (i : Int))) (S0 218 (ba + 1 + (i : Int))) = cl.getD i 0 ∧ (0 ≤ S0 217 (ba + 1 + (i : Int)) ∧ S0 217 (ba + 1 + (i : Int)) ≤ 8) ∧ (S0 217 (ba + 1 + (i : Int)) = 7 → 0 ≤ S0 218 (ba + 1 + (i : Int)) ∧ S0 218 (ba + 1 + (i : Int)) < (T.length : Int) ∧ 0 ≤ S0 129 (S0 218 (ba + 1 + (i : Int))) ∧ S0 129 (S0 218 (ba + 1 + (i : Int))) < 60)) (hl : cSl S0) (hs : 0 ≤ s ∧ s < S0 35 (-1)) (hkd : S0 35 s = kd) (hkr : 0 ≤ kd ∧ kd ≤ 6) (hne : S0 37 s = ne) (hner : 0 ≤ ne ∧ ne ≤ 8) (hece : ec = if kd = 1 then 1 else ne) (hbhe : bh = if kd = 2 then 1 else if kd = 3 then 2 else ec) (hh : S0 216 2 = h) (hbae : ba = h - 1 - bh) (hhr : 0 ≤ h ∧ h ≤ S0 217 (-1)) (hgk : S0 217 ba = gk) (hgb : S0 218 ba = gb) (hc : (kd = 2 ∨ kd = 3) ∧ (gk = 4 ∨ gk = 5)) (hb1 : ba + 1 < S0 217 (-1)) (hk : S0 217 (ba + 1) = k) (hv : S0 218 (ba + 1) = v) (hk3 : k ≠ 3) : wJ (pe_GA xs) wY0 M (d + 7) t_XL_aim ((pe_at t_XL_aim.bl 0).getD (0, [])).2 [(0, (2, 158)), (1, (2, 215)), (2, (0, s))] [] S0 (fun o Z => o = .inl none ∧ amQ 215 s kd ec ba gk gb (-1) (esV cl) S0 Z) := by
  obtain ⟨nms, hnm⟩ : ∃ i : Int, S0 36 s = i := ⟨_, rfl⟩
  refine am_215 (d := d + 3) hP hlt hT hb2 hln hba hec hcl hcv hl hs hkd hkr hne hner hece hbhe hh hbae hhr hgk hgb (fun Z hZ => ?_)
  have h35 := hl.2.1
  obtain ⟨⟨h1, h2, h3, h4, h5, h6, h7, h8, h10⟩, h9⟩ := id hZ
  have e36 : Z 36 s = nms := (h9 36 s (Or.inl (by first | decide | omega))).trans hnm
  have l36 : Z 36 (-1) = S0 35 (-1) := (h9 36 (-1) (Or.inl (by first | decide | omega))).trans (hl.1 1 (by first | decide | omega))
  have l34 : Z 34 (-1) = 12 := (h9 34 (-1) (Or.inl (by first | decide | omega))).trans (cl_34 hP)
  obtain ⟨oe, hoe⟩ : ∃ i : Int, i = (if kd = 2 ∨ kd = 3 then 1 else 0) := ⟨_, rfl⟩
  have hom := am_ite (kd := kd)
  rw [← hoe] at hom ⊢
  refine wa_aload_n (n := 0) rfl ?_
  refine wa_iload_n (n := 3) rfl ?_
  refine wa_ifeq (w_rg0 (by omega) (by omega)) ⟨_, rfl⟩ (fun c1 => ?_) (fun c1 => ?_)
  · skip
    exfalso; omega
  · skip
    refine wa_aload_n (n := 0) rfl ?_
    refine wa_cv 158 rfl (wy_pr rfl) wt_158 (M2 := fun _ => False) rfl at_XL_isHolder ⟨_, rfl⟩ rfl rfl ⟨(Or.inr ⟨wy_pr rfl, fun q => q⟩), (Or.inr ⟨wy_pr rfl, fun q => q⟩), trivial, trivial, trivial⟩ ⟨(Or.inr ⟨wy_pr rfl, fun q => q⟩), trivial⟩ (fun _ _ q => False.elim q) ?_ (fun _ _ _ q => q)
    refine wa_aload_n (n := 0) rfl ?_
    refine wb_gfi 158 rfl (wy_pr rfl) wt_158 wf_5_9 (v := gk) (h6) (fun r2 => ?_)
    refine wa_iconst ?_
    refine wa_icmpeq (w_rg0 (by omega) (by omega)) (w_rg0 (by omega) (by omega)) ⟨_, rfl⟩ (fun c3 => ?_) (fun c3 => ?_)
    · skip
      refine wa_iconst ?_
      refine wa_goto ⟨_, rfl⟩ ?_
      refine wa_zreturn rfl (Or.inr rfl) ?_
      show wJ _ _ _ _ _ _ _ _ _ _
      refine wa_ifeq (w_rg0 (by omega) (by omega)) ⟨_, rfl⟩ (fun c4 => ?_) (fun c4 => ?_)
      · skip
        exact absurd c4 (by omega)
      · skip
        refine wa_aload_n (n := 0) rfl ?_
        refine wa_cv 158 rfl (wy_pr rfl) wt_158 (M2 := fun _ => False) rfl at_XL_elementName ⟨_, rfl⟩ rfl rfl ⟨(Or.inr ⟨wy_pr rfl, fun q => q⟩), (Or.inr ⟨wy_pr rfl, fun q => q⟩), trivial, trivial, trivial⟩ ⟨(Or.inr ⟨wy_pr rfl, fun q => q⟩), trivial⟩ (fun _ _ q => False.elim q) (ela_215 (S := Z) (ba := ba) (k := k) (v := v) h1 h2 h5 ⟨by omega, by rw [h9 217 _ (Or.inl (by decide))]; exact hb1⟩ (by rw [h9 217 _ (Or.inl (by decide)), h9 218 _ (Or.inl (by decide))]; exact hb2) (by rw [h9 217 _ (Or.inl (by decide))]; exact hln) ((h9 217 _ (Or.inl (by decide))).trans hk) ((h9 218 _ (Or.inl (by decide))).trans hv) hk3) (fun oq5 Sq5 hp6 q5 => ?_)
        rcases q5 with ⟨rfl, rfl⟩
        show wJ _ _ _ _ _ _ _ _ _ _
        refine wa_goto ⟨_, rfl⟩ ?_
        refine wb_pfi 158 rfl (wy_pr rfl) wt_158 wf_5_11 (n := 11) rfl ⟨(by omega), (by omega)⟩ ?_
        refine wa_return rfl ?_
        exact ⟨rfl, amI_n hZ⟩
    · skip
      refine wa_aload_n (n := 0) rfl ?_
      refine wb_gfi 158 rfl (wy_pr rfl) wt_158 wf_5_9 (v := gk) (h6) (fun r7 => ?_)
      refine wa_iconst ?_
      refine wa_icmpne (w_rg0 (by omega) (by omega)) (w_rg0 (by omega) (by omega)) ⟨_, rfl⟩ (fun c8 => ?_) (fun c8 => ?_)
      · skip
        exfalso; omega
      · skip
        refine wa_fall ⟨_, rfl⟩ ?_
        refine wa_iconst ?_
        refine wa_goto ⟨_, rfl⟩ ?_
        refine wa_zreturn rfl (Or.inr rfl) ?_
        show wJ _ _ _ _ _ _ _ _ _ _
        refine wa_ifeq (w_rg0 (by omega) (by omega)) ⟨_, rfl⟩ (fun c9 => ?_) (fun c9 => ?_)
        · skip
          exact absurd c9 (by omega)
        · skip
          refine wa_aload_n (n := 0) rfl ?_
          refine wa_cv 158 rfl (wy_pr rfl) wt_158 (M2 := fun _ => False) rfl at_XL_elementName ⟨_, rfl⟩ rfl rfl ⟨(Or.inr ⟨wy_pr rfl, fun q => q⟩), (Or.inr ⟨wy_pr rfl, fun q => q⟩), trivial, trivial, trivial⟩ ⟨(Or.inr ⟨wy_pr rfl, fun q => q⟩), trivial⟩ (fun _ _ q => False.elim q) (ela_215 (S := Z) (ba := ba) (k := k) (v := v) h1 h2 h5 ⟨by omega, by rw [h9 217 _ (Or.inl (by decide))]; exact hb1⟩ (by rw [h9 217 _ (Or.inl (by decide)), h9 218 _ (Or.inl (by decide))]; exact hb2) (by rw [h9 217 _ (Or.inl (by decide))]; exact hln) ((h9 217 _ (Or.inl (by decide))).trans hk) ((h9 218 _ (Or.inl (by decide))).trans hv) hk3) (fun oq10 Sq10 hp11 q10 => ?_)
          rcases q10 with ⟨rfl, rfl⟩
          show wJ _ _ _ _ _ _ _ _ _ _
          refine wa_goto ⟨_, rfl⟩ ?_
          refine wb_pfi 158 rfl (wy_pr rfl) wt_158 wf_5_11 (n := 11) rfl ⟨(by omega), (by omega)⟩ ?_
          refine wa_return rfl ?_
          exact ⟨rfl, amI_n hZ⟩
theorem ait_215 {kd ec ba gk gb bh ne h : Int} {v t : Int} (hP : w_CL S0) (hlt : cLt S0 T) (hT : (T.length : Int) ≤ 8000) (hb2 : S0 218 (-1) = S0 217 (-1)) (hln : S0 217 (-1) ≤ 4095) (hba : 0 ≤ ba ∧ ba + 1 + ec ≤ S0 217 (-1)) (hec : ec = (cl.length : Int) ∧ cl.length ≤ 8) (hcl : esOk cl) (hcv : ∀ i : Nat, i < cl.length → clS S0 (S0 217 (ba + 1 + (i : Int))) (S0 218 (ba + 1 + (i : Int))) = cl.getD i 0 ∧ (0 ≤ S0 217 (ba + 1 + (i : Int)) ∧ S0 217 (ba + 1 + (i : Int)) ≤ 8) ∧ (S0 217 (ba + 1 + (i : Int)) = 7 → 0 ≤ S0 218 (ba + 1 + (i : Int)) ∧ S0 218 (ba + 1 + (i : Int)) < (T.length : Int) ∧ 0 ≤ S0 129 (S0 218 (ba + 1 + (i : Int))) ∧ S0 129 (S0 218 (ba + 1 + (i : Int))) < 60)) (hl : cSl S0) (hs : 0 ≤ s ∧ s < S0 35 (-1)) (hkd : S0 35 s = kd) (hkr : 0 ≤ kd ∧ kd ≤ 6) (hne : S0 37 s = ne) (hner : 0 ≤ ne ∧ ne ≤ 8) (hece : ec = if kd = 1 then 1 else ne) (hbhe : bh = if kd = 2 then 1 else if kd = 3 then 2 else ec) (hh : S0 216 2 = h) (hbae : ba = h - 1 - bh) (hhr : 0 ≤ h ∧ h ≤ S0 217 (-1)) (hgk : S0 217 ba = gk) (hgb : S0 218 ba = gb) (hc : (kd = 2 ∨ kd = 3) ∧ (gk = 4 ∨ gk = 5)) (hI : gI S0) (hnt : cNt N X S0) (hb1 : ba + 1 < S0 217 (-1)) (hk : S0 217 (ba + 1) = 3) (hv : S0 218 (ba + 1) = v) (hvy : v = t * 4294967296 + (x.length : Int)) (ht : 0 ≤ t ∧ t + (x.length : Int) ≤ S0 2 1) (he : ∀ i : Nat, i < x.length → S0 3 (t + (i : Int)) = x.getD i 0) : wJ (pe_GA xs) wY0 (mS [3, 4, 5, 6, 7, 8, 9]) (d + 7) t_XL_aim ((pe_at t_XL_aim.bl 0).getD (0, [])).2 [(0, (2, 158)), (1, (2, 215)), (2, (0, s))] [] S0 (fun o Z => o = .inl none ∧ ∃ (S1 A : wS) (r : Int), amI 215 s kd ec ba gk gb (esV cl) S0 S1 ∧ enQ 215 N X x S1 r A ∧ w_up A 158 11 r = Z) := by
  obtain ⟨nms, hnm⟩ : ∃ i : Int, S0 36 s = i := ⟨_, rfl⟩
  refine am_215 (d := d + 3) hP hlt hT hb2 hln hba hec hcl hcv hl hs hkd hkr hne hner hece hbhe hh hbae hhr hgk hgb (fun Z hZ => ?_)
  have h35 := hl.2.1
  obtain ⟨⟨h1, h2, h3, h4, h5, h6, h7, h8, h10⟩, h9⟩ := id hZ
  have e36 : Z 36 s = nms := (h9 36 s (Or.inl (by first | decide | omega))).trans hnm
  have l36 : Z 36 (-1) = S0 35 (-1) := (h9 36 (-1) (Or.inl (by first | decide | omega))).trans (hl.1 1 (by first | decide | omega))
  have l34 : Z 34 (-1) = 12 := (h9 34 (-1) (Or.inl (by first | decide | omega))).trans (cl_34 hP)
  obtain ⟨oe, hoe⟩ : ∃ i : Int, i = (if kd = 2 ∨ kd = 3 then 1 else 0) := ⟨_, rfl⟩
  have hom := am_ite (kd := kd)
  rw [← hoe] at hom ⊢
  have hg : wG = 1000000 := rfl
  have ef : ∀ j : Nat, j ≠ 158 → Z j = S0 j := fun j hj => funext (fun x => h9 j x (Or.inl hj))
  have hIZ : gI Z := gI_ag2 hI (fun j hj => h9 j (-1) (Or.inl (by omega))) (fun x _ => h9 238 _ (Or.inl (by first | decide | omega))) (h9 14 5 (Or.inl (by first | decide | omega)))
  refine wa_aload_n (n := 0) rfl ?_
  refine wa_iload_n (n := 3) rfl ?_
  refine wa_ifeq (w_rg0 (by omega) (by omega)) ⟨_, rfl⟩ (fun c1 => ?_) (fun c1 => ?_)
  · skip
    exfalso; omega
  · skip
    refine wa_aload_n (n := 0) rfl ?_
    refine wa_cv 158 rfl (wy_pr rfl) wt_158 (M2 := fun _ => False) rfl at_XL_isHolder ⟨_, rfl⟩ rfl rfl ⟨(Or.inr ⟨wy_pr rfl, fun q => q⟩), (Or.inr ⟨wy_pr rfl, fun q => q⟩), trivial, trivial, trivial⟩ ⟨(Or.inr ⟨wy_pr rfl, fun q => q⟩), trivial⟩ (fun _ _ q => False.elim q) ?_ (fun _ _ _ q => q)
    refine wa_aload_n (n := 0) rfl ?_
    refine wb_gfi 158 rfl (wy_pr rfl) wt_158 wf_5_9 (v := gk) (h6) (fun r2 => ?_)
    refine wa_iconst ?_
    refine wa_icmpeq (w_rg0 (by omega) (by omega)) (w_rg0 (by omega) (by omega)) ⟨_, rfl⟩ (fun c3 => ?_) (fun c3 => ?_)
    · skip
      refine wa_iconst ?_
      refine wa_goto ⟨_, rfl⟩ ?_
      refine wa_zreturn rfl (Or.inr rfl) ?_
      show wJ _ _ _ _ _ _ _ _ _ _
      refine wa_ifeq (w_rg0 (by omega) (by omega)) ⟨_, rfl⟩ (fun c4 => ?_) (fun c4 => ?_)
      · skip
        exact absurd c4 (by omega)
      · skip
        refine wa_aload_n (n := 0) rfl ?_
        refine wa_cv 158 rfl (wy_pr rfl) wt_158 (M2 := mS [3, 4, 5, 6, 7, 8, 9]) rfl at_XL_elementName ⟨_, rfl⟩ rfl rfl ⟨(Or.inr ⟨wy_pr rfl, mS_no rfl⟩), (Or.inr ⟨wy_pr rfl, mS_no rfl⟩), trivial, trivial, trivial⟩ ⟨(Or.inr ⟨wy_pr rfl, mS_no rfl⟩), trivial⟩ (fun _ _ q => q) (elt_215 (S := Z) (ba := ba) (v := v) (s := t) h1 h2 h5 ⟨by omega, by rw [h9 217 _ (Or.inl (by decide))]; exact hb1⟩ (by rw [h9 217 _ (Or.inl (by decide)), h9 218 _ (Or.inl (by decide))]; exact hb2) (by rw [h9 217 _ (Or.inl (by decide))]; exact hln) ((h9 217 _ (Or.inl (by decide))).trans hk) ((h9 218 _ (Or.inl (by decide))).trans hv) hIZ (cNt_ag hnt (fun j hj => ef j (by omega))) hvy (by rw [h9 2 1 (Or.inl (by decide))]; exact ht) (fun i hi => (h9 3 _ (Or.inl (by decide))).trans (he i hi))) (fun oq5 Sq5 hp6 q5 => ?_)
        rcases q5 with ⟨r, rfl, hen⟩
        show wJ _ _ _ _ _ _ _ _ _ _
        have hrr : -1 ≤ r ∧ r ≤ 4000 := enQ_r hen hnt
        refine wa_goto ⟨_, rfl⟩ ?_
        refine wb_pfi 158 rfl (wy_pr rfl) wt_158 wf_5_11 (n := 11) rfl ⟨(by omega), (by omega)⟩ ?_
        refine wa_return rfl ?_
        exact ⟨rfl, Z, Sq5, r, hZ, hen, rfl⟩
    · skip
      refine wa_aload_n (n := 0) rfl ?_
      refine wb_gfi 158 rfl (wy_pr rfl) wt_158 wf_5_9 (v := gk) (h6) (fun r7 => ?_)
      refine wa_iconst ?_
      refine wa_icmpne (w_rg0 (by omega) (by omega)) (w_rg0 (by omega) (by omega)) ⟨_, rfl⟩ (fun c8 => ?_) (fun c8 => ?_)
      · skip
        exfalso; omega
      · skip
        refine wa_fall ⟨_, rfl⟩ ?_
        refine wa_iconst ?_
        refine wa_goto ⟨_, rfl⟩ ?_
        refine wa_zreturn rfl (Or.inr rfl) ?_
        show wJ _ _ _ _ _ _ _ _ _ _
        refine wa_ifeq (w_rg0 (by omega) (by omega)) ⟨_, rfl⟩ (fun c9 => ?_) (fun c9 => ?_)
        · skip
          exact absurd c9 (by omega)
        · skip
          refine wa_aload_n (n := 0) rfl ?_
          refine wa_cv 158 rfl (wy_pr rfl) wt_158 (M2 := mS [3, 4, 5, 6, 7, 8, 9]) rfl at_XL_elementName ⟨_, rfl⟩ rfl rfl ⟨(Or.inr ⟨wy_pr rfl, mS_no rfl⟩), (Or.inr ⟨wy_pr rfl, mS_no rfl⟩), trivial, trivial, trivial⟩ ⟨(Or.inr ⟨wy_pr rfl, mS_no rfl⟩), trivial⟩ (fun _ _ q => q) (elt_215 (S := Z) (ba := ba) (v := v) (s := t) h1 h2 h5 ⟨by omega, by rw [h9 217 _ (Or.inl (by decide))]; exact hb1⟩ (by rw [h9 217 _ (Or.inl (by decide)), h9 218 _ (Or.inl (by decide))]; exact hb2) (by rw [h9 217 _ (Or.inl (by decide))]; exact hln) ((h9 217 _ (Or.inl (by decide))).trans hk) ((h9 218 _ (Or.inl (by decide))).trans hv) hIZ (cNt_ag hnt (fun j hj => ef j (by omega))) hvy (by rw [h9 2 1 (Or.inl (by decide))]; exact ht) (fun i hi => (h9 3 _ (Or.inl (by decide))).trans (he i hi))) (fun oq10 Sq10 hp11 q10 => ?_)
          rcases q10 with ⟨r, rfl, hen⟩
          show wJ _ _ _ _ _ _ _ _ _ _
          have hrr : -1 ≤ r ∧ r ≤ 4000 := enQ_r hen hnt
          refine wa_goto ⟨_, rfl⟩ ?_
          refine wb_pfi 158 rfl (wy_pr rfl) wt_158 wf_5_11 (n := 11) rfl ⟨(by omega), (by omega)⟩ ?_
          refine wa_return rfl ?_
          exact ⟨rfl, Z, Sq10, r, hZ, hen, rfl⟩
theorem ain_226 {kd ec ba gk gb bh ne h : Int} {nms : Int} (hP : w_CL S0) (hlt : cLt S0 T) (hT : (T.length : Int) ≤ 8000) (hb2 : S0 229 (-1) = S0 228 (-1)) (hln : S0 228 (-1) ≤ 4095) (hba : 0 ≤ ba ∧ ba + 1 + ec ≤ S0 228 (-1)) (hec : ec = (cl.length : Int) ∧ cl.length ≤ 8) (hcl : esOk cl) (hcv : ∀ i : Nat, i < cl.length → clS S0 (S0 228 (ba + 1 + (i : Int))) (S0 229 (ba + 1 + (i : Int))) = cl.getD i 0 ∧ (0 ≤ S0 228 (ba + 1 + (i : Int)) ∧ S0 228 (ba + 1 + (i : Int)) ≤ 8) ∧ (S0 228 (ba + 1 + (i : Int)) = 7 → 0 ≤ S0 229 (ba + 1 + (i : Int)) ∧ S0 229 (ba + 1 + (i : Int)) < (T.length : Int) ∧ 0 ≤ S0 129 (S0 229 (ba + 1 + (i : Int))) ∧ S0 129 (S0 229 (ba + 1 + (i : Int))) < 60)) (hl : cSl S0) (hs : 0 ≤ s ∧ s < S0 35 (-1)) (hkd : S0 35 s = kd) (hkr : 0 ≤ kd ∧ kd ≤ 6) (hne : S0 37 s = ne) (hner : 0 ≤ ne ∧ ne ≤ 8) (hece : ec = if kd = 1 then 1 else ne) (hbhe : bh = if kd = 2 then 1 else if kd = 3 then 2 else ec) (hh : S0 227 2 = h) (hbae : ba = h - 1 - bh) (hhr : 0 ≤ h ∧ h ≤ S0 228 (-1)) (hgk : S0 228 ba = gk) (hgb : S0 229 ba = gb) (hnm : S0 36 s = nms) (hc : ¬ ((kd = 2 ∨ kd = 3) ∧ (gk = 4 ∨ gk = 5))) : wJ (pe_GA xs) wY0 M (d + 4) t_XL_aim ((pe_at t_XL_aim.bl 0).getD (0, [])).2 [(0, (2, 158)), (1, (2, 226)), (2, (0, s))] [] S0 (fun o Z => o = .inl none ∧ amQ 226 s kd ec ba gk gb nms (esV cl) S0 Z) := by
  refine am_226 hP hlt hT hb2 hln hba hec hcl hcv hl hs hkd hkr hne hner hece hbhe hh hbae hhr hgk hgb (fun Z hZ => ?_)
  have h35 := hl.2.1
  obtain ⟨⟨h1, h2, h3, h4, h5, h6, h7, h8, h10⟩, h9⟩ := id hZ
  have e36 : Z 36 s = nms := (h9 36 s (Or.inl (by first | decide | omega))).trans hnm
  have l36 : Z 36 (-1) = S0 35 (-1) := (h9 36 (-1) (Or.inl (by first | decide | omega))).trans (hl.1 1 (by first | decide | omega))
  have l34 : Z 34 (-1) = 12 := (h9 34 (-1) (Or.inl (by first | decide | omega))).trans (cl_34 hP)
  obtain ⟨oe, hoe⟩ : ∃ i : Int, i = (if kd = 2 ∨ kd = 3 then 1 else 0) := ⟨_, rfl⟩
  have hom := am_ite (kd := kd)
  rw [← hoe] at hom ⊢
  refine wa_aload_n (n := 0) rfl ?_
  refine wa_iload_n (n := 3) rfl ?_
  refine wa_ifeq (w_rg0 (by omega) (by omega)) ⟨_, rfl⟩ (fun c1 => ?_) (fun c1 => ?_)
  · skip
    refine wa_aload_n (n := 0) rfl ?_
    refine wb_gf4 158 rfl (wy_pr rfl) wt_158 wf_5_2 (v := 34) wl_158_2 ?_
    refine wa_iconst ?_
    refine wb_aald5 34 1 rfl rfl (wy_pr rfl) wt_34 (by rw [show _ = _ from (l34)]; omega) wl_34_1 ?_
    refine wa_iload_n (n := 2) rfl ?_
    refine wb_iald 36 rfl (wy_pr rfl) wt_36 (n := (S0 35 (-1))) (l36) (by omega) (by omega) (v := nms) (e36) (fun r2 => ?_)
    refine wa_fall ⟨_, rfl⟩ ?_
    refine wb_pfi 158 rfl (wy_pr rfl) wt_158 wf_5_11 (n := 11) rfl ⟨(by omega), (by omega)⟩ ?_
    refine wa_return rfl ?_
    exact ⟨rfl, amI_n hZ⟩
  · skip
    refine wa_aload_n (n := 0) rfl ?_
    refine wa_cv 158 rfl (wy_pr rfl) wt_158 (M2 := fun _ => False) rfl at_XL_isHolder ⟨_, rfl⟩ rfl rfl ⟨(Or.inr ⟨wy_pr rfl, fun q => q⟩), (Or.inr ⟨wy_pr rfl, fun q => q⟩), trivial, trivial, trivial⟩ ⟨(Or.inr ⟨wy_pr rfl, fun q => q⟩), trivial⟩ (fun _ _ q => False.elim q) ?_ (fun _ _ _ q => q)
    refine wa_aload_n (n := 0) rfl ?_
    refine wb_gfi 158 rfl (wy_pr rfl) wt_158 wf_5_9 (v := gk) (h6) (fun r3 => ?_)
    refine wa_iconst ?_
    refine wa_icmpeq (w_rg0 (by omega) (by omega)) (w_rg0 (by omega) (by omega)) ⟨_, rfl⟩ (fun c4 => ?_) (fun c4 => ?_)
    · skip
      refine wa_iconst ?_
      refine wa_goto ⟨_, rfl⟩ ?_
      refine wa_zreturn rfl (Or.inr rfl) ?_
      show wJ _ _ _ _ _ _ _ _ _ _
      refine wa_ifeq (w_rg0 (by omega) (by omega)) ⟨_, rfl⟩ (fun c5 => ?_) (fun c5 => ?_)
      · skip
        exact absurd c5 (by omega)
      · skip
        exfalso; omega
    · skip
      refine wa_aload_n (n := 0) rfl ?_
      refine wb_gfi 158 rfl (wy_pr rfl) wt_158 wf_5_9 (v := gk) (h6) (fun r6 => ?_)
      refine wa_iconst ?_
      refine wa_icmpne (w_rg0 (by omega) (by omega)) (w_rg0 (by omega) (by omega)) ⟨_, rfl⟩ (fun c7 => ?_) (fun c7 => ?_)
      · skip
        refine wa_iconst ?_
        refine wa_fall ⟨_, rfl⟩ ?_
        refine wa_zreturn rfl (Or.inl rfl) ?_
        show wJ _ _ _ _ _ _ _ _ _ _
        refine wa_ifeq (w_rg0 (by omega) (by omega)) ⟨_, rfl⟩ (fun c8 => ?_) (fun c8 => ?_)
        · skip
          refine wa_aload_n (n := 0) rfl ?_
          refine wb_gf4 158 rfl (wy_pr rfl) wt_158 wf_5_2 (v := 34) wl_158_2 ?_
          refine wa_iconst ?_
          refine wb_aald5 34 1 rfl rfl (wy_pr rfl) wt_34 (by rw [show _ = _ from (l34)]; omega) wl_34_1 ?_
          refine wa_iload_n (n := 2) rfl ?_
          refine wb_iald 36 rfl (wy_pr rfl) wt_36 (n := (S0 35 (-1))) (l36) (by omega) (by omega) (v := nms) (e36) (fun r9 => ?_)
          refine wa_fall ⟨_, rfl⟩ ?_
          refine wb_pfi 158 rfl (wy_pr rfl) wt_158 wf_5_11 (n := 11) rfl ⟨(by omega), (by omega)⟩ ?_
          refine wa_return rfl ?_
          exact ⟨rfl, amI_n hZ⟩
        · skip
          exact absurd c8 (by omega)
      · skip
        refine wa_fall ⟨_, rfl⟩ ?_
        refine wa_iconst ?_
        refine wa_goto ⟨_, rfl⟩ ?_
        refine wa_zreturn rfl (Or.inr rfl) ?_
        show wJ _ _ _ _ _ _ _ _ _ _
        refine wa_ifeq (w_rg0 (by omega) (by omega)) ⟨_, rfl⟩ (fun c10 => ?_) (fun c10 => ?_)
        · skip
          exact absurd c10 (by omega)
        · skip
          exfalso; omega
theorem aie_226 {kd ec ba gk gb bh ne h : Int} {k v : Int} (hP : w_CL S0) (hlt : cLt S0 T) (hT : (T.length : Int) ≤ 8000) (hb2 : S0 229 (-1) = S0 228 (-1)) (hln : S0 228 (-1) ≤ 4095) (hba : 0 ≤ ba ∧ ba + 1 + ec ≤ S0 228 (-1)) (hec : ec = (cl.length : Int) ∧ cl.length ≤ 8) (hcl : esOk cl) (hcv : ∀ i : Nat, i < cl.length → clS S0 (S0 228 (ba + 1 + (i : Int))) (S0 229 (ba + 1 + (i : Int))) = cl.getD i 0 ∧ (0 ≤ S0 228 (ba + 1 + (i : Int)) ∧ S0 228 (ba + 1 + (i : Int)) ≤ 8) ∧ (S0 228 (ba + 1 + (i : Int)) = 7 → 0 ≤ S0 229 (ba + 1 + (i : Int)) ∧ S0 229 (ba + 1 + (i : Int)) < (T.length : Int) ∧ 0 ≤ S0 129 (S0 229 (ba + 1 + (i : Int))) ∧ S0 129 (S0 229 (ba + 1 + (i : Int))) < 60)) (hl : cSl S0) (hs : 0 ≤ s ∧ s < S0 35 (-1)) (hkd : S0 35 s = kd) (hkr : 0 ≤ kd ∧ kd ≤ 6) (hne : S0 37 s = ne) (hner : 0 ≤ ne ∧ ne ≤ 8) (hece : ec = if kd = 1 then 1 else ne) (hbhe : bh = if kd = 2 then 1 else if kd = 3 then 2 else ec) (hh : S0 227 2 = h) (hbae : ba = h - 1 - bh) (hhr : 0 ≤ h ∧ h ≤ S0 228 (-1)) (hgk : S0 228 ba = gk) (hgb : S0 229 ba = gb) (hc : (kd = 2 ∨ kd = 3) ∧ (gk = 4 ∨ gk = 5)) (hb1 : ba + 1 < S0 228 (-1)) (hk : S0 228 (ba + 1) = k) (hv : S0 229 (ba + 1) = v) (hk3 : k ≠ 3) : wJ (pe_GA xs) wY0 M (d + 7) t_XL_aim ((pe_at t_XL_aim.bl 0).getD (0, [])).2 [(0, (2, 158)), (1, (2, 226)), (2, (0, s))] [] S0 (fun o Z => o = .inl none ∧ amQ 226 s kd ec ba gk gb (-1) (esV cl) S0 Z) := by
  obtain ⟨nms, hnm⟩ : ∃ i : Int, S0 36 s = i := ⟨_, rfl⟩
  refine am_226 (d := d + 3) hP hlt hT hb2 hln hba hec hcl hcv hl hs hkd hkr hne hner hece hbhe hh hbae hhr hgk hgb (fun Z hZ => ?_)
  have h35 := hl.2.1
  obtain ⟨⟨h1, h2, h3, h4, h5, h6, h7, h8, h10⟩, h9⟩ := id hZ
  have e36 : Z 36 s = nms := (h9 36 s (Or.inl (by first | decide | omega))).trans hnm
  have l36 : Z 36 (-1) = S0 35 (-1) := (h9 36 (-1) (Or.inl (by first | decide | omega))).trans (hl.1 1 (by first | decide | omega))
  have l34 : Z 34 (-1) = 12 := (h9 34 (-1) (Or.inl (by first | decide | omega))).trans (cl_34 hP)
  obtain ⟨oe, hoe⟩ : ∃ i : Int, i = (if kd = 2 ∨ kd = 3 then 1 else 0) := ⟨_, rfl⟩
  have hom := am_ite (kd := kd)
  rw [← hoe] at hom ⊢
  refine wa_aload_n (n := 0) rfl ?_
  refine wa_iload_n (n := 3) rfl ?_
  refine wa_ifeq (w_rg0 (by omega) (by omega)) ⟨_, rfl⟩ (fun c1 => ?_) (fun c1 => ?_)
  · skip
    exfalso; omega
  · skip
    refine wa_aload_n (n := 0) rfl ?_
    refine wa_cv 158 rfl (wy_pr rfl) wt_158 (M2 := fun _ => False) rfl at_XL_isHolder ⟨_, rfl⟩ rfl rfl ⟨(Or.inr ⟨wy_pr rfl, fun q => q⟩), (Or.inr ⟨wy_pr rfl, fun q => q⟩), trivial, trivial, trivial⟩ ⟨(Or.inr ⟨wy_pr rfl, fun q => q⟩), trivial⟩ (fun _ _ q => False.elim q) ?_ (fun _ _ _ q => q)
    refine wa_aload_n (n := 0) rfl ?_
    refine wb_gfi 158 rfl (wy_pr rfl) wt_158 wf_5_9 (v := gk) (h6) (fun r2 => ?_)
    refine wa_iconst ?_
    refine wa_icmpeq (w_rg0 (by omega) (by omega)) (w_rg0 (by omega) (by omega)) ⟨_, rfl⟩ (fun c3 => ?_) (fun c3 => ?_)
    · skip
      refine wa_iconst ?_
      refine wa_goto ⟨_, rfl⟩ ?_
      refine wa_zreturn rfl (Or.inr rfl) ?_
      show wJ _ _ _ _ _ _ _ _ _ _
      refine wa_ifeq (w_rg0 (by omega) (by omega)) ⟨_, rfl⟩ (fun c4 => ?_) (fun c4 => ?_)
      · skip
        exact absurd c4 (by omega)
      · skip
        refine wa_aload_n (n := 0) rfl ?_
        refine wa_cv 158 rfl (wy_pr rfl) wt_158 (M2 := fun _ => False) rfl at_XL_elementName ⟨_, rfl⟩ rfl rfl ⟨(Or.inr ⟨wy_pr rfl, fun q => q⟩), (Or.inr ⟨wy_pr rfl, fun q => q⟩), trivial, trivial, trivial⟩ ⟨(Or.inr ⟨wy_pr rfl, fun q => q⟩), trivial⟩ (fun _ _ q => False.elim q) (ela_226 (S := Z) (ba := ba) (k := k) (v := v) h1 h2 h5 ⟨by omega, by rw [h9 228 _ (Or.inl (by decide))]; exact hb1⟩ (by rw [h9 228 _ (Or.inl (by decide)), h9 229 _ (Or.inl (by decide))]; exact hb2) (by rw [h9 228 _ (Or.inl (by decide))]; exact hln) ((h9 228 _ (Or.inl (by decide))).trans hk) ((h9 229 _ (Or.inl (by decide))).trans hv) hk3) (fun oq5 Sq5 hp6 q5 => ?_)
        rcases q5 with ⟨rfl, rfl⟩
        show wJ _ _ _ _ _ _ _ _ _ _
        refine wa_goto ⟨_, rfl⟩ ?_
        refine wb_pfi 158 rfl (wy_pr rfl) wt_158 wf_5_11 (n := 11) rfl ⟨(by omega), (by omega)⟩ ?_
        refine wa_return rfl ?_
        exact ⟨rfl, amI_n hZ⟩
    · skip
      refine wa_aload_n (n := 0) rfl ?_
      refine wb_gfi 158 rfl (wy_pr rfl) wt_158 wf_5_9 (v := gk) (h6) (fun r7 => ?_)
      refine wa_iconst ?_
      refine wa_icmpne (w_rg0 (by omega) (by omega)) (w_rg0 (by omega) (by omega)) ⟨_, rfl⟩ (fun c8 => ?_) (fun c8 => ?_)
      · skip
        exfalso; omega
      · skip
        refine wa_fall ⟨_, rfl⟩ ?_
        refine wa_iconst ?_
        refine wa_goto ⟨_, rfl⟩ ?_
        refine wa_zreturn rfl (Or.inr rfl) ?_
        show wJ _ _ _ _ _ _ _ _ _ _
        refine wa_ifeq (w_rg0 (by omega) (by omega)) ⟨_, rfl⟩ (fun c9 => ?_) (fun c9 => ?_)
        · skip
          exact absurd c9 (by omega)
        · skip
          refine wa_aload_n (n := 0) rfl ?_
          refine wa_cv 158 rfl (wy_pr rfl) wt_158 (M2 := fun _ => False) rfl at_XL_elementName ⟨_, rfl⟩ rfl rfl ⟨(Or.inr ⟨wy_pr rfl, fun q => q⟩), (Or.inr ⟨wy_pr rfl, fun q => q⟩), trivial, trivial, trivial⟩ ⟨(Or.inr ⟨wy_pr rfl, fun q => q⟩), trivial⟩ (fun _ _ q => False.elim q) (ela_226 (S := Z) (ba := ba) (k := k) (v := v) h1 h2 h5 ⟨by omega, by rw [h9 228 _ (Or.inl (by decide))]; exact hb1⟩ (by rw [h9 228 _ (Or.inl (by decide)), h9 229 _ (Or.inl (by decide))]; exact hb2) (by rw [h9 228 _ (Or.inl (by decide))]; exact hln) ((h9 228 _ (Or.inl (by decide))).trans hk) ((h9 229 _ (Or.inl (by decide))).trans hv) hk3) (fun oq10 Sq10 hp11 q10 => ?_)
          rcases q10 with ⟨rfl, rfl⟩
          show wJ _ _ _ _ _ _ _ _ _ _
          refine wa_goto ⟨_, rfl⟩ ?_
          refine wb_pfi 158 rfl (wy_pr rfl) wt_158 wf_5_11 (n := 11) rfl ⟨(by omega), (by omega)⟩ ?_
          refine wa_return rfl ?_
          exact ⟨rfl, amI_n hZ⟩
theorem ait_226 {kd ec ba gk gb bh ne h : Int} {v t : Int} (hP : w_CL S0) (hlt : cLt S0 T) (hT : (T.length : Int) ≤ 8000) (hb2 : S0 229 (-1) = S0 228 (-1)) (hln : S0 228 (-1) ≤ 4095) (hba : 0 ≤ ba ∧ ba + 1 + ec ≤ S0 228 (-1)) (hec : ec = (cl.length : Int) ∧ cl.length ≤ 8) (hcl : esOk cl) (hcv : ∀ i : Nat, i < cl.length → clS S0 (S0 228 (ba + 1 + (i : Int))) (S0 229 (ba + 1 + (i : Int))) = cl.getD i 0 ∧ (0 ≤ S0 228 (ba + 1 + (i : Int)) ∧ S0 228 (ba + 1 + (i : Int)) ≤ 8) ∧ (S0 228 (ba + 1 + (i : Int)) = 7 → 0 ≤ S0 229 (ba + 1 + (i : Int)) ∧ S0 229 (ba + 1 + (i : Int)) < (T.length : Int) ∧ 0 ≤ S0 129 (S0 229 (ba + 1 + (i : Int))) ∧ S0 129 (S0 229 (ba + 1 + (i : Int))) < 60)) (hl : cSl S0) (hs : 0 ≤ s ∧ s < S0 35 (-1)) (hkd : S0 35 s = kd) (hkr : 0 ≤ kd ∧ kd ≤ 6) (hne : S0 37 s = ne) (hner : 0 ≤ ne ∧ ne ≤ 8) (hece : ec = if kd = 1 then 1 else ne) (hbhe : bh = if kd = 2 then 1 else if kd = 3 then 2 else ec) (hh : S0 227 2 = h) (hbae : ba = h - 1 - bh) (hhr : 0 ≤ h ∧ h ≤ S0 228 (-1)) (hgk : S0 228 ba = gk) (hgb : S0 229 ba = gb) (hc : (kd = 2 ∨ kd = 3) ∧ (gk = 4 ∨ gk = 5)) (hI : gI S0) (hnt : cNt N X S0) (hb1 : ba + 1 < S0 228 (-1)) (hk : S0 228 (ba + 1) = 3) (hv : S0 229 (ba + 1) = v) (hvy : v = t * 4294967296 + (x.length : Int)) (ht : 0 ≤ t ∧ t + (x.length : Int) ≤ S0 2 1) (he : ∀ i : Nat, i < x.length → S0 3 (t + (i : Int)) = x.getD i 0) : wJ (pe_GA xs) wY0 (mS [3, 4, 5, 6, 7, 8, 9]) (d + 7) t_XL_aim ((pe_at t_XL_aim.bl 0).getD (0, [])).2 [(0, (2, 158)), (1, (2, 226)), (2, (0, s))] [] S0 (fun o Z => o = .inl none ∧ ∃ (S1 A : wS) (r : Int), amI 226 s kd ec ba gk gb (esV cl) S0 S1 ∧ enQ 226 N X x S1 r A ∧ w_up A 158 11 r = Z) := by
  obtain ⟨nms, hnm⟩ : ∃ i : Int, S0 36 s = i := ⟨_, rfl⟩
  refine am_226 (d := d + 3) hP hlt hT hb2 hln hba hec hcl hcv hl hs hkd hkr hne hner hece hbhe hh hbae hhr hgk hgb (fun Z hZ => ?_)
  have h35 := hl.2.1
  obtain ⟨⟨h1, h2, h3, h4, h5, h6, h7, h8, h10⟩, h9⟩ := id hZ
  have e36 : Z 36 s = nms := (h9 36 s (Or.inl (by first | decide | omega))).trans hnm
  have l36 : Z 36 (-1) = S0 35 (-1) := (h9 36 (-1) (Or.inl (by first | decide | omega))).trans (hl.1 1 (by first | decide | omega))
  have l34 : Z 34 (-1) = 12 := (h9 34 (-1) (Or.inl (by first | decide | omega))).trans (cl_34 hP)
  obtain ⟨oe, hoe⟩ : ∃ i : Int, i = (if kd = 2 ∨ kd = 3 then 1 else 0) := ⟨_, rfl⟩
  have hom := am_ite (kd := kd)
  rw [← hoe] at hom ⊢
  have hg : wG = 1000000 := rfl
  have ef : ∀ j : Nat, j ≠ 158 → Z j = S0 j := fun j hj => funext (fun x => h9 j x (Or.inl hj))
  have hIZ : gI Z := gI_ag2 hI (fun j hj => h9 j (-1) (Or.inl (by omega))) (fun x _ => h9 238 _ (Or.inl (by first | decide | omega))) (h9 14 5 (Or.inl (by first | decide | omega)))
  refine wa_aload_n (n := 0) rfl ?_
  refine wa_iload_n (n := 3) rfl ?_
  refine wa_ifeq (w_rg0 (by omega) (by omega)) ⟨_, rfl⟩ (fun c1 => ?_) (fun c1 => ?_)
  · skip
    exfalso; omega
  · skip
    refine wa_aload_n (n := 0) rfl ?_
    refine wa_cv 158 rfl (wy_pr rfl) wt_158 (M2 := fun _ => False) rfl at_XL_isHolder ⟨_, rfl⟩ rfl rfl ⟨(Or.inr ⟨wy_pr rfl, fun q => q⟩), (Or.inr ⟨wy_pr rfl, fun q => q⟩), trivial, trivial, trivial⟩ ⟨(Or.inr ⟨wy_pr rfl, fun q => q⟩), trivial⟩ (fun _ _ q => False.elim q) ?_ (fun _ _ _ q => q)
    refine wa_aload_n (n := 0) rfl ?_
    refine wb_gfi 158 rfl (wy_pr rfl) wt_158 wf_5_9 (v := gk) (h6) (fun r2 => ?_)
    refine wa_iconst ?_
    refine wa_icmpeq (w_rg0 (by omega) (by omega)) (w_rg0 (by omega) (by omega)) ⟨_, rfl⟩ (fun c3 => ?_) (fun c3 => ?_)
    · skip
      refine wa_iconst ?_
      refine wa_goto ⟨_, rfl⟩ ?_
      refine wa_zreturn rfl (Or.inr rfl) ?_
      show wJ _ _ _ _ _ _ _ _ _ _
      refine wa_ifeq (w_rg0 (by omega) (by omega)) ⟨_, rfl⟩ (fun c4 => ?_) (fun c4 => ?_)
      · skip
        exact absurd c4 (by omega)
      · skip
        refine wa_aload_n (n := 0) rfl ?_
        refine wa_cv 158 rfl (wy_pr rfl) wt_158 (M2 := mS [3, 4, 5, 6, 7, 8, 9]) rfl at_XL_elementName ⟨_, rfl⟩ rfl rfl ⟨(Or.inr ⟨wy_pr rfl, mS_no rfl⟩), (Or.inr ⟨wy_pr rfl, mS_no rfl⟩), trivial, trivial, trivial⟩ ⟨(Or.inr ⟨wy_pr rfl, mS_no rfl⟩), trivial⟩ (fun _ _ q => q) (elt_226 (S := Z) (ba := ba) (v := v) (s := t) h1 h2 h5 ⟨by omega, by rw [h9 228 _ (Or.inl (by decide))]; exact hb1⟩ (by rw [h9 228 _ (Or.inl (by decide)), h9 229 _ (Or.inl (by decide))]; exact hb2) (by rw [h9 228 _ (Or.inl (by decide))]; exact hln) ((h9 228 _ (Or.inl (by decide))).trans hk) ((h9 229 _ (Or.inl (by decide))).trans hv) hIZ (cNt_ag hnt (fun j hj => ef j (by omega))) hvy (by rw [h9 2 1 (Or.inl (by decide))]; exact ht) (fun i hi => (h9 3 _ (Or.inl (by decide))).trans (he i hi))) (fun oq5 Sq5 hp6 q5 => ?_)
        rcases q5 with ⟨r, rfl, hen⟩
        show wJ _ _ _ _ _ _ _ _ _ _
        have hrr : -1 ≤ r ∧ r ≤ 4000 := enQ_r hen hnt
        refine wa_goto ⟨_, rfl⟩ ?_
        refine wb_pfi 158 rfl (wy_pr rfl) wt_158 wf_5_11 (n := 11) rfl ⟨(by omega), (by omega)⟩ ?_
        refine wa_return rfl ?_
        exact ⟨rfl, Z, Sq5, r, hZ, hen, rfl⟩
    · skip
      refine wa_aload_n (n := 0) rfl ?_
      refine wb_gfi 158 rfl (wy_pr rfl) wt_158 wf_5_9 (v := gk) (h6) (fun r7 => ?_)
      refine wa_iconst ?_
      refine wa_icmpne (w_rg0 (by omega) (by omega)) (w_rg0 (by omega) (by omega)) ⟨_, rfl⟩ (fun c8 => ?_) (fun c8 => ?_)
      · skip
        exfalso; omega
      · skip
        refine wa_fall ⟨_, rfl⟩ ?_
        refine wa_iconst ?_
        refine wa_goto ⟨_, rfl⟩ ?_
        refine wa_zreturn rfl (Or.inr rfl) ?_
        show wJ _ _ _ _ _ _ _ _ _ _
        refine wa_ifeq (w_rg0 (by omega) (by omega)) ⟨_, rfl⟩ (fun c9 => ?_) (fun c9 => ?_)
        · skip
          exact absurd c9 (by omega)
        · skip
          refine wa_aload_n (n := 0) rfl ?_
          refine wa_cv 158 rfl (wy_pr rfl) wt_158 (M2 := mS [3, 4, 5, 6, 7, 8, 9]) rfl at_XL_elementName ⟨_, rfl⟩ rfl rfl ⟨(Or.inr ⟨wy_pr rfl, mS_no rfl⟩), (Or.inr ⟨wy_pr rfl, mS_no rfl⟩), trivial, trivial, trivial⟩ ⟨(Or.inr ⟨wy_pr rfl, mS_no rfl⟩), trivial⟩ (fun _ _ q => q) (elt_226 (S := Z) (ba := ba) (v := v) (s := t) h1 h2 h5 ⟨by omega, by rw [h9 228 _ (Or.inl (by decide))]; exact hb1⟩ (by rw [h9 228 _ (Or.inl (by decide)), h9 229 _ (Or.inl (by decide))]; exact hb2) (by rw [h9 228 _ (Or.inl (by decide))]; exact hln) ((h9 228 _ (Or.inl (by decide))).trans hk) ((h9 229 _ (Or.inl (by decide))).trans hv) hIZ (cNt_ag hnt (fun j hj => ef j (by omega))) hvy (by rw [h9 2 1 (Or.inl (by decide))]; exact ht) (fun i hi => (h9 3 _ (Or.inl (by decide))).trans (he i hi))) (fun oq10 Sq10 hp11 q10 => ?_)
          rcases q10 with ⟨r, rfl, hen⟩
          show wJ _ _ _ _ _ _ _ _ _ _
          have hrr : -1 ≤ r ∧ r ≤ 4000 := enQ_r hen hnt
          refine wa_goto ⟨_, rfl⟩ ?_
          refine wb_pfi 158 rfl (wy_pr rfl) wt_158 wf_5_11 (n := 11) rfl ⟨(by omega), (by omega)⟩ ?_
          refine wa_return rfl ?_
          exact ⟨rfl, Z, Sq10, r, hZ, hen, rfl⟩
end Wgi
