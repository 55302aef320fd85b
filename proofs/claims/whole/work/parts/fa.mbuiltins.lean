/-! PART fa: the reference's make and proto. -/
section Wfa
variable {xs : List (Nat × List Int32)} {M : Nat → Prop} {d : Nat} {S Z A B : wS} {H : List aH} {T : List aO}
theorem r_ms {be pr nm r u4 : Int} {n : Int} (hM : w_ML S) (h1 : rHs S H) (hw : wHs H n) (hb1 : be = -1 → nm = -1) (hbr : -1 ≤ be ∧ be < (H.length : Int)) (hpr1 : -1 ≤ pr ∧ pr < 8000) (hnm : -2147483648 ≤ nm ∧ nm ≤ 2147483647) (hr : r = aFs be pr nm H 0) (hu : S 237 66 = u4) (hu1 : 0 ≤ u4 ∧ u4 ≤ 4000 ∧ (H.length : Int) ≤ u4 + 1) : wJ (pe_GA xs) wY0 M (d + 2) t_M_madeShape ((pe_at t_M_madeShape.bl 0).getD (0, [])).2 [(0, (2, 237)), (1, (0, be)), (2, (0, pr)), (3, (0, nm))] [] S (fun o Z => (0 ≤ r ∧ o = .inl (some (0, r)) ∧ S = Z) ∨ (r = -1 ∧ 4000 ≤ u4 ∧ o = .inr 238 ∧ hZ 99 S = Z) ∨ (r = -1 ∧ u4 < 4000 ∧ o = .inl (some (0, (H.length : Int))) ∧ msZ be pr nm (H.length : Int) u4 S = Z)) := by
  have hL := hw.2.1
  have h0 := wHs_0 hw
  refine wJ_mono (ms_ok (m := (H.length : Int)) (u4 := u4) hM h1.1 ⟨by omega, by omega⟩ ⟨by omega, by omega⟩ ⟨by omega, by omega⟩ hnm hu ⟨hu1.1, hu1.2.1⟩ hu1.2.2 (fun q => ⟨hbr.2, ?_, ?_⟩) hpr1.2) (fun o Z hz => ?_)
  · rw [(rHs_e h1 q hbr.2).2.2.2]; exact (wHs_c hw be q hbr.2).1.1
  · rw [(rHs_e h1 q hbr.2).2.2.2]; exact Int.le_trans (wHs_c hw be q hbr.2).1.2 (by first | decide | omega)
  · obtain ⟨r2, hf, hz⟩ := hz
    have er := fsR_e h1 hw hb1 ⟨by omega, by omega⟩ ⟨by omega, by omega⟩ hf
    rw [← hr] at er
    subst er
    exact hz
theorem yb1n {t c p h tp vy n u0 : Int} (hP : mP t c p h tp S) (hn : S 237 68 = n) (hn1 : 0 ≤ n ∧ n ≤ u0) (hu0 : S 237 62 = u0) (hu1 : 0 ≤ u0 ∧ u0 ≤ 8000) (hky : S 363 (2100 * t + h - 1) = 0) (hvy : S 364 (2100 * t + h - 1) = vy) (hh1 : 1 ≤ h) : wJ (pe_GA xs) wY0 M (d + 11) t_M_others ((pe_at t_M_others.bl 0).getD (0, [])).2 [(0, (2, 237)), (1, (0, 28)), (2, (0, 1))] [] S (fun o Z => (8000 ≤ u0 ∧ o = .inr 238 ∧ hZ 99 S = Z) ∨ (u0 < 8000 ∧ o = .inl none ∧ (w_up (w_up (w_up (ntZ 4 n u0 S) 315 n 0) 363 (2100 * t + h - 1) 4) 364 (2100 * t + h - 1) n) = Z)) := by
  obtain ⟨hM, ⟨mt, mt0, mt1⟩, mp, mf, ⟨mc, mc0, mc1⟩, ⟨mtp, mtq⟩, ⟨mpa, mp0, mp1⟩, mh, mh0, mh1⟩ := id hP
  have hky2 : S 363 (2100 * t + (h - 1)) = 0 := by rw [show 2100 * t + (h - 1) = 2100 * t + h - 1 by omega]; exact hky
  have hvy2 : S 364 (2100 * t + (h - 1)) = vy := by rw [show 2100 * t + (h - 1) = 2100 * t + h - 1 by omega]; exact hvy
  refine wa_aload_n (n := 0) rfl ?_
  refine wa_cv 237 rfl (wy_pr rfl) wt_237 (M2 := fun _ => False) rfl at_M_h ⟨_, rfl⟩ rfl rfl ⟨(Or.inr ⟨wy_pr rfl, fun q => q⟩), trivial, trivial, trivial⟩ trivial (fun _ _ q => False.elim q) ?_ (fun _ _ _ q => q)
  refine wa_aload_n (n := 0) rfl ?_
  refine wb_gfi 237 rfl (wy_pr rfl) wt_237 wf_15_152 (v := (2100 * t)) (mp) (fun r1 => ?_)
  refine wa_aload_n (n := 0) rfl ?_
  refine wb_gf4 237 rfl (wy_pr rfl) wt_237 wf_15_134 (v := 359) wl_237_134 ?_
  refine wa_aload_n (n := 0) rfl ?_
  refine wb_gfi 237 rfl (wy_pr rfl) wt_237 wf_15_151 (v := t) (mt) (fun r2 => ?_)
  refine wb_iald 359 rfl (wy_pr rfl) wt_359 (n := 2) ((ml_359 hM)) (by omega) (by omega) (v := h) (mh) (fun r3 => ?_)
  refine wa_iadd ?_
  refine wa_ireturn rfl ?_
  show wJ _ _ _ _ _ _ _ _ _ _
  refine wa_iconst ?_
  refine wa_isub ?_
  refine wa_istore_n (n := 3) rfl ?_
  refine wa_iload_n (n := 1) rfl ?_
  refine wb_sw (w_rg0 (by omega) (by omega)) (tb := 12) rfl ⟨_, rfl⟩ ?_
  refine wa_aload_n (n := 0) rfl ?_
  refine wa_iload_n (n := 2) rfl ?_
  refine wa_cv 237 rfl (wy_pr rfl) wt_237 (M2 := fun _ => False) rfl at_M_builtins ⟨_, rfl⟩ rfl rfl ⟨trivial, (Or.inr ⟨wy_pr rfl, fun q => q⟩), trivial, trivial, trivial⟩ trivial (fun _ _ q => False.elim q) ?_ (fun _ _ _ q => q)
  refine wa_aload_n (n := 0) rfl ?_
  refine wa_cv 237 rfl (wy_pr rfl) wt_237 (M2 := fun _ => False) rfl at_M_h ⟨_, rfl⟩ rfl rfl ⟨(Or.inr ⟨wy_pr rfl, fun q => q⟩), trivial, trivial⟩ trivial (fun _ _ q => False.elim q) ?_ (fun _ _ _ q => q)
  refine wa_aload_n (n := 0) rfl ?_
  refine wb_gfi 237 rfl (wy_pr rfl) wt_237 wf_15_152 (v := (2100 * t)) (mp) (fun r4 => ?_)
  refine wa_aload_n (n := 0) rfl ?_
  refine wb_gf4 237 rfl (wy_pr rfl) wt_237 wf_15_134 (v := 359) wl_237_134 ?_
  refine wa_aload_n (n := 0) rfl ?_
  refine wb_gfi 237 rfl (wy_pr rfl) wt_237 wf_15_151 (v := t) (mt) (fun r5 => ?_)
  refine wb_iald 359 rfl (wy_pr rfl) wt_359 (n := 2) ((ml_359 hM)) (by omega) (by omega) (v := h) (mh) (fun r6 => ?_)
  refine wa_iadd ?_
  refine wa_ireturn rfl ?_
  show wJ _ _ _ _ _ _ _ _ _ _
  refine wa_iconst ?_
  refine wa_isub ?_
  refine wa_istore_n (n := 2) rfl ?_
  refine wa_iload_n (n := 2) rfl ?_
  refine wa_iconst ?_
  refine wa_isub ?_
  refine wa_istore_n (n := 3) rfl ?_
  refine wa_iload_n (n := 1) rfl ?_
  refine wb_sw (w_rg0 (by omega) (by omega)) (tb := 2) rfl ⟨_, rfl⟩ ?_
  refine wa_aload_n (n := 0) rfl ?_
  refine wb_gf4 237 rfl (wy_pr rfl) wt_237 wf_15_138 (v := 363) wl_237_138 ?_
  refine wa_iload_n (n := 2) rfl ?_
  refine wb_iald 363 rfl (wy_pr rfl) wt_363 (n := 4200) ((ml_363 hM)) (by omega) (by omega) (v := 0) (hky) (fun r7 => ?_)
  refine wa_ifeq (w_rg0 (by omega) (by omega)) ⟨_, rfl⟩ (fun c8 => ?_) (fun c8 => ?_)
  · skip
    refine wa_aload_n (n := 0) rfl ?_
    refine wa_aload_n (n := 0) rfl ?_
    refine wa_iconst ?_
    refine wa_cv 237 rfl (wy_pr rfl) wt_237 (M2 := fun _ => False) rfl at_M_hasRoomFor ⟨_, rfl⟩ rfl rfl ⟨trivial, trivial, (Or.inr ⟨wy_pr rfl, fun q => q⟩), trivial, trivial⟩ ⟨(Or.inr ⟨wy_pr rfl, fun q => q⟩), trivial⟩ (fun _ _ q => False.elim q) ?_ (fun _ _ _ q => q)
    refine wa_aload_n (n := 0) rfl ?_
    refine wb_gfi 237 rfl (wy_pr rfl) wt_237 wf_15_62 (v := u0) (hu0) (fun r9 => ?_)
    refine wa_iload_n (n := 1) rfl ?_
    refine wa_iadd ?_
    refine wa_sipush (by omega) ?_
    refine wa_icmpgt (w_rg0 (by omega) (by omega)) (w_rg0 (by omega) (by omega)) ⟨_, rfl⟩ (fun c10 => ?_) (fun c10 => ?_)
    · skip
      refine wa_iconst ?_
      refine wa_fall ⟨_, rfl⟩ ?_
      refine wa_zreturn rfl (Or.inl rfl) ?_
      show wJ _ _ _ _ _ _ _ _ _ _
      refine wa_cv 237 rfl (wy_pr rfl) wt_237 (M2 := fun _ => False) rfl at_M_room ⟨_, rfl⟩ rfl rfl ⟨trivial, trivial, (Or.inr ⟨wy_pr rfl, fun q => q⟩), trivial, trivial⟩ trivial (fun _ _ q => False.elim q) ?_ (fun _ _ _ q => q)
      refine wa_iload_n (n := 1) rfl ?_
      refine wa_ifne (w_rg0 (by omega) (by omega)) ⟨_, rfl⟩ (fun c11 => ?_) (fun c11 => ?_)
      · skip
        exact absurd c11 (by omega)
      · skip
        refine wa_aload_n (n := 0) rfl ?_
        refine wb_gf4 237 rfl (wy_pr rfl) wt_237 wf_15_1 (v := 238) wl_237_1 ?_
        refine wa_bipush (w_rg2 (by omega) (by omega)) ?_
        refine wa_iconst ?_
        refine wa_cv 238 rfl (wy_pr rfl) wt_238 (M2 := fun _ => False) rfl at_MH_of ⟨_, rfl⟩ rfl rfl ⟨(Or.inr ⟨wy_pr rfl, fun q => q⟩), trivial, trivial⟩ trivial (fun _ _ q => False.elim q) ?_ (fun _ _ _ q => q)
        refine wa_aload_n (n := 0) rfl ?_
        refine wa_iload_n (n := 1) rfl ?_
        refine wb_pfi 238 rfl (wy_pr rfl) wt_238 wf_11_5 (n := 5) rfl ⟨(by omega), (by omega)⟩ ?_
        refine wa_aload_n (n := 0) rfl ?_
        refine wa_iload_n (n := 2) rfl ?_
        refine wb_pfi 238 rfl (wy_pr rfl) wt_238 wf_11_6 (n := 6) rfl ⟨(by omega), (by omega)⟩ ?_
        refine wa_aload_n (n := 0) rfl ?_
        refine wa_oreturn rfl ?_
        show wJ _ _ _ _ _ _ _ _ _ _
        refine wa_th (j := 238) ?_
        refine ⟨rfl, ?_⟩
        refine ⟨rfl, ?_⟩
        exact Or.inl ⟨by omega, rfl, rfl⟩
    · skip
      refine wa_iconst ?_
      refine wa_goto ⟨_, rfl⟩ ?_
      refine wa_zreturn rfl (Or.inr rfl) ?_
      show wJ _ _ _ _ _ _ _ _ _ _
      refine wa_cv 237 rfl (wy_pr rfl) wt_237 (M2 := fun _ => False) rfl at_M_room ⟨_, rfl⟩ rfl rfl ⟨trivial, trivial, (Or.inr ⟨wy_pr rfl, fun q => q⟩), trivial, trivial⟩ trivial (fun _ _ q => False.elim q) ?_ (fun _ _ _ q => q)
      refine wa_iload_n (n := 1) rfl ?_
      refine wa_ifne (w_rg0 (by omega) (by omega)) ⟨_, rfl⟩ (fun c12 => ?_) (fun c12 => ?_)
      · skip
        refine wa_return rfl ?_
        show wJ _ _ _ _ _ _ _ _ _ _
        refine wa_aload_n (n := 0) rfl ?_
        refine wa_iconst ?_
        refine wa_aload_n (n := 0) rfl ?_
        refine wb_gf4 237 rfl (wy_pr rfl) wt_237 wf_15_138 (v := 363) wl_237_138 ?_
        refine wa_iload_n (n := 2) rfl ?_
        refine wb_iald 363 rfl (wy_pr rfl) wt_363 (n := 4200) ((ml_363 hM)) (by omega) (by omega) (v := 0) (hky) (fun r13 => ?_)
        refine wa_ifne (w_rg0 (by omega) (by omega)) ⟨_, rfl⟩ (fun c14 => ?_) (fun c14 => ?_)
        · skip
          exact absurd c14 (by omega)
        · skip
          refine wa_iconst ?_
          refine wa_goto ⟨_, rfl⟩ ?_
          refine wa_iconst ?_
          refine wa_cv 237 rfl (wy_pr rfl) wt_237 (M2 := fun _ => False) rfl at_M_madeShape ⟨_, rfl⟩ rfl rfl ⟨trivial, trivial, (Or.inr ⟨wy_pr rfl, fun q => q⟩), trivial, trivial⟩ trivial (fun _ _ q => False.elim q) ?_ (fun _ _ _ q => q)
          refine wa_aload_n (n := 0) rfl ?_
          refine wa_iload_n (n := 1) rfl ?_
          refine wa_iload_n (n := 2) rfl ?_
          refine wa_iload_n (n := 3) rfl ?_
          refine wa_cv 237 rfl (wy_pr rfl) wt_237 (M2 := fun _ => False) rfl at_M_findShape ⟨_, rfl⟩ rfl rfl ⟨(Or.inr ⟨wy_pr rfl, fun q => q⟩), trivial, trivial, trivial, trivial⟩ trivial (fun _ _ q => False.elim q) ?_ (fun _ _ _ q => q)
          refine wa_iload_n (n := 1) rfl ?_
          refine wa_ifge (w_rg0 (by omega) (by omega)) ⟨_, rfl⟩ (fun c15 => ?_) (fun c15 => ?_)
          · skip
            exact absurd c15 (by omega)
          · skip
            refine wa_iload_n (n := 2) rfl ?_
            refine wa_ifge (w_rg0 (by omega) (by omega)) ⟨_, rfl⟩ (fun c16 => ?_) (fun c16 => ?_)
            · skip
              exact absurd c16 (by omega)
            · skip
              refine wa_iconst ?_
              refine wa_ireturn rfl ?_
              show wJ _ _ _ _ _ _ _ _ _ _
              refine wa_istore (n := 4) rfl ?_
              refine wa_iload (n := 4) rfl ?_
              refine wa_iflt (w_rg0 (by omega) (by omega)) ⟨_, rfl⟩ (fun c17 => ?_) (fun c17 => ?_)
              · skip
                exact absurd c17 (by omega)
              · skip
                refine wa_iload (n := 4) rfl ?_
                refine wa_ireturn rfl ?_
                show wJ _ _ _ _ _ _ _ _ _ _
                refine wa_istore (n := 4) rfl ?_
                refine wa_aload_n (n := 0) rfl ?_
                refine wa_iconst ?_
                refine wa_cv 237 rfl (wy_pr rfl) wt_237 (M2 := fun _ => False) rfl at_M_newThing ⟨_, rfl⟩ rfl rfl ⟨trivial, trivial, trivial, (Or.inr ⟨wy_pr rfl, fun q => q⟩), trivial, trivial⟩ trivial (fun _ _ q => False.elim q) ?_ (fun _ _ _ q => q)
                refine wa_aload_n (n := 0) rfl ?_
                refine wb_gfi 237 rfl (wy_pr rfl) wt_237 wf_15_68 (v := n) (hn) (fun r18 => ?_)
                refine wa_istore_n (n := 2) rfl ?_
                refine wa_aload_n (n := 0) rfl ?_
                refine wb_gf4 237 rfl (wy_pr rfl) wt_237 wf_15_70 (v := 314) wl_237_70 ?_
                refine wa_iload_n (n := 2) rfl ?_
                refine wa_iload_n (n := 1) rfl ?_
                refine wb_iast 314 rfl (wy_pr rfl) wt_314 (n := 8000) ((ml_314 hM)) (by omega) (by omega) ⟨(by omega), (by omega)⟩ ?_
                refine wa_aload_n (n := 0) rfl ?_
                refine wb_gf4 237 rfl (wy_pr rfl) wt_237 wf_15_71 (v := 315) wl_237_71 ?_
                refine wa_iload_n (n := 2) rfl ?_
                refine wa_iconst ?_
                refine wb_iast 315 rfl (wy_pr rfl) wt_315 (n := 8000) ((w_up_slot (by decide)).trans ((ml_315 hM))) (by omega) (by omega) ⟨(by omega), (by omega)⟩ ?_
                refine wa_aload_n (n := 0) rfl ?_
                refine wb_gf4 237 rfl (wy_pr rfl) wt_237 wf_15_72 (v := 316) wl_237_72 ?_
                refine wa_iload_n (n := 2) rfl ?_
                refine wa_iconst ?_
                refine wb_iast 316 rfl (wy_pr rfl) wt_316 (n := 8000) ((w_up_slot (by decide)).trans ((w_up_slot (by decide)).trans ((ml_316 hM)))) (by omega) (by omega) ⟨(by omega), (by omega)⟩ ?_
                refine wa_aload_n (n := 0) rfl ?_
                refine wb_gf4 237 rfl (wy_pr rfl) wt_237 wf_15_73 (v := 317) wl_237_73 ?_
                refine wa_iload_n (n := 2) rfl ?_
                refine wa_iconst ?_
                refine wb_iast 317 rfl (wy_pr rfl) wt_317 (n := 8000) ((w_up_slot (by decide)).trans ((w_up_slot (by decide)).trans ((w_up_slot (by decide)).trans ((ml_317 hM))))) (by omega) (by omega) ⟨(by omega), (by omega)⟩ ?_
                refine wa_aload_n (n := 0) rfl ?_
                refine wb_gf4 237 rfl (wy_pr rfl) wt_237 wf_15_75 (v := 319) wl_237_75 ?_
                refine wa_iload_n (n := 2) rfl ?_
                refine wa_iconst ?_
                refine wb_iast 319 rfl (wy_pr rfl) wt_319 (n := 8000) ((w_up_slot (by decide)).trans ((w_up_slot (by decide)).trans ((w_up_slot (by decide)).trans ((w_up_slot (by decide)).trans ((ml_319 hM)))))) (by omega) (by omega) ⟨(by omega), (by omega)⟩ ?_
                refine wa_aload_n (n := 0) rfl ?_
                refine wb_gf4 237 rfl (wy_pr rfl) wt_237 wf_15_76 (v := 320) wl_237_76 ?_
                refine wa_iload_n (n := 2) rfl ?_
                refine wa_iconst ?_
                refine wb_iast 320 rfl (wy_pr rfl) wt_320 (n := 8000) ((w_up_slot (by decide)).trans ((w_up_slot (by decide)).trans ((w_up_slot (by decide)).trans ((w_up_slot (by decide)).trans ((w_up_slot (by decide)).trans ((ml_320 hM))))))) (by omega) (by omega) ⟨(by omega), (by omega)⟩ ?_
                refine wa_aload_n (n := 0) rfl ?_
                refine wb_gf4 237 rfl (wy_pr rfl) wt_237 wf_15_77 (v := 321) wl_237_77 ?_
                refine wa_iload_n (n := 2) rfl ?_
                refine wa_iconst ?_
                refine wb_iast 321 rfl (wy_pr rfl) wt_321 (n := 8000) ((w_up_slot (by decide)).trans ((w_up_slot (by decide)).trans ((w_up_slot (by decide)).trans ((w_up_slot (by decide)).trans ((w_up_slot (by decide)).trans ((w_up_slot (by decide)).trans ((ml_321 hM)))))))) (by omega) (by omega) ⟨(by omega), (by omega)⟩ ?_
                refine wa_aload_n (n := 0) rfl ?_
                refine wb_gf4 237 rfl (wy_pr rfl) wt_237 wf_15_78 (v := 322) wl_237_78 ?_
                refine wa_iload_n (n := 2) rfl ?_
                refine wa_iconst ?_
                refine wb_zast 322 rfl (wy_pr rfl) wt_322 (n := 8000) ((w_up_slot (by decide)).trans ((w_up_slot (by decide)).trans ((w_up_slot (by decide)).trans ((w_up_slot (by decide)).trans ((w_up_slot (by decide)).trans ((w_up_slot (by decide)).trans ((w_up_slot (by decide)).trans ((ml_322 hM))))))))) (by omega) (by omega) ⟨(by omega), (by omega)⟩ ?_
                refine wa_aload_n (n := 0) rfl ?_
                refine wb_gf4 237 rfl (wy_pr rfl) wt_237 wf_15_79 (v := 323) wl_237_79 ?_
                refine wa_iload_n (n := 2) rfl ?_
                refine wa_iconst ?_
                refine wb_iast 323 rfl (wy_pr rfl) wt_323 (n := 8000) ((w_up_slot (by decide)).trans ((w_up_slot (by decide)).trans ((w_up_slot (by decide)).trans ((w_up_slot (by decide)).trans ((w_up_slot (by decide)).trans ((w_up_slot (by decide)).trans ((w_up_slot (by decide)).trans ((w_up_slot (by decide)).trans ((ml_323 hM)))))))))) (by omega) (by omega) ⟨(by omega), (by omega)⟩ ?_
                refine wa_aload_n (n := 0) rfl ?_
                refine wb_gf4 237 rfl (wy_pr rfl) wt_237 wf_15_80 (v := 324) wl_237_80 ?_
                refine wa_iload_n (n := 2) rfl ?_
                refine wa_iconst ?_
                refine wb_iast 324 rfl (wy_pr rfl) wt_324 (n := 8000) ((w_up_slot (by decide)).trans ((w_up_slot (by decide)).trans ((w_up_slot (by decide)).trans ((w_up_slot (by decide)).trans ((w_up_slot (by decide)).trans ((w_up_slot (by decide)).trans ((w_up_slot (by decide)).trans ((w_up_slot (by decide)).trans ((w_up_slot (by decide)).trans ((ml_324 hM))))))))))) (by omega) (by omega) ⟨(by omega), (by omega)⟩ ?_
                refine wa_aload_n (n := 0) rfl ?_
                refine wa_dup (by decide) ?_
                refine wb_gfi 237 rfl (wy_pr rfl) wt_237 wf_15_68 (v := n) ((w_up_slot (by decide)).trans ((w_up_slot (by decide)).trans ((w_up_slot (by decide)).trans ((w_up_slot (by decide)).trans ((w_up_slot (by decide)).trans ((w_up_slot (by decide)).trans ((w_up_slot (by decide)).trans ((w_up_slot (by decide)).trans ((w_up_slot (by decide)).trans ((w_up_slot (by decide)).trans (hn))))))))))) (fun r19 => ?_)
                refine wa_iconst ?_
                refine wa_iadd ?_
                refine wb_pfi 237 rfl (wy_pr rfl) wt_237 wf_15_68 (n := 68) rfl ⟨(by omega), (by omega)⟩ ?_
                refine wa_aload_n (n := 0) rfl ?_
                refine wa_dup (by decide) ?_
                refine wb_gfi 237 rfl (wy_pr rfl) wt_237 wf_15_62 (v := u0) ((w_up_at (by decide)).trans ((w_up_slot (by decide)).trans ((w_up_slot (by decide)).trans ((w_up_slot (by decide)).trans ((w_up_slot (by decide)).trans ((w_up_slot (by decide)).trans ((w_up_slot (by decide)).trans ((w_up_slot (by decide)).trans ((w_up_slot (by decide)).trans ((w_up_slot (by decide)).trans ((w_up_slot (by decide)).trans (hu0)))))))))))) (fun r20 => ?_)
                refine wa_iconst ?_
                refine wa_iadd ?_
                refine wb_pfi 237 rfl (wy_pr rfl) wt_237 wf_15_62 (n := 62) rfl ⟨(by omega), (by omega)⟩ ?_
                refine wa_iload_n (n := 2) rfl ?_
                refine wa_ireturn rfl ?_
                show wJ _ _ _ _ _ _ _ _ _ _
                refine wa_istore (n := 5) rfl ?_
                refine wa_aload_n (n := 0) rfl ?_
                refine wb_gf4 237 rfl (wy_pr rfl) wt_237 wf_15_71 (v := 315) wl_237_71 ?_
                refine wa_iload (n := 5) rfl ?_
                refine wa_iload (n := 4) rfl ?_
                refine wb_iast 315 rfl (wy_pr rfl) wt_315 (n := 8000) ((w_up_slot (by decide)).trans ((w_up_slot (by decide)).trans ((w_up_slot (by decide)).trans ((w_up_slot (by decide)).trans ((w_up_slot (by decide)).trans ((w_up_slot (by decide)).trans ((w_up_slot (by decide)).trans ((w_up_slot (by decide)).trans ((w_up_slot (by decide)).trans ((w_up_slot (by decide)).trans ((w_up_at (by omega)).trans ((w_up_slot (by decide)).trans ((ml_315 hM)))))))))))))) (by omega) (by omega) ⟨(by omega), (by omega)⟩ ?_
                refine wa_aload_n (n := 0) rfl ?_
                refine wa_iload_n (n := 2) rfl ?_
                refine wa_iconst ?_
                refine wa_iload (n := 5) rfl ?_
                refine wa_i2l (w_rg0 (by omega) (by omega)) ?_
                refine wa_cv 237 rfl (wy_pr rfl) wt_237 (M2 := fun _ => False) rfl at_M_put ⟨_, rfl⟩ rfl rfl ⟨trivial, trivial, trivial, trivial, (Or.inr ⟨wy_pr rfl, fun q => q⟩), trivial, trivial⟩ trivial (fun _ _ q => False.elim q) ?_ (fun _ _ _ q => q)
                refine wa_aload_n (n := 0) rfl ?_
                refine wb_gf4 237 rfl (wy_pr rfl) wt_237 wf_15_138 (v := 363) wl_237_138 ?_
                refine wa_iload_n (n := 1) rfl ?_
                refine wa_iload_n (n := 2) rfl ?_
                refine wb_iast 363 rfl (wy_pr rfl) wt_363 (n := 4200) ((w_up_slot (by decide)).trans ((w_up_slot (by decide)).trans ((w_up_slot (by decide)).trans ((w_up_slot (by decide)).trans ((w_up_slot (by decide)).trans ((w_up_slot (by decide)).trans ((w_up_slot (by decide)).trans ((w_up_slot (by decide)).trans ((w_up_slot (by decide)).trans ((w_up_slot (by decide)).trans ((w_up_slot (by decide)).trans ((w_up_slot (by decide)).trans ((w_up_slot (by decide)).trans ((ml_363 hM))))))))))))))) (by omega) (by omega) ⟨(by omega), (by omega)⟩ ?_
                refine wa_aload_n (n := 0) rfl ?_
                refine wb_gf4 237 rfl (wy_pr rfl) wt_237 wf_15_139 (v := 364) wl_237_139 ?_
                refine wa_iload_n (n := 1) rfl ?_
                refine wa_lload_n (n := 3) rfl ?_
                refine wb_last 364 rfl (wy_pr rfl) wt_364 (n := 4200) ((w_up_slot (by decide)).trans ((w_up_slot (by decide)).trans ((w_up_slot (by decide)).trans ((w_up_slot (by decide)).trans ((w_up_slot (by decide)).trans ((w_up_slot (by decide)).trans ((w_up_slot (by decide)).trans ((w_up_slot (by decide)).trans ((w_up_slot (by decide)).trans ((w_up_slot (by decide)).trans ((w_up_slot (by decide)).trans ((w_up_slot (by decide)).trans ((w_up_slot (by decide)).trans ((w_up_slot (by decide)).trans ((ml_364 hM)))))))))))))))) (by omega) (by omega) ⟨(by omega), (by omega)⟩ ?_
                refine wa_return rfl ?_
                show wJ _ _ _ _ _ _ _ _ _ _
                refine wa_goto ⟨_, rfl⟩ ?_
                refine wa_return rfl ?_
                show wJ _ _ _ _ _ _ _ _ _ _
                refine wa_goto ⟨_, rfl⟩ ?_
                refine wa_return rfl ?_
                exact Or.inr ⟨by omega, rfl, rfl⟩
      · skip
        exact absurd c12 (by omega)
  · skip
    exact absurd c8 (by omega)
theorem msZ_l {be pr nm m u4 : Int} {j : Nat} (hm : 0 ≤ m) (hp : 0 ≤ pr) : msZ be pr nm m u4 S j (-1) = S j (-1) := by
  by_cases c : 0 ≤ pr ∧ S 322 pr = 0
  · rw [msZ_b c]
    exact (w_up_no (by omega)).trans ((w_up_no (by omega)).trans (mz_e j (-1) (by omega) (by omega)))
  · rw [msZ_n c]
    exact mz_e j (-1) (by omega) (by omega)
theorem msZ_e {be pr nm m u4 : Int} (j : Nat) (x : Int) (h1 : j ≠ 237 ∨ (x ≠ 87 ∧ x ≠ 66)) (h2 : (j < 329 ∨ 332 < j) ∧ j ≠ 322 ∧ j ≠ 323) : msZ be pr nm m u4 S j x = S j x := by
  by_cases c : 0 ≤ pr ∧ S 322 pr = 0
  · rw [msZ_b c]
    exact (w_up_no (by omega)).trans ((w_up_no (by omega)).trans (mz_e j x h1 (Or.inl h2.1)))
  · rw [msZ_n c]
    exact mz_e j x h1 (Or.inl h2.1)
theorem yb1o {t c p h tp ky q r n u0 u4 : Int} (hP : mP t c p h tp S) (hn : S 237 68 = n) (hn1 : 0 ≤ n ∧ n ≤ u0) (hu0 : S 237 62 = u0) (hu1 : 0 ≤ u0 ∧ u0 ≤ 8000) (hky : S 363 (2100 * t + h - 1) = ky) (hvy : S 364 (2100 * t + h - 1) = q) (hh1 : 1 ≤ h) (hk45 : ky = 4 ∨ ky = 5) (h1 : rHs S H) (hw : wHs H (T.length : Int)) (hq : 0 ≤ q ∧ q < 8000) (hr : r = aFs (-1) q (-1) H 0) (hu4 : S 237 66 = u4) (hu5 : 0 ≤ u4 ∧ u4 ≤ 4000 ∧ (H.length : Int) ≤ u4 + 1) : wJ (pe_GA xs) wY0 M (d + 11) t_M_others ((pe_at t_M_others.bl 0).getD (0, [])).2 [(0, (2, 237)), (1, (0, 28)), (2, (0, 1))] [] S (fun o Z => ((8000 ≤ u0 ∨ (r = -1 ∧ 4000 ≤ u4)) ∧ o = .inr 238 ∧ hZ 99 S = Z) ∨ (u0 < 8000 ∧ 0 ≤ r ∧ o = .inl none ∧ (w_up (w_up (w_up (ntZ 4 n u0 S) 315 n r) 363 (2100 * t + h - 1) 4) 364 (2100 * t + h - 1) n) = Z) ∨ (u0 < 8000 ∧ r = -1 ∧ u4 < 4000 ∧ o = .inl none ∧ (w_up (w_up (w_up (ntZ 4 n u0 (msZ (-1) q (-1) (H.length : Int) u4 S)) 315 n (H.length : Int)) 363 (2100 * t + h - 1) 4) 364 (2100 * t + h - 1) n) = Z)) := by
  obtain ⟨hM, ⟨mt, mt0, mt1⟩, mp, mf, ⟨mc, mc0, mc1⟩, ⟨mtp, mtq⟩, ⟨mpa, mp0, mp1⟩, mh, mh0, mh1⟩ := id hP
  have hky2 : S 363 (2100 * t + (h - 1)) = ky := by rw [show 2100 * t + (h - 1) = 2100 * t + h - 1 by omega]; exact hky
  have hvy2 : S 364 (2100 * t + (h - 1)) = q := by rw [show 2100 * t + (h - 1) = 2100 * t + h - 1 by omega]; exact hvy
  have hH := hw.2.1
  have h0 := wHs_0 hw
  have hrg := aFs_rg (be := -1) (pr := q) (nm := -1) (H := H)
  rw [← hr] at hrg
  refine wa_aload_n (n := 0) rfl ?_
  refine wa_cv 237 rfl (wy_pr rfl) wt_237 (M2 := fun _ => False) rfl at_M_h ⟨_, rfl⟩ rfl rfl ⟨(Or.inr ⟨wy_pr rfl, fun q => q⟩), trivial, trivial, trivial⟩ trivial (fun _ _ q => False.elim q) ?_ (fun _ _ _ q => q)
  refine wa_aload_n (n := 0) rfl ?_
  refine wb_gfi 237 rfl (wy_pr rfl) wt_237 wf_15_152 (v := (2100 * t)) (mp) (fun r1 => ?_)
  refine wa_aload_n (n := 0) rfl ?_
  refine wb_gf4 237 rfl (wy_pr rfl) wt_237 wf_15_134 (v := 359) wl_237_134 ?_
  refine wa_aload_n (n := 0) rfl ?_
  refine wb_gfi 237 rfl (wy_pr rfl) wt_237 wf_15_151 (v := t) (mt) (fun r2 => ?_)
  refine wb_iald 359 rfl (wy_pr rfl) wt_359 (n := 2) ((ml_359 hM)) (by omega) (by omega) (v := h) (mh) (fun r3 => ?_)
  refine wa_iadd ?_
  refine wa_ireturn rfl ?_
  show wJ _ _ _ _ _ _ _ _ _ _
  refine wa_iconst ?_
  refine wa_isub ?_
  refine wa_istore_n (n := 3) rfl ?_
  refine wa_iload_n (n := 1) rfl ?_
  refine wb_sw (w_rg0 (by omega) (by omega)) (tb := 12) rfl ⟨_, rfl⟩ ?_
  refine wa_aload_n (n := 0) rfl ?_
  refine wa_iload_n (n := 2) rfl ?_
  refine wa_cv 237 rfl (wy_pr rfl) wt_237 (M2 := fun _ => False) rfl at_M_builtins ⟨_, rfl⟩ rfl rfl ⟨trivial, (Or.inr ⟨wy_pr rfl, fun q => q⟩), trivial, trivial, trivial⟩ trivial (fun _ _ q => False.elim q) ?_ (fun _ _ _ q => q)
  refine wa_aload_n (n := 0) rfl ?_
  refine wa_cv 237 rfl (wy_pr rfl) wt_237 (M2 := fun _ => False) rfl at_M_h ⟨_, rfl⟩ rfl rfl ⟨(Or.inr ⟨wy_pr rfl, fun q => q⟩), trivial, trivial⟩ trivial (fun _ _ q => False.elim q) ?_ (fun _ _ _ q => q)
  refine wa_aload_n (n := 0) rfl ?_
  refine wb_gfi 237 rfl (wy_pr rfl) wt_237 wf_15_152 (v := (2100 * t)) (mp) (fun r4 => ?_)
  refine wa_aload_n (n := 0) rfl ?_
  refine wb_gf4 237 rfl (wy_pr rfl) wt_237 wf_15_134 (v := 359) wl_237_134 ?_
  refine wa_aload_n (n := 0) rfl ?_
  refine wb_gfi 237 rfl (wy_pr rfl) wt_237 wf_15_151 (v := t) (mt) (fun r5 => ?_)
  refine wb_iald 359 rfl (wy_pr rfl) wt_359 (n := 2) ((ml_359 hM)) (by omega) (by omega) (v := h) (mh) (fun r6 => ?_)
  refine wa_iadd ?_
  refine wa_ireturn rfl ?_
  show wJ _ _ _ _ _ _ _ _ _ _
  refine wa_iconst ?_
  refine wa_isub ?_
  refine wa_istore_n (n := 2) rfl ?_
  refine wa_iload_n (n := 2) rfl ?_
  refine wa_iconst ?_
  refine wa_isub ?_
  refine wa_istore_n (n := 3) rfl ?_
  refine wa_iload_n (n := 1) rfl ?_
  refine wb_sw (w_rg0 (by omega) (by omega)) (tb := 2) rfl ⟨_, rfl⟩ ?_
  refine wa_aload_n (n := 0) rfl ?_
  refine wb_gf4 237 rfl (wy_pr rfl) wt_237 wf_15_138 (v := 363) wl_237_138 ?_
  refine wa_iload_n (n := 2) rfl ?_
  refine wb_iald 363 rfl (wy_pr rfl) wt_363 (n := 4200) ((ml_363 hM)) (by omega) (by omega) (v := ky) (hky) (fun r7 => ?_)
  refine wa_ifeq (w_rg0 (by omega) (by omega)) ⟨_, rfl⟩ (fun c8 => ?_) (fun c8 => ?_)
  · skip
    exact absurd c8 (by omega)
  · skip
    refine wa_aload_n (n := 0) rfl ?_
    refine wa_aload_n (n := 0) rfl ?_
    refine wb_gf4 237 rfl (wy_pr rfl) wt_237 wf_15_138 (v := 363) wl_237_138 ?_
    refine wa_iload_n (n := 2) rfl ?_
    refine wb_iald 363 rfl (wy_pr rfl) wt_363 (n := 4200) ((ml_363 hM)) (by omega) (by omega) (v := ky) (hky) (fun r9 => ?_)
    refine wa_cv 237 rfl (wy_pr rfl) wt_237 (M2 := fun _ => False) rfl at_M_hasShape ⟨_, rfl⟩ rfl rfl ⟨trivial, trivial, (Or.inr ⟨wy_pr rfl, fun q => q⟩), trivial, trivial⟩ trivial (fun _ _ q => False.elim q) ?_ (fun _ _ _ q => q)
    refine wa_iload_n (n := 1) rfl ?_
    refine wa_iconst ?_
    refine wa_icmpeq (w_rg0 (by omega) (by omega)) (w_rg0 (by omega) (by omega)) ⟨_, rfl⟩ (fun c10 => ?_) (fun c10 => ?_)
    · skip
      refine wa_iconst ?_
      refine wa_goto ⟨_, rfl⟩ ?_
      refine wa_zreturn rfl (Or.inr rfl) ?_
      show wJ _ _ _ _ _ _ _ _ _ _
      refine wa_ifne (w_rg0 (by omega) (by omega)) ⟨_, rfl⟩ (fun c11 => ?_) (fun c11 => ?_)
      · skip
        refine wa_aload_n (n := 0) rfl ?_
        refine wa_aload_n (n := 0) rfl ?_
        refine wa_iconst ?_
        refine wa_cv 237 rfl (wy_pr rfl) wt_237 (M2 := fun _ => False) rfl at_M_hasRoomFor ⟨_, rfl⟩ rfl rfl ⟨trivial, trivial, (Or.inr ⟨wy_pr rfl, fun q => q⟩), trivial, trivial⟩ ⟨(Or.inr ⟨wy_pr rfl, fun q => q⟩), trivial⟩ (fun _ _ q => False.elim q) ?_ (fun _ _ _ q => q)
        refine wa_aload_n (n := 0) rfl ?_
        refine wb_gfi 237 rfl (wy_pr rfl) wt_237 wf_15_62 (v := u0) (hu0) (fun r12 => ?_)
        refine wa_iload_n (n := 1) rfl ?_
        refine wa_iadd ?_
        refine wa_sipush (by omega) ?_
        refine wa_icmpgt (w_rg0 (by omega) (by omega)) (w_rg0 (by omega) (by omega)) ⟨_, rfl⟩ (fun c13 => ?_) (fun c13 => ?_)
        · skip
          refine wa_iconst ?_
          refine wa_fall ⟨_, rfl⟩ ?_
          refine wa_zreturn rfl (Or.inl rfl) ?_
          show wJ _ _ _ _ _ _ _ _ _ _
          refine wa_cv 237 rfl (wy_pr rfl) wt_237 (M2 := fun _ => False) rfl at_M_room ⟨_, rfl⟩ rfl rfl ⟨trivial, trivial, (Or.inr ⟨wy_pr rfl, fun q => q⟩), trivial, trivial⟩ trivial (fun _ _ q => False.elim q) ?_ (fun _ _ _ q => q)
          refine wa_iload_n (n := 1) rfl ?_
          refine wa_ifne (w_rg0 (by omega) (by omega)) ⟨_, rfl⟩ (fun c14 => ?_) (fun c14 => ?_)
          · skip
            exact absurd c14 (by omega)
          · skip
            refine wa_aload_n (n := 0) rfl ?_
            refine wb_gf4 237 rfl (wy_pr rfl) wt_237 wf_15_1 (v := 238) wl_237_1 ?_
            refine wa_bipush (w_rg2 (by omega) (by omega)) ?_
            refine wa_iconst ?_
            refine wa_cv 238 rfl (wy_pr rfl) wt_238 (M2 := fun _ => False) rfl at_MH_of ⟨_, rfl⟩ rfl rfl ⟨(Or.inr ⟨wy_pr rfl, fun q => q⟩), trivial, trivial⟩ trivial (fun _ _ q => False.elim q) ?_ (fun _ _ _ q => q)
            refine wa_aload_n (n := 0) rfl ?_
            refine wa_iload_n (n := 1) rfl ?_
            refine wb_pfi 238 rfl (wy_pr rfl) wt_238 wf_11_5 (n := 5) rfl ⟨(by omega), (by omega)⟩ ?_
            refine wa_aload_n (n := 0) rfl ?_
            refine wa_iload_n (n := 2) rfl ?_
            refine wb_pfi 238 rfl (wy_pr rfl) wt_238 wf_11_6 (n := 6) rfl ⟨(by omega), (by omega)⟩ ?_
            refine wa_aload_n (n := 0) rfl ?_
            refine wa_oreturn rfl ?_
            show wJ _ _ _ _ _ _ _ _ _ _
            refine wa_th (j := 238) ?_
            refine ⟨rfl, ?_⟩
            refine ⟨rfl, ?_⟩
            exact Or.inl ⟨Or.inl (by omega), rfl, rfl⟩
        · skip
          refine wa_iconst ?_
          refine wa_goto ⟨_, rfl⟩ ?_
          refine wa_zreturn rfl (Or.inr rfl) ?_
          show wJ _ _ _ _ _ _ _ _ _ _
          refine wa_cv 237 rfl (wy_pr rfl) wt_237 (M2 := fun _ => False) rfl at_M_room ⟨_, rfl⟩ rfl rfl ⟨trivial, trivial, (Or.inr ⟨wy_pr rfl, fun q => q⟩), trivial, trivial⟩ trivial (fun _ _ q => False.elim q) ?_ (fun _ _ _ q => q)
          refine wa_iload_n (n := 1) rfl ?_
          refine wa_ifne (w_rg0 (by omega) (by omega)) ⟨_, rfl⟩ (fun c15 => ?_) (fun c15 => ?_)
          · skip
            refine wa_return rfl ?_
            show wJ _ _ _ _ _ _ _ _ _ _
            refine wa_aload_n (n := 0) rfl ?_
            refine wa_iconst ?_
            refine wa_aload_n (n := 0) rfl ?_
            refine wb_gf4 237 rfl (wy_pr rfl) wt_237 wf_15_138 (v := 363) wl_237_138 ?_
            refine wa_iload_n (n := 2) rfl ?_
            refine wb_iald 363 rfl (wy_pr rfl) wt_363 (n := 4200) ((ml_363 hM)) (by omega) (by omega) (v := ky) (hky) (fun r16 => ?_)
            refine wa_ifne (w_rg0 (by omega) (by omega)) ⟨_, rfl⟩ (fun c17 => ?_) (fun c17 => ?_)
            · skip
              refine wa_aload_n (n := 0) rfl ?_
              refine wb_gf4 237 rfl (wy_pr rfl) wt_237 wf_15_139 (v := 364) wl_237_139 ?_
              refine wa_iload_n (n := 2) rfl ?_
              refine wb_lald 364 rfl (wy_pr rfl) wt_364 (n := 4200) ((ml_364 hM)) (by omega) (by omega) (v := q) (hvy) (fun r18 => ?_)
              refine wb_l2i_r (wb_l2i_id ⟨(by omega), (by omega)⟩) ?_
              refine wa_fall ⟨_, rfl⟩ ?_
              refine wa_iconst ?_
              refine wa_cv 237 rfl (wy_pr rfl) wt_237 (M2 := fun _ => False) rfl at_M_madeShape ⟨_, rfl⟩ rfl rfl ⟨trivial, trivial, (Or.inr ⟨wy_pr rfl, fun q => q⟩), trivial, trivial⟩ trivial (fun _ _ q => False.elim q) (r_ms (be := -1) (pr := q) (nm := -1) hM h1 hw (fun _ => rfl) ⟨by omega, by omega⟩ ⟨by omega, hq.2⟩ (by decide) hr hu4 hu5) (fun oq19 Sq19 hp20 q19 => ?_)
              rcases q19 with ⟨hm0, rfl, rfl⟩ | ⟨hm0, hm1, rfl, hm2⟩ | ⟨hm0, hm1, rfl, rfl⟩
              · skip
                show wJ _ _ _ _ _ _ _ _ _ _
                refine wa_istore (n := 4) rfl ?_
                refine wa_aload_n (n := 0) rfl ?_
                refine wa_iconst ?_
                refine wa_cv 237 rfl (wy_pr rfl) wt_237 (M2 := fun _ => False) rfl at_M_newThing ⟨_, rfl⟩ rfl rfl ⟨trivial, trivial, trivial, (Or.inr ⟨wy_pr rfl, fun q => q⟩), trivial, trivial⟩ trivial (fun _ _ q => False.elim q) ?_ (fun _ _ _ q => q)
                refine wa_aload_n (n := 0) rfl ?_
                refine wb_gfi 237 rfl (wy_pr rfl) wt_237 wf_15_68 (v := n) (hn) (fun r21 => ?_)
                refine wa_istore_n (n := 2) rfl ?_
                refine wa_aload_n (n := 0) rfl ?_
                refine wb_gf4 237 rfl (wy_pr rfl) wt_237 wf_15_70 (v := 314) wl_237_70 ?_
                refine wa_iload_n (n := 2) rfl ?_
                refine wa_iload_n (n := 1) rfl ?_
                refine wb_iast 314 rfl (wy_pr rfl) wt_314 (n := 8000) ((ml_314 hM)) (by omega) (by omega) ⟨(by omega), (by omega)⟩ ?_
                refine wa_aload_n (n := 0) rfl ?_
                refine wb_gf4 237 rfl (wy_pr rfl) wt_237 wf_15_71 (v := 315) wl_237_71 ?_
                refine wa_iload_n (n := 2) rfl ?_
                refine wa_iconst ?_
                refine wb_iast 315 rfl (wy_pr rfl) wt_315 (n := 8000) ((w_up_slot (by decide)).trans ((ml_315 hM))) (by omega) (by omega) ⟨(by omega), (by omega)⟩ ?_
                refine wa_aload_n (n := 0) rfl ?_
                refine wb_gf4 237 rfl (wy_pr rfl) wt_237 wf_15_72 (v := 316) wl_237_72 ?_
                refine wa_iload_n (n := 2) rfl ?_
                refine wa_iconst ?_
                refine wb_iast 316 rfl (wy_pr rfl) wt_316 (n := 8000) ((w_up_slot (by decide)).trans ((w_up_slot (by decide)).trans ((ml_316 hM)))) (by omega) (by omega) ⟨(by omega), (by omega)⟩ ?_
                refine wa_aload_n (n := 0) rfl ?_
                refine wb_gf4 237 rfl (wy_pr rfl) wt_237 wf_15_73 (v := 317) wl_237_73 ?_
                refine wa_iload_n (n := 2) rfl ?_
                refine wa_iconst ?_
                refine wb_iast 317 rfl (wy_pr rfl) wt_317 (n := 8000) ((w_up_slot (by decide)).trans ((w_up_slot (by decide)).trans ((w_up_slot (by decide)).trans ((ml_317 hM))))) (by omega) (by omega) ⟨(by omega), (by omega)⟩ ?_
                refine wa_aload_n (n := 0) rfl ?_
                refine wb_gf4 237 rfl (wy_pr rfl) wt_237 wf_15_75 (v := 319) wl_237_75 ?_
                refine wa_iload_n (n := 2) rfl ?_
                refine wa_iconst ?_
                refine wb_iast 319 rfl (wy_pr rfl) wt_319 (n := 8000) ((w_up_slot (by decide)).trans ((w_up_slot (by decide)).trans ((w_up_slot (by decide)).trans ((w_up_slot (by decide)).trans ((ml_319 hM)))))) (by omega) (by omega) ⟨(by omega), (by omega)⟩ ?_
                refine wa_aload_n (n := 0) rfl ?_
                refine wb_gf4 237 rfl (wy_pr rfl) wt_237 wf_15_76 (v := 320) wl_237_76 ?_
                refine wa_iload_n (n := 2) rfl ?_
                refine wa_iconst ?_
                refine wb_iast 320 rfl (wy_pr rfl) wt_320 (n := 8000) ((w_up_slot (by decide)).trans ((w_up_slot (by decide)).trans ((w_up_slot (by decide)).trans ((w_up_slot (by decide)).trans ((w_up_slot (by decide)).trans ((ml_320 hM))))))) (by omega) (by omega) ⟨(by omega), (by omega)⟩ ?_
                refine wa_aload_n (n := 0) rfl ?_
                refine wb_gf4 237 rfl (wy_pr rfl) wt_237 wf_15_77 (v := 321) wl_237_77 ?_
                refine wa_iload_n (n := 2) rfl ?_
                refine wa_iconst ?_
                refine wb_iast 321 rfl (wy_pr rfl) wt_321 (n := 8000) ((w_up_slot (by decide)).trans ((w_up_slot (by decide)).trans ((w_up_slot (by decide)).trans ((w_up_slot (by decide)).trans ((w_up_slot (by decide)).trans ((w_up_slot (by decide)).trans ((ml_321 hM)))))))) (by omega) (by omega) ⟨(by omega), (by omega)⟩ ?_
                refine wa_aload_n (n := 0) rfl ?_
                refine wb_gf4 237 rfl (wy_pr rfl) wt_237 wf_15_78 (v := 322) wl_237_78 ?_
                refine wa_iload_n (n := 2) rfl ?_
                refine wa_iconst ?_
                refine wb_zast 322 rfl (wy_pr rfl) wt_322 (n := 8000) ((w_up_slot (by decide)).trans ((w_up_slot (by decide)).trans ((w_up_slot (by decide)).trans ((w_up_slot (by decide)).trans ((w_up_slot (by decide)).trans ((w_up_slot (by decide)).trans ((w_up_slot (by decide)).trans ((ml_322 hM))))))))) (by omega) (by omega) ⟨(by omega), (by omega)⟩ ?_
                refine wa_aload_n (n := 0) rfl ?_
                refine wb_gf4 237 rfl (wy_pr rfl) wt_237 wf_15_79 (v := 323) wl_237_79 ?_
                refine wa_iload_n (n := 2) rfl ?_
                refine wa_iconst ?_
                refine wb_iast 323 rfl (wy_pr rfl) wt_323 (n := 8000) ((w_up_slot (by decide)).trans ((w_up_slot (by decide)).trans ((w_up_slot (by decide)).trans ((w_up_slot (by decide)).trans ((w_up_slot (by decide)).trans ((w_up_slot (by decide)).trans ((w_up_slot (by decide)).trans ((w_up_slot (by decide)).trans ((ml_323 hM)))))))))) (by omega) (by omega) ⟨(by omega), (by omega)⟩ ?_
                refine wa_aload_n (n := 0) rfl ?_
                refine wb_gf4 237 rfl (wy_pr rfl) wt_237 wf_15_80 (v := 324) wl_237_80 ?_
                refine wa_iload_n (n := 2) rfl ?_
                refine wa_iconst ?_
                refine wb_iast 324 rfl (wy_pr rfl) wt_324 (n := 8000) ((w_up_slot (by decide)).trans ((w_up_slot (by decide)).trans ((w_up_slot (by decide)).trans ((w_up_slot (by decide)).trans ((w_up_slot (by decide)).trans ((w_up_slot (by decide)).trans ((w_up_slot (by decide)).trans ((w_up_slot (by decide)).trans ((w_up_slot (by decide)).trans ((ml_324 hM))))))))))) (by omega) (by omega) ⟨(by omega), (by omega)⟩ ?_
                refine wa_aload_n (n := 0) rfl ?_
                refine wa_dup (by decide) ?_
                refine wb_gfi 237 rfl (wy_pr rfl) wt_237 wf_15_68 (v := n) ((w_up_slot (by decide)).trans ((w_up_slot (by decide)).trans ((w_up_slot (by decide)).trans ((w_up_slot (by decide)).trans ((w_up_slot (by decide)).trans ((w_up_slot (by decide)).trans ((w_up_slot (by decide)).trans ((w_up_slot (by decide)).trans ((w_up_slot (by decide)).trans ((w_up_slot (by decide)).trans (hn))))))))))) (fun r22 => ?_)
                refine wa_iconst ?_
                refine wa_iadd ?_
                refine wb_pfi 237 rfl (wy_pr rfl) wt_237 wf_15_68 (n := 68) rfl ⟨(by omega), (by omega)⟩ ?_
                refine wa_aload_n (n := 0) rfl ?_
                refine wa_dup (by decide) ?_
                refine wb_gfi 237 rfl (wy_pr rfl) wt_237 wf_15_62 (v := u0) ((w_up_at (by decide)).trans ((w_up_slot (by decide)).trans ((w_up_slot (by decide)).trans ((w_up_slot (by decide)).trans ((w_up_slot (by decide)).trans ((w_up_slot (by decide)).trans ((w_up_slot (by decide)).trans ((w_up_slot (by decide)).trans ((w_up_slot (by decide)).trans ((w_up_slot (by decide)).trans ((w_up_slot (by decide)).trans (hu0)))))))))))) (fun r23 => ?_)
                refine wa_iconst ?_
                refine wa_iadd ?_
                refine wb_pfi 237 rfl (wy_pr rfl) wt_237 wf_15_62 (n := 62) rfl ⟨(by omega), (by omega)⟩ ?_
                refine wa_iload_n (n := 2) rfl ?_
                refine wa_ireturn rfl ?_
                show wJ _ _ _ _ _ _ _ _ _ _
                refine wa_istore (n := 5) rfl ?_
                refine wa_aload_n (n := 0) rfl ?_
                refine wb_gf4 237 rfl (wy_pr rfl) wt_237 wf_15_71 (v := 315) wl_237_71 ?_
                refine wa_iload (n := 5) rfl ?_
                refine wa_iload (n := 4) rfl ?_
                refine wb_iast 315 rfl (wy_pr rfl) wt_315 (n := 8000) ((w_up_slot (by decide)).trans ((w_up_slot (by decide)).trans ((w_up_slot (by decide)).trans ((w_up_slot (by decide)).trans ((w_up_slot (by decide)).trans ((w_up_slot (by decide)).trans ((w_up_slot (by decide)).trans ((w_up_slot (by decide)).trans ((w_up_slot (by decide)).trans ((w_up_slot (by decide)).trans ((w_up_at (by omega)).trans ((w_up_slot (by decide)).trans ((ml_315 hM)))))))))))))) (by omega) (by omega) ⟨(by omega), (by omega)⟩ ?_
                refine wa_aload_n (n := 0) rfl ?_
                refine wa_iload_n (n := 2) rfl ?_
                refine wa_iconst ?_
                refine wa_iload (n := 5) rfl ?_
                refine wa_i2l (w_rg0 (by omega) (by omega)) ?_
                refine wa_cv 237 rfl (wy_pr rfl) wt_237 (M2 := fun _ => False) rfl at_M_put ⟨_, rfl⟩ rfl rfl ⟨trivial, trivial, trivial, trivial, (Or.inr ⟨wy_pr rfl, fun q => q⟩), trivial, trivial⟩ trivial (fun _ _ q => False.elim q) ?_ (fun _ _ _ q => q)
                refine wa_aload_n (n := 0) rfl ?_
                refine wb_gf4 237 rfl (wy_pr rfl) wt_237 wf_15_138 (v := 363) wl_237_138 ?_
                refine wa_iload_n (n := 1) rfl ?_
                refine wa_iload_n (n := 2) rfl ?_
                refine wb_iast 363 rfl (wy_pr rfl) wt_363 (n := 4200) ((w_up_slot (by decide)).trans ((w_up_slot (by decide)).trans ((w_up_slot (by decide)).trans ((w_up_slot (by decide)).trans ((w_up_slot (by decide)).trans ((w_up_slot (by decide)).trans ((w_up_slot (by decide)).trans ((w_up_slot (by decide)).trans ((w_up_slot (by decide)).trans ((w_up_slot (by decide)).trans ((w_up_slot (by decide)).trans ((w_up_slot (by decide)).trans ((w_up_slot (by decide)).trans ((ml_363 hM))))))))))))))) (by omega) (by omega) ⟨(by omega), (by omega)⟩ ?_
                refine wa_aload_n (n := 0) rfl ?_
                refine wb_gf4 237 rfl (wy_pr rfl) wt_237 wf_15_139 (v := 364) wl_237_139 ?_
                refine wa_iload_n (n := 1) rfl ?_
                refine wa_lload_n (n := 3) rfl ?_
                refine wb_last 364 rfl (wy_pr rfl) wt_364 (n := 4200) ((w_up_slot (by decide)).trans ((w_up_slot (by decide)).trans ((w_up_slot (by decide)).trans ((w_up_slot (by decide)).trans ((w_up_slot (by decide)).trans ((w_up_slot (by decide)).trans ((w_up_slot (by decide)).trans ((w_up_slot (by decide)).trans ((w_up_slot (by decide)).trans ((w_up_slot (by decide)).trans ((w_up_slot (by decide)).trans ((w_up_slot (by decide)).trans ((w_up_slot (by decide)).trans ((w_up_slot (by decide)).trans ((ml_364 hM)))))))))))))))) (by omega) (by omega) ⟨(by omega), (by omega)⟩ ?_
                refine wa_return rfl ?_
                show wJ _ _ _ _ _ _ _ _ _ _
                refine wa_goto ⟨_, rfl⟩ ?_
                refine wa_return rfl ?_
                show wJ _ _ _ _ _ _ _ _ _ _
                refine wa_goto ⟨_, rfl⟩ ?_
                refine wa_return rfl ?_
                exact Or.inr (Or.inl ⟨by omega, hm0, rfl, rfl⟩)
              · skip
                refine ⟨rfl, ?_⟩
                refine ⟨rfl, ?_⟩
                exact Or.inl ⟨Or.inr ⟨hm0, hm1⟩, rfl, hm2⟩
              · skip
                show wJ _ _ _ _ _ _ _ _ _ _
                refine wa_istore (n := 4) rfl ?_
                refine wa_aload_n (n := 0) rfl ?_
                refine wa_iconst ?_
                refine wa_cv 237 rfl (wy_pr rfl) wt_237 (M2 := fun _ => False) rfl at_M_newThing ⟨_, rfl⟩ rfl rfl ⟨trivial, trivial, trivial, (Or.inr ⟨wy_pr rfl, fun q => q⟩), trivial, trivial⟩ trivial (fun _ _ q => False.elim q) ?_ (fun _ _ _ q => q)
                refine wa_aload_n (n := 0) rfl ?_
                refine wb_gfi 237 rfl (wy_pr rfl) wt_237 wf_15_68 (v := n) (((msZ_e 237 68 (by decide) (by decide)).trans (hn))) (fun r24 => ?_)
                refine wa_istore_n (n := 2) rfl ?_
                refine wa_aload_n (n := 0) rfl ?_
                refine wb_gf4 237 rfl (wy_pr rfl) wt_237 wf_15_70 (v := 314) wl_237_70 ?_
                refine wa_iload_n (n := 2) rfl ?_
                refine wa_iload_n (n := 1) rfl ?_
                refine wb_iast 314 rfl (wy_pr rfl) wt_314 (n := 8000) (((msZ_e 314 (-1) (by decide) (by decide)).trans ((ml_314 hM)))) (by omega) (by omega) ⟨(by omega), (by omega)⟩ ?_
                refine wa_aload_n (n := 0) rfl ?_
                refine wb_gf4 237 rfl (wy_pr rfl) wt_237 wf_15_71 (v := 315) wl_237_71 ?_
                refine wa_iload_n (n := 2) rfl ?_
                refine wa_iconst ?_
                refine wb_iast 315 rfl (wy_pr rfl) wt_315 (n := 8000) ((w_up_slot (by decide)).trans (((msZ_e 315 (-1) (by decide) (by decide)).trans ((ml_315 hM))))) (by omega) (by omega) ⟨(by omega), (by omega)⟩ ?_
                refine wa_aload_n (n := 0) rfl ?_
                refine wb_gf4 237 rfl (wy_pr rfl) wt_237 wf_15_72 (v := 316) wl_237_72 ?_
                refine wa_iload_n (n := 2) rfl ?_
                refine wa_iconst ?_
                refine wb_iast 316 rfl (wy_pr rfl) wt_316 (n := 8000) ((w_up_slot (by decide)).trans ((w_up_slot (by decide)).trans (((msZ_e 316 (-1) (by decide) (by decide)).trans ((ml_316 hM)))))) (by omega) (by omega) ⟨(by omega), (by omega)⟩ ?_
                refine wa_aload_n (n := 0) rfl ?_
                refine wb_gf4 237 rfl (wy_pr rfl) wt_237 wf_15_73 (v := 317) wl_237_73 ?_
                refine wa_iload_n (n := 2) rfl ?_
                refine wa_iconst ?_
                refine wb_iast 317 rfl (wy_pr rfl) wt_317 (n := 8000) ((w_up_slot (by decide)).trans ((w_up_slot (by decide)).trans ((w_up_slot (by decide)).trans (((msZ_e 317 (-1) (by decide) (by decide)).trans ((ml_317 hM))))))) (by omega) (by omega) ⟨(by omega), (by omega)⟩ ?_
                refine wa_aload_n (n := 0) rfl ?_
                refine wb_gf4 237 rfl (wy_pr rfl) wt_237 wf_15_75 (v := 319) wl_237_75 ?_
                refine wa_iload_n (n := 2) rfl ?_
                refine wa_iconst ?_
                refine wb_iast 319 rfl (wy_pr rfl) wt_319 (n := 8000) ((w_up_slot (by decide)).trans ((w_up_slot (by decide)).trans ((w_up_slot (by decide)).trans ((w_up_slot (by decide)).trans (((msZ_e 319 (-1) (by decide) (by decide)).trans ((ml_319 hM)))))))) (by omega) (by omega) ⟨(by omega), (by omega)⟩ ?_
                refine wa_aload_n (n := 0) rfl ?_
                refine wb_gf4 237 rfl (wy_pr rfl) wt_237 wf_15_76 (v := 320) wl_237_76 ?_
                refine wa_iload_n (n := 2) rfl ?_
                refine wa_iconst ?_
                refine wb_iast 320 rfl (wy_pr rfl) wt_320 (n := 8000) ((w_up_slot (by decide)).trans ((w_up_slot (by decide)).trans ((w_up_slot (by decide)).trans ((w_up_slot (by decide)).trans ((w_up_slot (by decide)).trans (((msZ_e 320 (-1) (by decide) (by decide)).trans ((ml_320 hM))))))))) (by omega) (by omega) ⟨(by omega), (by omega)⟩ ?_
                refine wa_aload_n (n := 0) rfl ?_
                refine wb_gf4 237 rfl (wy_pr rfl) wt_237 wf_15_77 (v := 321) wl_237_77 ?_
                refine wa_iload_n (n := 2) rfl ?_
                refine wa_iconst ?_
                refine wb_iast 321 rfl (wy_pr rfl) wt_321 (n := 8000) ((w_up_slot (by decide)).trans ((w_up_slot (by decide)).trans ((w_up_slot (by decide)).trans ((w_up_slot (by decide)).trans ((w_up_slot (by decide)).trans ((w_up_slot (by decide)).trans (((msZ_e 321 (-1) (by decide) (by decide)).trans ((ml_321 hM)))))))))) (by omega) (by omega) ⟨(by omega), (by omega)⟩ ?_
                refine wa_aload_n (n := 0) rfl ?_
                refine wb_gf4 237 rfl (wy_pr rfl) wt_237 wf_15_78 (v := 322) wl_237_78 ?_
                refine wa_iload_n (n := 2) rfl ?_
                refine wa_iconst ?_
                refine wb_zast 322 rfl (wy_pr rfl) wt_322 (n := 8000) ((w_up_slot (by decide)).trans ((w_up_slot (by decide)).trans ((w_up_slot (by decide)).trans ((w_up_slot (by decide)).trans ((w_up_slot (by decide)).trans ((w_up_slot (by decide)).trans ((w_up_slot (by decide)).trans (((msZ_l (j := 322) (by omega) (by omega)).trans ((ml_322 hM))))))))))) (by omega) (by omega) ⟨(by omega), (by omega)⟩ ?_
                refine wa_aload_n (n := 0) rfl ?_
                refine wb_gf4 237 rfl (wy_pr rfl) wt_237 wf_15_79 (v := 323) wl_237_79 ?_
                refine wa_iload_n (n := 2) rfl ?_
                refine wa_iconst ?_
                refine wb_iast 323 rfl (wy_pr rfl) wt_323 (n := 8000) ((w_up_slot (by decide)).trans ((w_up_slot (by decide)).trans ((w_up_slot (by decide)).trans ((w_up_slot (by decide)).trans ((w_up_slot (by decide)).trans ((w_up_slot (by decide)).trans ((w_up_slot (by decide)).trans ((w_up_slot (by decide)).trans (((msZ_l (j := 323) (by omega) (by omega)).trans ((ml_323 hM)))))))))))) (by omega) (by omega) ⟨(by omega), (by omega)⟩ ?_
                refine wa_aload_n (n := 0) rfl ?_
                refine wb_gf4 237 rfl (wy_pr rfl) wt_237 wf_15_80 (v := 324) wl_237_80 ?_
                refine wa_iload_n (n := 2) rfl ?_
                refine wa_iconst ?_
                refine wb_iast 324 rfl (wy_pr rfl) wt_324 (n := 8000) ((w_up_slot (by decide)).trans ((w_up_slot (by decide)).trans ((w_up_slot (by decide)).trans ((w_up_slot (by decide)).trans ((w_up_slot (by decide)).trans ((w_up_slot (by decide)).trans ((w_up_slot (by decide)).trans ((w_up_slot (by decide)).trans ((w_up_slot (by decide)).trans (((msZ_e 324 (-1) (by decide) (by decide)).trans ((ml_324 hM))))))))))))) (by omega) (by omega) ⟨(by omega), (by omega)⟩ ?_
                refine wa_aload_n (n := 0) rfl ?_
                refine wa_dup (by decide) ?_
                refine wb_gfi 237 rfl (wy_pr rfl) wt_237 wf_15_68 (v := n) ((w_up_slot (by decide)).trans ((w_up_slot (by decide)).trans ((w_up_slot (by decide)).trans ((w_up_slot (by decide)).trans ((w_up_slot (by decide)).trans ((w_up_slot (by decide)).trans ((w_up_slot (by decide)).trans ((w_up_slot (by decide)).trans ((w_up_slot (by decide)).trans ((w_up_slot (by decide)).trans (((msZ_e 237 68 (by decide) (by decide)).trans (hn))))))))))))) (fun r25 => ?_)
                refine wa_iconst ?_
                refine wa_iadd ?_
                refine wb_pfi 237 rfl (wy_pr rfl) wt_237 wf_15_68 (n := 68) rfl ⟨(by omega), (by omega)⟩ ?_
                refine wa_aload_n (n := 0) rfl ?_
                refine wa_dup (by decide) ?_
                refine wb_gfi 237 rfl (wy_pr rfl) wt_237 wf_15_62 (v := u0) ((w_up_at (by decide)).trans ((w_up_slot (by decide)).trans ((w_up_slot (by decide)).trans ((w_up_slot (by decide)).trans ((w_up_slot (by decide)).trans ((w_up_slot (by decide)).trans ((w_up_slot (by decide)).trans ((w_up_slot (by decide)).trans ((w_up_slot (by decide)).trans ((w_up_slot (by decide)).trans ((w_up_slot (by decide)).trans (((msZ_e 237 62 (by decide) (by decide)).trans (hu0)))))))))))))) (fun r26 => ?_)
                refine wa_iconst ?_
                refine wa_iadd ?_
                refine wb_pfi 237 rfl (wy_pr rfl) wt_237 wf_15_62 (n := 62) rfl ⟨(by omega), (by omega)⟩ ?_
                refine wa_iload_n (n := 2) rfl ?_
                refine wa_ireturn rfl ?_
                show wJ _ _ _ _ _ _ _ _ _ _
                refine wa_istore (n := 5) rfl ?_
                refine wa_aload_n (n := 0) rfl ?_
                refine wb_gf4 237 rfl (wy_pr rfl) wt_237 wf_15_71 (v := 315) wl_237_71 ?_
                refine wa_iload (n := 5) rfl ?_
                refine wa_iload (n := 4) rfl ?_
                refine wb_iast 315 rfl (wy_pr rfl) wt_315 (n := 8000) ((w_up_slot (by decide)).trans ((w_up_slot (by decide)).trans ((w_up_slot (by decide)).trans ((w_up_slot (by decide)).trans ((w_up_slot (by decide)).trans ((w_up_slot (by decide)).trans ((w_up_slot (by decide)).trans ((w_up_slot (by decide)).trans ((w_up_slot (by decide)).trans ((w_up_slot (by decide)).trans ((w_up_at (by omega)).trans ((w_up_slot (by decide)).trans (((msZ_e 315 (-1) (by decide) (by decide)).trans ((ml_315 hM)))))))))))))))) (by omega) (by omega) ⟨(by omega), (by omega)⟩ ?_
                refine wa_aload_n (n := 0) rfl ?_
                refine wa_iload_n (n := 2) rfl ?_
                refine wa_iconst ?_
                refine wa_iload (n := 5) rfl ?_
                refine wa_i2l (w_rg0 (by omega) (by omega)) ?_
                refine wa_cv 237 rfl (wy_pr rfl) wt_237 (M2 := fun _ => False) rfl at_M_put ⟨_, rfl⟩ rfl rfl ⟨trivial, trivial, trivial, trivial, (Or.inr ⟨wy_pr rfl, fun q => q⟩), trivial, trivial⟩ trivial (fun _ _ q => False.elim q) ?_ (fun _ _ _ q => q)
                refine wa_aload_n (n := 0) rfl ?_
                refine wb_gf4 237 rfl (wy_pr rfl) wt_237 wf_15_138 (v := 363) wl_237_138 ?_
                refine wa_iload_n (n := 1) rfl ?_
                refine wa_iload_n (n := 2) rfl ?_
                refine wb_iast 363 rfl (wy_pr rfl) wt_363 (n := 4200) ((w_up_slot (by decide)).trans ((w_up_slot (by decide)).trans ((w_up_slot (by decide)).trans ((w_up_slot (by decide)).trans ((w_up_slot (by decide)).trans ((w_up_slot (by decide)).trans ((w_up_slot (by decide)).trans ((w_up_slot (by decide)).trans ((w_up_slot (by decide)).trans ((w_up_slot (by decide)).trans ((w_up_slot (by decide)).trans ((w_up_slot (by decide)).trans ((w_up_slot (by decide)).trans (((msZ_e 363 (-1) (by decide) (by decide)).trans ((ml_363 hM))))))))))))))))) (by omega) (by omega) ⟨(by omega), (by omega)⟩ ?_
                refine wa_aload_n (n := 0) rfl ?_
                refine wb_gf4 237 rfl (wy_pr rfl) wt_237 wf_15_139 (v := 364) wl_237_139 ?_
                refine wa_iload_n (n := 1) rfl ?_
                refine wa_lload_n (n := 3) rfl ?_
                refine wb_last 364 rfl (wy_pr rfl) wt_364 (n := 4200) ((w_up_slot (by decide)).trans ((w_up_slot (by decide)).trans ((w_up_slot (by decide)).trans ((w_up_slot (by decide)).trans ((w_up_slot (by decide)).trans ((w_up_slot (by decide)).trans ((w_up_slot (by decide)).trans ((w_up_slot (by decide)).trans ((w_up_slot (by decide)).trans ((w_up_slot (by decide)).trans ((w_up_slot (by decide)).trans ((w_up_slot (by decide)).trans ((w_up_slot (by decide)).trans ((w_up_slot (by decide)).trans (((msZ_e 364 (-1) (by decide) (by decide)).trans ((ml_364 hM)))))))))))))))))) (by omega) (by omega) ⟨(by omega), (by omega)⟩ ?_
                refine wa_return rfl ?_
                show wJ _ _ _ _ _ _ _ _ _ _
                refine wa_goto ⟨_, rfl⟩ ?_
                refine wa_return rfl ?_
                show wJ _ _ _ _ _ _ _ _ _ _
                refine wa_goto ⟨_, rfl⟩ ?_
                refine wa_return rfl ?_
                exact Or.inr (Or.inr ⟨by omega, hm0, hm1, rfl, rfl⟩)
            · skip
              exact absurd c17 (by omega)
          · skip
            exact absurd c15 (by omega)
      · skip
        exact absurd c11 (by omega)
    · skip
      refine wa_iload_n (n := 1) rfl ?_
      refine wa_iconst ?_
      refine wa_icmpne (w_rg0 (by omega) (by omega)) (w_rg0 (by omega) (by omega)) ⟨_, rfl⟩ (fun c27 => ?_) (fun c27 => ?_)
      · skip
        exact absurd c27 (by omega)
      · skip
        refine wa_fall ⟨_, rfl⟩ ?_
        refine wa_iconst ?_
        refine wa_goto ⟨_, rfl⟩ ?_
        refine wa_zreturn rfl (Or.inr rfl) ?_
        show wJ _ _ _ _ _ _ _ _ _ _
        refine wa_ifne (w_rg0 (by omega) (by omega)) ⟨_, rfl⟩ (fun c28 => ?_) (fun c28 => ?_)
        · skip
          refine wa_aload_n (n := 0) rfl ?_
          refine wa_aload_n (n := 0) rfl ?_
          refine wa_iconst ?_
          refine wa_cv 237 rfl (wy_pr rfl) wt_237 (M2 := fun _ => False) rfl at_M_hasRoomFor ⟨_, rfl⟩ rfl rfl ⟨trivial, trivial, (Or.inr ⟨wy_pr rfl, fun q => q⟩), trivial, trivial⟩ ⟨(Or.inr ⟨wy_pr rfl, fun q => q⟩), trivial⟩ (fun _ _ q => False.elim q) ?_ (fun _ _ _ q => q)
          refine wa_aload_n (n := 0) rfl ?_
          refine wb_gfi 237 rfl (wy_pr rfl) wt_237 wf_15_62 (v := u0) (hu0) (fun r29 => ?_)
          refine wa_iload_n (n := 1) rfl ?_
          refine wa_iadd ?_
          refine wa_sipush (by omega) ?_
          refine wa_icmpgt (w_rg0 (by omega) (by omega)) (w_rg0 (by omega) (by omega)) ⟨_, rfl⟩ (fun c30 => ?_) (fun c30 => ?_)
          · skip
            refine wa_iconst ?_
            refine wa_fall ⟨_, rfl⟩ ?_
            refine wa_zreturn rfl (Or.inl rfl) ?_
            show wJ _ _ _ _ _ _ _ _ _ _
            refine wa_cv 237 rfl (wy_pr rfl) wt_237 (M2 := fun _ => False) rfl at_M_room ⟨_, rfl⟩ rfl rfl ⟨trivial, trivial, (Or.inr ⟨wy_pr rfl, fun q => q⟩), trivial, trivial⟩ trivial (fun _ _ q => False.elim q) ?_ (fun _ _ _ q => q)
            refine wa_iload_n (n := 1) rfl ?_
            refine wa_ifne (w_rg0 (by omega) (by omega)) ⟨_, rfl⟩ (fun c31 => ?_) (fun c31 => ?_)
            · skip
              exact absurd c31 (by omega)
            · skip
              refine wa_aload_n (n := 0) rfl ?_
              refine wb_gf4 237 rfl (wy_pr rfl) wt_237 wf_15_1 (v := 238) wl_237_1 ?_
              refine wa_bipush (w_rg2 (by omega) (by omega)) ?_
              refine wa_iconst ?_
              refine wa_cv 238 rfl (wy_pr rfl) wt_238 (M2 := fun _ => False) rfl at_MH_of ⟨_, rfl⟩ rfl rfl ⟨(Or.inr ⟨wy_pr rfl, fun q => q⟩), trivial, trivial⟩ trivial (fun _ _ q => False.elim q) ?_ (fun _ _ _ q => q)
              refine wa_aload_n (n := 0) rfl ?_
              refine wa_iload_n (n := 1) rfl ?_
              refine wb_pfi 238 rfl (wy_pr rfl) wt_238 wf_11_5 (n := 5) rfl ⟨(by omega), (by omega)⟩ ?_
              refine wa_aload_n (n := 0) rfl ?_
              refine wa_iload_n (n := 2) rfl ?_
              refine wb_pfi 238 rfl (wy_pr rfl) wt_238 wf_11_6 (n := 6) rfl ⟨(by omega), (by omega)⟩ ?_
              refine wa_aload_n (n := 0) rfl ?_
              refine wa_oreturn rfl ?_
              show wJ _ _ _ _ _ _ _ _ _ _
              refine wa_th (j := 238) ?_
              refine ⟨rfl, ?_⟩
              refine ⟨rfl, ?_⟩
              exact Or.inl ⟨Or.inl (by omega), rfl, rfl⟩
          · skip
            refine wa_iconst ?_
            refine wa_goto ⟨_, rfl⟩ ?_
            refine wa_zreturn rfl (Or.inr rfl) ?_
            show wJ _ _ _ _ _ _ _ _ _ _
            refine wa_cv 237 rfl (wy_pr rfl) wt_237 (M2 := fun _ => False) rfl at_M_room ⟨_, rfl⟩ rfl rfl ⟨trivial, trivial, (Or.inr ⟨wy_pr rfl, fun q => q⟩), trivial, trivial⟩ trivial (fun _ _ q => False.elim q) ?_ (fun _ _ _ q => q)
            refine wa_iload_n (n := 1) rfl ?_
            refine wa_ifne (w_rg0 (by omega) (by omega)) ⟨_, rfl⟩ (fun c32 => ?_) (fun c32 => ?_)
            · skip
              refine wa_return rfl ?_
              show wJ _ _ _ _ _ _ _ _ _ _
              refine wa_aload_n (n := 0) rfl ?_
              refine wa_iconst ?_
              refine wa_aload_n (n := 0) rfl ?_
              refine wb_gf4 237 rfl (wy_pr rfl) wt_237 wf_15_138 (v := 363) wl_237_138 ?_
              refine wa_iload_n (n := 2) rfl ?_
              refine wb_iald 363 rfl (wy_pr rfl) wt_363 (n := 4200) ((ml_363 hM)) (by omega) (by omega) (v := ky) (hky) (fun r33 => ?_)
              refine wa_ifne (w_rg0 (by omega) (by omega)) ⟨_, rfl⟩ (fun c34 => ?_) (fun c34 => ?_)
              · skip
                refine wa_aload_n (n := 0) rfl ?_
                refine wb_gf4 237 rfl (wy_pr rfl) wt_237 wf_15_139 (v := 364) wl_237_139 ?_
                refine wa_iload_n (n := 2) rfl ?_
                refine wb_lald 364 rfl (wy_pr rfl) wt_364 (n := 4200) ((ml_364 hM)) (by omega) (by omega) (v := q) (hvy) (fun r35 => ?_)
                refine wb_l2i_r (wb_l2i_id ⟨(by omega), (by omega)⟩) ?_
                refine wa_fall ⟨_, rfl⟩ ?_
                refine wa_iconst ?_
                refine wa_cv 237 rfl (wy_pr rfl) wt_237 (M2 := fun _ => False) rfl at_M_madeShape ⟨_, rfl⟩ rfl rfl ⟨trivial, trivial, (Or.inr ⟨wy_pr rfl, fun q => q⟩), trivial, trivial⟩ trivial (fun _ _ q => False.elim q) (r_ms (be := -1) (pr := q) (nm := -1) hM h1 hw (fun _ => rfl) ⟨by omega, by omega⟩ ⟨by omega, hq.2⟩ (by decide) hr hu4 hu5) (fun oq36 Sq36 hp37 q36 => ?_)
                rcases q36 with ⟨hm0, rfl, rfl⟩ | ⟨hm0, hm1, rfl, hm2⟩ | ⟨hm0, hm1, rfl, rfl⟩
                · skip
                  show wJ _ _ _ _ _ _ _ _ _ _
                  refine wa_istore (n := 4) rfl ?_
                  refine wa_aload_n (n := 0) rfl ?_
                  refine wa_iconst ?_
                  refine wa_cv 237 rfl (wy_pr rfl) wt_237 (M2 := fun _ => False) rfl at_M_newThing ⟨_, rfl⟩ rfl rfl ⟨trivial, trivial, trivial, (Or.inr ⟨wy_pr rfl, fun q => q⟩), trivial, trivial⟩ trivial (fun _ _ q => False.elim q) ?_ (fun _ _ _ q => q)
                  refine wa_aload_n (n := 0) rfl ?_
                  refine wb_gfi 237 rfl (wy_pr rfl) wt_237 wf_15_68 (v := n) (hn) (fun r38 => ?_)
                  refine wa_istore_n (n := 2) rfl ?_
                  refine wa_aload_n (n := 0) rfl ?_
                  refine wb_gf4 237 rfl (wy_pr rfl) wt_237 wf_15_70 (v := 314) wl_237_70 ?_
                  refine wa_iload_n (n := 2) rfl ?_
                  refine wa_iload_n (n := 1) rfl ?_
                  refine wb_iast 314 rfl (wy_pr rfl) wt_314 (n := 8000) ((ml_314 hM)) (by omega) (by omega) ⟨(by omega), (by omega)⟩ ?_
                  refine wa_aload_n (n := 0) rfl ?_
                  refine wb_gf4 237 rfl (wy_pr rfl) wt_237 wf_15_71 (v := 315) wl_237_71 ?_
                  refine wa_iload_n (n := 2) rfl ?_
                  refine wa_iconst ?_
                  refine wb_iast 315 rfl (wy_pr rfl) wt_315 (n := 8000) ((w_up_slot (by decide)).trans ((ml_315 hM))) (by omega) (by omega) ⟨(by omega), (by omega)⟩ ?_
                  refine wa_aload_n (n := 0) rfl ?_
                  refine wb_gf4 237 rfl (wy_pr rfl) wt_237 wf_15_72 (v := 316) wl_237_72 ?_
                  refine wa_iload_n (n := 2) rfl ?_
                  refine wa_iconst ?_
                  refine wb_iast 316 rfl (wy_pr rfl) wt_316 (n := 8000) ((w_up_slot (by decide)).trans ((w_up_slot (by decide)).trans ((ml_316 hM)))) (by omega) (by omega) ⟨(by omega), (by omega)⟩ ?_
                  refine wa_aload_n (n := 0) rfl ?_
                  refine wb_gf4 237 rfl (wy_pr rfl) wt_237 wf_15_73 (v := 317) wl_237_73 ?_
                  refine wa_iload_n (n := 2) rfl ?_
                  refine wa_iconst ?_
                  refine wb_iast 317 rfl (wy_pr rfl) wt_317 (n := 8000) ((w_up_slot (by decide)).trans ((w_up_slot (by decide)).trans ((w_up_slot (by decide)).trans ((ml_317 hM))))) (by omega) (by omega) ⟨(by omega), (by omega)⟩ ?_
                  refine wa_aload_n (n := 0) rfl ?_
                  refine wb_gf4 237 rfl (wy_pr rfl) wt_237 wf_15_75 (v := 319) wl_237_75 ?_
                  refine wa_iload_n (n := 2) rfl ?_
                  refine wa_iconst ?_
                  refine wb_iast 319 rfl (wy_pr rfl) wt_319 (n := 8000) ((w_up_slot (by decide)).trans ((w_up_slot (by decide)).trans ((w_up_slot (by decide)).trans ((w_up_slot (by decide)).trans ((ml_319 hM)))))) (by omega) (by omega) ⟨(by omega), (by omega)⟩ ?_
                  refine wa_aload_n (n := 0) rfl ?_
                  refine wb_gf4 237 rfl (wy_pr rfl) wt_237 wf_15_76 (v := 320) wl_237_76 ?_
                  refine wa_iload_n (n := 2) rfl ?_
                  refine wa_iconst ?_
                  refine wb_iast 320 rfl (wy_pr rfl) wt_320 (n := 8000) ((w_up_slot (by decide)).trans ((w_up_slot (by decide)).trans ((w_up_slot (by decide)).trans ((w_up_slot (by decide)).trans ((w_up_slot (by decide)).trans ((ml_320 hM))))))) (by omega) (by omega) ⟨(by omega), (by omega)⟩ ?_
                  refine wa_aload_n (n := 0) rfl ?_
                  refine wb_gf4 237 rfl (wy_pr rfl) wt_237 wf_15_77 (v := 321) wl_237_77 ?_
                  refine wa_iload_n (n := 2) rfl ?_
                  refine wa_iconst ?_
                  refine wb_iast 321 rfl (wy_pr rfl) wt_321 (n := 8000) ((w_up_slot (by decide)).trans ((w_up_slot (by decide)).trans ((w_up_slot (by decide)).trans ((w_up_slot (by decide)).trans ((w_up_slot (by decide)).trans ((w_up_slot (by decide)).trans ((ml_321 hM)))))))) (by omega) (by omega) ⟨(by omega), (by omega)⟩ ?_
                  refine wa_aload_n (n := 0) rfl ?_
                  refine wb_gf4 237 rfl (wy_pr rfl) wt_237 wf_15_78 (v := 322) wl_237_78 ?_
                  refine wa_iload_n (n := 2) rfl ?_
                  refine wa_iconst ?_
                  refine wb_zast 322 rfl (wy_pr rfl) wt_322 (n := 8000) ((w_up_slot (by decide)).trans ((w_up_slot (by decide)).trans ((w_up_slot (by decide)).trans ((w_up_slot (by decide)).trans ((w_up_slot (by decide)).trans ((w_up_slot (by decide)).trans ((w_up_slot (by decide)).trans ((ml_322 hM))))))))) (by omega) (by omega) ⟨(by omega), (by omega)⟩ ?_
                  refine wa_aload_n (n := 0) rfl ?_
                  refine wb_gf4 237 rfl (wy_pr rfl) wt_237 wf_15_79 (v := 323) wl_237_79 ?_
                  refine wa_iload_n (n := 2) rfl ?_
                  refine wa_iconst ?_
                  refine wb_iast 323 rfl (wy_pr rfl) wt_323 (n := 8000) ((w_up_slot (by decide)).trans ((w_up_slot (by decide)).trans ((w_up_slot (by decide)).trans ((w_up_slot (by decide)).trans ((w_up_slot (by decide)).trans ((w_up_slot (by decide)).trans ((w_up_slot (by decide)).trans ((w_up_slot (by decide)).trans ((ml_323 hM)))))))))) (by omega) (by omega) ⟨(by omega), (by omega)⟩ ?_
                  refine wa_aload_n (n := 0) rfl ?_
                  refine wb_gf4 237 rfl (wy_pr rfl) wt_237 wf_15_80 (v := 324) wl_237_80 ?_
                  refine wa_iload_n (n := 2) rfl ?_
                  refine wa_iconst ?_
                  refine wb_iast 324 rfl (wy_pr rfl) wt_324 (n := 8000) ((w_up_slot (by decide)).trans ((w_up_slot (by decide)).trans ((w_up_slot (by decide)).trans ((w_up_slot (by decide)).trans ((w_up_slot (by decide)).trans ((w_up_slot (by decide)).trans ((w_up_slot (by decide)).trans ((w_up_slot (by decide)).trans ((w_up_slot (by decide)).trans ((ml_324 hM))))))))))) (by omega) (by omega) ⟨(by omega), (by omega)⟩ ?_
                  refine wa_aload_n (n := 0) rfl ?_
                  refine wa_dup (by decide) ?_
                  refine wb_gfi 237 rfl (wy_pr rfl) wt_237 wf_15_68 (v := n) ((w_up_slot (by decide)).trans ((w_up_slot (by decide)).trans ((w_up_slot (by decide)).trans ((w_up_slot (by decide)).trans ((w_up_slot (by decide)).trans ((w_up_slot (by decide)).trans ((w_up_slot (by decide)).trans ((w_up_slot (by decide)).trans ((w_up_slot (by decide)).trans ((w_up_slot (by decide)).trans (hn))))))))))) (fun r39 => ?_)
                  refine wa_iconst ?_
                  refine wa_iadd ?_
                  refine wb_pfi 237 rfl (wy_pr rfl) wt_237 wf_15_68 (n := 68) rfl ⟨(by omega), (by omega)⟩ ?_
                  refine wa_aload_n (n := 0) rfl ?_
                  refine wa_dup (by decide) ?_
                  refine wb_gfi 237 rfl (wy_pr rfl) wt_237 wf_15_62 (v := u0) ((w_up_at (by decide)).trans ((w_up_slot (by decide)).trans ((w_up_slot (by decide)).trans ((w_up_slot (by decide)).trans ((w_up_slot (by decide)).trans ((w_up_slot (by decide)).trans ((w_up_slot (by decide)).trans ((w_up_slot (by decide)).trans ((w_up_slot (by decide)).trans ((w_up_slot (by decide)).trans ((w_up_slot (by decide)).trans (hu0)))))))))))) (fun r40 => ?_)
                  refine wa_iconst ?_
                  refine wa_iadd ?_
                  refine wb_pfi 237 rfl (wy_pr rfl) wt_237 wf_15_62 (n := 62) rfl ⟨(by omega), (by omega)⟩ ?_
                  refine wa_iload_n (n := 2) rfl ?_
                  refine wa_ireturn rfl ?_
                  show wJ _ _ _ _ _ _ _ _ _ _
                  refine wa_istore (n := 5) rfl ?_
                  refine wa_aload_n (n := 0) rfl ?_
                  refine wb_gf4 237 rfl (wy_pr rfl) wt_237 wf_15_71 (v := 315) wl_237_71 ?_
                  refine wa_iload (n := 5) rfl ?_
                  refine wa_iload (n := 4) rfl ?_
                  refine wb_iast 315 rfl (wy_pr rfl) wt_315 (n := 8000) ((w_up_slot (by decide)).trans ((w_up_slot (by decide)).trans ((w_up_slot (by decide)).trans ((w_up_slot (by decide)).trans ((w_up_slot (by decide)).trans ((w_up_slot (by decide)).trans ((w_up_slot (by decide)).trans ((w_up_slot (by decide)).trans ((w_up_slot (by decide)).trans ((w_up_slot (by decide)).trans ((w_up_at (by omega)).trans ((w_up_slot (by decide)).trans ((ml_315 hM)))))))))))))) (by omega) (by omega) ⟨(by omega), (by omega)⟩ ?_
                  refine wa_aload_n (n := 0) rfl ?_
                  refine wa_iload_n (n := 2) rfl ?_
                  refine wa_iconst ?_
                  refine wa_iload (n := 5) rfl ?_
                  refine wa_i2l (w_rg0 (by omega) (by omega)) ?_
                  refine wa_cv 237 rfl (wy_pr rfl) wt_237 (M2 := fun _ => False) rfl at_M_put ⟨_, rfl⟩ rfl rfl ⟨trivial, trivial, trivial, trivial, (Or.inr ⟨wy_pr rfl, fun q => q⟩), trivial, trivial⟩ trivial (fun _ _ q => False.elim q) ?_ (fun _ _ _ q => q)
                  refine wa_aload_n (n := 0) rfl ?_
                  refine wb_gf4 237 rfl (wy_pr rfl) wt_237 wf_15_138 (v := 363) wl_237_138 ?_
                  refine wa_iload_n (n := 1) rfl ?_
                  refine wa_iload_n (n := 2) rfl ?_
                  refine wb_iast 363 rfl (wy_pr rfl) wt_363 (n := 4200) ((w_up_slot (by decide)).trans ((w_up_slot (by decide)).trans ((w_up_slot (by decide)).trans ((w_up_slot (by decide)).trans ((w_up_slot (by decide)).trans ((w_up_slot (by decide)).trans ((w_up_slot (by decide)).trans ((w_up_slot (by decide)).trans ((w_up_slot (by decide)).trans ((w_up_slot (by decide)).trans ((w_up_slot (by decide)).trans ((w_up_slot (by decide)).trans ((w_up_slot (by decide)).trans ((ml_363 hM))))))))))))))) (by omega) (by omega) ⟨(by omega), (by omega)⟩ ?_
                  refine wa_aload_n (n := 0) rfl ?_
                  refine wb_gf4 237 rfl (wy_pr rfl) wt_237 wf_15_139 (v := 364) wl_237_139 ?_
                  refine wa_iload_n (n := 1) rfl ?_
                  refine wa_lload_n (n := 3) rfl ?_
                  refine wb_last 364 rfl (wy_pr rfl) wt_364 (n := 4200) ((w_up_slot (by decide)).trans ((w_up_slot (by decide)).trans ((w_up_slot (by decide)).trans ((w_up_slot (by decide)).trans ((w_up_slot (by decide)).trans ((w_up_slot (by decide)).trans ((w_up_slot (by decide)).trans ((w_up_slot (by decide)).trans ((w_up_slot (by decide)).trans ((w_up_slot (by decide)).trans ((w_up_slot (by decide)).trans ((w_up_slot (by decide)).trans ((w_up_slot (by decide)).trans ((w_up_slot (by decide)).trans ((ml_364 hM)))))))))))))))) (by omega) (by omega) ⟨(by omega), (by omega)⟩ ?_
                  refine wa_return rfl ?_
                  show wJ _ _ _ _ _ _ _ _ _ _
                  refine wa_goto ⟨_, rfl⟩ ?_
                  refine wa_return rfl ?_
                  show wJ _ _ _ _ _ _ _ _ _ _
                  refine wa_goto ⟨_, rfl⟩ ?_
                  refine wa_return rfl ?_
                  exact Or.inr (Or.inl ⟨by omega, hm0, rfl, rfl⟩)
                · skip
                  refine ⟨rfl, ?_⟩
                  refine ⟨rfl, ?_⟩
                  exact Or.inl ⟨Or.inr ⟨hm0, hm1⟩, rfl, hm2⟩
                · skip
                  show wJ _ _ _ _ _ _ _ _ _ _
                  refine wa_istore (n := 4) rfl ?_
                  refine wa_aload_n (n := 0) rfl ?_
                  refine wa_iconst ?_
                  refine wa_cv 237 rfl (wy_pr rfl) wt_237 (M2 := fun _ => False) rfl at_M_newThing ⟨_, rfl⟩ rfl rfl ⟨trivial, trivial, trivial, (Or.inr ⟨wy_pr rfl, fun q => q⟩), trivial, trivial⟩ trivial (fun _ _ q => False.elim q) ?_ (fun _ _ _ q => q)
                  refine wa_aload_n (n := 0) rfl ?_
                  refine wb_gfi 237 rfl (wy_pr rfl) wt_237 wf_15_68 (v := n) (((msZ_e 237 68 (by decide) (by decide)).trans (hn))) (fun r41 => ?_)
                  refine wa_istore_n (n := 2) rfl ?_
                  refine wa_aload_n (n := 0) rfl ?_
                  refine wb_gf4 237 rfl (wy_pr rfl) wt_237 wf_15_70 (v := 314) wl_237_70 ?_
                  refine wa_iload_n (n := 2) rfl ?_
                  refine wa_iload_n (n := 1) rfl ?_
                  refine wb_iast 314 rfl (wy_pr rfl) wt_314 (n := 8000) (((msZ_e 314 (-1) (by decide) (by decide)).trans ((ml_314 hM)))) (by omega) (by omega) ⟨(by omega), (by omega)⟩ ?_
                  refine wa_aload_n (n := 0) rfl ?_
                  refine wb_gf4 237 rfl (wy_pr rfl) wt_237 wf_15_71 (v := 315) wl_237_71 ?_
                  refine wa_iload_n (n := 2) rfl ?_
                  refine wa_iconst ?_
                  refine wb_iast 315 rfl (wy_pr rfl) wt_315 (n := 8000) ((w_up_slot (by decide)).trans (((msZ_e 315 (-1) (by decide) (by decide)).trans ((ml_315 hM))))) (by omega) (by omega) ⟨(by omega), (by omega)⟩ ?_
                  refine wa_aload_n (n := 0) rfl ?_
                  refine wb_gf4 237 rfl (wy_pr rfl) wt_237 wf_15_72 (v := 316) wl_237_72 ?_
                  refine wa_iload_n (n := 2) rfl ?_
                  refine wa_iconst ?_
                  refine wb_iast 316 rfl (wy_pr rfl) wt_316 (n := 8000) ((w_up_slot (by decide)).trans ((w_up_slot (by decide)).trans (((msZ_e 316 (-1) (by decide) (by decide)).trans ((ml_316 hM)))))) (by omega) (by omega) ⟨(by omega), (by omega)⟩ ?_
                  refine wa_aload_n (n := 0) rfl ?_
                  refine wb_gf4 237 rfl (wy_pr rfl) wt_237 wf_15_73 (v := 317) wl_237_73 ?_
                  refine wa_iload_n (n := 2) rfl ?_
                  refine wa_iconst ?_
                  refine wb_iast 317 rfl (wy_pr rfl) wt_317 (n := 8000) ((w_up_slot (by decide)).trans ((w_up_slot (by decide)).trans ((w_up_slot (by decide)).trans (((msZ_e 317 (-1) (by decide) (by decide)).trans ((ml_317 hM))))))) (by omega) (by omega) ⟨(by omega), (by omega)⟩ ?_
                  refine wa_aload_n (n := 0) rfl ?_
                  refine wb_gf4 237 rfl (wy_pr rfl) wt_237 wf_15_75 (v := 319) wl_237_75 ?_
                  refine wa_iload_n (n := 2) rfl ?_
                  refine wa_iconst ?_
                  refine wb_iast 319 rfl (wy_pr rfl) wt_319 (n := 8000) ((w_up_slot (by decide)).trans ((w_up_slot (by decide)).trans ((w_up_slot (by decide)).trans ((w_up_slot (by decide)).trans (((msZ_e 319 (-1) (by decide) (by decide)).trans ((ml_319 hM)))))))) (by omega) (by omega) ⟨(by omega), (by omega)⟩ ?_
                  refine wa_aload_n (n := 0) rfl ?_
                  refine wb_gf4 237 rfl (wy_pr rfl) wt_237 wf_15_76 (v := 320) wl_237_76 ?_
                  refine wa_iload_n (n := 2) rfl ?_
                  refine wa_iconst ?_
                  refine wb_iast 320 rfl (wy_pr rfl) wt_320 (n := 8000) ((w_up_slot (by decide)).trans ((w_up_slot (by decide)).trans ((w_up_slot (by decide)).trans ((w_up_slot (by decide)).trans ((w_up_slot (by decide)).trans (((msZ_e 320 (-1) (by decide) (by decide)).trans ((ml_320 hM))))))))) (by omega) (by omega) ⟨(by omega), (by omega)⟩ ?_
                  refine wa_aload_n (n := 0) rfl ?_
                  refine wb_gf4 237 rfl (wy_pr rfl) wt_237 wf_15_77 (v := 321) wl_237_77 ?_
                  refine wa_iload_n (n := 2) rfl ?_
                  refine wa_iconst ?_
                  refine wb_iast 321 rfl (wy_pr rfl) wt_321 (n := 8000) ((w_up_slot (by decide)).trans ((w_up_slot (by decide)).trans ((w_up_slot (by decide)).trans ((w_up_slot (by decide)).trans ((w_up_slot (by decide)).trans ((w_up_slot (by decide)).trans (((msZ_e 321 (-1) (by decide) (by decide)).trans ((ml_321 hM)))))))))) (by omega) (by omega) ⟨(by omega), (by omega)⟩ ?_
                  refine wa_aload_n (n := 0) rfl ?_
                  refine wb_gf4 237 rfl (wy_pr rfl) wt_237 wf_15_78 (v := 322) wl_237_78 ?_
                  refine wa_iload_n (n := 2) rfl ?_
                  refine wa_iconst ?_
                  refine wb_zast 322 rfl (wy_pr rfl) wt_322 (n := 8000) ((w_up_slot (by decide)).trans ((w_up_slot (by decide)).trans ((w_up_slot (by decide)).trans ((w_up_slot (by decide)).trans ((w_up_slot (by decide)).trans ((w_up_slot (by decide)).trans ((w_up_slot (by decide)).trans (((msZ_l (j := 322) (by omega) (by omega)).trans ((ml_322 hM))))))))))) (by omega) (by omega) ⟨(by omega), (by omega)⟩ ?_
                  refine wa_aload_n (n := 0) rfl ?_
                  refine wb_gf4 237 rfl (wy_pr rfl) wt_237 wf_15_79 (v := 323) wl_237_79 ?_
                  refine wa_iload_n (n := 2) rfl ?_
                  refine wa_iconst ?_
                  refine wb_iast 323 rfl (wy_pr rfl) wt_323 (n := 8000) ((w_up_slot (by decide)).trans ((w_up_slot (by decide)).trans ((w_up_slot (by decide)).trans ((w_up_slot (by decide)).trans ((w_up_slot (by decide)).trans ((w_up_slot (by decide)).trans ((w_up_slot (by decide)).trans ((w_up_slot (by decide)).trans (((msZ_l (j := 323) (by omega) (by omega)).trans ((ml_323 hM)))))))))))) (by omega) (by omega) ⟨(by omega), (by omega)⟩ ?_
                  refine wa_aload_n (n := 0) rfl ?_
                  refine wb_gf4 237 rfl (wy_pr rfl) wt_237 wf_15_80 (v := 324) wl_237_80 ?_
                  refine wa_iload_n (n := 2) rfl ?_
                  refine wa_iconst ?_
                  refine wb_iast 324 rfl (wy_pr rfl) wt_324 (n := 8000) ((w_up_slot (by decide)).trans ((w_up_slot (by decide)).trans ((w_up_slot (by decide)).trans ((w_up_slot (by decide)).trans ((w_up_slot (by decide)).trans ((w_up_slot (by decide)).trans ((w_up_slot (by decide)).trans ((w_up_slot (by decide)).trans ((w_up_slot (by decide)).trans (((msZ_e 324 (-1) (by decide) (by decide)).trans ((ml_324 hM))))))))))))) (by omega) (by omega) ⟨(by omega), (by omega)⟩ ?_
                  refine wa_aload_n (n := 0) rfl ?_
                  refine wa_dup (by decide) ?_
                  refine wb_gfi 237 rfl (wy_pr rfl) wt_237 wf_15_68 (v := n) ((w_up_slot (by decide)).trans ((w_up_slot (by decide)).trans ((w_up_slot (by decide)).trans ((w_up_slot (by decide)).trans ((w_up_slot (by decide)).trans ((w_up_slot (by decide)).trans ((w_up_slot (by decide)).trans ((w_up_slot (by decide)).trans ((w_up_slot (by decide)).trans ((w_up_slot (by decide)).trans (((msZ_e 237 68 (by decide) (by decide)).trans (hn))))))))))))) (fun r42 => ?_)
                  refine wa_iconst ?_
                  refine wa_iadd ?_
                  refine wb_pfi 237 rfl (wy_pr rfl) wt_237 wf_15_68 (n := 68) rfl ⟨(by omega), (by omega)⟩ ?_
                  refine wa_aload_n (n := 0) rfl ?_
                  refine wa_dup (by decide) ?_
                  refine wb_gfi 237 rfl (wy_pr rfl) wt_237 wf_15_62 (v := u0) ((w_up_at (by decide)).trans ((w_up_slot (by decide)).trans ((w_up_slot (by decide)).trans ((w_up_slot (by decide)).trans ((w_up_slot (by decide)).trans ((w_up_slot (by decide)).trans ((w_up_slot (by decide)).trans ((w_up_slot (by decide)).trans ((w_up_slot (by decide)).trans ((w_up_slot (by decide)).trans ((w_up_slot (by decide)).trans (((msZ_e 237 62 (by decide) (by decide)).trans (hu0)))))))))))))) (fun r43 => ?_)
                  refine wa_iconst ?_
                  refine wa_iadd ?_
                  refine wb_pfi 237 rfl (wy_pr rfl) wt_237 wf_15_62 (n := 62) rfl ⟨(by omega), (by omega)⟩ ?_
                  refine wa_iload_n (n := 2) rfl ?_
                  refine wa_ireturn rfl ?_
                  show wJ _ _ _ _ _ _ _ _ _ _
                  refine wa_istore (n := 5) rfl ?_
                  refine wa_aload_n (n := 0) rfl ?_
                  refine wb_gf4 237 rfl (wy_pr rfl) wt_237 wf_15_71 (v := 315) wl_237_71 ?_
                  refine wa_iload (n := 5) rfl ?_
                  refine wa_iload (n := 4) rfl ?_
                  refine wb_iast 315 rfl (wy_pr rfl) wt_315 (n := 8000) ((w_up_slot (by decide)).trans ((w_up_slot (by decide)).trans ((w_up_slot (by decide)).trans ((w_up_slot (by decide)).trans ((w_up_slot (by decide)).trans ((w_up_slot (by decide)).trans ((w_up_slot (by decide)).trans ((w_up_slot (by decide)).trans ((w_up_slot (by decide)).trans ((w_up_slot (by decide)).trans ((w_up_at (by omega)).trans ((w_up_slot (by decide)).trans (((msZ_e 315 (-1) (by decide) (by decide)).trans ((ml_315 hM)))))))))))))))) (by omega) (by omega) ⟨(by omega), (by omega)⟩ ?_
                  refine wa_aload_n (n := 0) rfl ?_
                  refine wa_iload_n (n := 2) rfl ?_
                  refine wa_iconst ?_
                  refine wa_iload (n := 5) rfl ?_
                  refine wa_i2l (w_rg0 (by omega) (by omega)) ?_
                  refine wa_cv 237 rfl (wy_pr rfl) wt_237 (M2 := fun _ => False) rfl at_M_put ⟨_, rfl⟩ rfl rfl ⟨trivial, trivial, trivial, trivial, (Or.inr ⟨wy_pr rfl, fun q => q⟩), trivial, trivial⟩ trivial (fun _ _ q => False.elim q) ?_ (fun _ _ _ q => q)
                  refine wa_aload_n (n := 0) rfl ?_
                  refine wb_gf4 237 rfl (wy_pr rfl) wt_237 wf_15_138 (v := 363) wl_237_138 ?_
                  refine wa_iload_n (n := 1) rfl ?_
                  refine wa_iload_n (n := 2) rfl ?_
                  refine wb_iast 363 rfl (wy_pr rfl) wt_363 (n := 4200) ((w_up_slot (by decide)).trans ((w_up_slot (by decide)).trans ((w_up_slot (by decide)).trans ((w_up_slot (by decide)).trans ((w_up_slot (by decide)).trans ((w_up_slot (by decide)).trans ((w_up_slot (by decide)).trans ((w_up_slot (by decide)).trans ((w_up_slot (by decide)).trans ((w_up_slot (by decide)).trans ((w_up_slot (by decide)).trans ((w_up_slot (by decide)).trans ((w_up_slot (by decide)).trans (((msZ_e 363 (-1) (by decide) (by decide)).trans ((ml_363 hM))))))))))))))))) (by omega) (by omega) ⟨(by omega), (by omega)⟩ ?_
                  refine wa_aload_n (n := 0) rfl ?_
                  refine wb_gf4 237 rfl (wy_pr rfl) wt_237 wf_15_139 (v := 364) wl_237_139 ?_
                  refine wa_iload_n (n := 1) rfl ?_
                  refine wa_lload_n (n := 3) rfl ?_
                  refine wb_last 364 rfl (wy_pr rfl) wt_364 (n := 4200) ((w_up_slot (by decide)).trans ((w_up_slot (by decide)).trans ((w_up_slot (by decide)).trans ((w_up_slot (by decide)).trans ((w_up_slot (by decide)).trans ((w_up_slot (by decide)).trans ((w_up_slot (by decide)).trans ((w_up_slot (by decide)).trans ((w_up_slot (by decide)).trans ((w_up_slot (by decide)).trans ((w_up_slot (by decide)).trans ((w_up_slot (by decide)).trans ((w_up_slot (by decide)).trans ((w_up_slot (by decide)).trans (((msZ_e 364 (-1) (by decide) (by decide)).trans ((ml_364 hM)))))))))))))))))) (by omega) (by omega) ⟨(by omega), (by omega)⟩ ?_
                  refine wa_return rfl ?_
                  show wJ _ _ _ _ _ _ _ _ _ _
                  refine wa_goto ⟨_, rfl⟩ ?_
                  refine wa_return rfl ?_
                  show wJ _ _ _ _ _ _ _ _ _ _
                  refine wa_goto ⟨_, rfl⟩ ?_
                  refine wa_return rfl ?_
                  exact Or.inr (Or.inr ⟨by omega, hm0, hm1, rfl, rfl⟩)
              · skip
                exact absurd c34 (by omega)
            · skip
              exact absurd c32 (by omega)
        · skip
          exact absurd c28 (by omega)
theorem yb1e {t c p h tp ky vy : Int} (hP : mP t c p h tp S) (hky : S 363 (2100 * t + h - 1) = ky) (hvy : S 364 (2100 * t + h - 1) = vy) (hh1 : 1 ≤ h) (hke : ky ≠ 0 ∧ ky ≠ 4 ∧ ky ≠ 5) : wJ (pe_GA xs) wY0 M (d + 11) t_M_others ((pe_at t_M_others.bl 0).getD (0, [])).2 [(0, (2, 237)), (1, (0, 28)), (2, (0, 1))] [] S (fun o Z => o = .inr 238 ∧ hZ 12 S = Z) := by
  obtain ⟨hM, ⟨mt, mt0, mt1⟩, mp, mf, ⟨mc, mc0, mc1⟩, ⟨mtp, mtq⟩, ⟨mpa, mp0, mp1⟩, mh, mh0, mh1⟩ := id hP
  have hky2 : S 363 (2100 * t + (h - 1)) = ky := by rw [show 2100 * t + (h - 1) = 2100 * t + h - 1 by omega]; exact hky
  have hvy2 : S 364 (2100 * t + (h - 1)) = vy := by rw [show 2100 * t + (h - 1) = 2100 * t + h - 1 by omega]; exact hvy
  refine wa_aload_n (n := 0) rfl ?_
  refine wa_cv 237 rfl (wy_pr rfl) wt_237 (M2 := fun _ => False) rfl at_M_h ⟨_, rfl⟩ rfl rfl ⟨(Or.inr ⟨wy_pr rfl, fun q => q⟩), trivial, trivial, trivial⟩ trivial (fun _ _ q => False.elim q) ?_ (fun _ _ _ q => q)
  refine wa_aload_n (n := 0) rfl ?_
  refine wb_gfi 237 rfl (wy_pr rfl) wt_237 wf_15_152 (v := (2100 * t)) (mp) (fun r1 => ?_)
  refine wa_aload_n (n := 0) rfl ?_
  refine wb_gf4 237 rfl (wy_pr rfl) wt_237 wf_15_134 (v := 359) wl_237_134 ?_
  refine wa_aload_n (n := 0) rfl ?_
  refine wb_gfi 237 rfl (wy_pr rfl) wt_237 wf_15_151 (v := t) (mt) (fun r2 => ?_)
  refine wb_iald 359 rfl (wy_pr rfl) wt_359 (n := 2) ((ml_359 hM)) (by omega) (by omega) (v := h) (mh) (fun r3 => ?_)
  refine wa_iadd ?_
  refine wa_ireturn rfl ?_
  show wJ _ _ _ _ _ _ _ _ _ _
  refine wa_iconst ?_
  refine wa_isub ?_
  refine wa_istore_n (n := 3) rfl ?_
  refine wa_iload_n (n := 1) rfl ?_
  refine wb_sw (w_rg0 (by omega) (by omega)) (tb := 12) rfl ⟨_, rfl⟩ ?_
  refine wa_aload_n (n := 0) rfl ?_
  refine wa_iload_n (n := 2) rfl ?_
  refine wa_cv 237 rfl (wy_pr rfl) wt_237 (M2 := fun _ => False) rfl at_M_builtins ⟨_, rfl⟩ rfl rfl ⟨trivial, (Or.inr ⟨wy_pr rfl, fun q => q⟩), trivial, trivial, trivial⟩ trivial (fun _ _ q => False.elim q) ?_ (fun _ _ _ q => q)
  refine wa_aload_n (n := 0) rfl ?_
  refine wa_cv 237 rfl (wy_pr rfl) wt_237 (M2 := fun _ => False) rfl at_M_h ⟨_, rfl⟩ rfl rfl ⟨(Or.inr ⟨wy_pr rfl, fun q => q⟩), trivial, trivial⟩ trivial (fun _ _ q => False.elim q) ?_ (fun _ _ _ q => q)
  refine wa_aload_n (n := 0) rfl ?_
  refine wb_gfi 237 rfl (wy_pr rfl) wt_237 wf_15_152 (v := (2100 * t)) (mp) (fun r4 => ?_)
  refine wa_aload_n (n := 0) rfl ?_
  refine wb_gf4 237 rfl (wy_pr rfl) wt_237 wf_15_134 (v := 359) wl_237_134 ?_
  refine wa_aload_n (n := 0) rfl ?_
  refine wb_gfi 237 rfl (wy_pr rfl) wt_237 wf_15_151 (v := t) (mt) (fun r5 => ?_)
  refine wb_iald 359 rfl (wy_pr rfl) wt_359 (n := 2) ((ml_359 hM)) (by omega) (by omega) (v := h) (mh) (fun r6 => ?_)
  refine wa_iadd ?_
  refine wa_ireturn rfl ?_
  show wJ _ _ _ _ _ _ _ _ _ _
  refine wa_iconst ?_
  refine wa_isub ?_
  refine wa_istore_n (n := 2) rfl ?_
  refine wa_iload_n (n := 2) rfl ?_
  refine wa_iconst ?_
  refine wa_isub ?_
  refine wa_istore_n (n := 3) rfl ?_
  refine wa_iload_n (n := 1) rfl ?_
  refine wb_sw (w_rg0 (by omega) (by omega)) (tb := 2) rfl ⟨_, rfl⟩ ?_
  refine wa_aload_n (n := 0) rfl ?_
  refine wb_gf4 237 rfl (wy_pr rfl) wt_237 wf_15_138 (v := 363) wl_237_138 ?_
  refine wa_iload_n (n := 2) rfl ?_
  refine wb_iald 363 rfl (wy_pr rfl) wt_363 (n := 4200) ((ml_363 hM)) (by omega) (by omega) (v := ky) (hky) (fun r7 => ?_)
  refine wa_ifeq (w_rg0 (by omega) (by omega)) ⟨_, rfl⟩ (fun c8 => ?_) (fun c8 => ?_)
  · skip
    exact absurd c8 (by omega)
  · skip
    refine wa_aload_n (n := 0) rfl ?_
    refine wa_aload_n (n := 0) rfl ?_
    refine wb_gf4 237 rfl (wy_pr rfl) wt_237 wf_15_138 (v := 363) wl_237_138 ?_
    refine wa_iload_n (n := 2) rfl ?_
    refine wb_iald 363 rfl (wy_pr rfl) wt_363 (n := 4200) ((ml_363 hM)) (by omega) (by omega) (v := ky) (hky) (fun r9 => ?_)
    refine wa_cv 237 rfl (wy_pr rfl) wt_237 (M2 := fun _ => False) rfl at_M_hasShape ⟨_, rfl⟩ rfl rfl ⟨trivial, trivial, (Or.inr ⟨wy_pr rfl, fun q => q⟩), trivial, trivial⟩ trivial (fun _ _ q => False.elim q) ?_ (fun _ _ _ q => q)
    refine wa_iload_n (n := 1) rfl ?_
    refine wa_iconst ?_
    refine wa_icmpeq (w_rg0 (by omega) (by omega)) (w_rg0 (by omega) (by omega)) ⟨_, rfl⟩ (fun c10 => ?_) (fun c10 => ?_)
    · skip
      exact absurd c10 (by omega)
    · skip
      refine wa_iload_n (n := 1) rfl ?_
      refine wa_iconst ?_
      refine wa_icmpne (w_rg0 (by omega) (by omega)) (w_rg0 (by omega) (by omega)) ⟨_, rfl⟩ (fun c11 => ?_) (fun c11 => ?_)
      · skip
        refine wa_iconst ?_
        refine wa_fall ⟨_, rfl⟩ ?_
        refine wa_zreturn rfl (Or.inl rfl) ?_
        show wJ _ _ _ _ _ _ _ _ _ _
        refine wa_ifne (w_rg0 (by omega) (by omega)) ⟨_, rfl⟩ (fun c12 => ?_) (fun c12 => ?_)
        · skip
          exact absurd c12 (by omega)
        · skip
          refine wa_aload_n (n := 0) rfl ?_
          refine wa_bipush (w_rg2 (by omega) (by omega)) ?_
          refine wa_cv 237 rfl (wy_pr rfl) wt_237 (M2 := fun _ => False) rfl at_M_error ⟨_, rfl⟩ rfl rfl ⟨trivial, trivial, (Or.inr ⟨wy_pr rfl, fun q => q⟩), trivial, trivial⟩ trivial (fun _ _ q => False.elim q) ?_ (fun _ _ _ q => q)
          refine wa_aload_n (n := 0) rfl ?_
          refine wb_gf4 237 rfl (wy_pr rfl) wt_237 wf_15_1 (v := 238) wl_237_1 ?_
          refine wa_iload_n (n := 1) rfl ?_
          refine wa_iconst ?_
          refine wa_cv 238 rfl (wy_pr rfl) wt_238 (M2 := fun _ => False) rfl at_MH_of ⟨_, rfl⟩ rfl rfl ⟨(Or.inr ⟨wy_pr rfl, fun q => q⟩), trivial, trivial⟩ trivial (fun _ _ q => False.elim q) ?_ (fun _ _ _ q => q)
          refine wa_aload_n (n := 0) rfl ?_
          refine wa_iload_n (n := 1) rfl ?_
          refine wb_pfi 238 rfl (wy_pr rfl) wt_238 wf_11_5 (n := 5) rfl ⟨(by omega), (by omega)⟩ ?_
          refine wa_aload_n (n := 0) rfl ?_
          refine wa_iload_n (n := 2) rfl ?_
          refine wb_pfi 238 rfl (wy_pr rfl) wt_238 wf_11_6 (n := 6) rfl ⟨(by omega), (by omega)⟩ ?_
          refine wa_aload_n (n := 0) rfl ?_
          refine wa_oreturn rfl ?_
          show wJ _ _ _ _ _ _ _ _ _ _
          refine wa_th (j := 238) ?_
          refine ⟨rfl, ?_⟩
          refine ⟨rfl, ?_⟩
          exact ⟨rfl, rfl⟩
      · skip
        exact absurd c11 (by omega)
theorem yb2n {t c p h tp ky q s1 pr : Int} (hP : mP t c p h tp S) (hky : S 363 (2100 * t + h - 1) = ky) (hvy : S 364 (2100 * t + h - 1) = q) (hh1 : 1 ≤ h) (hk45 : ky = 4 ∨ ky = 5) (h28 : S 315 q = s1) (hq1 : 0 ≤ q ∧ q < 8000) (h44 : S 329 s1 = pr) (hs1 : 0 ≤ s1 ∧ s1 < 4001) (hpr : pr = -1) : wJ (pe_GA xs) wY0 M (d + 11) t_M_others ((pe_at t_M_others.bl 0).getD (0, [])).2 [(0, (2, 237)), (1, (0, 28)), (2, (0, 2))] [] S (fun o Z => o = .inl none ∧ w_up (w_up S 363 (2100 * t + h - 1) 0) 364 (2100 * t + h - 1) 0 = Z) := by
  obtain ⟨hM, ⟨mt, mt0, mt1⟩, mp, mf, ⟨mc, mc0, mc1⟩, ⟨mtp, mtq⟩, ⟨mpa, mp0, mp1⟩, mh, mh0, mh1⟩ := id hP
  have hky2 : S 363 (2100 * t + (h - 1)) = ky := by rw [show 2100 * t + (h - 1) = 2100 * t + h - 1 by omega]; exact hky
  have hvy2 : S 364 (2100 * t + (h - 1)) = q := by rw [show 2100 * t + (h - 1) = 2100 * t + h - 1 by omega]; exact hvy
  refine wa_aload_n (n := 0) rfl ?_
  refine wa_cv 237 rfl (wy_pr rfl) wt_237 (M2 := fun _ => False) rfl at_M_h ⟨_, rfl⟩ rfl rfl ⟨(Or.inr ⟨wy_pr rfl, fun q => q⟩), trivial, trivial, trivial⟩ trivial (fun _ _ q => False.elim q) ?_ (fun _ _ _ q => q)
  refine wa_aload_n (n := 0) rfl ?_
  refine wb_gfi 237 rfl (wy_pr rfl) wt_237 wf_15_152 (v := (2100 * t)) (mp) (fun r1 => ?_)
  refine wa_aload_n (n := 0) rfl ?_
  refine wb_gf4 237 rfl (wy_pr rfl) wt_237 wf_15_134 (v := 359) wl_237_134 ?_
  refine wa_aload_n (n := 0) rfl ?_
  refine wb_gfi 237 rfl (wy_pr rfl) wt_237 wf_15_151 (v := t) (mt) (fun r2 => ?_)
  refine wb_iald 359 rfl (wy_pr rfl) wt_359 (n := 2) ((ml_359 hM)) (by omega) (by omega) (v := h) (mh) (fun r3 => ?_)
  refine wa_iadd ?_
  refine wa_ireturn rfl ?_
  show wJ _ _ _ _ _ _ _ _ _ _
  refine wa_iconst ?_
  refine wa_isub ?_
  refine wa_istore_n (n := 3) rfl ?_
  refine wa_iload_n (n := 1) rfl ?_
  refine wb_sw (w_rg0 (by omega) (by omega)) (tb := 12) rfl ⟨_, rfl⟩ ?_
  refine wa_aload_n (n := 0) rfl ?_
  refine wa_iload_n (n := 2) rfl ?_
  refine wa_cv 237 rfl (wy_pr rfl) wt_237 (M2 := fun _ => False) rfl at_M_builtins ⟨_, rfl⟩ rfl rfl ⟨trivial, (Or.inr ⟨wy_pr rfl, fun q => q⟩), trivial, trivial, trivial⟩ trivial (fun _ _ q => False.elim q) ?_ (fun _ _ _ q => q)
  refine wa_aload_n (n := 0) rfl ?_
  refine wa_cv 237 rfl (wy_pr rfl) wt_237 (M2 := fun _ => False) rfl at_M_h ⟨_, rfl⟩ rfl rfl ⟨(Or.inr ⟨wy_pr rfl, fun q => q⟩), trivial, trivial⟩ trivial (fun _ _ q => False.elim q) ?_ (fun _ _ _ q => q)
  refine wa_aload_n (n := 0) rfl ?_
  refine wb_gfi 237 rfl (wy_pr rfl) wt_237 wf_15_152 (v := (2100 * t)) (mp) (fun r4 => ?_)
  refine wa_aload_n (n := 0) rfl ?_
  refine wb_gf4 237 rfl (wy_pr rfl) wt_237 wf_15_134 (v := 359) wl_237_134 ?_
  refine wa_aload_n (n := 0) rfl ?_
  refine wb_gfi 237 rfl (wy_pr rfl) wt_237 wf_15_151 (v := t) (mt) (fun r5 => ?_)
  refine wb_iald 359 rfl (wy_pr rfl) wt_359 (n := 2) ((ml_359 hM)) (by omega) (by omega) (v := h) (mh) (fun r6 => ?_)
  refine wa_iadd ?_
  refine wa_ireturn rfl ?_
  show wJ _ _ _ _ _ _ _ _ _ _
  refine wa_iconst ?_
  refine wa_isub ?_
  refine wa_istore_n (n := 2) rfl ?_
  refine wa_iload_n (n := 2) rfl ?_
  refine wa_iconst ?_
  refine wa_isub ?_
  refine wa_istore_n (n := 3) rfl ?_
  refine wa_iload_n (n := 1) rfl ?_
  refine wb_sw (w_rg0 (by omega) (by omega)) (tb := 6) rfl ⟨_, rfl⟩ ?_
  refine wa_aload_n (n := 0) rfl ?_
  refine wa_aload_n (n := 0) rfl ?_
  refine wb_gf4 237 rfl (wy_pr rfl) wt_237 wf_15_138 (v := 363) wl_237_138 ?_
  refine wa_iload_n (n := 2) rfl ?_
  refine wb_iald 363 rfl (wy_pr rfl) wt_363 (n := 4200) ((ml_363 hM)) (by omega) (by omega) (v := ky) (hky) (fun r7 => ?_)
  refine wa_cv 237 rfl (wy_pr rfl) wt_237 (M2 := fun _ => False) rfl at_M_hasShape ⟨_, rfl⟩ rfl rfl ⟨trivial, trivial, (Or.inr ⟨wy_pr rfl, fun q => q⟩), trivial, trivial⟩ trivial (fun _ _ q => False.elim q) ?_ (fun _ _ _ q => q)
  refine wa_iload_n (n := 1) rfl ?_
  refine wa_iconst ?_
  refine wa_icmpeq (w_rg0 (by omega) (by omega)) (w_rg0 (by omega) (by omega)) ⟨_, rfl⟩ (fun c8 => ?_) (fun c8 => ?_)
  · skip
    refine wa_iconst ?_
    refine wa_goto ⟨_, rfl⟩ ?_
    refine wa_zreturn rfl (Or.inr rfl) ?_
    show wJ _ _ _ _ _ _ _ _ _ _
    refine wa_ifne (w_rg0 (by omega) (by omega)) ⟨_, rfl⟩ (fun c9 => ?_) (fun c9 => ?_)
    · skip
      refine wa_aload_n (n := 0) rfl ?_
      refine wa_iload_n (n := 2) rfl ?_
      refine wa_aload_n (n := 0) rfl ?_
      refine wa_aload_n (n := 0) rfl ?_
      refine wb_gf4 237 rfl (wy_pr rfl) wt_237 wf_15_139 (v := 364) wl_237_139 ?_
      refine wa_iload_n (n := 2) rfl ?_
      refine wb_lald 364 rfl (wy_pr rfl) wt_364 (n := 4200) ((ml_364 hM)) (by omega) (by omega) (v := q) (hvy) (fun r10 => ?_)
      refine wb_l2i_r (wb_l2i_id ⟨(by omega), (by omega)⟩) ?_
      refine wa_cv 237 rfl (wy_pr rfl) wt_237 (M2 := fun _ => False) rfl at_M_protoOf ⟨_, rfl⟩ rfl rfl ⟨trivial, trivial, (Or.inr ⟨wy_pr rfl, fun q => q⟩), trivial, trivial⟩ ⟨trivial, (Or.inr ⟨wy_pr rfl, fun q => q⟩), trivial⟩ (fun _ _ q => False.elim q) ?_ (fun _ _ _ q => q)
      refine wa_aload_n (n := 0) rfl ?_
      refine wb_gf4 237 rfl (wy_pr rfl) wt_237 wf_15_88 (v := 329) wl_237_88 ?_
      refine wa_aload_n (n := 0) rfl ?_
      refine wb_gf4 237 rfl (wy_pr rfl) wt_237 wf_15_71 (v := 315) wl_237_71 ?_
      refine wa_iload_n (n := 1) rfl ?_
      refine wb_iald 315 rfl (wy_pr rfl) wt_315 (n := 8000) ((ml_315 hM)) (by omega) (by omega) (v := s1) (h28) (fun r11 => ?_)
      refine wb_iald 329 rfl (wy_pr rfl) wt_329 (n := 4001) ((ml_329 hM)) (by omega) (by omega) (v := pr) (h44) (fun r12 => ?_)
      refine wa_ireturn rfl ?_
      show wJ _ _ _ _ _ _ _ _ _ _
      refine wa_cv 237 rfl (wy_pr rfl) wt_237 (M2 := fun _ => False) rfl at_M_puts ⟨_, rfl⟩ rfl rfl ⟨trivial, trivial, (Or.inr ⟨wy_pr rfl, fun q => q⟩), trivial, trivial⟩ trivial (fun _ _ q => False.elim q) ?_ (fun _ _ _ q => q)
      refine wa_aload_n (n := 0) rfl ?_
      refine wa_iload_n (n := 1) rfl ?_
      refine wa_iload_n (n := 2) rfl ?_
      refine wa_ifge (w_rg0 (by omega) (by omega)) ⟨_, rfl⟩ (fun c13 => ?_) (fun c13 => ?_)
      · skip
        exact absurd c13 (by omega)
      · skip
        refine wa_iconst ?_
        refine wa_goto ⟨_, rfl⟩ ?_
        refine wa_iload_n (n := 2) rfl ?_
        refine wa_ifge (w_rg0 (by omega) (by omega)) ⟨_, rfl⟩ (fun c14 => ?_) (fun c14 => ?_)
        · skip
          exact absurd c14 (by omega)
        · skip
          refine wb_lconst (m := 0) rfl ?_
          refine wa_goto ⟨_, rfl⟩ ?_
          refine wa_cv 237 rfl (wy_pr rfl) wt_237 (M2 := fun _ => False) rfl at_M_put ⟨_, rfl⟩ rfl rfl ⟨(Or.inr ⟨wy_pr rfl, fun q => q⟩), trivial, trivial, trivial⟩ trivial (fun _ _ q => False.elim q) ?_ (fun _ _ _ q => q)
          refine wa_aload_n (n := 0) rfl ?_
          refine wb_gf4 237 rfl (wy_pr rfl) wt_237 wf_15_138 (v := 363) wl_237_138 ?_
          refine wa_iload_n (n := 1) rfl ?_
          refine wa_iload_n (n := 2) rfl ?_
          refine wb_iast 363 rfl (wy_pr rfl) wt_363 (n := 4200) ((ml_363 hM)) (by omega) (by omega) ⟨(by omega), (by omega)⟩ ?_
          refine wa_aload_n (n := 0) rfl ?_
          refine wb_gf4 237 rfl (wy_pr rfl) wt_237 wf_15_139 (v := 364) wl_237_139 ?_
          refine wa_iload_n (n := 1) rfl ?_
          refine wa_lload_n (n := 3) rfl ?_
          refine wb_last 364 rfl (wy_pr rfl) wt_364 (n := 4200) ((w_up_slot (by decide)).trans ((ml_364 hM))) (by omega) (by omega) ⟨(by omega), (by omega)⟩ ?_
          refine wa_return rfl ?_
          show wJ _ _ _ _ _ _ _ _ _ _
          refine wa_return rfl ?_
          show wJ _ _ _ _ _ _ _ _ _ _
          refine wa_goto ⟨_, rfl⟩ ?_
          refine wa_return rfl ?_
          show wJ _ _ _ _ _ _ _ _ _ _
          refine wa_goto ⟨_, rfl⟩ ?_
          refine wa_return rfl ?_
          exact ⟨rfl, rfl⟩
    · skip
      exact absurd c9 (by omega)
  · skip
    refine wa_iload_n (n := 1) rfl ?_
    refine wa_iconst ?_
    refine wa_icmpne (w_rg0 (by omega) (by omega)) (w_rg0 (by omega) (by omega)) ⟨_, rfl⟩ (fun c15 => ?_) (fun c15 => ?_)
    · skip
      exact absurd c15 (by omega)
    · skip
      refine wa_fall ⟨_, rfl⟩ ?_
      refine wa_iconst ?_
      refine wa_goto ⟨_, rfl⟩ ?_
      refine wa_zreturn rfl (Or.inr rfl) ?_
      show wJ _ _ _ _ _ _ _ _ _ _
      refine wa_ifne (w_rg0 (by omega) (by omega)) ⟨_, rfl⟩ (fun c16 => ?_) (fun c16 => ?_)
      · skip
        refine wa_aload_n (n := 0) rfl ?_
        refine wa_iload_n (n := 2) rfl ?_
        refine wa_aload_n (n := 0) rfl ?_
        refine wa_aload_n (n := 0) rfl ?_
        refine wb_gf4 237 rfl (wy_pr rfl) wt_237 wf_15_139 (v := 364) wl_237_139 ?_
        refine wa_iload_n (n := 2) rfl ?_
        refine wb_lald 364 rfl (wy_pr rfl) wt_364 (n := 4200) ((ml_364 hM)) (by omega) (by omega) (v := q) (hvy) (fun r17 => ?_)
        refine wb_l2i_r (wb_l2i_id ⟨(by omega), (by omega)⟩) ?_
        refine wa_cv 237 rfl (wy_pr rfl) wt_237 (M2 := fun _ => False) rfl at_M_protoOf ⟨_, rfl⟩ rfl rfl ⟨trivial, trivial, (Or.inr ⟨wy_pr rfl, fun q => q⟩), trivial, trivial⟩ ⟨trivial, (Or.inr ⟨wy_pr rfl, fun q => q⟩), trivial⟩ (fun _ _ q => False.elim q) ?_ (fun _ _ _ q => q)
        refine wa_aload_n (n := 0) rfl ?_
        refine wb_gf4 237 rfl (wy_pr rfl) wt_237 wf_15_88 (v := 329) wl_237_88 ?_
        refine wa_aload_n (n := 0) rfl ?_
        refine wb_gf4 237 rfl (wy_pr rfl) wt_237 wf_15_71 (v := 315) wl_237_71 ?_
        refine wa_iload_n (n := 1) rfl ?_
        refine wb_iald 315 rfl (wy_pr rfl) wt_315 (n := 8000) ((ml_315 hM)) (by omega) (by omega) (v := s1) (h28) (fun r18 => ?_)
        refine wb_iald 329 rfl (wy_pr rfl) wt_329 (n := 4001) ((ml_329 hM)) (by omega) (by omega) (v := pr) (h44) (fun r19 => ?_)
        refine wa_ireturn rfl ?_
        show wJ _ _ _ _ _ _ _ _ _ _
        refine wa_cv 237 rfl (wy_pr rfl) wt_237 (M2 := fun _ => False) rfl at_M_puts ⟨_, rfl⟩ rfl rfl ⟨trivial, trivial, (Or.inr ⟨wy_pr rfl, fun q => q⟩), trivial, trivial⟩ trivial (fun _ _ q => False.elim q) ?_ (fun _ _ _ q => q)
        refine wa_aload_n (n := 0) rfl ?_
        refine wa_iload_n (n := 1) rfl ?_
        refine wa_iload_n (n := 2) rfl ?_
        refine wa_ifge (w_rg0 (by omega) (by omega)) ⟨_, rfl⟩ (fun c20 => ?_) (fun c20 => ?_)
        · skip
          exact absurd c20 (by omega)
        · skip
          refine wa_iconst ?_
          refine wa_goto ⟨_, rfl⟩ ?_
          refine wa_iload_n (n := 2) rfl ?_
          refine wa_ifge (w_rg0 (by omega) (by omega)) ⟨_, rfl⟩ (fun c21 => ?_) (fun c21 => ?_)
          · skip
            exact absurd c21 (by omega)
          · skip
            refine wb_lconst (m := 0) rfl ?_
            refine wa_goto ⟨_, rfl⟩ ?_
            refine wa_cv 237 rfl (wy_pr rfl) wt_237 (M2 := fun _ => False) rfl at_M_put ⟨_, rfl⟩ rfl rfl ⟨(Or.inr ⟨wy_pr rfl, fun q => q⟩), trivial, trivial, trivial⟩ trivial (fun _ _ q => False.elim q) ?_ (fun _ _ _ q => q)
            refine wa_aload_n (n := 0) rfl ?_
            refine wb_gf4 237 rfl (wy_pr rfl) wt_237 wf_15_138 (v := 363) wl_237_138 ?_
            refine wa_iload_n (n := 1) rfl ?_
            refine wa_iload_n (n := 2) rfl ?_
            refine wb_iast 363 rfl (wy_pr rfl) wt_363 (n := 4200) ((ml_363 hM)) (by omega) (by omega) ⟨(by omega), (by omega)⟩ ?_
            refine wa_aload_n (n := 0) rfl ?_
            refine wb_gf4 237 rfl (wy_pr rfl) wt_237 wf_15_139 (v := 364) wl_237_139 ?_
            refine wa_iload_n (n := 1) rfl ?_
            refine wa_lload_n (n := 3) rfl ?_
            refine wb_last 364 rfl (wy_pr rfl) wt_364 (n := 4200) ((w_up_slot (by decide)).trans ((ml_364 hM))) (by omega) (by omega) ⟨(by omega), (by omega)⟩ ?_
            refine wa_return rfl ?_
            show wJ _ _ _ _ _ _ _ _ _ _
            refine wa_return rfl ?_
            show wJ _ _ _ _ _ _ _ _ _ _
            refine wa_goto ⟨_, rfl⟩ ?_
            refine wa_return rfl ?_
            show wJ _ _ _ _ _ _ _ _ _ _
            refine wa_goto ⟨_, rfl⟩ ?_
            refine wa_return rfl ?_
            exact ⟨rfl, rfl⟩
      · skip
        exact absurd c16 (by omega)
theorem yb2o {t c p h tp ky q s1 pr kp : Int} (hP : mP t c p h tp S) (hky : S 363 (2100 * t + h - 1) = ky) (hvy : S 364 (2100 * t + h - 1) = q) (hh1 : 1 ≤ h) (hk45 : ky = 4 ∨ ky = 5) (h28 : S 315 q = s1) (hq1 : 0 ≤ q ∧ q < 8000) (h44 : S 329 s1 = pr) (hs1 : 0 ≤ s1 ∧ s1 < 4001) (hpr : 0 ≤ pr ∧ pr < 8000) (hkp : S 314 pr = kp) : wJ (pe_GA xs) wY0 M (d + 11) t_M_others ((pe_at t_M_others.bl 0).getD (0, [])).2 [(0, (2, 237)), (1, (0, 28)), (2, (0, 2))] [] S (fun o Z => o = .inl none ∧ w_up (w_up S 363 (2100 * t + h - 1) kp) 364 (2100 * t + h - 1) pr = Z) := by
  obtain ⟨hM, ⟨mt, mt0, mt1⟩, mp, mf, ⟨mc, mc0, mc1⟩, ⟨mtp, mtq⟩, ⟨mpa, mp0, mp1⟩, mh, mh0, mh1⟩ := id hP
  have hky2 : S 363 (2100 * t + (h - 1)) = ky := by rw [show 2100 * t + (h - 1) = 2100 * t + h - 1 by omega]; exact hky
  have hvy2 : S 364 (2100 * t + (h - 1)) = q := by rw [show 2100 * t + (h - 1) = 2100 * t + h - 1 by omega]; exact hvy
  refine wa_aload_n (n := 0) rfl ?_
  refine wa_cv 237 rfl (wy_pr rfl) wt_237 (M2 := fun _ => False) rfl at_M_h ⟨_, rfl⟩ rfl rfl ⟨(Or.inr ⟨wy_pr rfl, fun q => q⟩), trivial, trivial, trivial⟩ trivial (fun _ _ q => False.elim q) ?_ (fun _ _ _ q => q)
  refine wa_aload_n (n := 0) rfl ?_
  refine wb_gfi 237 rfl (wy_pr rfl) wt_237 wf_15_152 (v := (2100 * t)) (mp) (fun r1 => ?_)
  refine wa_aload_n (n := 0) rfl ?_
  refine wb_gf4 237 rfl (wy_pr rfl) wt_237 wf_15_134 (v := 359) wl_237_134 ?_
  refine wa_aload_n (n := 0) rfl ?_
  refine wb_gfi 237 rfl (wy_pr rfl) wt_237 wf_15_151 (v := t) (mt) (fun r2 => ?_)
  refine wb_iald 359 rfl (wy_pr rfl) wt_359 (n := 2) ((ml_359 hM)) (by omega) (by omega) (v := h) (mh) (fun r3 => ?_)
  refine wa_iadd ?_
  refine wa_ireturn rfl ?_
  show wJ _ _ _ _ _ _ _ _ _ _
  refine wa_iconst ?_
  refine wa_isub ?_
  refine wa_istore_n (n := 3) rfl ?_
  refine wa_iload_n (n := 1) rfl ?_
  refine wb_sw (w_rg0 (by omega) (by omega)) (tb := 12) rfl ⟨_, rfl⟩ ?_
  refine wa_aload_n (n := 0) rfl ?_
  refine wa_iload_n (n := 2) rfl ?_
  refine wa_cv 237 rfl (wy_pr rfl) wt_237 (M2 := fun _ => False) rfl at_M_builtins ⟨_, rfl⟩ rfl rfl ⟨trivial, (Or.inr ⟨wy_pr rfl, fun q => q⟩), trivial, trivial, trivial⟩ trivial (fun _ _ q => False.elim q) ?_ (fun _ _ _ q => q)
  refine wa_aload_n (n := 0) rfl ?_
  refine wa_cv 237 rfl (wy_pr rfl) wt_237 (M2 := fun _ => False) rfl at_M_h ⟨_, rfl⟩ rfl rfl ⟨(Or.inr ⟨wy_pr rfl, fun q => q⟩), trivial, trivial⟩ trivial (fun _ _ q => False.elim q) ?_ (fun _ _ _ q => q)
  refine wa_aload_n (n := 0) rfl ?_
  refine wb_gfi 237 rfl (wy_pr rfl) wt_237 wf_15_152 (v := (2100 * t)) (mp) (fun r4 => ?_)
  refine wa_aload_n (n := 0) rfl ?_
  refine wb_gf4 237 rfl (wy_pr rfl) wt_237 wf_15_134 (v := 359) wl_237_134 ?_
  refine wa_aload_n (n := 0) rfl ?_
  refine wb_gfi 237 rfl (wy_pr rfl) wt_237 wf_15_151 (v := t) (mt) (fun r5 => ?_)
  refine wb_iald 359 rfl (wy_pr rfl) wt_359 (n := 2) ((ml_359 hM)) (by omega) (by omega) (v := h) (mh) (fun r6 => ?_)
  refine wa_iadd ?_
  refine wa_ireturn rfl ?_
  show wJ _ _ _ _ _ _ _ _ _ _
  refine wa_iconst ?_
  refine wa_isub ?_
  refine wa_istore_n (n := 2) rfl ?_
  refine wa_iload_n (n := 2) rfl ?_
  refine wa_iconst ?_
  refine wa_isub ?_
  refine wa_istore_n (n := 3) rfl ?_
  refine wa_iload_n (n := 1) rfl ?_
  refine wb_sw (w_rg0 (by omega) (by omega)) (tb := 6) rfl ⟨_, rfl⟩ ?_
  refine wa_aload_n (n := 0) rfl ?_
  refine wa_aload_n (n := 0) rfl ?_
  refine wb_gf4 237 rfl (wy_pr rfl) wt_237 wf_15_138 (v := 363) wl_237_138 ?_
  refine wa_iload_n (n := 2) rfl ?_
  refine wb_iald 363 rfl (wy_pr rfl) wt_363 (n := 4200) ((ml_363 hM)) (by omega) (by omega) (v := ky) (hky) (fun r7 => ?_)
  refine wa_cv 237 rfl (wy_pr rfl) wt_237 (M2 := fun _ => False) rfl at_M_hasShape ⟨_, rfl⟩ rfl rfl ⟨trivial, trivial, (Or.inr ⟨wy_pr rfl, fun q => q⟩), trivial, trivial⟩ trivial (fun _ _ q => False.elim q) ?_ (fun _ _ _ q => q)
  refine wa_iload_n (n := 1) rfl ?_
  refine wa_iconst ?_
  refine wa_icmpeq (w_rg0 (by omega) (by omega)) (w_rg0 (by omega) (by omega)) ⟨_, rfl⟩ (fun c8 => ?_) (fun c8 => ?_)
  · skip
    refine wa_iconst ?_
    refine wa_goto ⟨_, rfl⟩ ?_
    refine wa_zreturn rfl (Or.inr rfl) ?_
    show wJ _ _ _ _ _ _ _ _ _ _
    refine wa_ifne (w_rg0 (by omega) (by omega)) ⟨_, rfl⟩ (fun c9 => ?_) (fun c9 => ?_)
    · skip
      refine wa_aload_n (n := 0) rfl ?_
      refine wa_iload_n (n := 2) rfl ?_
      refine wa_aload_n (n := 0) rfl ?_
      refine wa_aload_n (n := 0) rfl ?_
      refine wb_gf4 237 rfl (wy_pr rfl) wt_237 wf_15_139 (v := 364) wl_237_139 ?_
      refine wa_iload_n (n := 2) rfl ?_
      refine wb_lald 364 rfl (wy_pr rfl) wt_364 (n := 4200) ((ml_364 hM)) (by omega) (by omega) (v := q) (hvy) (fun r10 => ?_)
      refine wb_l2i_r (wb_l2i_id ⟨(by omega), (by omega)⟩) ?_
      refine wa_cv 237 rfl (wy_pr rfl) wt_237 (M2 := fun _ => False) rfl at_M_protoOf ⟨_, rfl⟩ rfl rfl ⟨trivial, trivial, (Or.inr ⟨wy_pr rfl, fun q => q⟩), trivial, trivial⟩ ⟨trivial, (Or.inr ⟨wy_pr rfl, fun q => q⟩), trivial⟩ (fun _ _ q => False.elim q) ?_ (fun _ _ _ q => q)
      refine wa_aload_n (n := 0) rfl ?_
      refine wb_gf4 237 rfl (wy_pr rfl) wt_237 wf_15_88 (v := 329) wl_237_88 ?_
      refine wa_aload_n (n := 0) rfl ?_
      refine wb_gf4 237 rfl (wy_pr rfl) wt_237 wf_15_71 (v := 315) wl_237_71 ?_
      refine wa_iload_n (n := 1) rfl ?_
      refine wb_iald 315 rfl (wy_pr rfl) wt_315 (n := 8000) ((ml_315 hM)) (by omega) (by omega) (v := s1) (h28) (fun r11 => ?_)
      refine wb_iald 329 rfl (wy_pr rfl) wt_329 (n := 4001) ((ml_329 hM)) (by omega) (by omega) (v := pr) (h44) (fun r12 => ?_)
      refine wa_ireturn rfl ?_
      show wJ _ _ _ _ _ _ _ _ _ _
      refine wa_cv 237 rfl (wy_pr rfl) wt_237 (M2 := fun _ => False) rfl at_M_puts ⟨_, rfl⟩ rfl rfl ⟨trivial, trivial, (Or.inr ⟨wy_pr rfl, fun q => q⟩), trivial, trivial⟩ trivial (fun _ _ q => False.elim q) ?_ (fun _ _ _ q => q)
      refine wa_aload_n (n := 0) rfl ?_
      refine wa_iload_n (n := 1) rfl ?_
      refine wa_iload_n (n := 2) rfl ?_
      refine wa_ifge (w_rg0 (by omega) (by omega)) ⟨_, rfl⟩ (fun c13 => ?_) (fun c13 => ?_)
      · skip
        refine wa_aload_n (n := 0) rfl ?_
        refine wb_gf4 237 rfl (wy_pr rfl) wt_237 wf_15_70 (v := 314) wl_237_70 ?_
        refine wa_iload_n (n := 2) rfl ?_
        refine wb_iald 314 rfl (wy_pr rfl) wt_314 (n := 8000) ((ml_314 hM)) (by omega) (by omega) (v := kp) (hkp) (fun r14 => ?_)
        refine wa_fall ⟨_, rfl⟩ ?_
        refine wa_iload_n (n := 2) rfl ?_
        refine wa_ifge (w_rg0 (by omega) (by omega)) ⟨_, rfl⟩ (fun c15 => ?_) (fun c15 => ?_)
        · skip
          refine wa_iload_n (n := 2) rfl ?_
          refine wa_i2l (w_rg0 (by omega) (by omega)) ?_
          refine wa_fall ⟨_, rfl⟩ ?_
          refine wa_cv 237 rfl (wy_pr rfl) wt_237 (M2 := fun _ => False) rfl at_M_put ⟨_, rfl⟩ rfl rfl ⟨(Or.inr ⟨wy_pr rfl, fun q => q⟩), trivial, trivial, trivial⟩ trivial (fun _ _ q => False.elim q) ?_ (fun _ _ _ q => q)
          refine wa_aload_n (n := 0) rfl ?_
          refine wb_gf4 237 rfl (wy_pr rfl) wt_237 wf_15_138 (v := 363) wl_237_138 ?_
          refine wa_iload_n (n := 1) rfl ?_
          refine wa_iload_n (n := 2) rfl ?_
          refine wb_iast 363 rfl (wy_pr rfl) wt_363 (n := 4200) ((ml_363 hM)) (by omega) (by omega) ⟨(by omega), (by omega)⟩ ?_
          refine wa_aload_n (n := 0) rfl ?_
          refine wb_gf4 237 rfl (wy_pr rfl) wt_237 wf_15_139 (v := 364) wl_237_139 ?_
          refine wa_iload_n (n := 1) rfl ?_
          refine wa_lload_n (n := 3) rfl ?_
          refine wb_last 364 rfl (wy_pr rfl) wt_364 (n := 4200) ((w_up_slot (by decide)).trans ((ml_364 hM))) (by omega) (by omega) ⟨(by omega), (by omega)⟩ ?_
          refine wa_return rfl ?_
          show wJ _ _ _ _ _ _ _ _ _ _
          refine wa_return rfl ?_
          show wJ _ _ _ _ _ _ _ _ _ _
          refine wa_goto ⟨_, rfl⟩ ?_
          refine wa_return rfl ?_
          show wJ _ _ _ _ _ _ _ _ _ _
          refine wa_goto ⟨_, rfl⟩ ?_
          refine wa_return rfl ?_
          exact ⟨rfl, rfl⟩
        · skip
          exact absurd c15 (by omega)
      · skip
        exact absurd c13 (by omega)
    · skip
      exact absurd c9 (by omega)
  · skip
    refine wa_iload_n (n := 1) rfl ?_
    refine wa_iconst ?_
    refine wa_icmpne (w_rg0 (by omega) (by omega)) (w_rg0 (by omega) (by omega)) ⟨_, rfl⟩ (fun c16 => ?_) (fun c16 => ?_)
    · skip
      exact absurd c16 (by omega)
    · skip
      refine wa_fall ⟨_, rfl⟩ ?_
      refine wa_iconst ?_
      refine wa_goto ⟨_, rfl⟩ ?_
      refine wa_zreturn rfl (Or.inr rfl) ?_
      show wJ _ _ _ _ _ _ _ _ _ _
      refine wa_ifne (w_rg0 (by omega) (by omega)) ⟨_, rfl⟩ (fun c17 => ?_) (fun c17 => ?_)
      · skip
        refine wa_aload_n (n := 0) rfl ?_
        refine wa_iload_n (n := 2) rfl ?_
        refine wa_aload_n (n := 0) rfl ?_
        refine wa_aload_n (n := 0) rfl ?_
        refine wb_gf4 237 rfl (wy_pr rfl) wt_237 wf_15_139 (v := 364) wl_237_139 ?_
        refine wa_iload_n (n := 2) rfl ?_
        refine wb_lald 364 rfl (wy_pr rfl) wt_364 (n := 4200) ((ml_364 hM)) (by omega) (by omega) (v := q) (hvy) (fun r18 => ?_)
        refine wb_l2i_r (wb_l2i_id ⟨(by omega), (by omega)⟩) ?_
        refine wa_cv 237 rfl (wy_pr rfl) wt_237 (M2 := fun _ => False) rfl at_M_protoOf ⟨_, rfl⟩ rfl rfl ⟨trivial, trivial, (Or.inr ⟨wy_pr rfl, fun q => q⟩), trivial, trivial⟩ ⟨trivial, (Or.inr ⟨wy_pr rfl, fun q => q⟩), trivial⟩ (fun _ _ q => False.elim q) ?_ (fun _ _ _ q => q)
        refine wa_aload_n (n := 0) rfl ?_
        refine wb_gf4 237 rfl (wy_pr rfl) wt_237 wf_15_88 (v := 329) wl_237_88 ?_
        refine wa_aload_n (n := 0) rfl ?_
        refine wb_gf4 237 rfl (wy_pr rfl) wt_237 wf_15_71 (v := 315) wl_237_71 ?_
        refine wa_iload_n (n := 1) rfl ?_
        refine wb_iald 315 rfl (wy_pr rfl) wt_315 (n := 8000) ((ml_315 hM)) (by omega) (by omega) (v := s1) (h28) (fun r19 => ?_)
        refine wb_iald 329 rfl (wy_pr rfl) wt_329 (n := 4001) ((ml_329 hM)) (by omega) (by omega) (v := pr) (h44) (fun r20 => ?_)
        refine wa_ireturn rfl ?_
        show wJ _ _ _ _ _ _ _ _ _ _
        refine wa_cv 237 rfl (wy_pr rfl) wt_237 (M2 := fun _ => False) rfl at_M_puts ⟨_, rfl⟩ rfl rfl ⟨trivial, trivial, (Or.inr ⟨wy_pr rfl, fun q => q⟩), trivial, trivial⟩ trivial (fun _ _ q => False.elim q) ?_ (fun _ _ _ q => q)
        refine wa_aload_n (n := 0) rfl ?_
        refine wa_iload_n (n := 1) rfl ?_
        refine wa_iload_n (n := 2) rfl ?_
        refine wa_ifge (w_rg0 (by omega) (by omega)) ⟨_, rfl⟩ (fun c21 => ?_) (fun c21 => ?_)
        · skip
          refine wa_aload_n (n := 0) rfl ?_
          refine wb_gf4 237 rfl (wy_pr rfl) wt_237 wf_15_70 (v := 314) wl_237_70 ?_
          refine wa_iload_n (n := 2) rfl ?_
          refine wb_iald 314 rfl (wy_pr rfl) wt_314 (n := 8000) ((ml_314 hM)) (by omega) (by omega) (v := kp) (hkp) (fun r22 => ?_)
          refine wa_fall ⟨_, rfl⟩ ?_
          refine wa_iload_n (n := 2) rfl ?_
          refine wa_ifge (w_rg0 (by omega) (by omega)) ⟨_, rfl⟩ (fun c23 => ?_) (fun c23 => ?_)
          · skip
            refine wa_iload_n (n := 2) rfl ?_
            refine wa_i2l (w_rg0 (by omega) (by omega)) ?_
            refine wa_fall ⟨_, rfl⟩ ?_
            refine wa_cv 237 rfl (wy_pr rfl) wt_237 (M2 := fun _ => False) rfl at_M_put ⟨_, rfl⟩ rfl rfl ⟨(Or.inr ⟨wy_pr rfl, fun q => q⟩), trivial, trivial, trivial⟩ trivial (fun _ _ q => False.elim q) ?_ (fun _ _ _ q => q)
            refine wa_aload_n (n := 0) rfl ?_
            refine wb_gf4 237 rfl (wy_pr rfl) wt_237 wf_15_138 (v := 363) wl_237_138 ?_
            refine wa_iload_n (n := 1) rfl ?_
            refine wa_iload_n (n := 2) rfl ?_
            refine wb_iast 363 rfl (wy_pr rfl) wt_363 (n := 4200) ((ml_363 hM)) (by omega) (by omega) ⟨(by omega), (by omega)⟩ ?_
            refine wa_aload_n (n := 0) rfl ?_
            refine wb_gf4 237 rfl (wy_pr rfl) wt_237 wf_15_139 (v := 364) wl_237_139 ?_
            refine wa_iload_n (n := 1) rfl ?_
            refine wa_lload_n (n := 3) rfl ?_
            refine wb_last 364 rfl (wy_pr rfl) wt_364 (n := 4200) ((w_up_slot (by decide)).trans ((ml_364 hM))) (by omega) (by omega) ⟨(by omega), (by omega)⟩ ?_
            refine wa_return rfl ?_
            show wJ _ _ _ _ _ _ _ _ _ _
            refine wa_return rfl ?_
            show wJ _ _ _ _ _ _ _ _ _ _
            refine wa_goto ⟨_, rfl⟩ ?_
            refine wa_return rfl ?_
            show wJ _ _ _ _ _ _ _ _ _ _
            refine wa_goto ⟨_, rfl⟩ ?_
            refine wa_return rfl ?_
            exact ⟨rfl, rfl⟩
          · skip
            exact absurd c23 (by omega)
        · skip
          exact absurd c21 (by omega)
      · skip
        exact absurd c17 (by omega)
theorem yb2e {t c p h tp ky vy : Int} (hP : mP t c p h tp S) (hky : S 363 (2100 * t + h - 1) = ky) (hvy : S 364 (2100 * t + h - 1) = vy) (hh1 : 1 ≤ h) (hke : ky ≠ 4 ∧ ky ≠ 5) : wJ (pe_GA xs) wY0 M (d + 11) t_M_others ((pe_at t_M_others.bl 0).getD (0, [])).2 [(0, (2, 237)), (1, (0, 28)), (2, (0, 2))] [] S (fun o Z => o = .inr 238 ∧ hZ 12 S = Z) := by
  obtain ⟨hM, ⟨mt, mt0, mt1⟩, mp, mf, ⟨mc, mc0, mc1⟩, ⟨mtp, mtq⟩, ⟨mpa, mp0, mp1⟩, mh, mh0, mh1⟩ := id hP
  have hky2 : S 363 (2100 * t + (h - 1)) = ky := by rw [show 2100 * t + (h - 1) = 2100 * t + h - 1 by omega]; exact hky
  have hvy2 : S 364 (2100 * t + (h - 1)) = vy := by rw [show 2100 * t + (h - 1) = 2100 * t + h - 1 by omega]; exact hvy
  refine wa_aload_n (n := 0) rfl ?_
  refine wa_cv 237 rfl (wy_pr rfl) wt_237 (M2 := fun _ => False) rfl at_M_h ⟨_, rfl⟩ rfl rfl ⟨(Or.inr ⟨wy_pr rfl, fun q => q⟩), trivial, trivial, trivial⟩ trivial (fun _ _ q => False.elim q) ?_ (fun _ _ _ q => q)
  refine wa_aload_n (n := 0) rfl ?_
  refine wb_gfi 237 rfl (wy_pr rfl) wt_237 wf_15_152 (v := (2100 * t)) (mp) (fun r1 => ?_)
  refine wa_aload_n (n := 0) rfl ?_
  refine wb_gf4 237 rfl (wy_pr rfl) wt_237 wf_15_134 (v := 359) wl_237_134 ?_
  refine wa_aload_n (n := 0) rfl ?_
  refine wb_gfi 237 rfl (wy_pr rfl) wt_237 wf_15_151 (v := t) (mt) (fun r2 => ?_)
  refine wb_iald 359 rfl (wy_pr rfl) wt_359 (n := 2) ((ml_359 hM)) (by omega) (by omega) (v := h) (mh) (fun r3 => ?_)
  refine wa_iadd ?_
  refine wa_ireturn rfl ?_
  show wJ _ _ _ _ _ _ _ _ _ _
  refine wa_iconst ?_
  refine wa_isub ?_
  refine wa_istore_n (n := 3) rfl ?_
  refine wa_iload_n (n := 1) rfl ?_
  refine wb_sw (w_rg0 (by omega) (by omega)) (tb := 12) rfl ⟨_, rfl⟩ ?_
  refine wa_aload_n (n := 0) rfl ?_
  refine wa_iload_n (n := 2) rfl ?_
  refine wa_cv 237 rfl (wy_pr rfl) wt_237 (M2 := fun _ => False) rfl at_M_builtins ⟨_, rfl⟩ rfl rfl ⟨trivial, (Or.inr ⟨wy_pr rfl, fun q => q⟩), trivial, trivial, trivial⟩ trivial (fun _ _ q => False.elim q) ?_ (fun _ _ _ q => q)
  refine wa_aload_n (n := 0) rfl ?_
  refine wa_cv 237 rfl (wy_pr rfl) wt_237 (M2 := fun _ => False) rfl at_M_h ⟨_, rfl⟩ rfl rfl ⟨(Or.inr ⟨wy_pr rfl, fun q => q⟩), trivial, trivial⟩ trivial (fun _ _ q => False.elim q) ?_ (fun _ _ _ q => q)
  refine wa_aload_n (n := 0) rfl ?_
  refine wb_gfi 237 rfl (wy_pr rfl) wt_237 wf_15_152 (v := (2100 * t)) (mp) (fun r4 => ?_)
  refine wa_aload_n (n := 0) rfl ?_
  refine wb_gf4 237 rfl (wy_pr rfl) wt_237 wf_15_134 (v := 359) wl_237_134 ?_
  refine wa_aload_n (n := 0) rfl ?_
  refine wb_gfi 237 rfl (wy_pr rfl) wt_237 wf_15_151 (v := t) (mt) (fun r5 => ?_)
  refine wb_iald 359 rfl (wy_pr rfl) wt_359 (n := 2) ((ml_359 hM)) (by omega) (by omega) (v := h) (mh) (fun r6 => ?_)
  refine wa_iadd ?_
  refine wa_ireturn rfl ?_
  show wJ _ _ _ _ _ _ _ _ _ _
  refine wa_iconst ?_
  refine wa_isub ?_
  refine wa_istore_n (n := 2) rfl ?_
  refine wa_iload_n (n := 2) rfl ?_
  refine wa_iconst ?_
  refine wa_isub ?_
  refine wa_istore_n (n := 3) rfl ?_
  refine wa_iload_n (n := 1) rfl ?_
  refine wb_sw (w_rg0 (by omega) (by omega)) (tb := 6) rfl ⟨_, rfl⟩ ?_
  refine wa_aload_n (n := 0) rfl ?_
  refine wa_aload_n (n := 0) rfl ?_
  refine wb_gf4 237 rfl (wy_pr rfl) wt_237 wf_15_138 (v := 363) wl_237_138 ?_
  refine wa_iload_n (n := 2) rfl ?_
  refine wb_iald 363 rfl (wy_pr rfl) wt_363 (n := 4200) ((ml_363 hM)) (by omega) (by omega) (v := ky) (hky) (fun r7 => ?_)
  refine wa_cv 237 rfl (wy_pr rfl) wt_237 (M2 := fun _ => False) rfl at_M_hasShape ⟨_, rfl⟩ rfl rfl ⟨trivial, trivial, (Or.inr ⟨wy_pr rfl, fun q => q⟩), trivial, trivial⟩ trivial (fun _ _ q => False.elim q) ?_ (fun _ _ _ q => q)
  refine wa_iload_n (n := 1) rfl ?_
  refine wa_iconst ?_
  refine wa_icmpeq (w_rg0 (by omega) (by omega)) (w_rg0 (by omega) (by omega)) ⟨_, rfl⟩ (fun c8 => ?_) (fun c8 => ?_)
  · skip
    exact absurd c8 (by omega)
  · skip
    refine wa_iload_n (n := 1) rfl ?_
    refine wa_iconst ?_
    refine wa_icmpne (w_rg0 (by omega) (by omega)) (w_rg0 (by omega) (by omega)) ⟨_, rfl⟩ (fun c9 => ?_) (fun c9 => ?_)
    · skip
      refine wa_iconst ?_
      refine wa_fall ⟨_, rfl⟩ ?_
      refine wa_zreturn rfl (Or.inl rfl) ?_
      show wJ _ _ _ _ _ _ _ _ _ _
      refine wa_ifne (w_rg0 (by omega) (by omega)) ⟨_, rfl⟩ (fun c10 => ?_) (fun c10 => ?_)
      · skip
        exact absurd c10 (by omega)
      · skip
        refine wa_aload_n (n := 0) rfl ?_
        refine wa_bipush (w_rg2 (by omega) (by omega)) ?_
        refine wa_cv 237 rfl (wy_pr rfl) wt_237 (M2 := fun _ => False) rfl at_M_error ⟨_, rfl⟩ rfl rfl ⟨trivial, trivial, (Or.inr ⟨wy_pr rfl, fun q => q⟩), trivial, trivial⟩ trivial (fun _ _ q => False.elim q) ?_ (fun _ _ _ q => q)
        refine wa_aload_n (n := 0) rfl ?_
        refine wb_gf4 237 rfl (wy_pr rfl) wt_237 wf_15_1 (v := 238) wl_237_1 ?_
        refine wa_iload_n (n := 1) rfl ?_
        refine wa_iconst ?_
        refine wa_cv 238 rfl (wy_pr rfl) wt_238 (M2 := fun _ => False) rfl at_MH_of ⟨_, rfl⟩ rfl rfl ⟨(Or.inr ⟨wy_pr rfl, fun q => q⟩), trivial, trivial⟩ trivial (fun _ _ q => False.elim q) ?_ (fun _ _ _ q => q)
        refine wa_aload_n (n := 0) rfl ?_
        refine wa_iload_n (n := 1) rfl ?_
        refine wb_pfi 238 rfl (wy_pr rfl) wt_238 wf_11_5 (n := 5) rfl ⟨(by omega), (by omega)⟩ ?_
        refine wa_aload_n (n := 0) rfl ?_
        refine wa_iload_n (n := 2) rfl ?_
        refine wb_pfi 238 rfl (wy_pr rfl) wt_238 wf_11_6 (n := 6) rfl ⟨(by omega), (by omega)⟩ ?_
        refine wa_aload_n (n := 0) rfl ?_
        refine wa_oreturn rfl ?_
        show wJ _ _ _ _ _ _ _ _ _ _
        refine wa_th (j := 238) ?_
        refine ⟨rfl, ?_⟩
        refine ⟨rfl, ?_⟩
        exact ⟨rfl, rfl⟩
    · skip
      exact absurd c9 (by omega)
end Wfa
