/-! PART f2: the reference's list. -/
section Wf2
variable {xs : List (Nat × List Int32)} {M : Nat → Prop} {d : Nat} {S Z A B : wS} {Q : wO → wS → Prop}
/-- while the values of a list come -/
def rvI (t n sz s0 v0 hh i : Int) (S : wS) : Prop := w_ML S ∧ (S 237 151 = t ∧ 0 ≤ t ∧ t ≤ 1) ∧ S 237 152 = 2100 * t ∧ (S 359 t = hh ∧ 0 ≤ hh ∧ hh + sz ≤ 2001) ∧ (S 237 82 = s0 + i ∧ 0 ≤ s0 ∧ s0 + sz ≤ 60000) ∧ (S 237 63 = v0 + i ∧ 0 ≤ v0 ∧ v0 + sz ≤ 60000) ∧ (0 ≤ n ∧ n < 8000) ∧ S 317 n = i ∧ (i ≠ 0 → 0 ≤ S 318 n ∧ S 318 n < 60000)
theorem as_ml {th nm ty va s nn la : Int} (hM : w_ML S) (h : as_f th nm ty va s nn la S Z) (hs : 0 ≤ s) (ht : 0 ≤ th) (hl : nn = 0 ∨ 0 ≤ la) : w_ML Z := fun q hq => (h.2.2.2 q.1 (-1) (Or.inr (by decide)) (Or.inr (by omega)) (by omega) (Or.inr (by omega))).trans (hM q hq)
theorem rvI_s {t n sz s0 v0 hh i ty va : Int} (h : rvI t n sz s0 v0 hh i S) (hi : 0 ≤ i ∧ i < sz) (r : as_f n (-1) ty va (S 237 82) (S 317 n) (S 318 n) S Z) : rvI t n sz s0 v0 hh (i + 1) Z := by
  obtain ⟨hM, ⟨t1, t2, t3⟩, p1, ⟨h1, h2, h3⟩, ⟨s1, s2, s3⟩, ⟨v1, v2, v3⟩, ⟨n1, n2⟩, c1, c2⟩ := h
  obtain ⟨⟨a1, a2⟩, -, ⟨b1, b2, -, -⟩, fr⟩ := id r
  have es : ∀ (j : Nat) (x : Int), (j ≠ 237 ∨ (x ≠ 82 ∧ x ≠ 63)) → (j < 314 ∨ 328 < j) → Z j x = S j x := fun j x j0 j1 => fr j x j0 (by omega) (by omega) (by omega)
  refine ⟨as_ml hM r (by omega) n1 (by omega), ⟨(es 237 151 (by decide) (by decide)).trans t1, t2, t3⟩, (es 237 152 (by decide) (by decide)).trans p1, ⟨(es 359 t (by omega) (by omega)).trans h1, h2, h3⟩, ⟨by omega, s2, s3⟩, ⟨by omega, v2, v3⟩, ⟨n1, n2⟩, by omega, fun _ => by omega⟩
theorem rl_c {t n sz s0 v0 hh : Int} : ∀ (r : Nat) (i : Int) (S : wS), i + (r : Int) = sz → 0 ≤ i → rvI t n sz s0 v0 hh i S → (∀ Z : wS, asL n (2100 * t + hh) r i S Z → rvI t n sz s0 v0 hh sz Z → wJ (pe_GA xs) wY0 M (d + 2) t_M_list ((pe_at t_M_list.bl 5).getD (0, [])).2 [(0, (2, 237)), (1, (0, sz)), (2, (0, n)), (3, (0, sz))] [] Z Q) → wJ (pe_GA xs) wY0 M (d + 2) t_M_list ((pe_at t_M_list.bl 4).getD (0, [])).2 [(0, (2, 237)), (1, (0, sz)), (2, (0, n)), (3, (0, i))] [] S Q := by
  intro r
  induction r with
  | zero =>
    intro i S h1 h2 hv hk
    have hiv : i = sz := by omega
    obtain ⟨-, -, -, ⟨-, hv1, hv2⟩, -⟩ := id hv
    refine wa_iload_n (n := 3) rfl ?_
    refine wa_iload_n (n := 1) rfl ?_
    refine wa_icmpge (w_rg0 (by omega) (by omega)) (w_rg0 (by omega) (by omega)) ⟨_, rfl⟩ (fun c1 => ?_) (fun c1 => ?_)
    · skip
      subst hiv
      exact wJ_S (hk S rfl hv) ⟨rfl, rfl, rfl, rfl, trivial⟩
    · skip
      exfalso; omega
  | succ r ih =>
    intro i S h1 h2 hv hk
    obtain ⟨hM, ⟨t1, t2, t3⟩, p1, ⟨g1, g2, g3⟩, ⟨s1, s2, s3⟩, ⟨v1, v2, v3⟩, ⟨n1, n2⟩, c1, c2⟩ := id hv
    refine wa_iload_n (n := 3) rfl ?_
    refine wa_iload_n (n := 1) rfl ?_
    refine wa_icmpge (w_rg0 (by omega) (by omega)) (w_rg0 (by omega) (by omega)) ⟨_, rfl⟩ (fun c301 => ?_) (fun c301 => ?_)
    · skip
      exfalso; omega
    · skip
      refine wa_aload_n (n := 0) rfl ?_
      refine wa_iload_n (n := 2) rfl ?_
      refine wa_iconst ?_
      refine wa_aload_n (n := 0) rfl ?_
      refine wb_gf4 237 rfl (wy_pr rfl) wt_237 wf_15_138 (v := 363) wl_237_138 ?_
      refine wa_aload_n (n := 0) rfl ?_
      refine wa_cv 237 rfl (wy_pr rfl) wt_237 (M2 := fun _ => False) rfl at_M_h ⟨_, rfl⟩ rfl rfl ⟨(Or.inr ⟨wy_pr rfl, fun q => q⟩), trivial, trivial, trivial, trivial⟩ ⟨(Or.inr ⟨wy_pr rfl, fun q => q⟩), trivial, trivial, (Or.inr ⟨wy_pr rfl, fun q => q⟩), trivial⟩ (fun _ _ q => False.elim q) ?_ (fun _ _ _ q => q)
      refine wa_aload_n (n := 0) rfl ?_
      refine wb_gfi 237 rfl (wy_pr rfl) wt_237 wf_15_152 (v := (2100 * t)) (p1) (fun r302 => ?_)
      refine wa_aload_n (n := 0) rfl ?_
      refine wb_gf4 237 rfl (wy_pr rfl) wt_237 wf_15_134 (v := 359) wl_237_134 ?_
      refine wa_aload_n (n := 0) rfl ?_
      refine wb_gfi 237 rfl (wy_pr rfl) wt_237 wf_15_151 (v := t) (t1) (fun r303 => ?_)
      refine wb_iald 359 rfl (wy_pr rfl) wt_359 (n := 2) ((ml_359 hM)) (by omega) (by omega) (v := hh) (g1) (fun r304 => ?_)
      refine wa_iadd ?_
      refine wa_ireturn rfl ?_
      show wJ _ _ _ _ _ _ _ _ _ _
      refine wa_iload_n (n := 3) rfl ?_
      refine wa_iadd ?_
      refine wb_iald 363 rfl (wy_pr rfl) wt_363 (n := 4200) ((ml_363 hM)) (by omega) (by omega) (v := (S 363 (((2100 * t) + hh) + i))) rfl (fun r305 => ?_)
      refine wa_aload_n (n := 0) rfl ?_
      refine wb_gf4 237 rfl (wy_pr rfl) wt_237 wf_15_139 (v := 364) wl_237_139 ?_
      refine wa_aload_n (n := 0) rfl ?_
      refine wa_cv 237 rfl (wy_pr rfl) wt_237 (M2 := fun _ => False) rfl at_M_h ⟨_, rfl⟩ rfl rfl ⟨(Or.inr ⟨wy_pr rfl, fun q => q⟩), trivial, trivial, trivial, trivial⟩ ⟨(Or.inr ⟨wy_pr rfl, fun q => q⟩), trivial, trivial, trivial, (Or.inr ⟨wy_pr rfl, fun q => q⟩), trivial⟩ (fun _ _ q => False.elim q) ?_ (fun _ _ _ q => q)
      refine wa_aload_n (n := 0) rfl ?_
      refine wb_gfi 237 rfl (wy_pr rfl) wt_237 wf_15_152 (v := (2100 * t)) (p1) (fun r306 => ?_)
      refine wa_aload_n (n := 0) rfl ?_
      refine wb_gf4 237 rfl (wy_pr rfl) wt_237 wf_15_134 (v := 359) wl_237_134 ?_
      refine wa_aload_n (n := 0) rfl ?_
      refine wb_gfi 237 rfl (wy_pr rfl) wt_237 wf_15_151 (v := t) (t1) (fun r307 => ?_)
      refine wb_iald 359 rfl (wy_pr rfl) wt_359 (n := 2) ((ml_359 hM)) (by omega) (by omega) (v := hh) (g1) (fun r308 => ?_)
      refine wa_iadd ?_
      refine wa_ireturn rfl ?_
      show wJ _ _ _ _ _ _ _ _ _ _
      refine wa_iload_n (n := 3) rfl ?_
      refine wa_iadd ?_
      refine wb_lald 364 rfl (wy_pr rfl) wt_364 (n := 4200) ((ml_364 hM)) (by omega) (by omega) (v := (S 364 (((2100 * t) + hh) + i))) rfl (fun r309 => ?_)
      refine wa_cv 237 rfl (wy_pr rfl) wt_237 (M2 := fun _ => False) rfl at_M_addSlot ⟨_, rfl⟩ rfl rfl ⟨(Or.inr ⟨wy_pr rfl, fun q => q⟩), trivial, trivial, trivial, trivial⟩ trivial (fun _ _ q => False.elim q) (adM_ok (S := S) (th := n) (nm := -1) (ty := (S 363 (((2100 * t) + hh) + i))) (va := (S 364 (((2100 * t) + hh) + i))) (s := S 237 82) (v0 := S 237 63) (n := S 317 n) (la := S 318 n) hM ⟨by omega, by omega⟩ rfl ⟨by omega, by omega⟩ rfl ⟨by omega, by omega⟩ rfl ⟨by omega, by omega⟩ rfl (fun q => c2 (by omega)) (by decide) ⟨by omega, by omega⟩ ⟨by omega, by omega⟩) (fun oq310 Sq310 hp311 q310 => ?_)
      rcases q310 with ⟨rfl, rfl⟩
      show wJ _ _ _ _ _ _ _ _ _ _
      refine wa_iinc rfl rfl ?_
      refine wa_goto ⟨_, rfl⟩ ?_
      exact wJ_S (ih (i + 1) _ (by omega) (by omega) (rvI_s hv (by omega) (as_fz rfl)) (fun Z hz hzi => hk Z ⟨_, as_fz rfl, hz⟩ hzi)) ⟨rfl, rfl, rfl, rfl, trivial⟩
theorem li_m {t c p h tp a n u0 s0 v0 : Int} (hP : mP t c p h tp S) (hn : S 237 68 = n) (hn1 : 0 ≤ n ∧ n ≤ u0) (hu0 : S 237 62 = u0) (hu1 : 0 ≤ u0 ∧ u0 ≤ 8000) (hs : S 237 82 = s0) (hv : S 237 63 = v0) (hs1 : 0 ≤ s0 ∧ s0 ≤ v0 ∧ v0 ≤ 60000) (ha : 0 ≤ a ∧ a ≤ h) : wJ (pe_GA xs) wY0 M (d + 10) t_M_list ((pe_at t_M_list.bl 0).getD (0, [])).2 [(0, (2, 237)), (1, (0, a))] [] S (fun o Z => (a = 0 ∧ 2000 ≤ h ∧ o = .inr 238 ∧ hZ 11 S = Z) ∨ (¬ (a = 0 ∧ 2000 ≤ h) ∧ ¬ (u0 < 8000 ∧ v0 + a ≤ 60000) ∧ o = .inr 238 ∧ hZ 99 S = Z) ∨ (¬ (a = 0 ∧ 2000 ≤ h) ∧ (u0 < 8000 ∧ v0 + a ≤ 60000) ∧ o = .inl none ∧ ∃ B : wS, asL n (2100 * t + (h - a)) a.toNat 0 (w_up (ntZ 6 n u0 S) 359 t (h - a)) B ∧ rvI t n a s0 v0 (h - a) a B ∧ pUZ t (h - a) 6 n B = Z)) := by
  have hPP := hP
  obtain ⟨hM, ⟨mt, mt0, mt1⟩, mp, mf, ⟨mc, mc0, mc1⟩, ⟨mtp, mtq⟩, ⟨mpa, mp0, mp1⟩, mh, mh0, mh1⟩ := hP
  refine wa_iload_n (n := 1) rfl ?_
  refine wa_ifne (w_rg0 (by omega) (by omega)) ⟨_, rfl⟩ (fun c1 => ?_) (fun c1 => ?_)
  · skip
    refine wa_aload_n (n := 0) rfl ?_
    refine wa_aload_n (n := 0) rfl ?_
    refine wa_iconst ?_
    refine wa_cv 237 rfl (wy_pr rfl) wt_237 (M2 := fun _ => False) rfl at_M_hasRoomFor ⟨_, rfl⟩ rfl rfl ⟨(Or.inr ⟨wy_pr rfl, fun q => q⟩), trivial, trivial⟩ ⟨(Or.inr ⟨wy_pr rfl, fun q => q⟩), trivial⟩ (fun _ _ q => False.elim q) ?_ (fun _ _ _ q => q)
    refine wa_aload_n (n := 0) rfl ?_
    refine wb_gfi 237 rfl (wy_pr rfl) wt_237 wf_15_62 (v := u0) (hu0) (fun r2 => ?_)
    refine wa_iload_n (n := 1) rfl ?_
    refine wa_iadd ?_
    refine wa_sipush (by omega) ?_
    refine wa_icmpgt (w_rg0 (by omega) (by omega)) (w_rg0 (by omega) (by omega)) ⟨_, rfl⟩ (fun c3 => ?_) (fun c3 => ?_)
    · skip
      refine wa_iconst ?_
      refine wa_fall ⟨_, rfl⟩ ?_
      refine wa_zreturn rfl (Or.inl rfl) ?_
      show wJ _ _ _ _ _ _ _ _ _ _
      refine wa_ifeq (w_rg0 (by omega) (by omega)) ⟨_, rfl⟩ (fun c4 => ?_) (fun c4 => ?_)
      · skip
        refine wa_iconst ?_
        refine wa_fall ⟨_, rfl⟩ ?_
        refine wa_cv 237 rfl (wy_pr rfl) wt_237 (M2 := fun _ => False) rfl at_M_room ⟨_, rfl⟩ rfl rfl ⟨(Or.inr ⟨wy_pr rfl, fun q => q⟩), trivial, trivial⟩ trivial (fun _ _ q => False.elim q) ?_ (fun _ _ _ q => q)
        refine wa_iload_n (n := 1) rfl ?_
        refine wa_ifne (w_rg0 (by omega) (by omega)) ⟨_, rfl⟩ (fun c5 => ?_) (fun c5 => ?_)
        · skip
          exact absurd c5 (by omega)
        · skip
          refine wa_aload_n (n := 0) rfl ?_
          refine wb_gf4 237 rfl (wy_pr rfl) wt_237 wf_15_1 (v := 238) wl_237_1 ?_
          refine wa_bipush (w_rg2 (by omega) (by omega)) ?_
          refine wa_iconst ?_
          refine wa_cv 238 rfl (wy_pr rfl) wt_238 (M2 := fun _ => False) rfl at_MH_of ⟨_, rfl⟩ rfl rfl ⟨(Or.inr ⟨wy_pr rfl, fun q => q⟩), trivial, trivial⟩ trivial (fun _ _ q => False.elim q) ?_ (fun _ _ _ q => q)
          refine wa_aload_n (n := 0) rfl ?_
          refine wa_iload_n (n := 1) rfl ?_
          refine wb_pfi 238 rfl (wy_pr rfl) wt_238 wf_11_5 (n := 5) rfl ⟨(by omega), (by omega)⟩ ?_
          refine wa_aload_n (n := 0) rfl ?_
          refine wa_iload_n (n := 2) rfl ?_
          refine wb_pfi 238 rfl (wy_pr rfl) wt_238 wf_11_6 (n := 6) rfl ⟨(by omega), (by omega)⟩ ?_
          refine wa_aload_n (n := 0) rfl ?_
          refine wa_oreturn rfl ?_
          show wJ _ _ _ _ _ _ _ _ _ _
          refine wa_th (j := 238) ?_
          refine ⟨rfl, ?_⟩
          exact Or.inr (Or.inl ⟨by omega, by omega, rfl, rfl⟩)
      · skip
        exact absurd c4 (by omega)
    · skip
      refine wa_iconst ?_
      refine wa_goto ⟨_, rfl⟩ ?_
      refine wa_zreturn rfl (Or.inr rfl) ?_
      show wJ _ _ _ _ _ _ _ _ _ _
      refine wa_ifeq (w_rg0 (by omega) (by omega)) ⟨_, rfl⟩ (fun c6 => ?_) (fun c6 => ?_)
      · skip
        exact absurd c6 (by omega)
      · skip
        refine wa_aload_n (n := 0) rfl ?_
        refine wb_gfi 237 rfl (wy_pr rfl) wt_237 wf_15_63 (v := v0) (hv) (fun r7 => ?_)
        refine wa_iload_n (n := 1) rfl ?_
        refine wa_iadd ?_
        refine wb_ki (n := 60000) rfl ?_
        refine wa_icmpgt (w_rg0 (by omega) (by omega)) (w_rg0 (by omega) (by omega)) ⟨_, rfl⟩ (fun c8 => ?_) (fun c8 => ?_)
        · skip
          refine wa_iconst ?_
          refine wa_fall ⟨_, rfl⟩ ?_
          refine wa_cv 237 rfl (wy_pr rfl) wt_237 (M2 := fun _ => False) rfl at_M_room ⟨_, rfl⟩ rfl rfl ⟨(Or.inr ⟨wy_pr rfl, fun q => q⟩), trivial, trivial⟩ trivial (fun _ _ q => False.elim q) ?_ (fun _ _ _ q => q)
          refine wa_iload_n (n := 1) rfl ?_
          refine wa_ifne (w_rg0 (by omega) (by omega)) ⟨_, rfl⟩ (fun c9 => ?_) (fun c9 => ?_)
          · skip
            exact absurd c9 (by omega)
          · skip
            refine wa_aload_n (n := 0) rfl ?_
            refine wb_gf4 237 rfl (wy_pr rfl) wt_237 wf_15_1 (v := 238) wl_237_1 ?_
            refine wa_bipush (w_rg2 (by omega) (by omega)) ?_
            refine wa_iconst ?_
            refine wa_cv 238 rfl (wy_pr rfl) wt_238 (M2 := fun _ => False) rfl at_MH_of ⟨_, rfl⟩ rfl rfl ⟨(Or.inr ⟨wy_pr rfl, fun q => q⟩), trivial, trivial⟩ trivial (fun _ _ q => False.elim q) ?_ (fun _ _ _ q => q)
            refine wa_aload_n (n := 0) rfl ?_
            refine wa_iload_n (n := 1) rfl ?_
            refine wb_pfi 238 rfl (wy_pr rfl) wt_238 wf_11_5 (n := 5) rfl ⟨(by omega), (by omega)⟩ ?_
            refine wa_aload_n (n := 0) rfl ?_
            refine wa_iload_n (n := 2) rfl ?_
            refine wb_pfi 238 rfl (wy_pr rfl) wt_238 wf_11_6 (n := 6) rfl ⟨(by omega), (by omega)⟩ ?_
            refine wa_aload_n (n := 0) rfl ?_
            refine wa_oreturn rfl ?_
            show wJ _ _ _ _ _ _ _ _ _ _
            refine wa_th (j := 238) ?_
            refine ⟨rfl, ?_⟩
            exact Or.inr (Or.inl ⟨by omega, by omega, rfl, rfl⟩)
        · skip
          refine wa_iconst ?_
          refine wa_goto ⟨_, rfl⟩ ?_
          refine wa_cv 237 rfl (wy_pr rfl) wt_237 (M2 := fun _ => False) rfl at_M_room ⟨_, rfl⟩ rfl rfl ⟨(Or.inr ⟨wy_pr rfl, fun q => q⟩), trivial, trivial⟩ trivial (fun _ _ q => False.elim q) ?_ (fun _ _ _ q => q)
          refine wa_iload_n (n := 1) rfl ?_
          refine wa_ifne (w_rg0 (by omega) (by omega)) ⟨_, rfl⟩ (fun c10 => ?_) (fun c10 => ?_)
          · skip
            refine wa_return rfl ?_
            show wJ _ _ _ _ _ _ _ _ _ _
            refine wa_aload_n (n := 0) rfl ?_
            refine wa_bipush (w_rg2 (by omega) (by omega)) ?_
            refine wa_cv 237 rfl (wy_pr rfl) wt_237 (M2 := fun _ => False) rfl at_M_newThing ⟨_, rfl⟩ rfl rfl ⟨(Or.inr ⟨wy_pr rfl, fun q => q⟩), trivial, trivial⟩ trivial (fun _ _ q => False.elim q) ?_ (fun _ _ _ q => q)
            refine wa_aload_n (n := 0) rfl ?_
            refine wb_gfi 237 rfl (wy_pr rfl) wt_237 wf_15_68 (v := n) (hn) (fun r11 => ?_)
            refine wa_istore_n (n := 2) rfl ?_
            refine wa_aload_n (n := 0) rfl ?_
            refine wb_gf4 237 rfl (wy_pr rfl) wt_237 wf_15_70 (v := 314) wl_237_70 ?_
            refine wa_iload_n (n := 2) rfl ?_
            refine wa_iload_n (n := 1) rfl ?_
            refine wb_iast 314 rfl (wy_pr rfl) wt_314 (n := 8000) ((ml_314 hM)) (by omega) (by omega) ⟨(by omega), (by omega)⟩ ?_
            refine wa_aload_n (n := 0) rfl ?_
            refine wb_gf4 237 rfl (wy_pr rfl) wt_237 wf_15_71 (v := 315) wl_237_71 ?_
            refine wa_iload_n (n := 2) rfl ?_
            refine wa_iconst ?_
            refine wb_iast 315 rfl (wy_pr rfl) wt_315 (n := 8000) ((w_up_slot (by decide)).trans ((ml_315 hM))) (by omega) (by omega) ⟨(by omega), (by omega)⟩ ?_
            refine wa_aload_n (n := 0) rfl ?_
            refine wb_gf4 237 rfl (wy_pr rfl) wt_237 wf_15_72 (v := 316) wl_237_72 ?_
            refine wa_iload_n (n := 2) rfl ?_
            refine wa_iconst ?_
            refine wb_iast 316 rfl (wy_pr rfl) wt_316 (n := 8000) ((w_up_slot (by decide)).trans ((w_up_slot (by decide)).trans ((ml_316 hM)))) (by omega) (by omega) ⟨(by omega), (by omega)⟩ ?_
            refine wa_aload_n (n := 0) rfl ?_
            refine wb_gf4 237 rfl (wy_pr rfl) wt_237 wf_15_73 (v := 317) wl_237_73 ?_
            refine wa_iload_n (n := 2) rfl ?_
            refine wa_iconst ?_
            refine wb_iast 317 rfl (wy_pr rfl) wt_317 (n := 8000) ((w_up_slot (by decide)).trans ((w_up_slot (by decide)).trans ((w_up_slot (by decide)).trans ((ml_317 hM))))) (by omega) (by omega) ⟨(by omega), (by omega)⟩ ?_
            refine wa_aload_n (n := 0) rfl ?_
            refine wb_gf4 237 rfl (wy_pr rfl) wt_237 wf_15_75 (v := 319) wl_237_75 ?_
            refine wa_iload_n (n := 2) rfl ?_
            refine wa_iconst ?_
            refine wb_iast 319 rfl (wy_pr rfl) wt_319 (n := 8000) ((w_up_slot (by decide)).trans ((w_up_slot (by decide)).trans ((w_up_slot (by decide)).trans ((w_up_slot (by decide)).trans ((ml_319 hM)))))) (by omega) (by omega) ⟨(by omega), (by omega)⟩ ?_
            refine wa_aload_n (n := 0) rfl ?_
            refine wb_gf4 237 rfl (wy_pr rfl) wt_237 wf_15_76 (v := 320) wl_237_76 ?_
            refine wa_iload_n (n := 2) rfl ?_
            refine wa_iconst ?_
            refine wb_iast 320 rfl (wy_pr rfl) wt_320 (n := 8000) ((w_up_slot (by decide)).trans ((w_up_slot (by decide)).trans ((w_up_slot (by decide)).trans ((w_up_slot (by decide)).trans ((w_up_slot (by decide)).trans ((ml_320 hM))))))) (by omega) (by omega) ⟨(by omega), (by omega)⟩ ?_
            refine wa_aload_n (n := 0) rfl ?_
            refine wb_gf4 237 rfl (wy_pr rfl) wt_237 wf_15_77 (v := 321) wl_237_77 ?_
            refine wa_iload_n (n := 2) rfl ?_
            refine wa_iconst ?_
            refine wb_iast 321 rfl (wy_pr rfl) wt_321 (n := 8000) ((w_up_slot (by decide)).trans ((w_up_slot (by decide)).trans ((w_up_slot (by decide)).trans ((w_up_slot (by decide)).trans ((w_up_slot (by decide)).trans ((w_up_slot (by decide)).trans ((ml_321 hM)))))))) (by omega) (by omega) ⟨(by omega), (by omega)⟩ ?_
            refine wa_aload_n (n := 0) rfl ?_
            refine wb_gf4 237 rfl (wy_pr rfl) wt_237 wf_15_78 (v := 322) wl_237_78 ?_
            refine wa_iload_n (n := 2) rfl ?_
            refine wa_iconst ?_
            refine wb_zast 322 rfl (wy_pr rfl) wt_322 (n := 8000) ((w_up_slot (by decide)).trans ((w_up_slot (by decide)).trans ((w_up_slot (by decide)).trans ((w_up_slot (by decide)).trans ((w_up_slot (by decide)).trans ((w_up_slot (by decide)).trans ((w_up_slot (by decide)).trans ((ml_322 hM))))))))) (by omega) (by omega) ⟨(by omega), (by omega)⟩ ?_
            refine wa_aload_n (n := 0) rfl ?_
            refine wb_gf4 237 rfl (wy_pr rfl) wt_237 wf_15_79 (v := 323) wl_237_79 ?_
            refine wa_iload_n (n := 2) rfl ?_
            refine wa_iconst ?_
            refine wb_iast 323 rfl (wy_pr rfl) wt_323 (n := 8000) ((w_up_slot (by decide)).trans ((w_up_slot (by decide)).trans ((w_up_slot (by decide)).trans ((w_up_slot (by decide)).trans ((w_up_slot (by decide)).trans ((w_up_slot (by decide)).trans ((w_up_slot (by decide)).trans ((w_up_slot (by decide)).trans ((ml_323 hM)))))))))) (by omega) (by omega) ⟨(by omega), (by omega)⟩ ?_
            refine wa_aload_n (n := 0) rfl ?_
            refine wb_gf4 237 rfl (wy_pr rfl) wt_237 wf_15_80 (v := 324) wl_237_80 ?_
            refine wa_iload_n (n := 2) rfl ?_
            refine wa_iconst ?_
            refine wb_iast 324 rfl (wy_pr rfl) wt_324 (n := 8000) ((w_up_slot (by decide)).trans ((w_up_slot (by decide)).trans ((w_up_slot (by decide)).trans ((w_up_slot (by decide)).trans ((w_up_slot (by decide)).trans ((w_up_slot (by decide)).trans ((w_up_slot (by decide)).trans ((w_up_slot (by decide)).trans ((w_up_slot (by decide)).trans ((ml_324 hM))))))))))) (by omega) (by omega) ⟨(by omega), (by omega)⟩ ?_
            refine wa_aload_n (n := 0) rfl ?_
            refine wa_dup (by decide) ?_
            refine wb_gfi 237 rfl (wy_pr rfl) wt_237 wf_15_68 (v := n) ((w_up_slot (by decide)).trans ((w_up_slot (by decide)).trans ((w_up_slot (by decide)).trans ((w_up_slot (by decide)).trans ((w_up_slot (by decide)).trans ((w_up_slot (by decide)).trans ((w_up_slot (by decide)).trans ((w_up_slot (by decide)).trans ((w_up_slot (by decide)).trans ((w_up_slot (by decide)).trans (hn))))))))))) (fun r12 => ?_)
            refine wa_iconst ?_
            refine wa_iadd ?_
            refine wb_pfi 237 rfl (wy_pr rfl) wt_237 wf_15_68 (n := 68) rfl ⟨(by omega), (by omega)⟩ ?_
            refine wa_aload_n (n := 0) rfl ?_
            refine wa_dup (by decide) ?_
            refine wb_gfi 237 rfl (wy_pr rfl) wt_237 wf_15_62 (v := u0) ((w_up_at (by decide)).trans ((w_up_slot (by decide)).trans ((w_up_slot (by decide)).trans ((w_up_slot (by decide)).trans ((w_up_slot (by decide)).trans ((w_up_slot (by decide)).trans ((w_up_slot (by decide)).trans ((w_up_slot (by decide)).trans ((w_up_slot (by decide)).trans ((w_up_slot (by decide)).trans ((w_up_slot (by decide)).trans (hu0)))))))))))) (fun r13 => ?_)
            refine wa_iconst ?_
            refine wa_iadd ?_
            refine wb_pfi 237 rfl (wy_pr rfl) wt_237 wf_15_62 (n := 62) rfl ⟨(by omega), (by omega)⟩ ?_
            refine wa_iload_n (n := 2) rfl ?_
            refine wa_ireturn rfl ?_
            show wJ _ _ _ _ _ _ _ _ _ _
            refine wa_istore_n (n := 2) rfl ?_
            refine wa_aload_n (n := 0) rfl ?_
            refine wb_gf4 237 rfl (wy_pr rfl) wt_237 wf_15_134 (v := 359) wl_237_134 ?_
            refine wa_aload_n (n := 0) rfl ?_
            refine wb_gfi 237 rfl (wy_pr rfl) wt_237 wf_15_151 (v := t) ((w_up_at (by decide)).trans ((w_up_at (by decide)).trans ((w_up_slot (by decide)).trans ((w_up_slot (by decide)).trans ((w_up_slot (by decide)).trans ((w_up_slot (by decide)).trans ((w_up_slot (by decide)).trans ((w_up_slot (by decide)).trans ((w_up_slot (by decide)).trans ((w_up_slot (by decide)).trans ((w_up_slot (by decide)).trans ((w_up_slot (by decide)).trans (mt))))))))))))) (fun r14 => ?_)
            refine wa_dup2 (by decide) (by decide) ?_
            refine wb_iald 359 rfl (wy_pr rfl) wt_359 (n := 2) ((w_up_slot (by decide)).trans ((w_up_slot (by decide)).trans ((w_up_slot (by decide)).trans ((w_up_slot (by decide)).trans ((w_up_slot (by decide)).trans ((w_up_slot (by decide)).trans ((w_up_slot (by decide)).trans ((w_up_slot (by decide)).trans ((w_up_slot (by decide)).trans ((w_up_slot (by decide)).trans ((w_up_slot (by decide)).trans ((w_up_slot (by decide)).trans ((ml_359 hM)))))))))))))) (by omega) (by omega) (v := h) ((w_up_slot (by decide)).trans ((w_up_slot (by decide)).trans ((w_up_slot (by decide)).trans ((w_up_slot (by decide)).trans ((w_up_slot (by decide)).trans ((w_up_slot (by decide)).trans ((w_up_slot (by decide)).trans ((w_up_slot (by decide)).trans ((w_up_slot (by decide)).trans ((w_up_slot (by decide)).trans ((w_up_slot (by decide)).trans ((w_up_slot (by decide)).trans (mh))))))))))))) (fun r15 => ?_)
            refine wa_iload_n (n := 1) rfl ?_
            refine wa_isub ?_
            refine wb_iast 359 rfl (wy_pr rfl) wt_359 (n := 2) ((w_up_slot (by decide)).trans ((w_up_slot (by decide)).trans ((w_up_slot (by decide)).trans ((w_up_slot (by decide)).trans ((w_up_slot (by decide)).trans ((w_up_slot (by decide)).trans ((w_up_slot (by decide)).trans ((w_up_slot (by decide)).trans ((w_up_slot (by decide)).trans ((w_up_slot (by decide)).trans ((w_up_slot (by decide)).trans ((w_up_slot (by decide)).trans ((ml_359 hM)))))))))))))) (by omega) (by omega) ⟨(by omega), (by omega)⟩ ?_
            refine wa_iconst ?_
            refine wa_istore_n (n := 3) rfl ?_
            refine wa_fall ⟨_, rfl⟩ ?_
            have hRI : rvI t n a s0 v0 (h - a) 0 (w_up (w_up (w_up (w_up (w_up (w_up (w_up (w_up (w_up (w_up (w_up (w_up (w_up S 314 n 6) 315 n (-1)) 316 n (-1)) 317 n 0) 319 n (-1)) 320 n (-1)) 321 n (-1)) 322 n 0) 323 n 0) 324 n 0) 237 68 (n + 1)) 237 62 (u0 + 1)) 359 t (h - a)) := ⟨(w_ML_up (w_ML_up (w_ML_up (w_ML_up (w_ML_up (w_ML_up (w_ML_up (w_ML_up (w_ML_up (w_ML_up (w_ML_up (w_ML_up (w_ML_up hM (by omega)) (by omega)) (by omega)) (by omega)) (by omega)) (by omega)) (by omega)) (by omega)) (by omega)) (by omega)) (by omega)) (by omega)) (by omega)), ⟨((w_up_slot (by decide)).trans ((w_up_at (by decide)).trans ((w_up_at (by decide)).trans ((w_up_slot (by decide)).trans ((w_up_slot (by decide)).trans ((w_up_slot (by decide)).trans ((w_up_slot (by decide)).trans ((w_up_slot (by decide)).trans ((w_up_slot (by decide)).trans ((w_up_slot (by decide)).trans ((w_up_slot (by decide)).trans ((w_up_slot (by decide)).trans ((w_up_slot (by decide)).trans (mt)))))))))))))), mt0, mt1⟩, ((w_up_slot (by decide)).trans ((w_up_at (by decide)).trans ((w_up_at (by decide)).trans ((w_up_slot (by decide)).trans ((w_up_slot (by decide)).trans ((w_up_slot (by decide)).trans ((w_up_slot (by decide)).trans ((w_up_slot (by decide)).trans ((w_up_slot (by decide)).trans ((w_up_slot (by decide)).trans ((w_up_slot (by decide)).trans ((w_up_slot (by decide)).trans ((w_up_slot (by decide)).trans (mp)))))))))))))), ⟨(w_up_same _ _ _ _), by omega, by omega⟩, ⟨(((w_up_slot (by decide)).trans ((w_up_at (by decide)).trans ((w_up_at (by decide)).trans ((w_up_slot (by decide)).trans ((w_up_slot (by decide)).trans ((w_up_slot (by decide)).trans ((w_up_slot (by decide)).trans ((w_up_slot (by decide)).trans ((w_up_slot (by decide)).trans ((w_up_slot (by decide)).trans ((w_up_slot (by decide)).trans ((w_up_slot (by decide)).trans ((w_up_slot (by decide)).trans (hs)))))))))))))) : (w_up (w_up (w_up (w_up (w_up (w_up (w_up (w_up (w_up (w_up (w_up (w_up (w_up S 314 n 6) 315 n (-1)) 316 n (-1)) 317 n 0) 319 n (-1)) 320 n (-1)) 321 n (-1)) 322 n 0) 323 n 0) 324 n 0) 237 68 (n + 1)) 237 62 (u0 + 1)) 359 t (h - a)) 237 82 = s0).trans (by omega), by omega, by omega⟩, ⟨(((w_up_slot (by decide)).trans ((w_up_at (by decide)).trans ((w_up_at (by decide)).trans ((w_up_slot (by decide)).trans ((w_up_slot (by decide)).trans ((w_up_slot (by decide)).trans ((w_up_slot (by decide)).trans ((w_up_slot (by decide)).trans ((w_up_slot (by decide)).trans ((w_up_slot (by decide)).trans ((w_up_slot (by decide)).trans ((w_up_slot (by decide)).trans ((w_up_slot (by decide)).trans (hv)))))))))))))) : (w_up (w_up (w_up (w_up (w_up (w_up (w_up (w_up (w_up (w_up (w_up (w_up (w_up S 314 n 6) 315 n (-1)) 316 n (-1)) 317 n 0) 319 n (-1)) 320 n (-1)) 321 n (-1)) 322 n 0) 323 n 0) 324 n 0) 237 68 (n + 1)) 237 62 (u0 + 1)) 359 t (h - a)) 237 63 = v0).trans (by omega), by omega, by omega⟩, ⟨by omega, by omega⟩, ((w_up_slot (by decide)).trans ((w_up_slot (by decide)).trans ((w_up_slot (by decide)).trans ((w_up_slot (by decide)).trans ((w_up_slot (by decide)).trans ((w_up_slot (by decide)).trans ((w_up_slot (by decide)).trans ((w_up_slot (by decide)).trans ((w_up_slot (by decide)).trans (w_up_same _ _ _ _)))))))))), fun q => absurd rfl q⟩
            refine wJ_S (rl_c (n := n) (sz := a) (s0 := s0) (v0 := v0) (hh := h - a) a.toNat 0 (w_up (w_up (w_up (w_up (w_up (w_up (w_up (w_up (w_up (w_up (w_up (w_up (w_up S 314 n 6) 315 n (-1)) 316 n (-1)) 317 n 0) 319 n (-1)) 320 n (-1)) 321 n (-1)) 322 n 0) 323 n 0) 324 n 0) 237 68 (n + 1)) 237 62 (u0 + 1)) 359 t (h - a)) (by omega) (by omega) hRI (fun Zb hav hRb => ?_)) ⟨rfl, rfl, rfl, rfl, trivial⟩
            obtain ⟨zM, ⟨z1, -, -⟩, z2, ⟨z3, -, -⟩, -⟩ := id hRb
            refine wa_aload_n (n := 0) rfl ?_
            refine wa_bipush (w_rg2 (by omega) (by omega)) ?_
            refine wa_iload_n (n := 2) rfl ?_
            refine wa_i2l (w_rg0 (by omega) (by omega)) ?_
            refine wa_cv 237 rfl (wy_pr rfl) wt_237 (M2 := fun _ => False) rfl at_M_push ⟨_, rfl⟩ rfl rfl ⟨(Or.inr ⟨wy_pr rfl, fun q => q⟩), trivial, trivial, trivial, trivial⟩ trivial (fun _ _ q => False.elim q) ?_ (fun _ _ _ q => q)
            refine wa_aload_n (n := 0) rfl ?_
            refine wb_gf4 237 rfl (wy_pr rfl) wt_237 wf_15_138 (v := 363) wl_237_138 ?_
            refine wa_aload_n (n := 0) rfl ?_
            refine wa_cv 237 rfl (wy_pr rfl) wt_237 (M2 := fun _ => False) rfl at_M_h ⟨_, rfl⟩ rfl rfl ⟨(Or.inr ⟨wy_pr rfl, fun q => q⟩), trivial, trivial, trivial⟩ ⟨(Or.inr ⟨wy_pr rfl, fun q => q⟩), trivial⟩ (fun _ _ q => False.elim q) ?_ (fun _ _ _ q => q)
            refine wa_aload_n (n := 0) rfl ?_
            refine wb_gfi 237 rfl (wy_pr rfl) wt_237 wf_15_152 (v := (2100 * t)) (z2) (fun r16 => ?_)
            refine wa_aload_n (n := 0) rfl ?_
            refine wb_gf4 237 rfl (wy_pr rfl) wt_237 wf_15_134 (v := 359) wl_237_134 ?_
            refine wa_aload_n (n := 0) rfl ?_
            refine wb_gfi 237 rfl (wy_pr rfl) wt_237 wf_15_151 (v := t) (z1) (fun r17 => ?_)
            refine wb_iald 359 rfl (wy_pr rfl) wt_359 (n := 2) ((ml_359 zM)) (by omega) (by omega) (v := (h - a)) (z3) (fun r18 => ?_)
            refine wa_iadd ?_
            refine wa_ireturn rfl ?_
            show wJ _ _ _ _ _ _ _ _ _ _
            refine wa_iload_n (n := 1) rfl ?_
            refine wb_iast 363 rfl (wy_pr rfl) wt_363 (n := 4200) ((ml_363 zM)) (by omega) (by omega) ⟨(by omega), (by omega)⟩ ?_
            refine wa_aload_n (n := 0) rfl ?_
            refine wb_gf4 237 rfl (wy_pr rfl) wt_237 wf_15_139 (v := 364) wl_237_139 ?_
            refine wa_aload_n (n := 0) rfl ?_
            refine wa_cv 237 rfl (wy_pr rfl) wt_237 (M2 := fun _ => False) rfl at_M_h ⟨_, rfl⟩ rfl rfl ⟨(Or.inr ⟨wy_pr rfl, fun q => q⟩), trivial, trivial, trivial⟩ ⟨(Or.inr ⟨wy_pr rfl, fun q => q⟩), trivial⟩ (fun _ _ q => False.elim q) ?_ (fun _ _ _ q => q)
            refine wa_aload_n (n := 0) rfl ?_
            refine wb_gfi 237 rfl (wy_pr rfl) wt_237 wf_15_152 (v := (2100 * t)) ((w_up_slot (by decide)).trans (z2)) (fun r19 => ?_)
            refine wa_aload_n (n := 0) rfl ?_
            refine wb_gf4 237 rfl (wy_pr rfl) wt_237 wf_15_134 (v := 359) wl_237_134 ?_
            refine wa_aload_n (n := 0) rfl ?_
            refine wb_gfi 237 rfl (wy_pr rfl) wt_237 wf_15_151 (v := t) ((w_up_slot (by decide)).trans (z1)) (fun r20 => ?_)
            refine wb_iald 359 rfl (wy_pr rfl) wt_359 (n := 2) ((w_up_slot (by decide)).trans ((ml_359 zM))) (by omega) (by omega) (v := (h - a)) ((w_up_slot (by decide)).trans (z3)) (fun r21 => ?_)
            refine wa_iadd ?_
            refine wa_ireturn rfl ?_
            show wJ _ _ _ _ _ _ _ _ _ _
            refine wa_lload_n (n := 2) rfl ?_
            refine wb_last 364 rfl (wy_pr rfl) wt_364 (n := 4200) ((w_up_slot (by decide)).trans ((ml_364 zM))) (by omega) (by omega) ⟨(by omega), (by omega)⟩ ?_
            refine wa_aload_n (n := 0) rfl ?_
            refine wb_gf4 237 rfl (wy_pr rfl) wt_237 wf_15_134 (v := 359) wl_237_134 ?_
            refine wa_aload_n (n := 0) rfl ?_
            refine wb_gfi 237 rfl (wy_pr rfl) wt_237 wf_15_151 (v := t) ((w_up_slot (by decide)).trans ((w_up_slot (by decide)).trans (z1))) (fun r22 => ?_)
            refine wa_dup2 (by decide) (by decide) ?_
            refine wb_iald 359 rfl (wy_pr rfl) wt_359 (n := 2) ((w_up_slot (by decide)).trans ((w_up_slot (by decide)).trans ((ml_359 zM)))) (by omega) (by omega) (v := (h - a)) ((w_up_slot (by decide)).trans ((w_up_slot (by decide)).trans (z3))) (fun r23 => ?_)
            refine wa_iconst ?_
            refine wa_iadd ?_
            refine wb_iast 359 rfl (wy_pr rfl) wt_359 (n := 2) ((w_up_slot (by decide)).trans ((w_up_slot (by decide)).trans ((ml_359 zM)))) (by omega) (by omega) ⟨(by omega), (by omega)⟩ ?_
            refine wa_return rfl ?_
            show wJ _ _ _ _ _ _ _ _ _ _
            refine wa_return rfl ?_
            exact Or.inr (Or.inr ⟨by omega, by omega, rfl, Zb, hav, hRb, rfl⟩)
          · skip
            exact absurd c10 (by omega)
  · skip
    refine wa_aload_n (n := 0) rfl ?_
    refine wa_cv 237 rfl (wy_pr rfl) wt_237 (M2 := fun _ => False) rfl at_M_mayPile ⟨_, rfl⟩ rfl rfl ⟨(Or.inr ⟨wy_pr rfl, fun q => q⟩), trivial, trivial⟩ trivial (fun _ _ q => False.elim q) ?_ (fun _ _ _ q => q)
    refine wa_aload_n (n := 0) rfl ?_
    refine wb_gf4 237 rfl (wy_pr rfl) wt_237 wf_15_134 (v := 359) wl_237_134 ?_
    refine wa_aload_n (n := 0) rfl ?_
    refine wb_gfi 237 rfl (wy_pr rfl) wt_237 wf_15_151 (v := t) (mt) (fun r24 => ?_)
    refine wb_iald 359 rfl (wy_pr rfl) wt_359 (n := 2) ((ml_359 hM)) (by omega) (by omega) (v := h) (mh) (fun r25 => ?_)
    refine wa_sipush (by omega) ?_
    refine wa_icmplt (w_rg0 (by omega) (by omega)) (w_rg0 (by omega) (by omega)) ⟨_, rfl⟩ (fun c26 => ?_) (fun c26 => ?_)
    · skip
      refine wa_return rfl ?_
      show wJ _ _ _ _ _ _ _ _ _ _
      refine wa_fall ⟨_, rfl⟩ ?_
      refine wa_aload_n (n := 0) rfl ?_
      refine wa_aload_n (n := 0) rfl ?_
      refine wa_iconst ?_
      refine wa_cv 237 rfl (wy_pr rfl) wt_237 (M2 := fun _ => False) rfl at_M_hasRoomFor ⟨_, rfl⟩ rfl rfl ⟨(Or.inr ⟨wy_pr rfl, fun q => q⟩), trivial, trivial⟩ ⟨(Or.inr ⟨wy_pr rfl, fun q => q⟩), trivial⟩ (fun _ _ q => False.elim q) ?_ (fun _ _ _ q => q)
      refine wa_aload_n (n := 0) rfl ?_
      refine wb_gfi 237 rfl (wy_pr rfl) wt_237 wf_15_62 (v := u0) (hu0) (fun r27 => ?_)
      refine wa_iload_n (n := 1) rfl ?_
      refine wa_iadd ?_
      refine wa_sipush (by omega) ?_
      refine wa_icmpgt (w_rg0 (by omega) (by omega)) (w_rg0 (by omega) (by omega)) ⟨_, rfl⟩ (fun c28 => ?_) (fun c28 => ?_)
      · skip
        refine wa_iconst ?_
        refine wa_fall ⟨_, rfl⟩ ?_
        refine wa_zreturn rfl (Or.inl rfl) ?_
        show wJ _ _ _ _ _ _ _ _ _ _
        refine wa_ifeq (w_rg0 (by omega) (by omega)) ⟨_, rfl⟩ (fun c29 => ?_) (fun c29 => ?_)
        · skip
          refine wa_iconst ?_
          refine wa_fall ⟨_, rfl⟩ ?_
          refine wa_cv 237 rfl (wy_pr rfl) wt_237 (M2 := fun _ => False) rfl at_M_room ⟨_, rfl⟩ rfl rfl ⟨(Or.inr ⟨wy_pr rfl, fun q => q⟩), trivial, trivial⟩ trivial (fun _ _ q => False.elim q) ?_ (fun _ _ _ q => q)
          refine wa_iload_n (n := 1) rfl ?_
          refine wa_ifne (w_rg0 (by omega) (by omega)) ⟨_, rfl⟩ (fun c30 => ?_) (fun c30 => ?_)
          · skip
            exact absurd c30 (by omega)
          · skip
            refine wa_aload_n (n := 0) rfl ?_
            refine wb_gf4 237 rfl (wy_pr rfl) wt_237 wf_15_1 (v := 238) wl_237_1 ?_
            refine wa_bipush (w_rg2 (by omega) (by omega)) ?_
            refine wa_iconst ?_
            refine wa_cv 238 rfl (wy_pr rfl) wt_238 (M2 := fun _ => False) rfl at_MH_of ⟨_, rfl⟩ rfl rfl ⟨(Or.inr ⟨wy_pr rfl, fun q => q⟩), trivial, trivial⟩ trivial (fun _ _ q => False.elim q) ?_ (fun _ _ _ q => q)
            refine wa_aload_n (n := 0) rfl ?_
            refine wa_iload_n (n := 1) rfl ?_
            refine wb_pfi 238 rfl (wy_pr rfl) wt_238 wf_11_5 (n := 5) rfl ⟨(by omega), (by omega)⟩ ?_
            refine wa_aload_n (n := 0) rfl ?_
            refine wa_iload_n (n := 2) rfl ?_
            refine wb_pfi 238 rfl (wy_pr rfl) wt_238 wf_11_6 (n := 6) rfl ⟨(by omega), (by omega)⟩ ?_
            refine wa_aload_n (n := 0) rfl ?_
            refine wa_oreturn rfl ?_
            show wJ _ _ _ _ _ _ _ _ _ _
            refine wa_th (j := 238) ?_
            refine ⟨rfl, ?_⟩
            exact Or.inr (Or.inl ⟨by omega, by omega, rfl, rfl⟩)
        · skip
          exact absurd c29 (by omega)
      · skip
        refine wa_iconst ?_
        refine wa_goto ⟨_, rfl⟩ ?_
        refine wa_zreturn rfl (Or.inr rfl) ?_
        show wJ _ _ _ _ _ _ _ _ _ _
        refine wa_ifeq (w_rg0 (by omega) (by omega)) ⟨_, rfl⟩ (fun c31 => ?_) (fun c31 => ?_)
        · skip
          exact absurd c31 (by omega)
        · skip
          refine wa_aload_n (n := 0) rfl ?_
          refine wb_gfi 237 rfl (wy_pr rfl) wt_237 wf_15_63 (v := v0) (hv) (fun r32 => ?_)
          refine wa_iload_n (n := 1) rfl ?_
          refine wa_iadd ?_
          refine wb_ki (n := 60000) rfl ?_
          refine wa_icmpgt (w_rg0 (by omega) (by omega)) (w_rg0 (by omega) (by omega)) ⟨_, rfl⟩ (fun c33 => ?_) (fun c33 => ?_)
          · skip
            refine wa_iconst ?_
            refine wa_fall ⟨_, rfl⟩ ?_
            refine wa_cv 237 rfl (wy_pr rfl) wt_237 (M2 := fun _ => False) rfl at_M_room ⟨_, rfl⟩ rfl rfl ⟨(Or.inr ⟨wy_pr rfl, fun q => q⟩), trivial, trivial⟩ trivial (fun _ _ q => False.elim q) ?_ (fun _ _ _ q => q)
            refine wa_iload_n (n := 1) rfl ?_
            refine wa_ifne (w_rg0 (by omega) (by omega)) ⟨_, rfl⟩ (fun c34 => ?_) (fun c34 => ?_)
            · skip
              exact absurd c34 (by omega)
            · skip
              refine wa_aload_n (n := 0) rfl ?_
              refine wb_gf4 237 rfl (wy_pr rfl) wt_237 wf_15_1 (v := 238) wl_237_1 ?_
              refine wa_bipush (w_rg2 (by omega) (by omega)) ?_
              refine wa_iconst ?_
              refine wa_cv 238 rfl (wy_pr rfl) wt_238 (M2 := fun _ => False) rfl at_MH_of ⟨_, rfl⟩ rfl rfl ⟨(Or.inr ⟨wy_pr rfl, fun q => q⟩), trivial, trivial⟩ trivial (fun _ _ q => False.elim q) ?_ (fun _ _ _ q => q)
              refine wa_aload_n (n := 0) rfl ?_
              refine wa_iload_n (n := 1) rfl ?_
              refine wb_pfi 238 rfl (wy_pr rfl) wt_238 wf_11_5 (n := 5) rfl ⟨(by omega), (by omega)⟩ ?_
              refine wa_aload_n (n := 0) rfl ?_
              refine wa_iload_n (n := 2) rfl ?_
              refine wb_pfi 238 rfl (wy_pr rfl) wt_238 wf_11_6 (n := 6) rfl ⟨(by omega), (by omega)⟩ ?_
              refine wa_aload_n (n := 0) rfl ?_
              refine wa_oreturn rfl ?_
              show wJ _ _ _ _ _ _ _ _ _ _
              refine wa_th (j := 238) ?_
              refine ⟨rfl, ?_⟩
              exact Or.inr (Or.inl ⟨by omega, by omega, rfl, rfl⟩)
          · skip
            refine wa_iconst ?_
            refine wa_goto ⟨_, rfl⟩ ?_
            refine wa_cv 237 rfl (wy_pr rfl) wt_237 (M2 := fun _ => False) rfl at_M_room ⟨_, rfl⟩ rfl rfl ⟨(Or.inr ⟨wy_pr rfl, fun q => q⟩), trivial, trivial⟩ trivial (fun _ _ q => False.elim q) ?_ (fun _ _ _ q => q)
            refine wa_iload_n (n := 1) rfl ?_
            refine wa_ifne (w_rg0 (by omega) (by omega)) ⟨_, rfl⟩ (fun c35 => ?_) (fun c35 => ?_)
            · skip
              refine wa_return rfl ?_
              show wJ _ _ _ _ _ _ _ _ _ _
              refine wa_aload_n (n := 0) rfl ?_
              refine wa_bipush (w_rg2 (by omega) (by omega)) ?_
              refine wa_cv 237 rfl (wy_pr rfl) wt_237 (M2 := fun _ => False) rfl at_M_newThing ⟨_, rfl⟩ rfl rfl ⟨(Or.inr ⟨wy_pr rfl, fun q => q⟩), trivial, trivial⟩ trivial (fun _ _ q => False.elim q) ?_ (fun _ _ _ q => q)
              refine wa_aload_n (n := 0) rfl ?_
              refine wb_gfi 237 rfl (wy_pr rfl) wt_237 wf_15_68 (v := n) (hn) (fun r36 => ?_)
              refine wa_istore_n (n := 2) rfl ?_
              refine wa_aload_n (n := 0) rfl ?_
              refine wb_gf4 237 rfl (wy_pr rfl) wt_237 wf_15_70 (v := 314) wl_237_70 ?_
              refine wa_iload_n (n := 2) rfl ?_
              refine wa_iload_n (n := 1) rfl ?_
              refine wb_iast 314 rfl (wy_pr rfl) wt_314 (n := 8000) ((ml_314 hM)) (by omega) (by omega) ⟨(by omega), (by omega)⟩ ?_
              refine wa_aload_n (n := 0) rfl ?_
              refine wb_gf4 237 rfl (wy_pr rfl) wt_237 wf_15_71 (v := 315) wl_237_71 ?_
              refine wa_iload_n (n := 2) rfl ?_
              refine wa_iconst ?_
              refine wb_iast 315 rfl (wy_pr rfl) wt_315 (n := 8000) ((w_up_slot (by decide)).trans ((ml_315 hM))) (by omega) (by omega) ⟨(by omega), (by omega)⟩ ?_
              refine wa_aload_n (n := 0) rfl ?_
              refine wb_gf4 237 rfl (wy_pr rfl) wt_237 wf_15_72 (v := 316) wl_237_72 ?_
              refine wa_iload_n (n := 2) rfl ?_
              refine wa_iconst ?_
              refine wb_iast 316 rfl (wy_pr rfl) wt_316 (n := 8000) ((w_up_slot (by decide)).trans ((w_up_slot (by decide)).trans ((ml_316 hM)))) (by omega) (by omega) ⟨(by omega), (by omega)⟩ ?_
              refine wa_aload_n (n := 0) rfl ?_
              refine wb_gf4 237 rfl (wy_pr rfl) wt_237 wf_15_73 (v := 317) wl_237_73 ?_
              refine wa_iload_n (n := 2) rfl ?_
              refine wa_iconst ?_
              refine wb_iast 317 rfl (wy_pr rfl) wt_317 (n := 8000) ((w_up_slot (by decide)).trans ((w_up_slot (by decide)).trans ((w_up_slot (by decide)).trans ((ml_317 hM))))) (by omega) (by omega) ⟨(by omega), (by omega)⟩ ?_
              refine wa_aload_n (n := 0) rfl ?_
              refine wb_gf4 237 rfl (wy_pr rfl) wt_237 wf_15_75 (v := 319) wl_237_75 ?_
              refine wa_iload_n (n := 2) rfl ?_
              refine wa_iconst ?_
              refine wb_iast 319 rfl (wy_pr rfl) wt_319 (n := 8000) ((w_up_slot (by decide)).trans ((w_up_slot (by decide)).trans ((w_up_slot (by decide)).trans ((w_up_slot (by decide)).trans ((ml_319 hM)))))) (by omega) (by omega) ⟨(by omega), (by omega)⟩ ?_
              refine wa_aload_n (n := 0) rfl ?_
              refine wb_gf4 237 rfl (wy_pr rfl) wt_237 wf_15_76 (v := 320) wl_237_76 ?_
              refine wa_iload_n (n := 2) rfl ?_
              refine wa_iconst ?_
              refine wb_iast 320 rfl (wy_pr rfl) wt_320 (n := 8000) ((w_up_slot (by decide)).trans ((w_up_slot (by decide)).trans ((w_up_slot (by decide)).trans ((w_up_slot (by decide)).trans ((w_up_slot (by decide)).trans ((ml_320 hM))))))) (by omega) (by omega) ⟨(by omega), (by omega)⟩ ?_
              refine wa_aload_n (n := 0) rfl ?_
              refine wb_gf4 237 rfl (wy_pr rfl) wt_237 wf_15_77 (v := 321) wl_237_77 ?_
              refine wa_iload_n (n := 2) rfl ?_
              refine wa_iconst ?_
              refine wb_iast 321 rfl (wy_pr rfl) wt_321 (n := 8000) ((w_up_slot (by decide)).trans ((w_up_slot (by decide)).trans ((w_up_slot (by decide)).trans ((w_up_slot (by decide)).trans ((w_up_slot (by decide)).trans ((w_up_slot (by decide)).trans ((ml_321 hM)))))))) (by omega) (by omega) ⟨(by omega), (by omega)⟩ ?_
              refine wa_aload_n (n := 0) rfl ?_
              refine wb_gf4 237 rfl (wy_pr rfl) wt_237 wf_15_78 (v := 322) wl_237_78 ?_
              refine wa_iload_n (n := 2) rfl ?_
              refine wa_iconst ?_
              refine wb_zast 322 rfl (wy_pr rfl) wt_322 (n := 8000) ((w_up_slot (by decide)).trans ((w_up_slot (by decide)).trans ((w_up_slot (by decide)).trans ((w_up_slot (by decide)).trans ((w_up_slot (by decide)).trans ((w_up_slot (by decide)).trans ((w_up_slot (by decide)).trans ((ml_322 hM))))))))) (by omega) (by omega) ⟨(by omega), (by omega)⟩ ?_
              refine wa_aload_n (n := 0) rfl ?_
              refine wb_gf4 237 rfl (wy_pr rfl) wt_237 wf_15_79 (v := 323) wl_237_79 ?_
              refine wa_iload_n (n := 2) rfl ?_
              refine wa_iconst ?_
              refine wb_iast 323 rfl (wy_pr rfl) wt_323 (n := 8000) ((w_up_slot (by decide)).trans ((w_up_slot (by decide)).trans ((w_up_slot (by decide)).trans ((w_up_slot (by decide)).trans ((w_up_slot (by decide)).trans ((w_up_slot (by decide)).trans ((w_up_slot (by decide)).trans ((w_up_slot (by decide)).trans ((ml_323 hM)))))))))) (by omega) (by omega) ⟨(by omega), (by omega)⟩ ?_
              refine wa_aload_n (n := 0) rfl ?_
              refine wb_gf4 237 rfl (wy_pr rfl) wt_237 wf_15_80 (v := 324) wl_237_80 ?_
              refine wa_iload_n (n := 2) rfl ?_
              refine wa_iconst ?_
              refine wb_iast 324 rfl (wy_pr rfl) wt_324 (n := 8000) ((w_up_slot (by decide)).trans ((w_up_slot (by decide)).trans ((w_up_slot (by decide)).trans ((w_up_slot (by decide)).trans ((w_up_slot (by decide)).trans ((w_up_slot (by decide)).trans ((w_up_slot (by decide)).trans ((w_up_slot (by decide)).trans ((w_up_slot (by decide)).trans ((ml_324 hM))))))))))) (by omega) (by omega) ⟨(by omega), (by omega)⟩ ?_
              refine wa_aload_n (n := 0) rfl ?_
              refine wa_dup (by decide) ?_
              refine wb_gfi 237 rfl (wy_pr rfl) wt_237 wf_15_68 (v := n) ((w_up_slot (by decide)).trans ((w_up_slot (by decide)).trans ((w_up_slot (by decide)).trans ((w_up_slot (by decide)).trans ((w_up_slot (by decide)).trans ((w_up_slot (by decide)).trans ((w_up_slot (by decide)).trans ((w_up_slot (by decide)).trans ((w_up_slot (by decide)).trans ((w_up_slot (by decide)).trans (hn))))))))))) (fun r37 => ?_)
              refine wa_iconst ?_
              refine wa_iadd ?_
              refine wb_pfi 237 rfl (wy_pr rfl) wt_237 wf_15_68 (n := 68) rfl ⟨(by omega), (by omega)⟩ ?_
              refine wa_aload_n (n := 0) rfl ?_
              refine wa_dup (by decide) ?_
              refine wb_gfi 237 rfl (wy_pr rfl) wt_237 wf_15_62 (v := u0) ((w_up_at (by decide)).trans ((w_up_slot (by decide)).trans ((w_up_slot (by decide)).trans ((w_up_slot (by decide)).trans ((w_up_slot (by decide)).trans ((w_up_slot (by decide)).trans ((w_up_slot (by decide)).trans ((w_up_slot (by decide)).trans ((w_up_slot (by decide)).trans ((w_up_slot (by decide)).trans ((w_up_slot (by decide)).trans (hu0)))))))))))) (fun r38 => ?_)
              refine wa_iconst ?_
              refine wa_iadd ?_
              refine wb_pfi 237 rfl (wy_pr rfl) wt_237 wf_15_62 (n := 62) rfl ⟨(by omega), (by omega)⟩ ?_
              refine wa_iload_n (n := 2) rfl ?_
              refine wa_ireturn rfl ?_
              show wJ _ _ _ _ _ _ _ _ _ _
              refine wa_istore_n (n := 2) rfl ?_
              refine wa_aload_n (n := 0) rfl ?_
              refine wb_gf4 237 rfl (wy_pr rfl) wt_237 wf_15_134 (v := 359) wl_237_134 ?_
              refine wa_aload_n (n := 0) rfl ?_
              refine wb_gfi 237 rfl (wy_pr rfl) wt_237 wf_15_151 (v := t) ((w_up_at (by decide)).trans ((w_up_at (by decide)).trans ((w_up_slot (by decide)).trans ((w_up_slot (by decide)).trans ((w_up_slot (by decide)).trans ((w_up_slot (by decide)).trans ((w_up_slot (by decide)).trans ((w_up_slot (by decide)).trans ((w_up_slot (by decide)).trans ((w_up_slot (by decide)).trans ((w_up_slot (by decide)).trans ((w_up_slot (by decide)).trans (mt))))))))))))) (fun r39 => ?_)
              refine wa_dup2 (by decide) (by decide) ?_
              refine wb_iald 359 rfl (wy_pr rfl) wt_359 (n := 2) ((w_up_slot (by decide)).trans ((w_up_slot (by decide)).trans ((w_up_slot (by decide)).trans ((w_up_slot (by decide)).trans ((w_up_slot (by decide)).trans ((w_up_slot (by decide)).trans ((w_up_slot (by decide)).trans ((w_up_slot (by decide)).trans ((w_up_slot (by decide)).trans ((w_up_slot (by decide)).trans ((w_up_slot (by decide)).trans ((w_up_slot (by decide)).trans ((ml_359 hM)))))))))))))) (by omega) (by omega) (v := h) ((w_up_slot (by decide)).trans ((w_up_slot (by decide)).trans ((w_up_slot (by decide)).trans ((w_up_slot (by decide)).trans ((w_up_slot (by decide)).trans ((w_up_slot (by decide)).trans ((w_up_slot (by decide)).trans ((w_up_slot (by decide)).trans ((w_up_slot (by decide)).trans ((w_up_slot (by decide)).trans ((w_up_slot (by decide)).trans ((w_up_slot (by decide)).trans (mh))))))))))))) (fun r40 => ?_)
              refine wa_iload_n (n := 1) rfl ?_
              refine wa_isub ?_
              refine wb_iast 359 rfl (wy_pr rfl) wt_359 (n := 2) ((w_up_slot (by decide)).trans ((w_up_slot (by decide)).trans ((w_up_slot (by decide)).trans ((w_up_slot (by decide)).trans ((w_up_slot (by decide)).trans ((w_up_slot (by decide)).trans ((w_up_slot (by decide)).trans ((w_up_slot (by decide)).trans ((w_up_slot (by decide)).trans ((w_up_slot (by decide)).trans ((w_up_slot (by decide)).trans ((w_up_slot (by decide)).trans ((ml_359 hM)))))))))))))) (by omega) (by omega) ⟨(by omega), (by omega)⟩ ?_
              refine wa_iconst ?_
              refine wa_istore_n (n := 3) rfl ?_
              refine wa_fall ⟨_, rfl⟩ ?_
              have hRI : rvI t n a s0 v0 (h - a) 0 (w_up (w_up (w_up (w_up (w_up (w_up (w_up (w_up (w_up (w_up (w_up (w_up (w_up S 314 n 6) 315 n (-1)) 316 n (-1)) 317 n 0) 319 n (-1)) 320 n (-1)) 321 n (-1)) 322 n 0) 323 n 0) 324 n 0) 237 68 (n + 1)) 237 62 (u0 + 1)) 359 t (h - a)) := ⟨(w_ML_up (w_ML_up (w_ML_up (w_ML_up (w_ML_up (w_ML_up (w_ML_up (w_ML_up (w_ML_up (w_ML_up (w_ML_up (w_ML_up (w_ML_up hM (by omega)) (by omega)) (by omega)) (by omega)) (by omega)) (by omega)) (by omega)) (by omega)) (by omega)) (by omega)) (by omega)) (by omega)) (by omega)), ⟨((w_up_slot (by decide)).trans ((w_up_at (by decide)).trans ((w_up_at (by decide)).trans ((w_up_slot (by decide)).trans ((w_up_slot (by decide)).trans ((w_up_slot (by decide)).trans ((w_up_slot (by decide)).trans ((w_up_slot (by decide)).trans ((w_up_slot (by decide)).trans ((w_up_slot (by decide)).trans ((w_up_slot (by decide)).trans ((w_up_slot (by decide)).trans ((w_up_slot (by decide)).trans (mt)))))))))))))), mt0, mt1⟩, ((w_up_slot (by decide)).trans ((w_up_at (by decide)).trans ((w_up_at (by decide)).trans ((w_up_slot (by decide)).trans ((w_up_slot (by decide)).trans ((w_up_slot (by decide)).trans ((w_up_slot (by decide)).trans ((w_up_slot (by decide)).trans ((w_up_slot (by decide)).trans ((w_up_slot (by decide)).trans ((w_up_slot (by decide)).trans ((w_up_slot (by decide)).trans ((w_up_slot (by decide)).trans (mp)))))))))))))), ⟨(w_up_same _ _ _ _), by omega, by omega⟩, ⟨(((w_up_slot (by decide)).trans ((w_up_at (by decide)).trans ((w_up_at (by decide)).trans ((w_up_slot (by decide)).trans ((w_up_slot (by decide)).trans ((w_up_slot (by decide)).trans ((w_up_slot (by decide)).trans ((w_up_slot (by decide)).trans ((w_up_slot (by decide)).trans ((w_up_slot (by decide)).trans ((w_up_slot (by decide)).trans ((w_up_slot (by decide)).trans ((w_up_slot (by decide)).trans (hs)))))))))))))) : (w_up (w_up (w_up (w_up (w_up (w_up (w_up (w_up (w_up (w_up (w_up (w_up (w_up S 314 n 6) 315 n (-1)) 316 n (-1)) 317 n 0) 319 n (-1)) 320 n (-1)) 321 n (-1)) 322 n 0) 323 n 0) 324 n 0) 237 68 (n + 1)) 237 62 (u0 + 1)) 359 t (h - a)) 237 82 = s0).trans (by omega), by omega, by omega⟩, ⟨(((w_up_slot (by decide)).trans ((w_up_at (by decide)).trans ((w_up_at (by decide)).trans ((w_up_slot (by decide)).trans ((w_up_slot (by decide)).trans ((w_up_slot (by decide)).trans ((w_up_slot (by decide)).trans ((w_up_slot (by decide)).trans ((w_up_slot (by decide)).trans ((w_up_slot (by decide)).trans ((w_up_slot (by decide)).trans ((w_up_slot (by decide)).trans ((w_up_slot (by decide)).trans (hv)))))))))))))) : (w_up (w_up (w_up (w_up (w_up (w_up (w_up (w_up (w_up (w_up (w_up (w_up (w_up S 314 n 6) 315 n (-1)) 316 n (-1)) 317 n 0) 319 n (-1)) 320 n (-1)) 321 n (-1)) 322 n 0) 323 n 0) 324 n 0) 237 68 (n + 1)) 237 62 (u0 + 1)) 359 t (h - a)) 237 63 = v0).trans (by omega), by omega, by omega⟩, ⟨by omega, by omega⟩, ((w_up_slot (by decide)).trans ((w_up_slot (by decide)).trans ((w_up_slot (by decide)).trans ((w_up_slot (by decide)).trans ((w_up_slot (by decide)).trans ((w_up_slot (by decide)).trans ((w_up_slot (by decide)).trans ((w_up_slot (by decide)).trans ((w_up_slot (by decide)).trans (w_up_same _ _ _ _)))))))))), fun q => absurd rfl q⟩
              refine wJ_S (rl_c (n := n) (sz := a) (s0 := s0) (v0 := v0) (hh := h - a) a.toNat 0 (w_up (w_up (w_up (w_up (w_up (w_up (w_up (w_up (w_up (w_up (w_up (w_up (w_up S 314 n 6) 315 n (-1)) 316 n (-1)) 317 n 0) 319 n (-1)) 320 n (-1)) 321 n (-1)) 322 n 0) 323 n 0) 324 n 0) 237 68 (n + 1)) 237 62 (u0 + 1)) 359 t (h - a)) (by omega) (by omega) hRI (fun Zb hav hRb => ?_)) ⟨rfl, rfl, rfl, rfl, trivial⟩
              obtain ⟨zM, ⟨z1, -, -⟩, z2, ⟨z3, -, -⟩, -⟩ := id hRb
              refine wa_aload_n (n := 0) rfl ?_
              refine wa_bipush (w_rg2 (by omega) (by omega)) ?_
              refine wa_iload_n (n := 2) rfl ?_
              refine wa_i2l (w_rg0 (by omega) (by omega)) ?_
              refine wa_cv 237 rfl (wy_pr rfl) wt_237 (M2 := fun _ => False) rfl at_M_push ⟨_, rfl⟩ rfl rfl ⟨(Or.inr ⟨wy_pr rfl, fun q => q⟩), trivial, trivial, trivial, trivial⟩ trivial (fun _ _ q => False.elim q) ?_ (fun _ _ _ q => q)
              refine wa_aload_n (n := 0) rfl ?_
              refine wb_gf4 237 rfl (wy_pr rfl) wt_237 wf_15_138 (v := 363) wl_237_138 ?_
              refine wa_aload_n (n := 0) rfl ?_
              refine wa_cv 237 rfl (wy_pr rfl) wt_237 (M2 := fun _ => False) rfl at_M_h ⟨_, rfl⟩ rfl rfl ⟨(Or.inr ⟨wy_pr rfl, fun q => q⟩), trivial, trivial, trivial⟩ ⟨(Or.inr ⟨wy_pr rfl, fun q => q⟩), trivial⟩ (fun _ _ q => False.elim q) ?_ (fun _ _ _ q => q)
              refine wa_aload_n (n := 0) rfl ?_
              refine wb_gfi 237 rfl (wy_pr rfl) wt_237 wf_15_152 (v := (2100 * t)) (z2) (fun r41 => ?_)
              refine wa_aload_n (n := 0) rfl ?_
              refine wb_gf4 237 rfl (wy_pr rfl) wt_237 wf_15_134 (v := 359) wl_237_134 ?_
              refine wa_aload_n (n := 0) rfl ?_
              refine wb_gfi 237 rfl (wy_pr rfl) wt_237 wf_15_151 (v := t) (z1) (fun r42 => ?_)
              refine wb_iald 359 rfl (wy_pr rfl) wt_359 (n := 2) ((ml_359 zM)) (by omega) (by omega) (v := (h - a)) (z3) (fun r43 => ?_)
              refine wa_iadd ?_
              refine wa_ireturn rfl ?_
              show wJ _ _ _ _ _ _ _ _ _ _
              refine wa_iload_n (n := 1) rfl ?_
              refine wb_iast 363 rfl (wy_pr rfl) wt_363 (n := 4200) ((ml_363 zM)) (by omega) (by omega) ⟨(by omega), (by omega)⟩ ?_
              refine wa_aload_n (n := 0) rfl ?_
              refine wb_gf4 237 rfl (wy_pr rfl) wt_237 wf_15_139 (v := 364) wl_237_139 ?_
              refine wa_aload_n (n := 0) rfl ?_
              refine wa_cv 237 rfl (wy_pr rfl) wt_237 (M2 := fun _ => False) rfl at_M_h ⟨_, rfl⟩ rfl rfl ⟨(Or.inr ⟨wy_pr rfl, fun q => q⟩), trivial, trivial, trivial⟩ ⟨(Or.inr ⟨wy_pr rfl, fun q => q⟩), trivial⟩ (fun _ _ q => False.elim q) ?_ (fun _ _ _ q => q)
              refine wa_aload_n (n := 0) rfl ?_
              refine wb_gfi 237 rfl (wy_pr rfl) wt_237 wf_15_152 (v := (2100 * t)) ((w_up_slot (by decide)).trans (z2)) (fun r44 => ?_)
              refine wa_aload_n (n := 0) rfl ?_
              refine wb_gf4 237 rfl (wy_pr rfl) wt_237 wf_15_134 (v := 359) wl_237_134 ?_
              refine wa_aload_n (n := 0) rfl ?_
              refine wb_gfi 237 rfl (wy_pr rfl) wt_237 wf_15_151 (v := t) ((w_up_slot (by decide)).trans (z1)) (fun r45 => ?_)
              refine wb_iald 359 rfl (wy_pr rfl) wt_359 (n := 2) ((w_up_slot (by decide)).trans ((ml_359 zM))) (by omega) (by omega) (v := (h - a)) ((w_up_slot (by decide)).trans (z3)) (fun r46 => ?_)
              refine wa_iadd ?_
              refine wa_ireturn rfl ?_
              show wJ _ _ _ _ _ _ _ _ _ _
              refine wa_lload_n (n := 2) rfl ?_
              refine wb_last 364 rfl (wy_pr rfl) wt_364 (n := 4200) ((w_up_slot (by decide)).trans ((ml_364 zM))) (by omega) (by omega) ⟨(by omega), (by omega)⟩ ?_
              refine wa_aload_n (n := 0) rfl ?_
              refine wb_gf4 237 rfl (wy_pr rfl) wt_237 wf_15_134 (v := 359) wl_237_134 ?_
              refine wa_aload_n (n := 0) rfl ?_
              refine wb_gfi 237 rfl (wy_pr rfl) wt_237 wf_15_151 (v := t) ((w_up_slot (by decide)).trans ((w_up_slot (by decide)).trans (z1))) (fun r47 => ?_)
              refine wa_dup2 (by decide) (by decide) ?_
              refine wb_iald 359 rfl (wy_pr rfl) wt_359 (n := 2) ((w_up_slot (by decide)).trans ((w_up_slot (by decide)).trans ((ml_359 zM)))) (by omega) (by omega) (v := (h - a)) ((w_up_slot (by decide)).trans ((w_up_slot (by decide)).trans (z3))) (fun r48 => ?_)
              refine wa_iconst ?_
              refine wa_iadd ?_
              refine wb_iast 359 rfl (wy_pr rfl) wt_359 (n := 2) ((w_up_slot (by decide)).trans ((w_up_slot (by decide)).trans ((ml_359 zM)))) (by omega) (by omega) ⟨(by omega), (by omega)⟩ ?_
              refine wa_return rfl ?_
              show wJ _ _ _ _ _ _ _ _ _ _
              refine wa_return rfl ?_
              exact Or.inr (Or.inr ⟨by omega, by omega, rfl, Zb, hav, hRb, rfl⟩)
            · skip
              exact absurd c35 (by omega)
    · skip
      refine wa_aload_n (n := 0) rfl ?_
      refine wa_bipush (w_rg2 (by omega) (by omega)) ?_
      refine wa_cv 237 rfl (wy_pr rfl) wt_237 (M2 := fun _ => False) rfl at_M_error ⟨_, rfl⟩ rfl rfl ⟨(Or.inr ⟨wy_pr rfl, fun q => q⟩), trivial⟩ trivial (fun _ _ q => False.elim q) ?_ (fun _ _ _ q => q)
      refine wa_aload_n (n := 0) rfl ?_
      refine wb_gf4 237 rfl (wy_pr rfl) wt_237 wf_15_1 (v := 238) wl_237_1 ?_
      refine wa_iload_n (n := 1) rfl ?_
      refine wa_iconst ?_
      refine wa_cv 238 rfl (wy_pr rfl) wt_238 (M2 := fun _ => False) rfl at_MH_of ⟨_, rfl⟩ rfl rfl ⟨(Or.inr ⟨wy_pr rfl, fun q => q⟩), trivial, trivial⟩ trivial (fun _ _ q => False.elim q) ?_ (fun _ _ _ q => q)
      refine wa_aload_n (n := 0) rfl ?_
      refine wa_iload_n (n := 1) rfl ?_
      refine wb_pfi 238 rfl (wy_pr rfl) wt_238 wf_11_5 (n := 5) rfl ⟨(by omega), (by omega)⟩ ?_
      refine wa_aload_n (n := 0) rfl ?_
      refine wa_iload_n (n := 2) rfl ?_
      refine wb_pfi 238 rfl (wy_pr rfl) wt_238 wf_11_6 (n := 6) rfl ⟨(by omega), (by omega)⟩ ?_
      refine wa_aload_n (n := 0) rfl ?_
      refine wa_oreturn rfl ?_
      show wJ _ _ _ _ _ _ _ _ _ _
      refine wa_th (j := 238) ?_
      refine ⟨rfl, ?_⟩
      refine ⟨rfl, ?_⟩
      exact Or.inl ⟨by omega, by omega, rfl, rfl⟩
theorem y25 {t c p h tp a n u0 s0 v0 : Int} (hP : mP t c p h tp S) (hab : -2147483648 ≤ a ∧ a ≤ 2147483647) (hn : S 237 68 = n) (hn1 : 0 ≤ n ∧ n ≤ u0) (hu0 : S 237 62 = u0) (hu1 : 0 ≤ u0 ∧ u0 ≤ 8000) (hs : S 237 82 = s0) (hv : S 237 63 = v0) (hs1 : 0 ≤ s0 ∧ s0 ≤ v0 ∧ v0 ≤ 60000) (ha : 0 ≤ a ∧ a ≤ h) : wJ (pe_GA xs) wY0 M (d + 11) t_M_others ((pe_at t_M_others.bl 0).getD (0, [])).2 [(0, (2, 237)), (1, (0, 25)), (2, (0, a))] [] S (fun o Z => (a = 0 ∧ 2000 ≤ h ∧ o = .inr 238 ∧ hZ 11 S = Z) ∨ (¬ (a = 0 ∧ 2000 ≤ h) ∧ ¬ (u0 < 8000 ∧ v0 + a ≤ 60000) ∧ o = .inr 238 ∧ hZ 99 S = Z) ∨ (¬ (a = 0 ∧ 2000 ≤ h) ∧ (u0 < 8000 ∧ v0 + a ≤ 60000) ∧ o = .inl none ∧ ∃ B : wS, asL n (2100 * t + (h - a)) a.toNat 0 (w_up (ntZ 6 n u0 S) 359 t (h - a)) B ∧ rvI t n a s0 v0 (h - a) a B ∧ pUZ t (h - a) 6 n B = Z)) := by
  have hPP := hP
  obtain ⟨hM, ⟨mt, mt0, mt1⟩, mp, mf, ⟨mc, mc0, mc1⟩, ⟨mtp, mtq⟩, ⟨mpa, mp0, mp1⟩, mh, mh0, mh1⟩ := hP
  refine wa_aload_n (n := 0) rfl ?_
  refine wa_cv 237 rfl (wy_pr rfl) wt_237 (M2 := fun _ => False) rfl at_M_h ⟨_, rfl⟩ rfl rfl ⟨(Or.inr ⟨wy_pr rfl, fun q => q⟩), trivial, trivial, trivial⟩ trivial (fun _ _ q => False.elim q) ?_ (fun _ _ _ q => q)
  refine wa_aload_n (n := 0) rfl ?_
  refine wb_gfi 237 rfl (wy_pr rfl) wt_237 wf_15_152 (v := (2100 * t)) (mp) (fun r1 => ?_)
  refine wa_aload_n (n := 0) rfl ?_
  refine wb_gf4 237 rfl (wy_pr rfl) wt_237 wf_15_134 (v := 359) wl_237_134 ?_
  refine wa_aload_n (n := 0) rfl ?_
  refine wb_gfi 237 rfl (wy_pr rfl) wt_237 wf_15_151 (v := t) (mt) (fun r2 => ?_)
  refine wb_iald 359 rfl (wy_pr rfl) wt_359 (n := 2) ((ml_359 hM)) (by omega) (by omega) (v := h) (mh) (fun r3 => ?_)
  refine wa_iadd ?_
  refine wa_ireturn rfl ?_
  show wJ _ _ _ _ _ _ _ _ _ _
  refine wa_iconst ?_
  refine wa_isub ?_
  refine wa_istore_n (n := 3) rfl ?_
  refine wa_iload_n (n := 1) rfl ?_
  refine wb_sw (w_rg0 (by omega) (by omega)) (tb := 10) rfl ⟨_, rfl⟩ ?_
  refine wa_aload_n (n := 0) rfl ?_
  refine wa_iload_n (n := 2) rfl ?_
  refine wa_cv 237 rfl (wy_pr rfl) wt_237 (M2 := fun _ => False) rfl at_M_list ⟨_, rfl⟩ rfl rfl ⟨trivial, (Or.inr ⟨wy_pr rfl, fun q => q⟩), trivial, trivial, trivial⟩ trivial (fun _ _ q => False.elim q) (li_m hPP hn hn1 hu0 hu1 hs hv hs1 ha) (fun oq4 Sq4 hp5 q4 => ?_)
  rcases q4 with ⟨y1, y2, rfl, y3⟩ | ⟨y1, y2, rfl, y3⟩ | ⟨y1, y2, rfl, y3⟩
  · skip
    refine ⟨rfl, ?_⟩
    exact Or.inl ⟨y1, y2, rfl, y3⟩
  · skip
    refine ⟨rfl, ?_⟩
    exact Or.inr (Or.inl ⟨y1, y2, rfl, y3⟩)
  · skip
    show wJ _ _ _ _ _ _ _ _ _ _
    refine wa_goto ⟨_, rfl⟩ ?_
    refine wa_return rfl ?_
    exact Or.inr (Or.inr ⟨y1, y2, rfl, y3⟩)
end Wf2
