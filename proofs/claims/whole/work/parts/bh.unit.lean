/-! PART bh: the Compiler's readUnit. -/
section Wbh
variable {xs : List (Nat × List Int32)} {M : Nat → Prop} {d : Nat} {A B C S Z : wS} {Q : wO → wS → Prop} {T : Int → Int} {n : Int} {N X : List (List Int)} {c i : Nat} {f u w : Int} {I : List pz_I} {F : List pz_F}
/-- the Compiler stands ahead of a unit's first function -/
def cQ0 (T : Int → Int) (n : Int) (N X : List (List Int)) (c : Nat) (f : Int) (S : wS) : Prop := (qx_T T n N X c S ∧ qx_P T n c 0 S) ∧ (gI S ∧ w_CL S) ∧ (nt_L S ∧ S 63 7 = 0 ∧ S 63 8 = 0) ∧ (S 19 1 = f ∧ S 63 10 = 0 ∧ (0 ≤ f ∧ f ≤ 400) ∧ 0 ≤ S 19 3 ∧ S 19 3 ≤ 1000) ∧ (va_L S ∧ S 63 13 = 0) ∧ S 64 (-1) ≤ 16383 ∧ S 63 15 = 0
theorem cQn_0 (h : cQ0 T n N X c f S) : cQn S := ⟨h.2.1.2, h.2.2.1.1, h.2.2.2.2.1.1, h.2.2.2.2.2.1⟩
/-- begins a statement -/
def pz_bs (k : Int) : Prop := (k ≠ 12 ∧ pz_bx k) ∨ k = 40 ∨ k = 42 ∨ k = 44 ∨ k = 45 ∨ k = 46 ∨ k = 47
theorem cQ_0 (h : cQ0 T n N X c f S) (hf : f < 400) : cQ T n N X c f f 0 0 [] [(-1, 0, [])] (w_up (w_up (w_up (w_up (w_up (w_up (w_up (w_up S 21 f (S 19 3)) 22 f 0) 23 f 0) 24 f 0) 28 f (-1)) 29 f (-1)) 63 10 (0 + 1)) 63 11 f) := by
  obtain ⟨⟨a1, a2⟩, ⟨b1, b2⟩, ⟨c1, c2, c3⟩, ⟨d1, d2, d3, d4⟩, ⟨g1, g2⟩, k1, l1⟩ := h
  have hfl : 0 ≤ f := d3.1
  refine ⟨⟨a1, a2⟩, ⟨gI_up (gI_up (gI_up (gI_up (gI_up (gI_up (gI_up (gI_up b1 hfl (Or.inl (by decide)) (Or.inl (Or.inl (by decide)))) hfl (Or.inl (by decide)) (Or.inl (Or.inl (by decide)))) hfl (Or.inl (by decide)) (Or.inl (Or.inl (by decide)))) hfl (Or.inl (by decide)) (Or.inl (Or.inl (by decide)))) hfl (Or.inl (by decide)) (Or.inl (Or.inl (by decide)))) hfl (Or.inl (by decide)) (Or.inl (Or.inl (by decide)))) (by decide) (Or.inl (by decide)) (Or.inl (Or.inl (by decide)))) (by decide) (Or.inl (by decide)) (Or.inl (Or.inl (by decide))), w_CL_up (w_CL_up (w_CL_up (w_CL_up (w_CL_up (w_CL_up (w_CL_up (w_CL_up b2 hfl) hfl) hfl) hfl) hfl) hfl) (by decide)) (by decide)⟩, ⟨c1, c2, c3, fun k hk => absurd hk (Nat.not_lt_zero _)⟩, ⟨d1, rfl, ⟨d3.1, by show f + 1 ≤ 400; omega⟩, d4, fun x hx => absurd hx List.not_mem_nil, fun k hk => ?_⟩, ⟨rfl, Int.le_refl _, by show f < f + 1; omega⟩, ⟨g1, by show S 63 13 ≤ 0; omega⟩, ⟨by show (0 : Int) ≤ 8 * 0 + 8; omega, k1⟩, ⟨l1, by omega, by omega⟩⟩
  have hk0 : k = 0 := by have : k < 1 := hk; omega
  subst hk0
  have e0 : f + ((0 : Nat) : Int) = f := by omega
  unfold fn_I fv_I
  rw [e0]
  refine ⟨⟨by simp [w_up], Or.inl rfl, by show (-1 : Int) < f; omega⟩, by simp [w_up], ⟨by simp [w_up], trivial, by simp [w_up], ?_⟩, Nat.le_refl _, by simp [w_up]; rfl, by simp [w_up]⟩
  simp [w_up]
  omega
theorem kd_p (hI : gI S) (hT : qx_T T n N X c S) (hP : qx_P T n c i S) : wJ (pe_GA xs) wY0 M d t_XR_kind ((pe_at t_XR_kind.bl 0).getD (0, [])).2 [(0, (2, 14))] [] S (fun o Z => S = Z ∧ o = .inl (some (0, kq T n N X i))) := by
  obtain ⟨q1, q2, q3, q4, q5⟩ := qx_at hT hP
  have p4 := hP.1
  have h3 : S 14 3 = (c : Int) + 1 := hT.1
  have hic : i ≤ c := hP.2.1
  obtain ⟨r1, r2, r3, r4, r5⟩ := hT.2.2.2.2.2.2
  refine wa_aload_n (n := 0) rfl ?_
  refine wb_gf4 14 rfl (wy_pr rfl) wt_14 wf_6_0 (v := 15) wl_14_0 ?_
  refine wa_aload_n (n := 0) rfl ?_
  refine wb_gfi 14 rfl (wy_pr rfl) wt_14 wf_6_4 (v := (i : Int)) (p4) (fun r101 => ?_)
  refine wb_bald 15 rfl (wy_pr rfl) wt_15 (n := (S 15 (-1))) rfl (by omega) (by omega) (v := (kq T n N X i)) (q3) (fun r102 => ?_)
  refine wa_ireturn rfl ?_
  exact ⟨rfl, rfl⟩
theorem un_q {D : Nat} (hx101 : pe_at (pe_GA xs).xs 101 = some (1, tx_101)) (h0 : cQ0 T n N X c f S) (h7 : 0 ≤ S 19 7 ∧ S 19 7 ≤ 20000) (h9 : 0 ≤ S 19 9 ∧ S 19 9 ≤ 4000) : wJ (pe_GA xs) wY0 (mS [64, 65, 66, 67, 69, 70]) (D + 540) t_XP_readUnit ((pe_at t_XP_readUnit.bl 0).getD (0, [])).2 [(0, (2, 63))] [] S (fun o Z => (∃ (i2 : Nat) (I2 : List pz_I) (F2 : List pz_F) (t : Int), o = .inl none ∧ cD T n N X f (fun R => R 0 0 [] 0 0 f [] [(-1, 0, [])]) (.inr (i2, I2, F2, t)) ∧ kq T n N X i2 = 0 ∧ (S 19 7 + (I2.length : Int) + 2 ≤ 20000 ∧ S 19 9 + pz_s I2 ≤ 4000) ∧ ∃ S1 : wS, cQ T n N X c f f 0 i2 (I2 ++ [(0, 0, 0, f)] ++ [(29, 0, 0, f)]) F2 S1 ∧ Z = w_up S1 63 11 (-1) ∧ cQg f 0 0 S S1) ∨ (∃ (v : Nat) (x : Int), o = .inr v ∧ cQf f S Z v x ∧ ((400 ≤ f ∧ ((kq T n N X 0 = 0 ∨ pz_bs (kq T n N X 0)) ∧ x = 7 + 16 * tp T n 0 0 ∨ (kq T n N X 0 ≠ 0 ∧ ¬ pz_bs (kq T n N X 0)) ∧ x = 1 + 16 * tp T n 0 0)) ∨ (f < 400 ∧ cD T n N X f (fun R => R 0 0 [] 0 0 f [] [(-1, 0, [])]) (.inl x)) ∨ (f < 400 ∧ ∃ (i2 : Nat) (I2 : List pz_I) (F2 : List pz_F) (t : Int), cD T n N X f (fun R => R 0 0 [] 0 0 f [] [(-1, 0, [])]) (.inr (i2, I2, F2, t)) ∧ ((kq T n N X i2 ≠ 0 ∧ x = 1 + 16 * tp T n 0 i2) ∨ (kq T n N X i2 = 0 ∧ ¬ (S 19 7 + (I2.length : Int) + 2 ≤ 20000 ∧ S 19 9 + pz_s I2 ≤ 4000) ∧ x = 7 + 16 * tp T n 0 i2)))))) := by
  have hS := (cXS (xs := xs) (T := T) (n := n) (N := N) (X := X) (c := c) (f := f) hx101 (c + 1)).2
  have hb := h0
  obtain ⟨⟨hT, hP⟩, ⟨hI, hC⟩, -, ⟨d1, d2, d3, d4⟩, -, -, -⟩ := hb
  have kr0 := kq_rg T n N X 0
  have hqa := qx_at hT hP
  have hpn : n ≤ 8176 := hT.2.2.2.2.2.1
  have hcn : (c : Int) ≤ n := hT.2.2.2.2.1
  have h3 : S 14 3 = (c : Int) + 1 := hT.1
  obtain ⟨r1, r2, r3, r4, r5⟩ := hT.2.2.2.2.2.2
  refine wa_aload_n (n := 0) rfl ?_
  refine wb_gf4 63 rfl (wy_pr rfl) wt_63 wf_1_2 (v := 19) wl_63_2 ?_
  refine wb_gfi 19 rfl (wy_pr rfl) wt_19 wf_0_1 (v := f) (d1) (fun r101 => ?_)
  refine wa_sipush (by omega) ?_
  refine wa_icmplt (w_rg0 (by omega) (by omega)) (w_rg0 (by omega) (by omega)) ⟨_, rfl⟩ (fun c102 => ?_) (fun c102 => ?_)
  · skip
    refine wa_aload_n (n := 0) rfl ?_
    refine wa_aload_n (n := 0) rfl ?_
    refine wa_iconst ?_
    refine wa_cv 63 rfl (wy_pr rfl) wt_63 (M2 := fun _ => False) rfl at_XP_addFunction ⟨_, rfl⟩ rfl rfl ⟨(Or.inr ⟨wy_pr rfl, fun q => q⟩), trivial⟩ ⟨(Or.inr ⟨wy_pr rfl, fun q => q⟩), trivial⟩ (fun _ _ q => False.elim q) (afp (S := S) (ar := -1) (T := T) (n := n) (N := N) (X := X) (c := c) (i := 0) hI hT hP hC ⟨by decide, by decide⟩ ⟨by omega, by omega⟩ ⟨by omega, by omega⟩ d4) (fun oq104 Sq104 hp105 q104 => ?_)
    rcases q104 with ⟨rfl, hlt, haf⟩ | ⟨v9, rfl, hlt, hz103⟩
    · skip
      show wJ _ _ _ _ _ _ _ _ _ _
      refine wb_pfi 63 rfl (wy_pr rfl) wt_63 wf_1_11 (n := 11) rfl ⟨(by omega), (by omega)⟩ ?_
      have hU : cQ T n N X c f f 0 0 [] [(-1, 0, [])] (w_up Sq104 63 11 (S 19 1 + S 63 10)) := by
            have q0 := cQ_0 h0 (by omega)
            rw [← haf, d1, d2, show f + 0 = f by omega]
            exact q0
      have gU : cQg f 0 0 S (w_up Sq104 63 11 (S 19 1 + S 63 10)) := by
            rw [← haf, d1, d2, show f + 0 = f by omega]
            exact cQg_tr (cQg_tr (cQg_tr (cQg_tr (cQg_tr (cQg_tr (cQg_tr (cQg_up (by omega) (by decide) (by omega)) (cQg_up (by omega) (by decide) (by omega))) (cQg_up (by omega) (by decide) (by omega))) (cQg_up (by omega) (by decide) (by omega))) (cQg_up (by omega) (by decide) (by omega))) (cQg_up (by omega) (by decide) (by omega))) (cQg_up (by omega) (by decide) (by omega))) (cQg_up (by omega) (by decide) (by omega))
      refine wa_aload_n (n := 0) rfl ?_
      refine wa_iconst ?_
      refine wa_cv 63 rfl (wy_pr rfl) wt_63 (M2 := mS [64, 65, 66, 67, 69, 70]) rfl at_XP_readStatements ⟨_, rfl⟩ rfl rfl ⟨(Or.inr ⟨wy_pr rfl, mS_no rfl⟩), trivial⟩ trivial (fun _ _ q => q) (hS _ 0 f 0 0 [] [(-1, 0, [])] _ (by omega) ⟨by omega, by omega, by omega⟩ ⟨by decide, by decide⟩ hU) (fun oq106 Sq106 hp107 q106 => ?_)
      rcases q106 with ⟨i2, I2, F2, t2, rfl, hd, hc, hg, ⟨p1, p2, p3, p4⟩, e1⟩ | ⟨v, x, rfl, hd, hz⟩
      · skip
        show wJ _ _ _ _ _ _ _ _ _ _
        have hSq106 : cQ T n N X c f f 0 i2 I2 F2 Sq106 := hc
        have gSq106 : cQg f 0 0 S Sq106 := cQg_tr gU (cQg_mo hg (by omega) (by omega))
        have krSq106 := kq_rg T n N X i2
        have icSq106 := cQ_ic hSq106
        have fl := p3.1
        have e00 : ([] : List pz_I).length = 0 := rfl
        have e01 : ([(-1, 0, [])] : List pz_F).length = 1 := rfl
        have s9 := pz_s_rg I2
        have h6 := cQ_h6 hc
        have hur := cQ_ur hc
        refine wa_aload_n (n := 0) rfl ?_
        refine wb_gf4 63 rfl (wy_pr rfl) wt_63 wf_1_0 (v := 14) wl_63_0 ?_
        refine wa_cv 14 rfl (wy_pr rfl) wt_14 (M2 := fun _ => False) rfl at_XR_kind ⟨_, rfl⟩ rfl rfl ⟨(Or.inr ⟨wy_pr rfl, fun q => q⟩), trivial⟩ trivial (fun _ _ q => False.elim q) (kd_q (S := Sq106) hSq106) (fun oq108 Sq108 hp109 q108 => ?_)
        rcases q108 with ⟨rfl, rfl⟩
        show wJ _ _ _ _ _ _ _ _ _ _
        refine wa_ifeq (w_rg0 (by omega) (by omega)) ⟨_, rfl⟩ (fun c110 => ?_) (fun c110 => ?_)
        · skip
          refine wa_aload_n (n := 0) rfl ?_
          refine wa_cv 63 rfl (wy_pr rfl) wt_63 (M2 := mS [64, 65, 66, 67, 69, 70]) rfl at_XP_endFunction ⟨_, rfl⟩ rfl rfl ⟨(Or.inr ⟨wy_pr rfl, mS_no rfl⟩), trivial⟩ trivial (fun _ _ q => q) ?_ (fun _ _ _ q => q)
          refine wa_aload_n (n := 0) rfl ?_
          refine wa_iconst ?_
          refine wa_iconst ?_
          refine wa_iconst ?_
          refine wa_cv 63 rfl (wy_pr rfl) wt_63 (M2 := mS [64, 65, 66, 67]) rfl at_XP_note ⟨_, rfl⟩ rfl rfl ⟨(Or.inr ⟨wy_pr rfl, mS_no rfl⟩), trivial⟩ trivial (fun _ _ q => mS_sub (by decide) q) (nt_q (S := Sq106) (op := 0) (a := 0) (b := 0) (l := I2.length) hSq106 ⟨by omega, by omega⟩ ⟨by omega, by omega⟩ ⟨by omega, by omega⟩ (by omega) (by omega) (by omega)) (fun oq114 Sq114 hp115 q114 => ?_)
          rcases q114 with ⟨rfl, hc111, hg112, ht113⟩
          show wJ _ _ _ _ _ _ _ _ _ _
          have hSq114 : cQ T n N X c f f 0 i2 (I2 ++ [(0, 0, 0, f)]) F2 Sq114 := hc111
          have gSq114 : cQg f 0 0 S Sq114 := cQg_tr gSq106 (hg112 _ _ (by omega))
          have hlSq114 : (I2 ++ [(0, 0, 0, f)]).length = I2.length + 1 := List.length_append
          have psSq114 : pz_s (I2 ++ [(0, 0, 0, f)]) = pz_s I2 := by rw [pz_s_ap, pz_s_1, if_neg (by decide)]; omega
          refine wa_pop (by decide) ?_
          refine wa_aload_n (n := 0) rfl ?_
          refine wa_bipush (w_rg2 (by omega) (by omega)) ?_
          refine wa_iconst ?_
          refine wa_iconst ?_
          refine wa_cv 63 rfl (wy_pr rfl) wt_63 (M2 := mS [64, 65, 66, 67]) rfl at_XP_note ⟨_, rfl⟩ rfl rfl ⟨(Or.inr ⟨wy_pr rfl, mS_no rfl⟩), trivial⟩ trivial (fun _ _ q => mS_sub (by decide) q) (nt_q (S := Sq114) (op := 29) (a := 0) (b := 0) (l := (I2.length + 1)) hSq114 ⟨by omega, by omega⟩ ⟨by omega, by omega⟩ ⟨by omega, by omega⟩ (by omega) (by omega) (by omega)) (fun oq119 Sq119 hp120 q119 => ?_)
          rcases q119 with ⟨rfl, hc116, hg117, ht118⟩
          show wJ _ _ _ _ _ _ _ _ _ _
          have hSq119 : cQ T n N X c f f 0 i2 ((I2 ++ [(0, 0, 0, f)]) ++ [(29, 0, 0, f)]) F2 Sq119 := hc116
          have gSq119 : cQg f 0 0 S Sq119 := cQg_tr gSq114 (hg117 _ _ (by omega))
          have hlSq119 : ((I2 ++ [(0, 0, 0, f)]) ++ [(29, 0, 0, f)]).length = (I2 ++ [(0, 0, 0, f)]).length + 1 := List.length_append
          have psSq119 : pz_s ((I2 ++ [(0, 0, 0, f)]) ++ [(29, 0, 0, f)]) = pz_s (I2 ++ [(0, 0, 0, f)]) := by rw [pz_s_ap, pz_s_1, if_neg (by decide)]; omega
          refine wa_pop (by decide) ?_
          refine wa_aload_n (n := 0) rfl ?_
          refine wa_aload_n (n := 0) rfl ?_
          refine wb_gf4 63 rfl (wy_pr rfl) wt_63 wf_1_9 (v := 20) wl_63_9 ?_
          refine wa_bipush (w_rg2 (by omega) (by omega)) ?_
          refine wb_aald5 20 7 rfl rfl (wy_pr rfl) wt_20 (by rw [show _ = _ from ((cl_20 hSq119.2.1.2))]; omega) wl_20_7 ?_
          refine wa_aload_n (n := 0) rfl ?_
          refine wb_gfi 63 rfl (wy_pr rfl) wt_63 wf_1_11 (v := f) ((cQ_11 hSq119)) (fun r121 => ?_)
          refine wb_iald 28 rfl (wy_pr rfl) wt_28 (n := 400) ((cl_28 hSq119.2.1.2)) (by omega) (by omega) (v := (-1)) (((cQ_fn hSq119 ⟨by omega, by omega⟩).1.1.trans ((pz_le_f (F := [(-1, 0, [])]) (f := f) p3 ⟨by omega, by show f < f + 1; omega⟩).trans (by unfold pz_f; rw [show (f - f).toNat = 0 by omega]; rfl)))) (fun r122 => ?_)
          refine wb_pfi 63 rfl (wy_pr rfl) wt_63 wf_1_11 (n := 11) rfl ⟨(by omega), (by omega)⟩ ?_
          refine wa_return rfl ?_
          show wJ _ _ _ _ _ _ _ _ _ _
          refine wa_aload_n (n := 0) rfl ?_
          refine wb_gf4 63 rfl (wy_pr rfl) wt_63 wf_1_2 (v := 19) wl_63_2 ?_
          refine wb_gfi 19 rfl (wy_pr rfl) wt_19 wf_0_7 (v := (S 19 7)) ((w_up_slot (by decide)).trans ((gSq119.1 19 7 (by decide) (by decide) (by decide) (by decide) (Or.inl (by decide)) (Or.inl (by decide)) (Or.inl (by decide))))) (fun r123 => ?_)
          refine wa_aload_n (n := 0) rfl ?_
          refine wb_gfi 63 rfl (wy_pr rfl) wt_63 wf_1_7 (v := (((I2 ++ [(0, 0, 0, f)]) ++ [(29, 0, 0, f)]).length : Int)) ((w_up_at (by decide)).trans ((cQ_7 hSq119))) (fun r124 => ?_)
          refine wa_iadd ?_
          refine wa_sipush (by omega) ?_
          refine wa_icmpgt (w_rg0 (by omega) (by omega)) (w_rg0 (by omega) (by omega)) ⟨_, rfl⟩ (fun c125 => ?_) (fun c125 => ?_)
          · skip
            refine wa_aload_n (n := 0) rfl ?_
            refine wa_bipush (w_rg2 (by omega) (by omega)) ?_
            refine wa_cv 63 rfl (wy_pr rfl) wt_63 (M2 := fun _ => False) rfl at_XP_refuse ⟨_, rfl⟩ rfl rfl ⟨(Or.inr ⟨wy_pr rfl, fun q => q⟩), trivial⟩ trivial (fun _ _ q => False.elim q) (rfp_c (S := (w_up Sq119 63 11 (-1))) (k := 7) (p := tp T n 0 i2) (i := ((i2 : Nat) : Int)) (gI_up hSq119.2.1.1 (by decide) (Or.inl (by decide)) (Or.inl (Or.inl (by decide)))) hSq119.1.2.1 (qx_at hSq119.1.1 hSq119.1.2).2.1 (by have := cQ_ic hSq119; have := hSq119.1.1.1; have := hSq119.1.1.2.2.2.2.2.2.1; have := hSq119.1.1.2.2.2.2.2.2.2.1; show 0 ≤ ((i2 : Nat) : Int) ∧ ((i2 : Nat) : Int) < Sq119 16 (-1); omega) ⟨by omega, by omega⟩ (by have := (qx_at hSq119.1.1 hSq119.1.2).1; omega)) (fun oq128 Sq128 hp129 q128 => ?_)
            rcases q128 with ⟨v126, rfl, hz127⟩
            refine ⟨rfl, ?_⟩
            refine Or.inr ⟨_, _, rfl, cQf_of (m := 0) (w := 0) (cQg_tr gSq119 (cQg_up (by decide) (by decide) (Or.inl rfl))) (by omega) (by omega) (cQn_11 (cQn_of hSq119)) hz127, ?_⟩
            exact Or.inr (Or.inr ⟨by omega, i2, I2, F2, t2, hd, Or.inr ⟨by omega, by omega, rfl⟩⟩)
          · skip
            refine wa_aload_n (n := 0) rfl ?_
            refine wb_gf4 63 rfl (wy_pr rfl) wt_63 wf_1_2 (v := 19) wl_63_2 ?_
            refine wb_gfi 19 rfl (wy_pr rfl) wt_19 wf_0_9 (v := (S 19 9)) ((w_up_slot (by decide)).trans ((gSq119.1 19 9 (by decide) (by decide) (by decide) (by decide) (Or.inl (by decide)) (Or.inl (by decide)) (Or.inl (by decide))))) (fun r130 => ?_)
            refine wa_aload_n (n := 0) rfl ?_
            refine wb_gfi 63 rfl (wy_pr rfl) wt_63 wf_1_8 (v := (pz_s ((I2 ++ [(0, 0, 0, f)]) ++ [(29, 0, 0, f)]))) ((w_up_at (by decide)).trans ((hSq119.2.2.1.2.2.1))) (fun r131 => ?_)
            refine wa_iadd ?_
            refine wa_sipush (by omega) ?_
            refine wa_icmple (w_rg0 (by omega) (by omega)) (w_rg0 (by omega) (by omega)) ⟨_, rfl⟩ (fun c132 => ?_) (fun c132 => ?_)
            · skip
              refine wa_return rfl ?_
              exact Or.inl ⟨i2, I2, F2, t2, rfl, hd, by omega, ⟨by omega, by omega⟩, _, hSq119, rfl, gSq119⟩
            · skip
              refine wa_fall ⟨_, rfl⟩ ?_
              refine wa_aload_n (n := 0) rfl ?_
              refine wa_bipush (w_rg2 (by omega) (by omega)) ?_
              refine wa_cv 63 rfl (wy_pr rfl) wt_63 (M2 := fun _ => False) rfl at_XP_refuse ⟨_, rfl⟩ rfl rfl ⟨(Or.inr ⟨wy_pr rfl, fun q => q⟩), trivial⟩ trivial (fun _ _ q => False.elim q) (rfp_c (S := (w_up Sq119 63 11 (-1))) (k := 7) (p := tp T n 0 i2) (i := ((i2 : Nat) : Int)) (gI_up hSq119.2.1.1 (by decide) (Or.inl (by decide)) (Or.inl (Or.inl (by decide)))) hSq119.1.2.1 (qx_at hSq119.1.1 hSq119.1.2).2.1 (by have := cQ_ic hSq119; have := hSq119.1.1.1; have := hSq119.1.1.2.2.2.2.2.2.1; have := hSq119.1.1.2.2.2.2.2.2.2.1; show 0 ≤ ((i2 : Nat) : Int) ∧ ((i2 : Nat) : Int) < Sq119 16 (-1); omega) ⟨by omega, by omega⟩ (by have := (qx_at hSq119.1.1 hSq119.1.2).1; omega)) (fun oq135 Sq135 hp136 q135 => ?_)
              rcases q135 with ⟨v133, rfl, hz134⟩
              refine ⟨rfl, ?_⟩
              refine Or.inr ⟨_, _, rfl, cQf_of (m := 0) (w := 0) (cQg_tr gSq119 (cQg_up (by decide) (by decide) (Or.inl rfl))) (by omega) (by omega) (cQn_11 (cQn_of hSq119)) hz134, ?_⟩
              exact Or.inr (Or.inr ⟨by omega, i2, I2, F2, t2, hd, Or.inr ⟨by omega, by omega, rfl⟩⟩)
        · skip
          refine wa_aload_n (n := 0) rfl ?_
          refine wa_iconst ?_
          refine wa_cv 63 rfl (wy_pr rfl) wt_63 (M2 := fun _ => False) rfl at_XP_refuse ⟨_, rfl⟩ rfl rfl ⟨(Or.inr ⟨wy_pr rfl, fun q => q⟩), trivial⟩ trivial (fun _ _ q => False.elim q) (rf_q (S := Sq106) (k := 1) hSq106 ⟨by omega, by omega⟩) (fun oq139 Sq139 hp140 q139 => ?_)
          rcases q139 with ⟨v137, rfl, hz138⟩
          refine ⟨rfl, ?_⟩
          refine Or.inr ⟨_, _, rfl, cQf_of (m := 0) (w := 0) gSq106 (by omega) (by omega) (cQn_of hSq106) hz138, ?_⟩
          exact Or.inr (Or.inr ⟨by omega, i2, I2, F2, t2, hd, Or.inl ⟨by omega, rfl⟩⟩)
      · skip
        refine ⟨rfl, ?_⟩
        refine Or.inr ⟨_, _, rfl, cQf_tr (m := 0) (w := 0) gU (by omega) (by omega) hz, ?_⟩
        exact Or.inr (Or.inl ⟨by omega, hd⟩)
    · skip
      exact absurd hlt (by omega)
  · skip
    refine wa_aload_n (n := 0) rfl ?_
    refine wa_aload_n (n := 0) rfl ?_
    refine wb_gf4 63 rfl (wy_pr rfl) wt_63 wf_1_0 (v := 14) wl_63_0 ?_
    refine wa_cv 14 rfl (wy_pr rfl) wt_14 (M2 := fun _ => False) rfl at_XR_kind ⟨_, rfl⟩ rfl rfl ⟨(Or.inr ⟨wy_pr rfl, fun q => q⟩), trivial⟩ ⟨(Or.inr ⟨wy_pr rfl, fun q => q⟩), trivial⟩ (fun _ _ q => False.elim q) (kd_p (S := S) (i := 0) hI hT hP) (fun oq141 Sq141 hp142 q141 => ?_)
    rcases q141 with ⟨rfl, rfl⟩
    show wJ _ _ _ _ _ _ _ _ _ _
    refine wa_ifeq (w_rg0 (by omega) (by omega)) ⟨_, rfl⟩ (fun c143 => ?_) (fun c143 => ?_)
    · skip
      refine wa_bipush (w_rg2 (by omega) (by omega)) ?_
      refine wa_goto ⟨_, rfl⟩ ?_
      refine wa_cv 63 rfl (wy_pr rfl) wt_63 (M2 := fun _ => False) rfl at_XP_refuse ⟨_, rfl⟩ rfl rfl ⟨(Or.inr ⟨wy_pr rfl, fun q => q⟩), trivial⟩ trivial (fun _ _ q => False.elim q) (rfp_c (S := S) (k := 7) (p := tp T n 0 0) (i := ((0 : Nat) : Int)) hI hP.1 hqa.2.1 ⟨by omega, by omega⟩ ⟨by omega, by omega⟩ ⟨by omega, by omega⟩) (fun oq146 Sq146 hp147 q146 => ?_)
      rcases q146 with ⟨v144, rfl, hz145⟩
      refine ⟨rfl, ?_⟩
      refine Or.inr ⟨_, _, rfl, cQf_of (m := 0) (w := 0) cQg_rfl (by omega) (by omega) (cQn_0 h0) hz145, ?_⟩
      exact Or.inl ⟨by omega, by first | exact Or.inl ⟨by unfold pz_bs pz_bx; omega, rfl⟩ | exact Or.inr ⟨by unfold pz_bs pz_bx; omega, rfl⟩⟩
    · skip
      refine wa_aload_n (n := 0) rfl ?_
      refine wb_gf4 63 rfl (wy_pr rfl) wt_63 wf_1_0 (v := 14) wl_63_0 ?_
      refine wa_cv 14 rfl (wy_pr rfl) wt_14 (M2 := fun _ => False) rfl at_XR_kind ⟨_, rfl⟩ rfl rfl ⟨(Or.inr ⟨wy_pr rfl, fun q => q⟩), trivial⟩ ⟨(Or.inr ⟨wy_pr rfl, fun q => q⟩), trivial⟩ (fun _ _ q => False.elim q) (kd_p (S := S) (i := 0) hI hT hP) (fun oq148 Sq148 hp149 q148 => ?_)
      rcases q148 with ⟨rfl, rfl⟩
      show wJ _ _ _ _ _ _ _ _ _ _
      refine wa_cs (M2 := fun _ => False) rfl at_XP_beginsStatement ⟨_, rfl⟩ rfl rfl ⟨(Or.inr ⟨wy_pr rfl, fun q => q⟩), trivial⟩ ⟨(Or.inr ⟨wy_pr rfl, fun q => q⟩), trivial⟩ (fun _ _ q => False.elim q) ?_ (fun _ _ _ q => q)
      refine wa_iload_n (n := 0) rfl ?_
      refine wa_bipush (w_rg2 (by omega) (by omega)) ?_
      refine wa_icmpeq (w_rg0 (by omega) (by omega)) (w_rg0 (by omega) (by omega)) ⟨_, rfl⟩ (fun c150 => ?_) (fun c150 => ?_)
      · skip
        refine wa_iload_n (n := 0) rfl ?_
        refine wa_bipush (w_rg2 (by omega) (by omega)) ?_
        refine wa_icmpeq (w_rg0 (by omega) (by omega)) (w_rg0 (by omega) (by omega)) ⟨_, rfl⟩ (fun c151 => ?_) (fun c151 => ?_)
        · skip
          exact absurd c151 (by omega)
        · skip
          refine wa_iload_n (n := 0) rfl ?_
          refine wa_bipush (w_rg2 (by omega) (by omega)) ?_
          refine wa_icmpeq (w_rg0 (by omega) (by omega)) (w_rg0 (by omega) (by omega)) ⟨_, rfl⟩ (fun c152 => ?_) (fun c152 => ?_)
          · skip
            exact absurd c152 (by omega)
          · skip
            refine wa_iload_n (n := 0) rfl ?_
            refine wa_bipush (w_rg2 (by omega) (by omega)) ?_
            refine wa_icmpeq (w_rg0 (by omega) (by omega)) (w_rg0 (by omega) (by omega)) ⟨_, rfl⟩ (fun c153 => ?_) (fun c153 => ?_)
            · skip
              exact absurd c153 (by omega)
            · skip
              refine wa_iload_n (n := 0) rfl ?_
              refine wa_bipush (w_rg2 (by omega) (by omega)) ?_
              refine wa_icmpeq (w_rg0 (by omega) (by omega)) (w_rg0 (by omega) (by omega)) ⟨_, rfl⟩ (fun c154 => ?_) (fun c154 => ?_)
              · skip
                exact absurd c154 (by omega)
              · skip
                refine wa_iload_n (n := 0) rfl ?_
                refine wa_bipush (w_rg2 (by omega) (by omega)) ?_
                refine wa_icmpeq (w_rg0 (by omega) (by omega)) (w_rg0 (by omega) (by omega)) ⟨_, rfl⟩ (fun c155 => ?_) (fun c155 => ?_)
                · skip
                  exact absurd c155 (by omega)
                · skip
                  refine wa_iload_n (n := 0) rfl ?_
                  refine wa_bipush (w_rg2 (by omega) (by omega)) ?_
                  refine wa_icmpne (w_rg0 (by omega) (by omega)) (w_rg0 (by omega) (by omega)) ⟨_, rfl⟩ (fun c156 => ?_) (fun c156 => ?_)
                  · skip
                    refine wa_iconst ?_
                    refine wa_fall ⟨_, rfl⟩ ?_
                    refine wa_zreturn rfl (Or.inl rfl) ?_
                    show wJ _ _ _ _ _ _ _ _ _ _
                    refine wa_ifeq (w_rg0 (by omega) (by omega)) ⟨_, rfl⟩ (fun c157 => ?_) (fun c157 => ?_)
                    · skip
                      refine wa_iconst ?_
                      refine wa_fall ⟨_, rfl⟩ ?_
                      refine wa_cv 63 rfl (wy_pr rfl) wt_63 (M2 := fun _ => False) rfl at_XP_refuse ⟨_, rfl⟩ rfl rfl ⟨(Or.inr ⟨wy_pr rfl, fun q => q⟩), trivial⟩ trivial (fun _ _ q => False.elim q) (rfp_c (S := S) (k := 1) (p := tp T n 0 0) (i := ((0 : Nat) : Int)) hI hP.1 hqa.2.1 ⟨by omega, by omega⟩ ⟨by omega, by omega⟩ ⟨by omega, by omega⟩) (fun oq160 Sq160 hp161 q160 => ?_)
                      rcases q160 with ⟨v158, rfl, hz159⟩
                      refine ⟨rfl, ?_⟩
                      refine Or.inr ⟨_, _, rfl, cQf_of (m := 0) (w := 0) cQg_rfl (by omega) (by omega) (cQn_0 h0) hz159, ?_⟩
                      exact Or.inl ⟨by omega, by first | exact Or.inl ⟨by unfold pz_bs pz_bx; omega, rfl⟩ | exact Or.inr ⟨by unfold pz_bs pz_bx; omega, rfl⟩⟩
                    · skip
                      exact absurd c157 (by omega)
                  · skip
                    exact absurd c156 (by omega)
      · skip
        refine wa_iload_n (n := 0) rfl ?_
        refine wa_cs (M2 := fun _ => False) rfl at_XP_beginsExpression ⟨_, rfl⟩ rfl rfl ⟨trivial, trivial⟩ trivial (fun _ _ q => False.elim q) ?_ (fun _ _ _ q => q)
        refine wa_iload_n (n := 0) rfl ?_
        refine wa_iconst ?_
        refine wa_icmplt (w_rg0 (by omega) (by omega)) (w_rg0 (by omega) (by omega)) ⟨_, rfl⟩ (fun c162 => ?_) (fun c162 => ?_)
        · skip
          refine wa_iload_n (n := 0) rfl ?_
          refine wa_bipush (w_rg2 (by omega) (by omega)) ?_
          refine wa_icmpeq (w_rg0 (by omega) (by omega)) (w_rg0 (by omega) (by omega)) ⟨_, rfl⟩ (fun c163 => ?_) (fun c163 => ?_)
          · skip
            exact absurd c163 (by omega)
          · skip
            refine wa_iload_n (n := 0) rfl ?_
            refine wa_bipush (w_rg2 (by omega) (by omega)) ?_
            refine wa_icmpeq (w_rg0 (by omega) (by omega)) (w_rg0 (by omega) (by omega)) ⟨_, rfl⟩ (fun c164 => ?_) (fun c164 => ?_)
            · skip
              exact absurd c164 (by omega)
            · skip
              refine wa_iload_n (n := 0) rfl ?_
              refine wa_bipush (w_rg2 (by omega) (by omega)) ?_
              refine wa_icmpeq (w_rg0 (by omega) (by omega)) (w_rg0 (by omega) (by omega)) ⟨_, rfl⟩ (fun c165 => ?_) (fun c165 => ?_)
              · skip
                exact absurd c165 (by omega)
              · skip
                refine wa_iload_n (n := 0) rfl ?_
                refine wa_bipush (w_rg2 (by omega) (by omega)) ?_
                refine wa_icmpeq (w_rg0 (by omega) (by omega)) (w_rg0 (by omega) (by omega)) ⟨_, rfl⟩ (fun c166 => ?_) (fun c166 => ?_)
                · skip
                  exact absurd c166 (by omega)
                · skip
                  refine wa_iload_n (n := 0) rfl ?_
                  refine wa_bipush (w_rg2 (by omega) (by omega)) ?_
                  refine wa_icmpeq (w_rg0 (by omega) (by omega)) (w_rg0 (by omega) (by omega)) ⟨_, rfl⟩ (fun c167 => ?_) (fun c167 => ?_)
                  · skip
                    exact absurd c167 (by omega)
                  · skip
                    refine wa_iload_n (n := 0) rfl ?_
                    refine wa_bipush (w_rg2 (by omega) (by omega)) ?_
                    refine wa_icmpeq (w_rg0 (by omega) (by omega)) (w_rg0 (by omega) (by omega)) ⟨_, rfl⟩ (fun c168 => ?_) (fun c168 => ?_)
                    · skip
                      exact absurd c168 (by omega)
                    · skip
                      refine wa_iload_n (n := 0) rfl ?_
                      refine wa_bipush (w_rg2 (by omega) (by omega)) ?_
                      refine wa_icmplt (w_rg0 (by omega) (by omega)) (w_rg0 (by omega) (by omega)) ⟨_, rfl⟩ (fun c169 => ?_) (fun c169 => ?_)
                      · skip
                        refine wa_iconst ?_
                        refine wa_fall ⟨_, rfl⟩ ?_
                        refine wa_zreturn rfl (Or.inl rfl) ?_
                        show wJ _ _ _ _ _ _ _ _ _ _
                        refine wa_ifne (w_rg0 (by omega) (by omega)) ⟨_, rfl⟩ (fun c170 => ?_) (fun c170 => ?_)
                        · skip
                          exact absurd c170 (by omega)
                        · skip
                          refine wa_fall ⟨_, rfl⟩ ?_
                          refine wa_iload_n (n := 0) rfl ?_
                          refine wa_bipush (w_rg2 (by omega) (by omega)) ?_
                          refine wa_icmpeq (w_rg0 (by omega) (by omega)) (w_rg0 (by omega) (by omega)) ⟨_, rfl⟩ (fun c171 => ?_) (fun c171 => ?_)
                          · skip
                            exact absurd c171 (by omega)
                          · skip
                            refine wa_iload_n (n := 0) rfl ?_
                            refine wa_bipush (w_rg2 (by omega) (by omega)) ?_
                            refine wa_icmpeq (w_rg0 (by omega) (by omega)) (w_rg0 (by omega) (by omega)) ⟨_, rfl⟩ (fun c172 => ?_) (fun c172 => ?_)
                            · skip
                              exact absurd c172 (by omega)
                            · skip
                              refine wa_iload_n (n := 0) rfl ?_
                              refine wa_bipush (w_rg2 (by omega) (by omega)) ?_
                              refine wa_icmpeq (w_rg0 (by omega) (by omega)) (w_rg0 (by omega) (by omega)) ⟨_, rfl⟩ (fun c173 => ?_) (fun c173 => ?_)
                              · skip
                                exact absurd c173 (by omega)
                              · skip
                                refine wa_iload_n (n := 0) rfl ?_
                                refine wa_bipush (w_rg2 (by omega) (by omega)) ?_
                                refine wa_icmpeq (w_rg0 (by omega) (by omega)) (w_rg0 (by omega) (by omega)) ⟨_, rfl⟩ (fun c174 => ?_) (fun c174 => ?_)
                                · skip
                                  exact absurd c174 (by omega)
                                · skip
                                  refine wa_iload_n (n := 0) rfl ?_
                                  refine wa_bipush (w_rg2 (by omega) (by omega)) ?_
                                  refine wa_icmpeq (w_rg0 (by omega) (by omega)) (w_rg0 (by omega) (by omega)) ⟨_, rfl⟩ (fun c175 => ?_) (fun c175 => ?_)
                                  · skip
                                    exact absurd c175 (by omega)
                                  · skip
                                    refine wa_iload_n (n := 0) rfl ?_
                                    refine wa_bipush (w_rg2 (by omega) (by omega)) ?_
                                    refine wa_icmpne (w_rg0 (by omega) (by omega)) (w_rg0 (by omega) (by omega)) ⟨_, rfl⟩ (fun c176 => ?_) (fun c176 => ?_)
                                    · skip
                                      refine wa_iconst ?_
                                      refine wa_fall ⟨_, rfl⟩ ?_
                                      refine wa_zreturn rfl (Or.inl rfl) ?_
                                      show wJ _ _ _ _ _ _ _ _ _ _
                                      refine wa_ifeq (w_rg0 (by omega) (by omega)) ⟨_, rfl⟩ (fun c177 => ?_) (fun c177 => ?_)
                                      · skip
                                        refine wa_iconst ?_
                                        refine wa_fall ⟨_, rfl⟩ ?_
                                        refine wa_cv 63 rfl (wy_pr rfl) wt_63 (M2 := fun _ => False) rfl at_XP_refuse ⟨_, rfl⟩ rfl rfl ⟨(Or.inr ⟨wy_pr rfl, fun q => q⟩), trivial⟩ trivial (fun _ _ q => False.elim q) (rfp_c (S := S) (k := 1) (p := tp T n 0 0) (i := ((0 : Nat) : Int)) hI hP.1 hqa.2.1 ⟨by omega, by omega⟩ ⟨by omega, by omega⟩ ⟨by omega, by omega⟩) (fun oq180 Sq180 hp181 q180 => ?_)
                                        rcases q180 with ⟨v178, rfl, hz179⟩
                                        refine ⟨rfl, ?_⟩
                                        refine Or.inr ⟨_, _, rfl, cQf_of (m := 0) (w := 0) cQg_rfl (by omega) (by omega) (cQn_0 h0) hz179, ?_⟩
                                        exact Or.inl ⟨by omega, by first | exact Or.inl ⟨by unfold pz_bs pz_bx; omega, rfl⟩ | exact Or.inr ⟨by unfold pz_bs pz_bx; omega, rfl⟩⟩
                                      · skip
                                        exact absurd c177 (by omega)
                                    · skip
                                      exact absurd c176 (by omega)
                      · skip
                        exact absurd c169 (by omega)
        · skip
          refine wa_iload_n (n := 0) rfl ?_
          refine wa_bipush (w_rg2 (by omega) (by omega)) ?_
          refine wa_icmple (w_rg0 (by omega) (by omega)) (w_rg0 (by omega) (by omega)) ⟨_, rfl⟩ (fun c182 => ?_) (fun c182 => ?_)
          · skip
            refine wa_iconst ?_
            refine wa_goto ⟨_, rfl⟩ ?_
            refine wa_zreturn rfl (Or.inr rfl) ?_
            show wJ _ _ _ _ _ _ _ _ _ _
            refine wa_ifne (w_rg0 (by omega) (by omega)) ⟨_, rfl⟩ (fun c183 => ?_) (fun c183 => ?_)
            · skip
              refine wa_iconst ?_
              refine wa_goto ⟨_, rfl⟩ ?_
              refine wa_zreturn rfl (Or.inr rfl) ?_
              show wJ _ _ _ _ _ _ _ _ _ _
              refine wa_ifeq (w_rg0 (by omega) (by omega)) ⟨_, rfl⟩ (fun c184 => ?_) (fun c184 => ?_)
              · skip
                exact absurd c184 (by omega)
              · skip
                refine wa_fall ⟨_, rfl⟩ ?_
                refine wa_bipush (w_rg2 (by omega) (by omega)) ?_
                refine wa_goto ⟨_, rfl⟩ ?_
                refine wa_cv 63 rfl (wy_pr rfl) wt_63 (M2 := fun _ => False) rfl at_XP_refuse ⟨_, rfl⟩ rfl rfl ⟨(Or.inr ⟨wy_pr rfl, fun q => q⟩), trivial⟩ trivial (fun _ _ q => False.elim q) (rfp_c (S := S) (k := 7) (p := tp T n 0 0) (i := ((0 : Nat) : Int)) hI hP.1 hqa.2.1 ⟨by omega, by omega⟩ ⟨by omega, by omega⟩ ⟨by omega, by omega⟩) (fun oq187 Sq187 hp188 q187 => ?_)
                rcases q187 with ⟨v185, rfl, hz186⟩
                refine ⟨rfl, ?_⟩
                refine Or.inr ⟨_, _, rfl, cQf_of (m := 0) (w := 0) cQg_rfl (by omega) (by omega) (cQn_0 h0) hz186, ?_⟩
                exact Or.inl ⟨by omega, by first | exact Or.inl ⟨by unfold pz_bs pz_bx; omega, rfl⟩ | exact Or.inr ⟨by unfold pz_bs pz_bx; omega, rfl⟩⟩
            · skip
              exact absurd c183 (by omega)
          · skip
            refine wa_fall ⟨_, rfl⟩ ?_
            refine wa_iload_n (n := 0) rfl ?_
            refine wa_bipush (w_rg2 (by omega) (by omega)) ?_
            refine wa_icmpeq (w_rg0 (by omega) (by omega)) (w_rg0 (by omega) (by omega)) ⟨_, rfl⟩ (fun c189 => ?_) (fun c189 => ?_)
            · skip
              refine wa_iconst ?_
              refine wa_goto ⟨_, rfl⟩ ?_
              refine wa_zreturn rfl (Or.inr rfl) ?_
              show wJ _ _ _ _ _ _ _ _ _ _
              refine wa_ifne (w_rg0 (by omega) (by omega)) ⟨_, rfl⟩ (fun c190 => ?_) (fun c190 => ?_)
              · skip
                refine wa_iconst ?_
                refine wa_goto ⟨_, rfl⟩ ?_
                refine wa_zreturn rfl (Or.inr rfl) ?_
                show wJ _ _ _ _ _ _ _ _ _ _
                refine wa_ifeq (w_rg0 (by omega) (by omega)) ⟨_, rfl⟩ (fun c191 => ?_) (fun c191 => ?_)
                · skip
                  exact absurd c191 (by omega)
                · skip
                  refine wa_fall ⟨_, rfl⟩ ?_
                  refine wa_bipush (w_rg2 (by omega) (by omega)) ?_
                  refine wa_goto ⟨_, rfl⟩ ?_
                  refine wa_cv 63 rfl (wy_pr rfl) wt_63 (M2 := fun _ => False) rfl at_XP_refuse ⟨_, rfl⟩ rfl rfl ⟨(Or.inr ⟨wy_pr rfl, fun q => q⟩), trivial⟩ trivial (fun _ _ q => False.elim q) (rfp_c (S := S) (k := 7) (p := tp T n 0 0) (i := ((0 : Nat) : Int)) hI hP.1 hqa.2.1 ⟨by omega, by omega⟩ ⟨by omega, by omega⟩ ⟨by omega, by omega⟩) (fun oq194 Sq194 hp195 q194 => ?_)
                  rcases q194 with ⟨v192, rfl, hz193⟩
                  refine ⟨rfl, ?_⟩
                  refine Or.inr ⟨_, _, rfl, cQf_of (m := 0) (w := 0) cQg_rfl (by omega) (by omega) (cQn_0 h0) hz193, ?_⟩
                  exact Or.inl ⟨by omega, by first | exact Or.inl ⟨by unfold pz_bs pz_bx; omega, rfl⟩ | exact Or.inr ⟨by unfold pz_bs pz_bx; omega, rfl⟩⟩
              · skip
                exact absurd c190 (by omega)
            · skip
              refine wa_iload_n (n := 0) rfl ?_
              refine wa_bipush (w_rg2 (by omega) (by omega)) ?_
              refine wa_icmpeq (w_rg0 (by omega) (by omega)) (w_rg0 (by omega) (by omega)) ⟨_, rfl⟩ (fun c196 => ?_) (fun c196 => ?_)
              · skip
                refine wa_iconst ?_
                refine wa_goto ⟨_, rfl⟩ ?_
                refine wa_zreturn rfl (Or.inr rfl) ?_
                show wJ _ _ _ _ _ _ _ _ _ _
                refine wa_ifne (w_rg0 (by omega) (by omega)) ⟨_, rfl⟩ (fun c197 => ?_) (fun c197 => ?_)
                · skip
                  refine wa_iconst ?_
                  refine wa_goto ⟨_, rfl⟩ ?_
                  refine wa_zreturn rfl (Or.inr rfl) ?_
                  show wJ _ _ _ _ _ _ _ _ _ _
                  refine wa_ifeq (w_rg0 (by omega) (by omega)) ⟨_, rfl⟩ (fun c198 => ?_) (fun c198 => ?_)
                  · skip
                    exact absurd c198 (by omega)
                  · skip
                    refine wa_fall ⟨_, rfl⟩ ?_
                    refine wa_bipush (w_rg2 (by omega) (by omega)) ?_
                    refine wa_goto ⟨_, rfl⟩ ?_
                    refine wa_cv 63 rfl (wy_pr rfl) wt_63 (M2 := fun _ => False) rfl at_XP_refuse ⟨_, rfl⟩ rfl rfl ⟨(Or.inr ⟨wy_pr rfl, fun q => q⟩), trivial⟩ trivial (fun _ _ q => False.elim q) (rfp_c (S := S) (k := 7) (p := tp T n 0 0) (i := ((0 : Nat) : Int)) hI hP.1 hqa.2.1 ⟨by omega, by omega⟩ ⟨by omega, by omega⟩ ⟨by omega, by omega⟩) (fun oq201 Sq201 hp202 q201 => ?_)
                    rcases q201 with ⟨v199, rfl, hz200⟩
                    refine ⟨rfl, ?_⟩
                    refine Or.inr ⟨_, _, rfl, cQf_of (m := 0) (w := 0) cQg_rfl (by omega) (by omega) (cQn_0 h0) hz200, ?_⟩
                    exact Or.inl ⟨by omega, by first | exact Or.inl ⟨by unfold pz_bs pz_bx; omega, rfl⟩ | exact Or.inr ⟨by unfold pz_bs pz_bx; omega, rfl⟩⟩
                · skip
                  exact absurd c197 (by omega)
              · skip
                refine wa_iload_n (n := 0) rfl ?_
                refine wa_bipush (w_rg2 (by omega) (by omega)) ?_
                refine wa_icmpeq (w_rg0 (by omega) (by omega)) (w_rg0 (by omega) (by omega)) ⟨_, rfl⟩ (fun c203 => ?_) (fun c203 => ?_)
                · skip
                  exact absurd c203 (by omega)
                · skip
                  refine wa_iload_n (n := 0) rfl ?_
                  refine wa_bipush (w_rg2 (by omega) (by omega)) ?_
                  refine wa_icmpeq (w_rg0 (by omega) (by omega)) (w_rg0 (by omega) (by omega)) ⟨_, rfl⟩ (fun c204 => ?_) (fun c204 => ?_)
                  · skip
                    refine wa_iconst ?_
                    refine wa_goto ⟨_, rfl⟩ ?_
                    refine wa_zreturn rfl (Or.inr rfl) ?_
                    show wJ _ _ _ _ _ _ _ _ _ _
                    refine wa_ifne (w_rg0 (by omega) (by omega)) ⟨_, rfl⟩ (fun c205 => ?_) (fun c205 => ?_)
                    · skip
                      refine wa_iconst ?_
                      refine wa_goto ⟨_, rfl⟩ ?_
                      refine wa_zreturn rfl (Or.inr rfl) ?_
                      show wJ _ _ _ _ _ _ _ _ _ _
                      refine wa_ifeq (w_rg0 (by omega) (by omega)) ⟨_, rfl⟩ (fun c206 => ?_) (fun c206 => ?_)
                      · skip
                        exact absurd c206 (by omega)
                      · skip
                        refine wa_fall ⟨_, rfl⟩ ?_
                        refine wa_bipush (w_rg2 (by omega) (by omega)) ?_
                        refine wa_goto ⟨_, rfl⟩ ?_
                        refine wa_cv 63 rfl (wy_pr rfl) wt_63 (M2 := fun _ => False) rfl at_XP_refuse ⟨_, rfl⟩ rfl rfl ⟨(Or.inr ⟨wy_pr rfl, fun q => q⟩), trivial⟩ trivial (fun _ _ q => False.elim q) (rfp_c (S := S) (k := 7) (p := tp T n 0 0) (i := ((0 : Nat) : Int)) hI hP.1 hqa.2.1 ⟨by omega, by omega⟩ ⟨by omega, by omega⟩ ⟨by omega, by omega⟩) (fun oq209 Sq209 hp210 q209 => ?_)
                        rcases q209 with ⟨v207, rfl, hz208⟩
                        refine ⟨rfl, ?_⟩
                        refine Or.inr ⟨_, _, rfl, cQf_of (m := 0) (w := 0) cQg_rfl (by omega) (by omega) (cQn_0 h0) hz208, ?_⟩
                        exact Or.inl ⟨by omega, by first | exact Or.inl ⟨by unfold pz_bs pz_bx; omega, rfl⟩ | exact Or.inr ⟨by unfold pz_bs pz_bx; omega, rfl⟩⟩
                    · skip
                      exact absurd c205 (by omega)
                  · skip
                    refine wa_iload_n (n := 0) rfl ?_
                    refine wa_bipush (w_rg2 (by omega) (by omega)) ?_
                    refine wa_icmpeq (w_rg0 (by omega) (by omega)) (w_rg0 (by omega) (by omega)) ⟨_, rfl⟩ (fun c211 => ?_) (fun c211 => ?_)
                    · skip
                      refine wa_iconst ?_
                      refine wa_goto ⟨_, rfl⟩ ?_
                      refine wa_zreturn rfl (Or.inr rfl) ?_
                      show wJ _ _ _ _ _ _ _ _ _ _
                      refine wa_ifne (w_rg0 (by omega) (by omega)) ⟨_, rfl⟩ (fun c212 => ?_) (fun c212 => ?_)
                      · skip
                        refine wa_iconst ?_
                        refine wa_goto ⟨_, rfl⟩ ?_
                        refine wa_zreturn rfl (Or.inr rfl) ?_
                        show wJ _ _ _ _ _ _ _ _ _ _
                        refine wa_ifeq (w_rg0 (by omega) (by omega)) ⟨_, rfl⟩ (fun c213 => ?_) (fun c213 => ?_)
                        · skip
                          exact absurd c213 (by omega)
                        · skip
                          refine wa_fall ⟨_, rfl⟩ ?_
                          refine wa_bipush (w_rg2 (by omega) (by omega)) ?_
                          refine wa_goto ⟨_, rfl⟩ ?_
                          refine wa_cv 63 rfl (wy_pr rfl) wt_63 (M2 := fun _ => False) rfl at_XP_refuse ⟨_, rfl⟩ rfl rfl ⟨(Or.inr ⟨wy_pr rfl, fun q => q⟩), trivial⟩ trivial (fun _ _ q => False.elim q) (rfp_c (S := S) (k := 7) (p := tp T n 0 0) (i := ((0 : Nat) : Int)) hI hP.1 hqa.2.1 ⟨by omega, by omega⟩ ⟨by omega, by omega⟩ ⟨by omega, by omega⟩) (fun oq216 Sq216 hp217 q216 => ?_)
                          rcases q216 with ⟨v214, rfl, hz215⟩
                          refine ⟨rfl, ?_⟩
                          refine Or.inr ⟨_, _, rfl, cQf_of (m := 0) (w := 0) cQg_rfl (by omega) (by omega) (cQn_0 h0) hz215, ?_⟩
                          exact Or.inl ⟨by omega, by first | exact Or.inl ⟨by unfold pz_bs pz_bx; omega, rfl⟩ | exact Or.inr ⟨by unfold pz_bs pz_bx; omega, rfl⟩⟩
                      · skip
                        exact absurd c212 (by omega)
                    · skip
                      refine wa_iload_n (n := 0) rfl ?_
                      refine wa_bipush (w_rg2 (by omega) (by omega)) ?_
                      refine wa_icmpeq (w_rg0 (by omega) (by omega)) (w_rg0 (by omega) (by omega)) ⟨_, rfl⟩ (fun c218 => ?_) (fun c218 => ?_)
                      · skip
                        refine wa_iconst ?_
                        refine wa_goto ⟨_, rfl⟩ ?_
                        refine wa_zreturn rfl (Or.inr rfl) ?_
                        show wJ _ _ _ _ _ _ _ _ _ _
                        refine wa_ifne (w_rg0 (by omega) (by omega)) ⟨_, rfl⟩ (fun c219 => ?_) (fun c219 => ?_)
                        · skip
                          refine wa_iconst ?_
                          refine wa_goto ⟨_, rfl⟩ ?_
                          refine wa_zreturn rfl (Or.inr rfl) ?_
                          show wJ _ _ _ _ _ _ _ _ _ _
                          refine wa_ifeq (w_rg0 (by omega) (by omega)) ⟨_, rfl⟩ (fun c220 => ?_) (fun c220 => ?_)
                          · skip
                            exact absurd c220 (by omega)
                          · skip
                            refine wa_fall ⟨_, rfl⟩ ?_
                            refine wa_bipush (w_rg2 (by omega) (by omega)) ?_
                            refine wa_goto ⟨_, rfl⟩ ?_
                            refine wa_cv 63 rfl (wy_pr rfl) wt_63 (M2 := fun _ => False) rfl at_XP_refuse ⟨_, rfl⟩ rfl rfl ⟨(Or.inr ⟨wy_pr rfl, fun q => q⟩), trivial⟩ trivial (fun _ _ q => False.elim q) (rfp_c (S := S) (k := 7) (p := tp T n 0 0) (i := ((0 : Nat) : Int)) hI hP.1 hqa.2.1 ⟨by omega, by omega⟩ ⟨by omega, by omega⟩ ⟨by omega, by omega⟩) (fun oq223 Sq223 hp224 q223 => ?_)
                            rcases q223 with ⟨v221, rfl, hz222⟩
                            refine ⟨rfl, ?_⟩
                            refine Or.inr ⟨_, _, rfl, cQf_of (m := 0) (w := 0) cQg_rfl (by omega) (by omega) (cQn_0 h0) hz222, ?_⟩
                            exact Or.inl ⟨by omega, by first | exact Or.inl ⟨by unfold pz_bs pz_bx; omega, rfl⟩ | exact Or.inr ⟨by unfold pz_bs pz_bx; omega, rfl⟩⟩
                        · skip
                          exact absurd c219 (by omega)
                      · skip
                        refine wa_iload_n (n := 0) rfl ?_
                        refine wa_bipush (w_rg2 (by omega) (by omega)) ?_
                        refine wa_icmplt (w_rg0 (by omega) (by omega)) (w_rg0 (by omega) (by omega)) ⟨_, rfl⟩ (fun c225 => ?_) (fun c225 => ?_)
                        · skip
                          refine wa_iconst ?_
                          refine wa_fall ⟨_, rfl⟩ ?_
                          refine wa_zreturn rfl (Or.inl rfl) ?_
                          show wJ _ _ _ _ _ _ _ _ _ _
                          refine wa_ifne (w_rg0 (by omega) (by omega)) ⟨_, rfl⟩ (fun c226 => ?_) (fun c226 => ?_)
                          · skip
                            exact absurd c226 (by omega)
                          · skip
                            refine wa_fall ⟨_, rfl⟩ ?_
                            refine wa_iload_n (n := 0) rfl ?_
                            refine wa_bipush (w_rg2 (by omega) (by omega)) ?_
                            refine wa_icmpeq (w_rg0 (by omega) (by omega)) (w_rg0 (by omega) (by omega)) ⟨_, rfl⟩ (fun c227 => ?_) (fun c227 => ?_)
                            · skip
                              refine wa_iconst ?_
                              refine wa_goto ⟨_, rfl⟩ ?_
                              refine wa_zreturn rfl (Or.inr rfl) ?_
                              show wJ _ _ _ _ _ _ _ _ _ _
                              refine wa_ifeq (w_rg0 (by omega) (by omega)) ⟨_, rfl⟩ (fun c228 => ?_) (fun c228 => ?_)
                              · skip
                                exact absurd c228 (by omega)
                              · skip
                                refine wa_fall ⟨_, rfl⟩ ?_
                                refine wa_bipush (w_rg2 (by omega) (by omega)) ?_
                                refine wa_goto ⟨_, rfl⟩ ?_
                                refine wa_cv 63 rfl (wy_pr rfl) wt_63 (M2 := fun _ => False) rfl at_XP_refuse ⟨_, rfl⟩ rfl rfl ⟨(Or.inr ⟨wy_pr rfl, fun q => q⟩), trivial⟩ trivial (fun _ _ q => False.elim q) (rfp_c (S := S) (k := 7) (p := tp T n 0 0) (i := ((0 : Nat) : Int)) hI hP.1 hqa.2.1 ⟨by omega, by omega⟩ ⟨by omega, by omega⟩ ⟨by omega, by omega⟩) (fun oq231 Sq231 hp232 q231 => ?_)
                                rcases q231 with ⟨v229, rfl, hz230⟩
                                refine ⟨rfl, ?_⟩
                                refine Or.inr ⟨_, _, rfl, cQf_of (m := 0) (w := 0) cQg_rfl (by omega) (by omega) (cQn_0 h0) hz230, ?_⟩
                                exact Or.inl ⟨by omega, by first | exact Or.inl ⟨by unfold pz_bs pz_bx; omega, rfl⟩ | exact Or.inr ⟨by unfold pz_bs pz_bx; omega, rfl⟩⟩
                            · skip
                              refine wa_iload_n (n := 0) rfl ?_
                              refine wa_bipush (w_rg2 (by omega) (by omega)) ?_
                              refine wa_icmpeq (w_rg0 (by omega) (by omega)) (w_rg0 (by omega) (by omega)) ⟨_, rfl⟩ (fun c233 => ?_) (fun c233 => ?_)
                              · skip
                                refine wa_iconst ?_
                                refine wa_goto ⟨_, rfl⟩ ?_
                                refine wa_zreturn rfl (Or.inr rfl) ?_
                                show wJ _ _ _ _ _ _ _ _ _ _
                                refine wa_ifeq (w_rg0 (by omega) (by omega)) ⟨_, rfl⟩ (fun c234 => ?_) (fun c234 => ?_)
                                · skip
                                  exact absurd c234 (by omega)
                                · skip
                                  refine wa_fall ⟨_, rfl⟩ ?_
                                  refine wa_bipush (w_rg2 (by omega) (by omega)) ?_
                                  refine wa_goto ⟨_, rfl⟩ ?_
                                  refine wa_cv 63 rfl (wy_pr rfl) wt_63 (M2 := fun _ => False) rfl at_XP_refuse ⟨_, rfl⟩ rfl rfl ⟨(Or.inr ⟨wy_pr rfl, fun q => q⟩), trivial⟩ trivial (fun _ _ q => False.elim q) (rfp_c (S := S) (k := 7) (p := tp T n 0 0) (i := ((0 : Nat) : Int)) hI hP.1 hqa.2.1 ⟨by omega, by omega⟩ ⟨by omega, by omega⟩ ⟨by omega, by omega⟩) (fun oq237 Sq237 hp238 q237 => ?_)
                                  rcases q237 with ⟨v235, rfl, hz236⟩
                                  refine ⟨rfl, ?_⟩
                                  refine Or.inr ⟨_, _, rfl, cQf_of (m := 0) (w := 0) cQg_rfl (by omega) (by omega) (cQn_0 h0) hz236, ?_⟩
                                  exact Or.inl ⟨by omega, by first | exact Or.inl ⟨by unfold pz_bs pz_bx; omega, rfl⟩ | exact Or.inr ⟨by unfold pz_bs pz_bx; omega, rfl⟩⟩
                              · skip
                                refine wa_iload_n (n := 0) rfl ?_
                                refine wa_bipush (w_rg2 (by omega) (by omega)) ?_
                                refine wa_icmpeq (w_rg0 (by omega) (by omega)) (w_rg0 (by omega) (by omega)) ⟨_, rfl⟩ (fun c239 => ?_) (fun c239 => ?_)
                                · skip
                                  refine wa_iconst ?_
                                  refine wa_goto ⟨_, rfl⟩ ?_
                                  refine wa_zreturn rfl (Or.inr rfl) ?_
                                  show wJ _ _ _ _ _ _ _ _ _ _
                                  refine wa_ifeq (w_rg0 (by omega) (by omega)) ⟨_, rfl⟩ (fun c240 => ?_) (fun c240 => ?_)
                                  · skip
                                    exact absurd c240 (by omega)
                                  · skip
                                    refine wa_fall ⟨_, rfl⟩ ?_
                                    refine wa_bipush (w_rg2 (by omega) (by omega)) ?_
                                    refine wa_goto ⟨_, rfl⟩ ?_
                                    refine wa_cv 63 rfl (wy_pr rfl) wt_63 (M2 := fun _ => False) rfl at_XP_refuse ⟨_, rfl⟩ rfl rfl ⟨(Or.inr ⟨wy_pr rfl, fun q => q⟩), trivial⟩ trivial (fun _ _ q => False.elim q) (rfp_c (S := S) (k := 7) (p := tp T n 0 0) (i := ((0 : Nat) : Int)) hI hP.1 hqa.2.1 ⟨by omega, by omega⟩ ⟨by omega, by omega⟩ ⟨by omega, by omega⟩) (fun oq243 Sq243 hp244 q243 => ?_)
                                    rcases q243 with ⟨v241, rfl, hz242⟩
                                    refine ⟨rfl, ?_⟩
                                    refine Or.inr ⟨_, _, rfl, cQf_of (m := 0) (w := 0) cQg_rfl (by omega) (by omega) (cQn_0 h0) hz242, ?_⟩
                                    exact Or.inl ⟨by omega, by first | exact Or.inl ⟨by unfold pz_bs pz_bx; omega, rfl⟩ | exact Or.inr ⟨by unfold pz_bs pz_bx; omega, rfl⟩⟩
                                · skip
                                  refine wa_iload_n (n := 0) rfl ?_
                                  refine wa_bipush (w_rg2 (by omega) (by omega)) ?_
                                  refine wa_icmpeq (w_rg0 (by omega) (by omega)) (w_rg0 (by omega) (by omega)) ⟨_, rfl⟩ (fun c245 => ?_) (fun c245 => ?_)
                                  · skip
                                    refine wa_iconst ?_
                                    refine wa_goto ⟨_, rfl⟩ ?_
                                    refine wa_zreturn rfl (Or.inr rfl) ?_
                                    show wJ _ _ _ _ _ _ _ _ _ _
                                    refine wa_ifeq (w_rg0 (by omega) (by omega)) ⟨_, rfl⟩ (fun c246 => ?_) (fun c246 => ?_)
                                    · skip
                                      exact absurd c246 (by omega)
                                    · skip
                                      refine wa_fall ⟨_, rfl⟩ ?_
                                      refine wa_bipush (w_rg2 (by omega) (by omega)) ?_
                                      refine wa_goto ⟨_, rfl⟩ ?_
                                      refine wa_cv 63 rfl (wy_pr rfl) wt_63 (M2 := fun _ => False) rfl at_XP_refuse ⟨_, rfl⟩ rfl rfl ⟨(Or.inr ⟨wy_pr rfl, fun q => q⟩), trivial⟩ trivial (fun _ _ q => False.elim q) (rfp_c (S := S) (k := 7) (p := tp T n 0 0) (i := ((0 : Nat) : Int)) hI hP.1 hqa.2.1 ⟨by omega, by omega⟩ ⟨by omega, by omega⟩ ⟨by omega, by omega⟩) (fun oq249 Sq249 hp250 q249 => ?_)
                                      rcases q249 with ⟨v247, rfl, hz248⟩
                                      refine ⟨rfl, ?_⟩
                                      refine Or.inr ⟨_, _, rfl, cQf_of (m := 0) (w := 0) cQg_rfl (by omega) (by omega) (cQn_0 h0) hz248, ?_⟩
                                      exact Or.inl ⟨by omega, by first | exact Or.inl ⟨by unfold pz_bs pz_bx; omega, rfl⟩ | exact Or.inr ⟨by unfold pz_bs pz_bx; omega, rfl⟩⟩
                                  · skip
                                    refine wa_iload_n (n := 0) rfl ?_
                                    refine wa_bipush (w_rg2 (by omega) (by omega)) ?_
                                    refine wa_icmpeq (w_rg0 (by omega) (by omega)) (w_rg0 (by omega) (by omega)) ⟨_, rfl⟩ (fun c251 => ?_) (fun c251 => ?_)
                                    · skip
                                      refine wa_iconst ?_
                                      refine wa_goto ⟨_, rfl⟩ ?_
                                      refine wa_zreturn rfl (Or.inr rfl) ?_
                                      show wJ _ _ _ _ _ _ _ _ _ _
                                      refine wa_ifeq (w_rg0 (by omega) (by omega)) ⟨_, rfl⟩ (fun c252 => ?_) (fun c252 => ?_)
                                      · skip
                                        exact absurd c252 (by omega)
                                      · skip
                                        refine wa_fall ⟨_, rfl⟩ ?_
                                        refine wa_bipush (w_rg2 (by omega) (by omega)) ?_
                                        refine wa_goto ⟨_, rfl⟩ ?_
                                        refine wa_cv 63 rfl (wy_pr rfl) wt_63 (M2 := fun _ => False) rfl at_XP_refuse ⟨_, rfl⟩ rfl rfl ⟨(Or.inr ⟨wy_pr rfl, fun q => q⟩), trivial⟩ trivial (fun _ _ q => False.elim q) (rfp_c (S := S) (k := 7) (p := tp T n 0 0) (i := ((0 : Nat) : Int)) hI hP.1 hqa.2.1 ⟨by omega, by omega⟩ ⟨by omega, by omega⟩ ⟨by omega, by omega⟩) (fun oq255 Sq255 hp256 q255 => ?_)
                                        rcases q255 with ⟨v253, rfl, hz254⟩
                                        refine ⟨rfl, ?_⟩
                                        refine Or.inr ⟨_, _, rfl, cQf_of (m := 0) (w := 0) cQg_rfl (by omega) (by omega) (cQn_0 h0) hz254, ?_⟩
                                        exact Or.inl ⟨by omega, by first | exact Or.inl ⟨by unfold pz_bs pz_bx; omega, rfl⟩ | exact Or.inr ⟨by unfold pz_bs pz_bx; omega, rfl⟩⟩
                                    · skip
                                      refine wa_iload_n (n := 0) rfl ?_
                                      refine wa_bipush (w_rg2 (by omega) (by omega)) ?_
                                      refine wa_icmpne (w_rg0 (by omega) (by omega)) (w_rg0 (by omega) (by omega)) ⟨_, rfl⟩ (fun c257 => ?_) (fun c257 => ?_)
                                      · skip
                                        refine wa_iconst ?_
                                        refine wa_fall ⟨_, rfl⟩ ?_
                                        refine wa_zreturn rfl (Or.inl rfl) ?_
                                        show wJ _ _ _ _ _ _ _ _ _ _
                                        refine wa_ifeq (w_rg0 (by omega) (by omega)) ⟨_, rfl⟩ (fun c258 => ?_) (fun c258 => ?_)
                                        · skip
                                          refine wa_iconst ?_
                                          refine wa_fall ⟨_, rfl⟩ ?_
                                          refine wa_cv 63 rfl (wy_pr rfl) wt_63 (M2 := fun _ => False) rfl at_XP_refuse ⟨_, rfl⟩ rfl rfl ⟨(Or.inr ⟨wy_pr rfl, fun q => q⟩), trivial⟩ trivial (fun _ _ q => False.elim q) (rfp_c (S := S) (k := 1) (p := tp T n 0 0) (i := ((0 : Nat) : Int)) hI hP.1 hqa.2.1 ⟨by omega, by omega⟩ ⟨by omega, by omega⟩ ⟨by omega, by omega⟩) (fun oq261 Sq261 hp262 q261 => ?_)
                                          rcases q261 with ⟨v259, rfl, hz260⟩
                                          refine ⟨rfl, ?_⟩
                                          refine Or.inr ⟨_, _, rfl, cQf_of (m := 0) (w := 0) cQg_rfl (by omega) (by omega) (cQn_0 h0) hz260, ?_⟩
                                          exact Or.inl ⟨by omega, by first | exact Or.inl ⟨by unfold pz_bs pz_bx; omega, rfl⟩ | exact Or.inr ⟨by unfold pz_bs pz_bx; omega, rfl⟩⟩
                                        · skip
                                          exact absurd c258 (by omega)
                                      · skip
                                        refine wa_fall ⟨_, rfl⟩ ?_
                                        refine wa_iconst ?_
                                        refine wa_goto ⟨_, rfl⟩ ?_
                                        refine wa_zreturn rfl (Or.inr rfl) ?_
                                        show wJ _ _ _ _ _ _ _ _ _ _
                                        refine wa_ifeq (w_rg0 (by omega) (by omega)) ⟨_, rfl⟩ (fun c263 => ?_) (fun c263 => ?_)
                                        · skip
                                          exact absurd c263 (by omega)
                                        · skip
                                          refine wa_fall ⟨_, rfl⟩ ?_
                                          refine wa_bipush (w_rg2 (by omega) (by omega)) ?_
                                          refine wa_goto ⟨_, rfl⟩ ?_
                                          refine wa_cv 63 rfl (wy_pr rfl) wt_63 (M2 := fun _ => False) rfl at_XP_refuse ⟨_, rfl⟩ rfl rfl ⟨(Or.inr ⟨wy_pr rfl, fun q => q⟩), trivial⟩ trivial (fun _ _ q => False.elim q) (rfp_c (S := S) (k := 7) (p := tp T n 0 0) (i := ((0 : Nat) : Int)) hI hP.1 hqa.2.1 ⟨by omega, by omega⟩ ⟨by omega, by omega⟩ ⟨by omega, by omega⟩) (fun oq266 Sq266 hp267 q266 => ?_)
                                          rcases q266 with ⟨v264, rfl, hz265⟩
                                          refine ⟨rfl, ?_⟩
                                          refine Or.inr ⟨_, _, rfl, cQf_of (m := 0) (w := 0) cQg_rfl (by omega) (by omega) (cQn_0 h0) hz265, ?_⟩
                                          exact Or.inl ⟨by omega, by first | exact Or.inl ⟨by unfold pz_bs pz_bx; omega, rfl⟩ | exact Or.inr ⟨by unfold pz_bs pz_bx; omega, rfl⟩⟩
                        · skip
                          refine wa_iload_n (n := 0) rfl ?_
                          refine wa_bipush (w_rg2 (by omega) (by omega)) ?_
                          refine wa_icmpge (w_rg0 (by omega) (by omega)) (w_rg0 (by omega) (by omega)) ⟨_, rfl⟩ (fun c268 => ?_) (fun c268 => ?_)
                          · skip
                            refine wa_iconst ?_
                            refine wa_fall ⟨_, rfl⟩ ?_
                            refine wa_zreturn rfl (Or.inl rfl) ?_
                            show wJ _ _ _ _ _ _ _ _ _ _
                            refine wa_ifne (w_rg0 (by omega) (by omega)) ⟨_, rfl⟩ (fun c269 => ?_) (fun c269 => ?_)
                            · skip
                              exact absurd c269 (by omega)
                            · skip
                              refine wa_fall ⟨_, rfl⟩ ?_
                              refine wa_iload_n (n := 0) rfl ?_
                              refine wa_bipush (w_rg2 (by omega) (by omega)) ?_
                              refine wa_icmpeq (w_rg0 (by omega) (by omega)) (w_rg0 (by omega) (by omega)) ⟨_, rfl⟩ (fun c270 => ?_) (fun c270 => ?_)
                              · skip
                                exact absurd c270 (by omega)
                              · skip
                                refine wa_iload_n (n := 0) rfl ?_
                                refine wa_bipush (w_rg2 (by omega) (by omega)) ?_
                                refine wa_icmpeq (w_rg0 (by omega) (by omega)) (w_rg0 (by omega) (by omega)) ⟨_, rfl⟩ (fun c271 => ?_) (fun c271 => ?_)
                                · skip
                                  exact absurd c271 (by omega)
                                · skip
                                  refine wa_iload_n (n := 0) rfl ?_
                                  refine wa_bipush (w_rg2 (by omega) (by omega)) ?_
                                  refine wa_icmpeq (w_rg0 (by omega) (by omega)) (w_rg0 (by omega) (by omega)) ⟨_, rfl⟩ (fun c272 => ?_) (fun c272 => ?_)
                                  · skip
                                    exact absurd c272 (by omega)
                                  · skip
                                    refine wa_iload_n (n := 0) rfl ?_
                                    refine wa_bipush (w_rg2 (by omega) (by omega)) ?_
                                    refine wa_icmpeq (w_rg0 (by omega) (by omega)) (w_rg0 (by omega) (by omega)) ⟨_, rfl⟩ (fun c273 => ?_) (fun c273 => ?_)
                                    · skip
                                      exact absurd c273 (by omega)
                                    · skip
                                      refine wa_iload_n (n := 0) rfl ?_
                                      refine wa_bipush (w_rg2 (by omega) (by omega)) ?_
                                      refine wa_icmpeq (w_rg0 (by omega) (by omega)) (w_rg0 (by omega) (by omega)) ⟨_, rfl⟩ (fun c274 => ?_) (fun c274 => ?_)
                                      · skip
                                        exact absurd c274 (by omega)
                                      · skip
                                        refine wa_iload_n (n := 0) rfl ?_
                                        refine wa_bipush (w_rg2 (by omega) (by omega)) ?_
                                        refine wa_icmpne (w_rg0 (by omega) (by omega)) (w_rg0 (by omega) (by omega)) ⟨_, rfl⟩ (fun c275 => ?_) (fun c275 => ?_)
                                        · skip
                                          refine wa_iconst ?_
                                          refine wa_fall ⟨_, rfl⟩ ?_
                                          refine wa_zreturn rfl (Or.inl rfl) ?_
                                          show wJ _ _ _ _ _ _ _ _ _ _
                                          refine wa_ifeq (w_rg0 (by omega) (by omega)) ⟨_, rfl⟩ (fun c276 => ?_) (fun c276 => ?_)
                                          · skip
                                            refine wa_iconst ?_
                                            refine wa_fall ⟨_, rfl⟩ ?_
                                            refine wa_cv 63 rfl (wy_pr rfl) wt_63 (M2 := fun _ => False) rfl at_XP_refuse ⟨_, rfl⟩ rfl rfl ⟨(Or.inr ⟨wy_pr rfl, fun q => q⟩), trivial⟩ trivial (fun _ _ q => False.elim q) (rfp_c (S := S) (k := 1) (p := tp T n 0 0) (i := ((0 : Nat) : Int)) hI hP.1 hqa.2.1 ⟨by omega, by omega⟩ ⟨by omega, by omega⟩ ⟨by omega, by omega⟩) (fun oq279 Sq279 hp280 q279 => ?_)
                                            rcases q279 with ⟨v277, rfl, hz278⟩
                                            refine ⟨rfl, ?_⟩
                                            refine Or.inr ⟨_, _, rfl, cQf_of (m := 0) (w := 0) cQg_rfl (by omega) (by omega) (cQn_0 h0) hz278, ?_⟩
                                            exact Or.inl ⟨by omega, by first | exact Or.inl ⟨by unfold pz_bs pz_bx; omega, rfl⟩ | exact Or.inr ⟨by unfold pz_bs pz_bx; omega, rfl⟩⟩
                                          · skip
                                            exact absurd c276 (by omega)
                                        · skip
                                          exact absurd c275 (by omega)
                          · skip
                            refine wa_fall ⟨_, rfl⟩ ?_
                            refine wa_iconst ?_
                            refine wa_goto ⟨_, rfl⟩ ?_
                            refine wa_zreturn rfl (Or.inr rfl) ?_
                            show wJ _ _ _ _ _ _ _ _ _ _
                            refine wa_ifne (w_rg0 (by omega) (by omega)) ⟨_, rfl⟩ (fun c281 => ?_) (fun c281 => ?_)
                            · skip
                              refine wa_iconst ?_
                              refine wa_goto ⟨_, rfl⟩ ?_
                              refine wa_zreturn rfl (Or.inr rfl) ?_
                              show wJ _ _ _ _ _ _ _ _ _ _
                              refine wa_ifeq (w_rg0 (by omega) (by omega)) ⟨_, rfl⟩ (fun c282 => ?_) (fun c282 => ?_)
                              · skip
                                exact absurd c282 (by omega)
                              · skip
                                refine wa_fall ⟨_, rfl⟩ ?_
                                refine wa_bipush (w_rg2 (by omega) (by omega)) ?_
                                refine wa_goto ⟨_, rfl⟩ ?_
                                refine wa_cv 63 rfl (wy_pr rfl) wt_63 (M2 := fun _ => False) rfl at_XP_refuse ⟨_, rfl⟩ rfl rfl ⟨(Or.inr ⟨wy_pr rfl, fun q => q⟩), trivial⟩ trivial (fun _ _ q => False.elim q) (rfp_c (S := S) (k := 7) (p := tp T n 0 0) (i := ((0 : Nat) : Int)) hI hP.1 hqa.2.1 ⟨by omega, by omega⟩ ⟨by omega, by omega⟩ ⟨by omega, by omega⟩) (fun oq285 Sq285 hp286 q285 => ?_)
                                rcases q285 with ⟨v283, rfl, hz284⟩
                                refine ⟨rfl, ?_⟩
                                refine Or.inr ⟨_, _, rfl, cQf_of (m := 0) (w := 0) cQg_rfl (by omega) (by omega) (cQn_0 h0) hz284, ?_⟩
                                exact Or.inl ⟨by omega, by first | exact Or.inl ⟨by unfold pz_bs pz_bx; omega, rfl⟩ | exact Or.inr ⟨by unfold pz_bs pz_bx; omega, rfl⟩⟩
                            · skip
                              exact absurd c281 (by omega)
end Wbh
