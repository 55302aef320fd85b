/-! PART ef: texts compared, of both sides. -/
section Wef
variable {xs : List (Nat × List Int32)} {M : Nat → Prop} {d : Nat} {S Z : wS} {l1 l2 : List Int}
theorem dr_c {l : List Int} {i : Nat} (h : i < l.length) : l.drop i = l.getD i 0 :: l.drop (i + 1) := by
  rw [List.drop_eq_getElem_cons h, List.getD_eq_getElem?_getD, List.getElem?_eq_getElem h]; rfl
theorem cmp_s {i : Nat} (h1 : i < l1.length) (h2 : i < l2.length) : cmpL (l1.drop i) (l2.drop i) = if l1.getD i 0 = l2.getD i 0 then cmpL (l1.drop (i + 1)) (l2.drop (i + 1)) else l1.getD i 0 - l2.getD i 0 := by
  rw [dr_c h1, dr_c h2]; rfl
theorem cmp_e {i : Nat} (h : l1.length = i ∨ l2.length = i) (h1 : i ≤ l1.length) (h2 : i ≤ l2.length) : cmpL (l1.drop i) (l2.drop i) = (l1.length : Int) - (l2.length : Int) := by
  rcases h with h | h
  · rw [show l1.drop i = [] from List.drop_eq_nil_of_le (by omega)]
    have : cmpL [] (l2.drop i) = -((l2.drop i).length : Int) := by cases l2.drop i <;> rfl
    rw [this, List.length_drop]; omega
  · rw [show l2.drop i = [] from List.drop_eq_nil_of_le (by omega), cmpL_nil, List.length_drop]; omega
theorem cp_l {v1 v2 s1 s2 mn : Int} (hs1 : 0 ≤ s1 ∧ s1 + (l1.length : Int) ≤ S 3 (-1)) (hs2 : 0 ≤ s2 ∧ s2 + (l2.length : Int) ≤ S 3 (-1)) (hz : S 3 (-1) ≤ 10000000) (e1 : ∀ i : Nat, i < l1.length → S 3 (s1 + (i : Int)) = l1.getD i 0) (e2 : ∀ i : Nat, i < l2.length → S 3 (s2 + (i : Int)) = l2.getD i 0) (hv1 : v1 = s1 * 4294967296 + (l1.length : Int)) (hv2 : v2 = s2 * 4294967296 + (l2.length : Int)) (hmn : mn = (if (l1.length : Int) ≤ (l2.length : Int) then (l1.length : Int) else (l2.length : Int))) : ∀ (f i : Nat), mn - (i : Int) < f → (i : Int) ≤ mn → wJ (pe_GA xs) wY0 M (d + 1) t_XW_compare ((pe_at t_XW_compare.bl 2).getD (0, [])).2 [(0, (2, 2)), (1, (1, v1)), (3, (1, v2)), (5, (0, mn)), (6, (0, s1)), (7, (0, s2)), (8, (0, (i : Int)))] [] S (fun o Z => S = Z ∧ o = .inl (some (0, cmpL (l1.drop i) (l2.drop i)))) := by
  have hmn2 : (mn = (l1.length : Int) ∧ (l1.length : Int) ≤ (l2.length : Int)) ∨ (mn = (l2.length : Int) ∧ (l2.length : Int) ≤ (l1.length : Int)) := by rw [hmn]; split <;> omega
  intro f
  induction f with
  | zero => intro i h1 h2; omega
  | succ f ih =>
    intro i h1 h2
    refine wa_iload (n := 8) rfl ?_
    refine wa_iload (n := 5) rfl ?_
    refine wa_icmpge (w_rg0 (by omega) (by omega)) (w_rg0 (by omega) (by omega)) ⟨_, rfl⟩ (fun c51 => ?_) (fun c51 => ?_)
    · skip
      refine wa_lload_n (n := 1) rfl ?_
      refine wa_cs (M2 := fun _ => False) rfl at_X_sliceSize ⟨_, rfl⟩ rfl rfl ⟨(Or.inr ⟨wy_pr rfl, fun q => q⟩), trivial, trivial, trivial, trivial, trivial, trivial, trivial⟩ trivial (fun _ _ q => False.elim q) ?_ (fun _ _ _ q => q)
      refine wa_lload_n (n := 0) rfl ?_
      refine wb_l2i_r (y := (l1.length : Int)) (by rw [hv1]; exact sl_z ⟨by omega, by omega⟩ ⟨by omega, by omega⟩) ?_
      refine wa_ireturn rfl ?_
      show wJ _ _ _ _ _ _ _ _ _ _
      refine wa_lload_n (n := 3) rfl ?_
      refine wa_cs (M2 := fun _ => False) rfl at_X_sliceSize ⟨_, rfl⟩ rfl rfl ⟨(Or.inr ⟨wy_pr rfl, fun q => q⟩), trivial, trivial, trivial, trivial, trivial, trivial, trivial⟩ ⟨trivial, trivial⟩ (fun _ _ q => False.elim q) ?_ (fun _ _ _ q => q)
      refine wa_lload_n (n := 0) rfl ?_
      refine wb_l2i_r (y := (l2.length : Int)) (by rw [hv2]; exact sl_z ⟨by omega, by omega⟩ ⟨by omega, by omega⟩) ?_
      refine wa_ireturn rfl ?_
      show wJ _ _ _ _ _ _ _ _ _ _
      refine wa_isub ?_
      refine wa_ireturn rfl ?_
      rw [cmp_e (by omega) (by omega) (by omega)]
      exact ⟨rfl, rfl⟩
    · skip
      have g1 := e1 i (by omega)
      have g2 := e2 i (by omega)
      refine wa_aload_n (n := 0) rfl ?_
      refine wb_gf4 2 rfl (wy_pr rfl) wt_2 wf_9_0 (v := 3) wl_2_0 ?_
      refine wa_iload (n := 6) rfl ?_
      refine wa_iload (n := 8) rfl ?_
      refine wa_iadd ?_
      refine wb_bald 3 rfl (wy_pr rfl) wt_3 (n := (S 3 (-1))) (rfl) (by omega) (by omega) (v := (l1.getD i 0)) (g1) (fun r52 => ?_)
      refine wa_aload_n (n := 0) rfl ?_
      refine wb_gf4 2 rfl (wy_pr rfl) wt_2 wf_9_0 (v := 3) wl_2_0 ?_
      refine wa_iload (n := 7) rfl ?_
      refine wa_iload (n := 8) rfl ?_
      refine wa_iadd ?_
      refine wb_bald 3 rfl (wy_pr rfl) wt_3 (n := (S 3 (-1))) (rfl) (by omega) (by omega) (v := (l2.getD i 0)) (g2) (fun r53 => ?_)
      refine wa_icmpeq (w_rg0 (by omega) (by omega)) (w_rg0 (by omega) (by omega)) ⟨_, rfl⟩ (fun c54 => ?_) (fun c54 => ?_)
      · skip
        refine wa_iinc rfl rfl ?_
        refine wa_goto ⟨_, rfl⟩ ?_
        rw [cmp_s (by omega) (by omega), if_pos (by omega)]
        exact wJ_S (ih (i + 1) (by omega) (by omega)) ⟨rfl, rfl, rfl, rfl, rfl, rfl, rfl, trivial⟩
      · skip
        refine wa_aload_n (n := 0) rfl ?_
        refine wb_gf4 2 rfl (wy_pr rfl) wt_2 wf_9_0 (v := 3) wl_2_0 ?_
        refine wa_iload (n := 6) rfl ?_
        refine wa_iload (n := 8) rfl ?_
        refine wa_iadd ?_
        refine wb_bald 3 rfl (wy_pr rfl) wt_3 (n := (S 3 (-1))) (rfl) (by omega) (by omega) (v := (l1.getD i 0)) (g1) (fun r55 => ?_)
        refine wa_aload_n (n := 0) rfl ?_
        refine wb_gf4 2 rfl (wy_pr rfl) wt_2 wf_9_0 (v := 3) wl_2_0 ?_
        refine wa_iload (n := 7) rfl ?_
        refine wa_iload (n := 8) rfl ?_
        refine wa_iadd ?_
        refine wb_bald 3 rfl (wy_pr rfl) wt_3 (n := (S 3 (-1))) (rfl) (by omega) (by omega) (v := (l2.getD i 0)) (g2) (fun r56 => ?_)
        refine wa_isub ?_
        refine wa_ireturn rfl ?_
        rw [cmp_s (by omega) (by omega), if_neg (by omega)]
        exact ⟨rfl, rfl⟩
theorem cp_ok {v1 v2 s1 s2 : Int} (hs1 : 0 ≤ s1 ∧ s1 + (l1.length : Int) ≤ S 3 (-1)) (hs2 : 0 ≤ s2 ∧ s2 + (l2.length : Int) ≤ S 3 (-1)) (hz : S 3 (-1) ≤ 10000000) (e1 : ∀ i : Nat, i < l1.length → S 3 (s1 + (i : Int)) = l1.getD i 0) (e2 : ∀ i : Nat, i < l2.length → S 3 (s2 + (i : Int)) = l2.getD i 0) (hv1 : v1 = s1 * 4294967296 + (l1.length : Int)) (hv2 : v2 = s2 * 4294967296 + (l2.length : Int)) : wJ (pe_GA xs) wY0 M (d + 1) t_XW_compare ((pe_at t_XW_compare.bl 0).getD (0, [])).2 [(0, (2, 2)), (1, (1, v1)), (3, (1, v2))] [] S (fun o Z => S = Z ∧ o = .inl (some (0, cmpL l1 l2))) := by
  refine wa_lload_n (n := 1) rfl ?_
  refine wa_lload_n (n := 3) rfl ?_
  refine wa_lcmp (w_rg1 (by omega) (by omega)) (w_rg1 (by omega) (by omega)) ?_
  refine wa_ifne (by have := @wb_lcmp_cases; exact w_lcmp_rg) ⟨_, rfl⟩ (fun c1 => ?_) (fun c1 => ?_)
  · skip
    have c1x := @wb_lcmp_cases v1 v2
    refine wa_lload_n (n := 1) rfl ?_
    refine wa_cs (M2 := fun _ => False) rfl at_X_sliceSize ⟨_, rfl⟩ rfl rfl ⟨(Or.inr ⟨wy_pr rfl, fun q => q⟩), trivial, trivial, trivial⟩ trivial (fun _ _ q => False.elim q) ?_ (fun _ _ _ q => q)
    refine wa_lload_n (n := 0) rfl ?_
    refine wb_l2i_r (y := (l1.length : Int)) (by rw [hv1]; exact sl_z ⟨by omega, by omega⟩ ⟨by omega, by omega⟩) ?_
    refine wa_ireturn rfl ?_
    show wJ _ _ _ _ _ _ _ _ _ _
    refine wa_lload_n (n := 3) rfl ?_
    refine wa_cs (M2 := fun _ => False) rfl at_X_sliceSize ⟨_, rfl⟩ rfl rfl ⟨(Or.inr ⟨wy_pr rfl, fun q => q⟩), trivial, trivial, trivial⟩ ⟨trivial, trivial⟩ (fun _ _ q => False.elim q) ?_ (fun _ _ _ q => q)
    refine wa_lload_n (n := 0) rfl ?_
    refine wb_l2i_r (y := (l2.length : Int)) (by rw [hv2]; exact sl_z ⟨by omega, by omega⟩ ⟨by omega, by omega⟩) ?_
    refine wa_ireturn rfl ?_
    show wJ _ _ _ _ _ _ _ _ _ _
    refine wa_cs (M2 := fun _ => False) rfl at_JM_min ⟨_, rfl⟩ rfl rfl ⟨(Or.inr ⟨wy_pr rfl, fun q => q⟩), trivial, trivial, trivial⟩ trivial (fun _ _ q => False.elim q) ?_ (fun _ _ _ q => q)
    refine wa_iload_n (n := 0) rfl ?_
    refine wa_iload_n (n := 1) rfl ?_
    refine wa_icmpgt (w_rg0 (by omega) (by omega)) (w_rg0 (by omega) (by omega)) ⟨_, rfl⟩ (fun c2 => ?_) (fun c2 => ?_)
    · skip
      refine wa_iload_n (n := 1) rfl ?_
      refine wa_fall ⟨_, rfl⟩ ?_
      refine wa_ireturn rfl ?_
      show wJ _ _ _ _ _ _ _ _ _ _
      refine wa_istore (n := 5) rfl ?_
      refine wa_lload_n (n := 1) rfl ?_
      refine wa_cs (M2 := fun _ => False) rfl at_X_sliceStart ⟨_, rfl⟩ rfl rfl ⟨trivial, (Or.inr ⟨wy_pr rfl, fun q => q⟩), trivial, trivial, trivial⟩ trivial (fun _ _ q => False.elim q) ?_ (fun _ _ _ q => q)
      refine wa_lload_n (n := 0) rfl ?_
      refine wa_bipush (w_rg2 (by omega) (by omega)) ?_
      refine wa_lushr ?_
      refine wb_l2i_r (y := s1) (by rw [hv1]; exact sl_s ⟨by omega, by omega⟩ ⟨by omega, by omega⟩) ?_
      refine wa_ireturn rfl ?_
      show wJ _ _ _ _ _ _ _ _ _ _
      refine wa_istore (n := 6) rfl ?_
      refine wa_lload_n (n := 3) rfl ?_
      refine wa_cs (M2 := fun _ => False) rfl at_X_sliceStart ⟨_, rfl⟩ rfl rfl ⟨trivial, trivial, (Or.inr ⟨wy_pr rfl, fun q => q⟩), trivial, trivial, trivial⟩ trivial (fun _ _ q => False.elim q) ?_ (fun _ _ _ q => q)
      refine wa_lload_n (n := 0) rfl ?_
      refine wa_bipush (w_rg2 (by omega) (by omega)) ?_
      refine wa_lushr ?_
      refine wb_l2i_r (y := s2) (by rw [hv2]; exact sl_s ⟨by omega, by omega⟩ ⟨by omega, by omega⟩) ?_
      refine wa_ireturn rfl ?_
      show wJ _ _ _ _ _ _ _ _ _ _
      refine wa_istore (n := 7) rfl ?_
      refine wa_iconst ?_
      refine wa_istore (n := 8) rfl ?_
      refine wa_fall ⟨_, rfl⟩ ?_
      have := cp_l (xs := xs) (M := M) (d := d) (mn := (l2.length : Int)) hs1 hs2 hz e1 e2 hv1 hv2 (by first | rw [if_pos (by omega)] | rw [if_neg (by omega)]) ((l2.length : Int) + 1).toNat 0 (by omega) (by omega)
      rw [List.drop_zero, List.drop_zero] at this
      exact wJ_S this ⟨rfl, rfl, rfl, rfl, rfl, rfl, rfl, trivial⟩
    · skip
      refine wa_iload_n (n := 0) rfl ?_
      refine wa_goto ⟨_, rfl⟩ ?_
      refine wa_ireturn rfl ?_
      show wJ _ _ _ _ _ _ _ _ _ _
      refine wa_istore (n := 5) rfl ?_
      refine wa_lload_n (n := 1) rfl ?_
      refine wa_cs (M2 := fun _ => False) rfl at_X_sliceStart ⟨_, rfl⟩ rfl rfl ⟨trivial, (Or.inr ⟨wy_pr rfl, fun q => q⟩), trivial, trivial, trivial⟩ trivial (fun _ _ q => False.elim q) ?_ (fun _ _ _ q => q)
      refine wa_lload_n (n := 0) rfl ?_
      refine wa_bipush (w_rg2 (by omega) (by omega)) ?_
      refine wa_lushr ?_
      refine wb_l2i_r (y := s1) (by rw [hv1]; exact sl_s ⟨by omega, by omega⟩ ⟨by omega, by omega⟩) ?_
      refine wa_ireturn rfl ?_
      show wJ _ _ _ _ _ _ _ _ _ _
      refine wa_istore (n := 6) rfl ?_
      refine wa_lload_n (n := 3) rfl ?_
      refine wa_cs (M2 := fun _ => False) rfl at_X_sliceStart ⟨_, rfl⟩ rfl rfl ⟨trivial, trivial, (Or.inr ⟨wy_pr rfl, fun q => q⟩), trivial, trivial, trivial⟩ trivial (fun _ _ q => False.elim q) ?_ (fun _ _ _ q => q)
      refine wa_lload_n (n := 0) rfl ?_
      refine wa_bipush (w_rg2 (by omega) (by omega)) ?_
      refine wa_lushr ?_
      refine wb_l2i_r (y := s2) (by rw [hv2]; exact sl_s ⟨by omega, by omega⟩ ⟨by omega, by omega⟩) ?_
      refine wa_ireturn rfl ?_
      show wJ _ _ _ _ _ _ _ _ _ _
      refine wa_istore (n := 7) rfl ?_
      refine wa_iconst ?_
      refine wa_istore (n := 8) rfl ?_
      refine wa_fall ⟨_, rfl⟩ ?_
      have := cp_l (xs := xs) (M := M) (d := d) (mn := (l1.length : Int)) hs1 hs2 hz e1 e2 hv1 hv2 (by first | rw [if_pos (by omega)] | rw [if_neg (by omega)]) ((l1.length : Int) + 1).toNat 0 (by omega) (by omega)
      rw [List.drop_zero, List.drop_zero] at this
      exact wJ_S this ⟨rfl, rfl, rfl, rfl, rfl, rfl, rfl, trivial⟩
  · skip
    have c1x := @wb_lcmp_cases v1 v2
    refine wa_iconst ?_
    refine wa_ireturn rfl ?_
    obtain ⟨q1, q2⟩ := sl_i (s := s1) (n := (l1.length : Int)) (s2 := s2) (n2 := (l2.length : Int)) ⟨by omega, by omega⟩ ⟨by omega, by omega⟩ (by omega)
    have q3 : l1 = l2 := by
      refine List.ext_getElem (by omega) (fun i i1 i2 => ?_)
      have a1 := e1 i i1
      have a2 := e2 i i2
      rw [q1, a2, List.getD_eq_getElem?_getD, List.getD_eq_getElem?_getD, List.getElem?_eq_getElem i1, List.getElem?_eq_getElem i2] at a1
      exact a1.symm
    rw [q3, cmpL_rfl]
    exact ⟨rfl, rfl⟩
theorem ct_l {a b s1 s2 : Int} (hM : w_ML S) (ha : 0 ≤ a ∧ a < 16000) (hb : 0 ≤ b ∧ b < 16000) (n1 : S 285 a = (l1.length : Int)) (n2 : S 285 b = (l2.length : Int)) (f1 : S 284 a = s1) (f2 : S 284 b = s2) (hs1 : 0 ≤ s1 ∧ s1 + (l1.length : Int) ≤ 269632) (hs2 : 0 ≤ s2 ∧ s2 + (l2.length : Int) ≤ 269632) (e1 : ∀ i : Nat, i < l1.length → S 283 (s1 + (i : Int)) = l1.getD i 0) (e2 : ∀ i : Nat, i < l2.length → S 283 (s2 + (i : Int)) = l2.getD i 0) : ∀ (f i : Nat), (l1.length : Int) - (i : Int) < f → i ≤ l1.length → i ≤ l2.length → wJ (pe_GA xs) wY0 M d t_M_compareTexts ((pe_at t_M_compareTexts.bl 1).getD (0, [])).2 [(0, (2, 237)), (1, (0, a)), (2, (0, b)), (3, (0, (l1.length : Int))), (4, (0, (l2.length : Int))), (5, (0, (i : Int)))] [] S (fun o Z => S = Z ∧ o = .inl (some (0, cmpL (l1.drop i) (l2.drop i)))) := by
  intro f
  induction f with
  | zero => intro i h1 h2; omega
  | succ f ih =>
    intro i h1 h2 h3
    refine wa_iload (n := 5) rfl ?_
    refine wa_iload_n (n := 3) rfl ?_
    refine wa_icmpge (w_rg0 (by omega) (by omega)) (w_rg0 (by omega) (by omega)) ⟨_, rfl⟩ (fun c51 => ?_) (fun c51 => ?_)
    · skip
      refine wa_iload_n (n := 3) rfl ?_
      refine wa_iload (n := 4) rfl ?_
      refine wa_isub ?_
      refine wa_ireturn rfl ?_
      rw [cmp_e (by omega) (by omega) (by omega)]
      exact ⟨rfl, rfl⟩
    · skip
      refine wa_iload (n := 5) rfl ?_
      refine wa_iload (n := 4) rfl ?_
      refine wa_icmpge (w_rg0 (by omega) (by omega)) (w_rg0 (by omega) (by omega)) ⟨_, rfl⟩ (fun c52 => ?_) (fun c52 => ?_)
      · skip
        refine wa_iload_n (n := 3) rfl ?_
        refine wa_iload (n := 4) rfl ?_
        refine wa_isub ?_
        refine wa_ireturn rfl ?_
        rw [cmp_e (by omega) (by omega) (by omega)]
        exact ⟨rfl, rfl⟩
      · skip
        have g1 := e1 i (by omega)
        have g2 := e2 i (by omega)
        refine wa_aload_n (n := 0) rfl ?_
        refine wb_gf4 237 rfl (wy_pr rfl) wt_237 wf_15_21 (v := 283) wl_237_21 ?_
        refine wa_aload_n (n := 0) rfl ?_
        refine wb_gf4 237 rfl (wy_pr rfl) wt_237 wf_15_22 (v := 284) wl_237_22 ?_
        refine wa_iload_n (n := 1) rfl ?_
        refine wb_iald 284 rfl (wy_pr rfl) wt_284 (n := 16000) ((ml_284 hM)) (by omega) (by omega) (v := s1) (f1) (fun r53 => ?_)
        refine wa_iload (n := 5) rfl ?_
        refine wa_iadd ?_
        refine wb_bald 283 rfl (wy_pr rfl) wt_283 (n := 269632) ((ml_283 hM)) (by omega) (by omega) (v := (l1.getD i 0)) (g1) (fun r54 => ?_)
        refine wa_aload_n (n := 0) rfl ?_
        refine wb_gf4 237 rfl (wy_pr rfl) wt_237 wf_15_21 (v := 283) wl_237_21 ?_
        refine wa_aload_n (n := 0) rfl ?_
        refine wb_gf4 237 rfl (wy_pr rfl) wt_237 wf_15_22 (v := 284) wl_237_22 ?_
        refine wa_iload_n (n := 2) rfl ?_
        refine wb_iald 284 rfl (wy_pr rfl) wt_284 (n := 16000) ((ml_284 hM)) (by omega) (by omega) (v := s2) (f2) (fun r55 => ?_)
        refine wa_iload (n := 5) rfl ?_
        refine wa_iadd ?_
        refine wb_bald 283 rfl (wy_pr rfl) wt_283 (n := 269632) ((ml_283 hM)) (by omega) (by omega) (v := (l2.getD i 0)) (g2) (fun r56 => ?_)
        refine wa_isub ?_
        refine wa_istore (n := 6) rfl ?_
        refine wa_iload (n := 6) rfl ?_
        refine wa_ifeq (w_rg0 (by omega) (by omega)) ⟨_, rfl⟩ (fun c57 => ?_) (fun c57 => ?_)
        · skip
          refine wa_iinc rfl rfl ?_
          refine wa_goto ⟨_, rfl⟩ ?_
          rw [cmp_s (by omega) (by omega), if_pos (by omega)]
          exact wJ_S (ih (i + 1) (by omega) (by omega) (by omega)) ⟨rfl, rfl, rfl, rfl, rfl, rfl, trivial⟩
        · skip
          refine wa_iload (n := 6) rfl ?_
          refine wa_ireturn rfl ?_
          rw [cmp_s (by omega) (by omega), if_neg (by omega)]
          exact ⟨rfl, rfl⟩
theorem ct_ok {a b s1 s2 : Int} (hM : w_ML S) (ha : 0 ≤ a ∧ a < 16000) (hb : 0 ≤ b ∧ b < 16000) (n1 : S 285 a = (l1.length : Int)) (n2 : S 285 b = (l2.length : Int)) (f1 : S 284 a = s1) (f2 : S 284 b = s2) (hs1 : 0 ≤ s1 ∧ s1 + (l1.length : Int) ≤ 269632) (hs2 : 0 ≤ s2 ∧ s2 + (l2.length : Int) ≤ 269632) (e1 : ∀ i : Nat, i < l1.length → S 283 (s1 + (i : Int)) = l1.getD i 0) (e2 : ∀ i : Nat, i < l2.length → S 283 (s2 + (i : Int)) = l2.getD i 0) : wJ (pe_GA xs) wY0 M d t_M_compareTexts ((pe_at t_M_compareTexts.bl 0).getD (0, [])).2 [(0, (2, 237)), (1, (0, a)), (2, (0, b))] [] S (fun o Z => S = Z ∧ o = .inl (some (0, cmpL l1 l2))) := by
  refine wa_aload_n (n := 0) rfl ?_
  refine wb_gf4 237 rfl (wy_pr rfl) wt_237 wf_15_23 (v := 285) wl_237_23 ?_
  refine wa_iload_n (n := 1) rfl ?_
  refine wb_iald 285 rfl (wy_pr rfl) wt_285 (n := 16000) ((ml_285 hM)) (by omega) (by omega) (v := (l1.length : Int)) (n1) (fun r1 => ?_)
  refine wa_istore_n (n := 3) rfl ?_
  refine wa_aload_n (n := 0) rfl ?_
  refine wb_gf4 237 rfl (wy_pr rfl) wt_237 wf_15_23 (v := 285) wl_237_23 ?_
  refine wa_iload_n (n := 2) rfl ?_
  refine wb_iald 285 rfl (wy_pr rfl) wt_285 (n := 16000) ((ml_285 hM)) (by omega) (by omega) (v := (l2.length : Int)) (n2) (fun r2 => ?_)
  refine wa_istore (n := 4) rfl ?_
  refine wa_iconst ?_
  refine wa_istore (n := 5) rfl ?_
  refine wa_fall ⟨_, rfl⟩ ?_
  have := ct_l (xs := xs) (M := M) (d := d) hM ha hb n1 n2 f1 f2 hs1 hs2 e1 e2 (l1.length + 1) 0 (by omega) (by omega) (by omega)
  rw [List.drop_zero, List.drop_zero] at this
  exact wJ_S this ⟨rfl, rfl, rfl, rfl, rfl, rfl, trivial⟩
end Wef
