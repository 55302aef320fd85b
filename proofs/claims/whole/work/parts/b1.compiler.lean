/-! PART b1: the class's Compiler: addVariable, takeVariable. -/
section Wb1
variable {xs : List (Nat × List Int32)} {M : Nat → Prop} {d : Nat} {A B C S Z : wS} {Q : wO → wS → Prop} {T : Int → Int} {n : Int} {N X : List (List Int)} {c i : Nat}
/-- one more variable, y, of the function f -/
def av_ag (f y : Int) (S Z : wS) : Prop := (Z 63 13 = S 63 13 + 1 ∧ Z 69 (S 63 13) = y ∧ Z 70 (S 63 13) = S 29 f ∧ Z 29 f = S 63 13 ∧ Z 23 f = S 23 f + 1) ∧ (∀ x : Int, 0 ≤ x → x < S 63 13 → Z 69 x = S 69 x ∧ Z 70 x = S 70 x) ∧ (∀ (j : Nat) (x : Int), j < 4000000 → j ≠ wG → j ≠ 69 → j ≠ 70 → (j ≠ 63 ∨ x ≠ 13) → (j ≠ 29 ∨ x ≠ f) → (j ≠ 23 ∨ x ≠ f) → Z j x = S j x) ∧ (Z 70 (-1) = Z 69 (-1) ∧ S 63 13 + 1 ≤ Z 69 (-1) ∧ (Z 69 (-1) = S 69 (-1) ∨ (S 63 13 = S 69 (-1) ∧ Z 69 (-1) = S 63 13 * 2))) ∧ gI Z ∧ rmR S Z
theorem av_mk {f y : Int} {S1 : wS} (hf : 0 ≤ f) (h13 : 0 ≤ S 63 13) (hp : ∀ x : Int, 0 ≤ x → x < S 63 13 → S1 69 x = S 69 x ∧ S1 70 x = S 70 x) (hfr : ∀ (j : Nat) (x : Int), j < 4000000 → j ≠ wG → j ≠ 69 → j ≠ 70 → S1 j x = S j x) (hl : S1 70 (-1) = S1 69 (-1) ∧ S 63 13 + 1 ≤ S1 69 (-1) ∧ (S1 69 (-1) = S 69 (-1) ∨ (S 63 13 = S 69 (-1) ∧ S1 69 (-1) = S 63 13 * 2))) (hI : gI S1) (hr : rmR S S1) : av_ag f y S (w_up (w_up (w_up (w_up (w_up S1 69 (S 63 13) y) 70 (S 63 13) (S 29 f)) 29 f (S 63 13)) 23 f (S 23 f + 1)) 63 13 (S 63 13 + 1)) := by
  refine ⟨⟨w_up_same _ _ _ _, ?_, ?_, ?_, ?_⟩, fun x x0 x1 => ⟨?_, ?_⟩, fun j x j0 j1 j2 j3 j4 j5 j6 => ?_, ?_, ?_, ?_⟩
  · rw [w_up_slot (by decide), w_up_slot (by decide), w_up_slot (by decide), w_up_slot (by decide), w_up_same]
  · rw [w_up_slot (by decide), w_up_slot (by decide), w_up_slot (by decide), w_up_same]
  · rw [w_up_slot (by decide), w_up_slot (by decide), w_up_same]
  · rw [w_up_slot (by decide), w_up_same]
  · rw [w_up_slot (by decide), w_up_slot (by decide), w_up_slot (by decide), w_up_slot (by decide), w_up_at (by omega)]; exact (hp x x0 x1).1
  · rw [w_up_slot (by decide), w_up_slot (by decide), w_up_slot (by decide), w_up_at (by omega), w_up_slot (by decide)]; exact (hp x x0 x1).2
  · rw [w_up_no (by omega), w_up_no (by omega), w_up_no (by omega), w_up_no (by omega), w_up_no (by omega)]; exact hfr j x j0 j1 j2 j3
  · rw [w_up_slot (by decide), w_up_slot (by decide), w_up_slot (by decide), w_up_at (by omega), w_up_slot (by decide), w_up_slot (by decide), w_up_slot (by decide), w_up_slot (by decide), w_up_slot (by decide), w_up_at (by omega)]; exact hl
  · exact gI_up (gI_up (gI_up (gI_up (gI_up hI h13 (Or.inl (by decide)) (Or.inl (Or.inl (by decide)))) h13 (Or.inl (by decide)) (Or.inl (Or.inl (by decide)))) hf (Or.inl (by decide)) (Or.inl (Or.inl (by decide)))) hf (Or.inl (by decide)) (Or.inl (Or.inl (by decide)))) (by decide) (Or.inl (by decide)) (Or.inl (Or.inl (by decide)))
  · exact rmR_up (rmR_up (rmR_up (rmR_up (rmR_up hr h13 (by decide)) h13 (by decide)) hf (by decide)) hf (by decide)) (by decide) (by decide)
/-- the variables of all functions, behind it -/
theorem fv_new {f y : Int} {l : List Int} (h : fv_I S f l) (h0 : 0 ≤ S 63 13) (g : av_ag f y S Z) : fv_I Z f (y :: l) := by
  obtain ⟨v1, v2, v3⟩ := h
  obtain ⟨⟨g1, g2, g3, g4, g5⟩, g6, -⟩ := g
  refine ⟨by rw [g5, v1]; rfl, ?_, by rw [g4, g1]; omega⟩
  rw [g4, g1]
  refine ⟨⟨h0, by omega⟩, g2, by rw [g3]; exact v3, ?_⟩
  rw [g3]
  exact vch_ag (by omega) g6 l _ v2
theorem fv_old {f f2 y : Int} {l : List Int} (hf : f2 ≠ f) (h : fv_I S f2 l) (g : av_ag f y S Z) : fv_I Z f2 l := by
  obtain ⟨v1, v2, v3⟩ := h
  obtain ⟨⟨g1, g2, g3, g4, g5⟩, g6, g7, -⟩ := g
  have e29 : Z 29 f2 = S 29 f2 := g7 29 f2 (by decide) (by decide) (by decide) (by decide) (by omega) (Or.inr hf) (by omega)
  have e23 : Z 23 f2 = S 23 f2 := g7 23 f2 (by decide) (by decide) (by decide) (by decide) (by omega) (by omega) (Or.inr hf)
  refine ⟨by rw [e23, v1], ?_, by rw [e29, g1]; omega⟩
  rw [e29, g1]
  exact vch_ag (by omega) g6 l _ v2
theorem avp {f y : Int} (hC : w_CL S) (hI : gI S) (hL : va_L S) (hf : 0 ≤ f ∧ f < 400) (hy : -2147483648 ≤ y ∧ y ≤ 2147483647) (h29 : -1 ≤ S 29 f ∧ S 29 f < S 63 13) (h23 : 0 ≤ S 23 f ∧ S 23 f ≤ 1000000) : wJ (pe_GA xs) wY0 (mS [69, 70]) (d + 3) t_XP_addVariable ((pe_at t_XP_addVariable.bl 0).getD (0, [])).2 [(0, (2, 63)), (1, (0, f)), (2, (0, y))] [] S (fun o Z => o = .inl none ∧ av_ag f y S Z) := by
  have hrm := rmR_rfl S
  obtain ⟨l0, l1, l2, l3, l4⟩ := hL
  refine wa_aload_n (n := 0) rfl ?_
  refine wb_gfi 63 rfl (wy_pr rfl) wt_63 wf_1_13 (v := (S 63 13)) rfl (fun r101 => ?_)
  refine wa_istore_n (n := 3) rfl ?_
  refine wa_aload_n (n := 0) rfl ?_
  refine wb_gf4 63 rfl (wy_pr rfl) wt_63 wf_1_12 (v := 68) wl_63_12 ?_
  refine wa_iload_n (n := 3) rfl ?_
  refine wa_cs (M2 := mS [69, 70]) rfl at_X_makeRoom ⟨_, rfl⟩ rfl rfl ⟨trivial, (Or.inr ⟨wy_pr rfl, mS_no rfl⟩), trivial, trivial, trivial⟩ trivial (fun _ _ q => q) (mkr_68 (S := S) (cnt := S 63 13) l0 hI l1 ⟨by omega, by omega⟩ (fun x hx => by rcases (show x = 0 ∨ x = 1 by omega) with rfl | rfl <;> first | rfl | exact l2)) (fun oq102 Sq102 hp103 q102 => ?_)
  rcases q102 with ⟨rfl, ⟨hlt, rfl⟩ | ⟨heq, hm, hmI, hmr⟩⟩
  · skip
    show wJ _ _ _ _ _ _ _ _ _ _
    refine wa_aload_n (n := 0) rfl ?_
    refine wb_gf4 63 rfl (wy_pr rfl) wt_63 wf_1_12 (v := 68) wl_63_12 ?_
    refine wa_iconst ?_
    refine wb_aald5 68 0 rfl rfl (wy_pr rfl) wt_68 (by rw [show _ = _ from (l0)]; omega) wl_68_0 ?_
    refine wa_iload_n (n := 3) rfl ?_
    refine wa_iload_n (n := 2) rfl ?_
    refine wb_iast 69 rfl (wy_pr rfl) wt_69 (n := (S 69 (-1))) rfl (by omega) (by omega) ⟨(by omega), (by omega)⟩ ?_
    refine wa_aload_n (n := 0) rfl ?_
    refine wb_gf4 63 rfl (wy_pr rfl) wt_63 wf_1_12 (v := 68) wl_63_12 ?_
    refine wa_iconst ?_
    refine wb_aald5 68 1 rfl rfl (wy_pr rfl) wt_68 (by rw [show _ = _ from ((w_up_slot (by decide)).trans (l0))]; omega) wl_68_1 ?_
    refine wa_iload_n (n := 3) rfl ?_
    refine wa_aload_n (n := 0) rfl ?_
    refine wb_gf4 63 rfl (wy_pr rfl) wt_63 wf_1_9 (v := 20) wl_63_9 ?_
    refine wa_bipush (w_rg2 (by omega) (by omega)) ?_
    refine wb_aald5 20 8 rfl rfl (wy_pr rfl) wt_20 (by rw [show _ = _ from ((w_up_slot (by decide)).trans ((cl_20 hC)))]; omega) wl_20_8 ?_
    refine wa_iload_n (n := 1) rfl ?_
    refine wb_iald 29 rfl (wy_pr rfl) wt_29 (n := 400) ((w_up_slot (by decide)).trans ((cl_29 hC))) (by omega) (by omega) (v := (S 29 f)) (w_up_slot (by decide)) (fun r104 => ?_)
    refine wb_iast 70 rfl (wy_pr rfl) wt_70 (n := (S 69 (-1))) ((w_up_slot (by decide)).trans (l2)) (by omega) (by omega) ⟨(by omega), (by omega)⟩ ?_
    refine wa_aload_n (n := 0) rfl ?_
    refine wb_gf4 63 rfl (wy_pr rfl) wt_63 wf_1_9 (v := 20) wl_63_9 ?_
    refine wa_bipush (w_rg2 (by omega) (by omega)) ?_
    refine wb_aald5 20 8 rfl rfl (wy_pr rfl) wt_20 (by rw [show _ = _ from ((w_up_slot (by decide)).trans ((w_up_slot (by decide)).trans ((cl_20 hC))))]; omega) wl_20_8 ?_
    refine wa_iload_n (n := 1) rfl ?_
    refine wa_iload_n (n := 3) rfl ?_
    refine wb_iast 29 rfl (wy_pr rfl) wt_29 (n := 400) ((w_up_slot (by decide)).trans ((w_up_slot (by decide)).trans ((cl_29 hC)))) (by omega) (by omega) ⟨(by omega), (by omega)⟩ ?_
    refine wa_aload_n (n := 0) rfl ?_
    refine wb_gf4 63 rfl (wy_pr rfl) wt_63 wf_1_9 (v := 20) wl_63_9 ?_
    refine wa_iconst ?_
    refine wb_aald5 20 2 rfl rfl (wy_pr rfl) wt_20 (by rw [show _ = _ from ((w_up_slot (by decide)).trans ((w_up_slot (by decide)).trans ((w_up_slot (by decide)).trans ((cl_20 hC)))))]; omega) wl_20_2 ?_
    refine wa_iload_n (n := 1) rfl ?_
    refine wa_dup2 (by decide) (by decide) ?_
    refine wb_iald 23 rfl (wy_pr rfl) wt_23 (n := 400) ((w_up_slot (by decide)).trans ((w_up_slot (by decide)).trans ((w_up_slot (by decide)).trans ((cl_23 hC))))) (by omega) (by omega) (v := (S 23 f)) ((w_up_slot (by decide)).trans ((w_up_slot (by decide)).trans (w_up_slot (by decide)))) (fun r105 => ?_)
    refine wa_iconst ?_
    refine wa_iadd ?_
    refine wb_iast 23 rfl (wy_pr rfl) wt_23 (n := 400) ((w_up_slot (by decide)).trans ((w_up_slot (by decide)).trans ((w_up_slot (by decide)).trans ((cl_23 hC))))) (by omega) (by omega) ⟨(by omega), (by omega)⟩ ?_
    refine wa_aload_n (n := 0) rfl ?_
    refine wa_dup (by decide) ?_
    refine wb_gfi 63 rfl (wy_pr rfl) wt_63 wf_1_13 (v := (S 63 13)) ((w_up_slot (by decide)).trans ((w_up_slot (by decide)).trans ((w_up_slot (by decide)).trans (w_up_slot (by decide))))) (fun r106 => ?_)
    refine wa_iconst ?_
    refine wa_iadd ?_
    refine wb_pfi 63 rfl (wy_pr rfl) wt_63 wf_1_13 (n := 13) rfl ⟨(by omega), (by omega)⟩ ?_
    refine wa_return rfl ?_
    exact ⟨rfl, av_mk hf.1 l1.1 (fun _ _ _ => ⟨rfl, rfl⟩) (fun _ _ _ _ _ _ => rfl) ⟨l2, by omega, Or.inl rfl⟩ hI hrm⟩
  · skip
    show wJ _ _ _ _ _ _ _ _ _ _
    refine wa_aload_n (n := 0) rfl ?_
    refine wb_gf4 63 rfl (wy_pr rfl) wt_63 wf_1_12 (v := 68) wl_63_12 ?_
    refine wa_iconst ?_
    refine wb_aald5 68 0 rfl rfl (wy_pr rfl) wt_68 (by rw [show _ = _ from (((hm.2 68 (-1) (by decide) (by decide) (by decide)).trans (l0)))]; omega) wl_68_0 ?_
    refine wa_iload_n (n := 3) rfl ?_
    refine wa_iload_n (n := 2) rfl ?_
    refine wb_iast 69 rfl (wy_pr rfl) wt_69 (n := (S 63 13 * 2)) (((hm.1 0 (by decide)).1)) (by omega) (by omega) ⟨(by omega), (by omega)⟩ ?_
    refine wa_aload_n (n := 0) rfl ?_
    refine wb_gf4 63 rfl (wy_pr rfl) wt_63 wf_1_12 (v := 68) wl_63_12 ?_
    refine wa_iconst ?_
    refine wb_aald5 68 1 rfl rfl (wy_pr rfl) wt_68 (by rw [show _ = _ from ((w_up_slot (by decide)).trans (((hm.2 68 (-1) (by decide) (by decide) (by decide)).trans (l0))))]; omega) wl_68_1 ?_
    refine wa_iload_n (n := 3) rfl ?_
    refine wa_aload_n (n := 0) rfl ?_
    refine wb_gf4 63 rfl (wy_pr rfl) wt_63 wf_1_9 (v := 20) wl_63_9 ?_
    refine wa_bipush (w_rg2 (by omega) (by omega)) ?_
    refine wb_aald5 20 8 rfl rfl (wy_pr rfl) wt_20 (by rw [show _ = _ from ((w_up_slot (by decide)).trans (((hm.2 20 (-1) (by decide) (by decide) (by decide)).trans ((cl_20 hC)))))]; omega) wl_20_8 ?_
    refine wa_iload_n (n := 1) rfl ?_
    refine wb_iald 29 rfl (wy_pr rfl) wt_29 (n := 400) ((w_up_slot (by decide)).trans (((hm.2 29 (-1) (by decide) (by decide) (by decide)).trans ((cl_29 hC))))) (by omega) (by omega) (v := (S 29 f)) ((w_up_slot (by decide)).trans ((hm.2 29 f (by decide) (by decide) (by decide)))) (fun r107 => ?_)
    refine wb_iast 70 rfl (wy_pr rfl) wt_70 (n := (S 63 13 * 2)) ((w_up_slot (by decide)).trans (((hm.1 1 (by decide)).1))) (by omega) (by omega) ⟨(by omega), (by omega)⟩ ?_
    refine wa_aload_n (n := 0) rfl ?_
    refine wb_gf4 63 rfl (wy_pr rfl) wt_63 wf_1_9 (v := 20) wl_63_9 ?_
    refine wa_bipush (w_rg2 (by omega) (by omega)) ?_
    refine wb_aald5 20 8 rfl rfl (wy_pr rfl) wt_20 (by rw [show _ = _ from ((w_up_slot (by decide)).trans ((w_up_slot (by decide)).trans (((hm.2 20 (-1) (by decide) (by decide) (by decide)).trans ((cl_20 hC))))))]; omega) wl_20_8 ?_
    refine wa_iload_n (n := 1) rfl ?_
    refine wa_iload_n (n := 3) rfl ?_
    refine wb_iast 29 rfl (wy_pr rfl) wt_29 (n := 400) ((w_up_slot (by decide)).trans ((w_up_slot (by decide)).trans (((hm.2 29 (-1) (by decide) (by decide) (by decide)).trans ((cl_29 hC)))))) (by omega) (by omega) ⟨(by omega), (by omega)⟩ ?_
    refine wa_aload_n (n := 0) rfl ?_
    refine wb_gf4 63 rfl (wy_pr rfl) wt_63 wf_1_9 (v := 20) wl_63_9 ?_
    refine wa_iconst ?_
    refine wb_aald5 20 2 rfl rfl (wy_pr rfl) wt_20 (by rw [show _ = _ from ((w_up_slot (by decide)).trans ((w_up_slot (by decide)).trans ((w_up_slot (by decide)).trans (((hm.2 20 (-1) (by decide) (by decide) (by decide)).trans ((cl_20 hC)))))))]; omega) wl_20_2 ?_
    refine wa_iload_n (n := 1) rfl ?_
    refine wa_dup2 (by decide) (by decide) ?_
    refine wb_iald 23 rfl (wy_pr rfl) wt_23 (n := 400) ((w_up_slot (by decide)).trans ((w_up_slot (by decide)).trans ((w_up_slot (by decide)).trans (((hm.2 23 (-1) (by decide) (by decide) (by decide)).trans ((cl_23 hC))))))) (by omega) (by omega) (v := (S 23 f)) ((w_up_slot (by decide)).trans ((w_up_slot (by decide)).trans ((w_up_slot (by decide)).trans ((hm.2 23 f (by decide) (by decide) (by decide)))))) (fun r108 => ?_)
    refine wa_iconst ?_
    refine wa_iadd ?_
    refine wb_iast 23 rfl (wy_pr rfl) wt_23 (n := 400) ((w_up_slot (by decide)).trans ((w_up_slot (by decide)).trans ((w_up_slot (by decide)).trans (((hm.2 23 (-1) (by decide) (by decide) (by decide)).trans ((cl_23 hC))))))) (by omega) (by omega) ⟨(by omega), (by omega)⟩ ?_
    refine wa_aload_n (n := 0) rfl ?_
    refine wa_dup (by decide) ?_
    refine wb_gfi 63 rfl (wy_pr rfl) wt_63 wf_1_13 (v := (S 63 13)) ((w_up_slot (by decide)).trans ((w_up_slot (by decide)).trans ((w_up_slot (by decide)).trans ((w_up_slot (by decide)).trans ((hm.2 63 13 (by decide) (by decide) (by decide))))))) (fun r109 => ?_)
    refine wa_iconst ?_
    refine wa_iadd ?_
    refine wb_pfi 63 rfl (wy_pr rfl) wt_63 wf_1_13 (n := 13) rfl ⟨(by omega), (by omega)⟩ ?_
    refine wa_return rfl ?_
    exact ⟨rfl, av_mk hf.1 l1.1 (fun x x0 x1 => ⟨(hm.1 0 (by decide)).2 x x0 x1, (hm.1 1 (by decide)).2 x x0 x1⟩) (fun j x j0 j1 j2 j3 => hm.2 j x j0 j1 (by omega)) ⟨(hm.1 1 (by decide)).1.trans (hm.1 0 (by decide)).1.symm, by have e : Sq102 69 (-1) = S 63 13 * 2 := (hm.1 0 (by decide)).1; omega, Or.inr ⟨heq, (hm.1 0 (by decide)).1⟩⟩ hmI hmr⟩
end Wb1
