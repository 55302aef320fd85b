/-! PART ac: Linker.clear on an empty code. -/
section Wac
variable {xs : List (Nat × List Int32)} {M : Nat → Prop} {d : Nat} {A B C S Z : wS} {Q : wO → wS → Prop}
/-- the linker is as at first: its own entry is the first one -/
def lc_ag (S Z : wS) : Prop := (Z 158 19 = 0 ∧ Z 158 14 = 0 ∧ Z 19 11 = 1) ∧ (∀ i : Int, 0 ≤ i → i < S 160 (-1) → Z 160 i = 0) ∧ ∀ (j : Nat) (i : Int), (j ≠ 158 ∨ (i ≠ 19 ∧ i ≠ 14)) → (j ≠ 19 ∨ i ≠ 11) → (j ≠ 160 ∨ i < 0) → Z j i = S j i
theorem lc_c (hC : w_CL S) (h0 : S 19 11 = 0 ∧ S 19 12 = -1) (h48 : 16 ≤ S 48 (-1)) : wJ (pe_GA xs) wY0 M (d + 3) t_XL_clear ((pe_at t_XL_clear.bl 0).getD (0, [])).2 [(0, (2, 158))] [] S (fun o Z => o = .inl none ∧ lc_ag S Z) := by
  have h11 := h0.1
  have h12 := h0.2
  refine wa_aload_n (n := 0) rfl ?_
  refine wb_gf4 158 rfl (wy_pr rfl) wt_158 wf_5_18 (v := 160) wl_158_18 ?_
  refine wa_iconst ?_
  refine wa_cs (M2 := fun _ => False) rfl at_JA_fill ⟨_, rfl⟩ rfl rfl ⟨(Or.inr ⟨wy_pr rfl, fun q => q⟩), trivial⟩ trivial (fun _ _ q => False.elim q) (fi_ok (S := S) (a := 160) (v := 0) (len := (S 160 (-1))) rfl wt_160 rfl ⟨by omega, by omega⟩) (fun oq1 Sq1 hp2 q1 => ?_)
  rcases q1 with ⟨rfl, fi⟩
  show wJ _ _ _ _ _ _ _ _ _ _
  generalize Sq1 = Zf at fi ⊢
  refine wa_aload_n (n := 0) rfl ?_
  refine wa_iconst ?_
  refine wb_pfi 158 rfl (wy_pr rfl) wt_158 wf_5_19 (n := 19) rfl ⟨(by omega), (by omega)⟩ ?_
  refine wa_aload_n (n := 0) rfl ?_
  refine wa_aload_n (n := 0) rfl ?_
  refine wb_gf4 158 rfl (wy_pr rfl) wt_158 wf_5_1 (v := 19) wl_158_1 ?_
  refine wa_cv 19 rfl (wy_pr rfl) wt_19 (M2 := fun _ => False) rfl at_XC_takeEntry ⟨_, rfl⟩ rfl rfl ⟨(Or.inr ⟨wy_pr rfl, fun q => q⟩), trivial⟩ ⟨(Or.inr ⟨wy_pr rfl, fun q => q⟩), trivial⟩ (fun _ _ q => False.elim q) ?_ (fun _ _ _ q => q)
  refine wa_aload_n (n := 0) rfl ?_
  refine wb_gfi 19 rfl (wy_pr rfl) wt_19 wf_0_12 (v := (-1)) ((w_up_slot (by decide)).trans (((fi.2 19 12 (by omega)).trans (h12)))) (fun r3 => ?_)
  refine wa_istore_n (n := 1) rfl ?_
  refine wa_iload_n (n := 1) rfl ?_
  refine wa_iconst ?_
  refine wa_icmpeq (w_rg0 (by omega) (by omega)) (w_rg0 (by omega) (by omega)) ⟨_, rfl⟩ (fun c4 => ?_) (fun c4 => ?_)
  · skip
    refine wa_aload_n (n := 0) rfl ?_
    refine wb_gf4 19 rfl (wy_pr rfl) wt_19 wf_0_10 (v := 47) wl_19_10 ?_
    refine wa_aload_n (n := 0) rfl ?_
    refine wb_gfi 19 rfl (wy_pr rfl) wt_19 wf_0_11 (v := 0) ((w_up_slot (by decide)).trans (((fi.2 19 11 (by omega)).trans (h11)))) (fun r5 => ?_)
    refine wa_cs (M2 := fun _ => False) rfl at_X_makeRoom ⟨_, rfl⟩ rfl rfl ⟨trivial, (Or.inr ⟨wy_pr rfl, fun q => q⟩), trivial⟩ trivial (fun _ _ q => False.elim q) ?_ (fun _ _ _ q => q)
    refine wa_iload_n (n := 1) rfl ?_
    refine wa_aload_n (n := 0) rfl ?_
    refine wa_iconst ?_
    refine wb_aald5 47 0 rfl rfl (wy_pr rfl) wt_47 (by rw [show _ = _ from ((w_up_slot (by decide)).trans (((fi.2 47 (-1) (by omega)).trans ((cl_47 hC)))))]; omega) wl_47_0 ?_
    refine wb_alen 48 rfl (wy_pr rfl) (by rw [wt_48]; rfl) (v := (S 48 (-1))) ((w_up_slot (by decide)).trans ((fi.2 48 (-1) (by omega)))) (fun r6 => ?_)
    refine wa_icmplt (w_rg0 (by omega) (by omega)) (w_rg0 (by omega) (by omega)) ⟨_, rfl⟩ (fun c7 => ?_) (fun c7 => ?_)
    · skip
      refine wa_return rfl ?_
      show wJ _ _ _ _ _ _ _ _ _ _
      refine wa_aload_n (n := 0) rfl ?_
      refine wa_dup (by decide) ?_
      refine wb_gfi 19 rfl (wy_pr rfl) wt_19 wf_0_11 (v := 0) ((w_up_slot (by decide)).trans (((fi.2 19 11 (by omega)).trans (h11)))) (fun r8 => ?_)
      refine wa_iconst ?_
      refine wa_iadd ?_
      refine wb_pfi 19 rfl (wy_pr rfl) wt_19 wf_0_11 (n := 11) rfl ⟨(by omega), (by omega)⟩ ?_
      refine wa_aload_n (n := 0) rfl ?_
      refine wb_gfi 19 rfl (wy_pr rfl) wt_19 wf_0_11 (v := (0 + 1)) (w_up_same _ _ _ _) (fun r9 => ?_)
      refine wa_iconst ?_
      refine wa_isub ?_
      refine wa_ireturn rfl ?_
      show wJ _ _ _ _ _ _ _ _ _ _
      refine wb_pfi 158 rfl (wy_pr rfl) wt_158 wf_5_14 (n := 14) rfl ⟨(by omega), (by omega)⟩ ?_
      refine wa_return rfl ?_
      refine ⟨rfl, ⟨((w_up_at (by decide)).trans ((w_up_slot (by decide)).trans (w_up_same _ _ _ _))), (w_up_same _ _ _ _), ((w_up_slot (by decide)).trans (w_up_same _ _ _ _))⟩, fun i i0 i1 => (w_up_no (by omega)).trans ((w_up_no (by omega)).trans ((w_up_no (by omega)).trans (fi.1 i i0 i1))), fun j i h1 h2 h3 => (w_up_no (by omega)).trans ((w_up_no (by omega)).trans ((w_up_no (by omega)).trans (fi.2 j i h3)))⟩
    · skip
      exfalso; omega
  · skip
    exact absurd c4 (by omega)
end Wac
