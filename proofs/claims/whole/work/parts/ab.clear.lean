/-! PART ab: Code.clear, Task.clear. -/
section Wab
variable {xs : List (Nat × List Int32)} {M : Nat → Prop} {d : Nat} {A B C S Z : wS} {Q : wO → wS → Prop}
/-- the code is empty -/
def cc_ag (S Z : wS) : Prop := (Z 19 1 = 0 ∧ Z 19 3 = 0 ∧ Z 19 7 = 0 ∧ Z 19 9 = 0 ∧ Z 19 11 = 0 ∧ Z 19 12 = -1 ∧ Z 19 16 = 0) ∧ (∀ i : Int, 0 ≤ i → i < S 60 (-1) → Z 60 i = 0) ∧ ∀ (j : Nat) (i : Int), (j ≠ 19 ∨ (i ≠ 1 ∧ i ≠ 3 ∧ i ≠ 7 ∧ i ≠ 9 ∧ i ≠ 11 ∧ i ≠ 12 ∧ i ≠ 16)) → (j ≠ 60 ∨ i < 0) → Z j i = S j i
theorem cc_c : wJ (pe_GA xs) wY0 M (d + 1) t_XC_clear ((pe_at t_XC_clear.bl 0).getD (0, [])).2 [(0, (2, 19))] [] S (fun o Z => o = .inl none ∧ cc_ag S Z) := by
  refine wa_aload_n (n := 0) rfl ?_
  refine wa_iconst ?_
  refine wb_pfi 19 rfl (wy_pr rfl) wt_19 wf_0_1 (n := 1) rfl ⟨(by omega), (by omega)⟩ ?_
  refine wa_aload_n (n := 0) rfl ?_
  refine wa_iconst ?_
  refine wb_pfi 19 rfl (wy_pr rfl) wt_19 wf_0_3 (n := 3) rfl ⟨(by omega), (by omega)⟩ ?_
  refine wa_aload_n (n := 0) rfl ?_
  refine wa_iconst ?_
  refine wb_pfi 19 rfl (wy_pr rfl) wt_19 wf_0_7 (n := 7) rfl ⟨(by omega), (by omega)⟩ ?_
  refine wa_aload_n (n := 0) rfl ?_
  refine wa_iconst ?_
  refine wb_pfi 19 rfl (wy_pr rfl) wt_19 wf_0_9 (n := 9) rfl ⟨(by omega), (by omega)⟩ ?_
  refine wa_aload_n (n := 0) rfl ?_
  refine wa_iconst ?_
  refine wb_pfi 19 rfl (wy_pr rfl) wt_19 wf_0_11 (n := 11) rfl ⟨(by omega), (by omega)⟩ ?_
  refine wa_aload_n (n := 0) rfl ?_
  refine wa_iconst ?_
  refine wb_pfi 19 rfl (wy_pr rfl) wt_19 wf_0_12 (n := 12) rfl ⟨(by omega), (by omega)⟩ ?_
  refine wa_aload_n (n := 0) rfl ?_
  refine wa_iconst ?_
  refine wb_pfi 19 rfl (wy_pr rfl) wt_19 wf_0_16 (n := 16) rfl ⟨(by omega), (by omega)⟩ ?_
  refine wa_aload_n (n := 0) rfl ?_
  refine wb_gf4 19 rfl (wy_pr rfl) wt_19 wf_0_15 (v := 60) wl_19_15 ?_
  refine wa_iconst ?_
  refine wa_cs (M2 := fun _ => False) rfl at_JA_fill ⟨_, rfl⟩ rfl rfl ⟨(Or.inr ⟨wy_pr rfl, fun q => q⟩), trivial⟩ trivial (fun _ _ q => False.elim q) (fi_ok (S := (w_up (w_up (w_up (w_up (w_up (w_up (w_up S 19 1 0) 19 3 0) 19 7 0) 19 9 0) 19 11 0) 19 12 (-1)) 19 16 0)) (a := 60) (v := 0) (len := (S 60 (-1))) rfl wt_60 ((w_up_slot (by decide)).trans ((w_up_slot (by decide)).trans ((w_up_slot (by decide)).trans ((w_up_slot (by decide)).trans ((w_up_slot (by decide)).trans ((w_up_slot (by decide)).trans (w_up_slot (by decide)))))))) ⟨by omega, by omega⟩) (fun oq1 Sq1 hp2 q1 => ?_)
  rcases q1 with ⟨rfl, fi⟩
  show wJ _ _ _ _ _ _ _ _ _ _
  generalize Sq1 = Zf at fi ⊢
  refine wa_return rfl ?_
  exact ⟨rfl, ⟨(((fi.2 19 1 (by omega)).trans ((w_up_at (by decide)).trans ((w_up_at (by decide)).trans ((w_up_at (by decide)).trans ((w_up_at (by decide)).trans ((w_up_at (by decide)).trans ((w_up_at (by decide)).trans (w_up_same _ _ _ _))))))))), (((fi.2 19 3 (by omega)).trans ((w_up_at (by decide)).trans ((w_up_at (by decide)).trans ((w_up_at (by decide)).trans ((w_up_at (by decide)).trans ((w_up_at (by decide)).trans (w_up_same _ _ _ _)))))))), (((fi.2 19 7 (by omega)).trans ((w_up_at (by decide)).trans ((w_up_at (by decide)).trans ((w_up_at (by decide)).trans ((w_up_at (by decide)).trans (w_up_same _ _ _ _))))))), (((fi.2 19 9 (by omega)).trans ((w_up_at (by decide)).trans ((w_up_at (by decide)).trans ((w_up_at (by decide)).trans (w_up_same _ _ _ _)))))), (((fi.2 19 11 (by omega)).trans ((w_up_at (by decide)).trans ((w_up_at (by decide)).trans (w_up_same _ _ _ _))))), (((fi.2 19 12 (by omega)).trans ((w_up_at (by decide)).trans (w_up_same _ _ _ _)))), (((fi.2 19 16 (by omega)).trans (w_up_same _ _ _ _)))⟩, fi.1, fun j i h1 h2 => (fi.2 j i h2).trans ((w_up_no (by omega)).trans ((w_up_no (by omega)).trans ((w_up_no (by omega)).trans ((w_up_no (by omega)).trans ((w_up_no (by omega)).trans ((w_up_no (by omega)).trans ((w_up_no (by omega)).trans (rfl))))))))⟩
theorem tcl_215 : wJ (pe_GA xs) wY0 M d t_XK_clear ((pe_at t_XK_clear.bl 0).getD (0, [])).2 [(0, (2, 215))] [] S (fun o Z => o = .inl none ∧ (w_up (w_up (w_up (w_up S 215 13 0) 215 4 0) 216 2 0) 215 12 0) = Z) := by
  refine wa_aload_n (n := 0) rfl ?_
  refine wa_iconst ?_
  refine wb_pfi 215 rfl (wy_pr rfl) wt_215 wf_8_13 (n := 13) rfl ⟨(by omega), (by omega)⟩ ?_
  refine wa_aload_n (n := 0) rfl ?_
  refine wa_iconst ?_
  refine wb_pfi 215 rfl (wy_pr rfl) wt_215 wf_8_4 (n := 4) rfl ⟨(by omega), (by omega)⟩ ?_
  refine wa_aload_n (n := 0) rfl ?_
  refine wb_gf4 215 rfl (wy_pr rfl) wt_215 wf_8_3 (v := 216) wl_215_3 ?_
  refine wa_iconst ?_
  refine wb_pfi 216 rfl (wy_pr rfl) wt_216 wf_7_2 (n := 2) rfl ⟨(by omega), (by omega)⟩ ?_
  refine wa_aload_n (n := 0) rfl ?_
  refine wa_iconst ?_
  refine wb_pfi 215 rfl (wy_pr rfl) wt_215 wf_8_12 (n := 12) rfl ⟨(by omega), (by omega)⟩ ?_
  refine wa_return rfl ?_
  exact ⟨rfl, rfl⟩
theorem tcl_226 : wJ (pe_GA xs) wY0 M d t_XK_clear ((pe_at t_XK_clear.bl 0).getD (0, [])).2 [(0, (2, 226))] [] S (fun o Z => o = .inl none ∧ (w_up (w_up (w_up (w_up S 226 13 0) 226 4 0) 227 2 0) 226 12 0) = Z) := by
  refine wa_aload_n (n := 0) rfl ?_
  refine wa_iconst ?_
  refine wb_pfi 226 rfl (wy_pr rfl) wt_226 wf_8_13 (n := 13) rfl ⟨(by omega), (by omega)⟩ ?_
  refine wa_aload_n (n := 0) rfl ?_
  refine wa_iconst ?_
  refine wb_pfi 226 rfl (wy_pr rfl) wt_226 wf_8_4 (n := 4) rfl ⟨(by omega), (by omega)⟩ ?_
  refine wa_aload_n (n := 0) rfl ?_
  refine wb_gf4 226 rfl (wy_pr rfl) wt_226 wf_8_3 (v := 227) wl_226_3 ?_
  refine wa_iconst ?_
  refine wb_pfi 227 rfl (wy_pr rfl) wt_227 wf_7_2 (n := 2) rfl ⟨(by omega), (by omega)⟩ ?_
  refine wa_aload_n (n := 0) rfl ?_
  refine wa_iconst ?_
  refine wb_pfi 226 rfl (wy_pr rfl) wt_226 wf_8_12 (n := 12) rfl ⟨(by omega), (by omega)⟩ ?_
  refine wa_return rfl ?_
  exact ⟨rfl, rfl⟩
end Wab
