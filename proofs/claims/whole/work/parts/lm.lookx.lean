/-! PART lm: looking at a value that is neither thing nor list nor text nor a host's. -/
section Wlm
variable {xs : List (Nat × List Int32)} {M : Nat → Prop} {d : Nat} {S Z A : wS} {s kd gk gb nm es fo : Int} {ml : List Nat}
theorem lokx_215 (hC : w_CL S) (l4 : S 158 4 = 215) (l7 : S 158 7 = kd) (l9 : S 158 9 = gk) (l10 : S 158 10 = gb) (l11 : S 158 11 = nm) (l13 : S 158 13 = es) (l14 : S 158 14 = fo) (hfo : 0 ≤ fo ∧ fo < 40000) (hgk : 0 ≤ gk ∧ gk ≤ 2) : wJ (pe_GA xs) wY0 (mS ml) (d + 6) t_XL_look ((pe_at t_XL_look.bl 0).getD (0, [])).2 [(0, (2, 158))] [] S (fun o Z => o = .inl (some (0, fo)) ∧ w_up S 215 16 3 = Z) := by
  refine wa_aload_n (n := 0) rfl ?_
  refine wb_gfi 158 rfl (wy_pr rfl) wt_158 wf_5_9 (v := gk) (l9) (fun r901 => ?_)
  by_cases c902 : gk = 3
  · exact absurd c902 (by omega)
  by_cases c903 : gk = 4
  · exact absurd c903 (by omega)
  by_cases c904 : gk = 5
  · exact absurd c904 (by omega)
  by_cases c905 : gk = 6
  · exact absurd c905 (by omega)
  by_cases c906 : gk = 7
  · exact absurd c906 (by omega)
  by_cases c907 : gk = 8
  · exact absurd c907 (by omega)
  refine wb_sw (w_rg0 (by omega) (by omega)) (tb := 5) (w_tb_df (by simp only [List.length_cons, List.length_nil]; omega)) ⟨_, rfl⟩ ?_
  refine wa_aload_n (n := 0) rfl ?_
  refine wb_gf5 158 rfl (wy_pr rfl) wt_158 wf_5_4 (v := 215) (l4) (fun r908 => ?_)
  refine wa_iconst ?_
  refine wb_pfi 215 rfl (wy_pr rfl) wt_215 wf_8_16 (n := 16) rfl ⟨(by omega), (by omega)⟩ ?_
  refine wa_aload_n (n := 0) rfl ?_
  refine wb_gfi 158 rfl (wy_pr rfl) wt_158 wf_5_14 (v := fo) ((w_up_slot (by decide)).trans (l14)) (fun r909 => ?_)
  refine wa_ireturn rfl ?_
  exact ⟨rfl, rfl⟩
theorem lokx_226 (hC : w_CL S) (l4 : S 158 4 = 226) (l7 : S 158 7 = kd) (l9 : S 158 9 = gk) (l10 : S 158 10 = gb) (l11 : S 158 11 = nm) (l13 : S 158 13 = es) (l14 : S 158 14 = fo) (hfo : 0 ≤ fo ∧ fo < 40000) (hgk : 0 ≤ gk ∧ gk ≤ 2) : wJ (pe_GA xs) wY0 (mS ml) (d + 6) t_XL_look ((pe_at t_XL_look.bl 0).getD (0, [])).2 [(0, (2, 158))] [] S (fun o Z => o = .inl (some (0, fo)) ∧ w_up S 226 16 3 = Z) := by
  refine wa_aload_n (n := 0) rfl ?_
  refine wb_gfi 158 rfl (wy_pr rfl) wt_158 wf_5_9 (v := gk) (l9) (fun r901 => ?_)
  by_cases c902 : gk = 3
  · exact absurd c902 (by omega)
  by_cases c903 : gk = 4
  · exact absurd c903 (by omega)
  by_cases c904 : gk = 5
  · exact absurd c904 (by omega)
  by_cases c905 : gk = 6
  · exact absurd c905 (by omega)
  by_cases c906 : gk = 7
  · exact absurd c906 (by omega)
  by_cases c907 : gk = 8
  · exact absurd c907 (by omega)
  refine wb_sw (w_rg0 (by omega) (by omega)) (tb := 5) (w_tb_df (by simp only [List.length_cons, List.length_nil]; omega)) ⟨_, rfl⟩ ?_
  refine wa_aload_n (n := 0) rfl ?_
  refine wb_gf5 158 rfl (wy_pr rfl) wt_158 wf_5_4 (v := 226) (l4) (fun r908 => ?_)
  refine wa_iconst ?_
  refine wb_pfi 226 rfl (wy_pr rfl) wt_226 wf_8_16 (n := 16) rfl ⟨(by omega), (by omega)⟩ ?_
  refine wa_aload_n (n := 0) rfl ?_
  refine wb_gfi 158 rfl (wy_pr rfl) wt_158 wf_5_14 (v := fo) ((w_up_slot (by decide)).trans (l14)) (fun r909 => ?_)
  refine wa_ireturn rfl ?_
  exact ⟨rfl, rfl⟩
theorem rlkx {ct : Int} (hM : w_ML S) (hs : 0 ≤ s ∧ s < 4000) (h04 : S 304 s = kd) (h74 : S 237 174 = gk) (hgk : 0 ≤ gk ∧ gk ≤ 2) : wJ (pe_GA xs) wY0 M (d + 8) t_M_looks ((pe_at t_M_looks.bl 0).getD (0, [])).2 [(0, (2, 237)), (1, (0, s)), (2, (0, ct))] [] S (fun o Z => o = .inr 238 ∧ hZ 3 (w_up (w_up (w_up (w_up S 237 169 (-1)) 237 170 (-1)) 237 171 (-1)) 237 172 0) = Z) := by
  refine wa_aload_n (n := 0) rfl ?_
  refine wa_iconst ?_
  refine wb_pfi 237 rfl (wy_pr rfl) wt_237 wf_15_169 (n := 169) rfl ⟨(by omega), (by omega)⟩ ?_
  refine wa_aload_n (n := 0) rfl ?_
  refine wa_iconst ?_
  refine wb_pfi 237 rfl (wy_pr rfl) wt_237 wf_15_170 (n := 170) rfl ⟨(by omega), (by omega)⟩ ?_
  refine wa_aload_n (n := 0) rfl ?_
  refine wa_iconst ?_
  refine wb_pfi 237 rfl (wy_pr rfl) wt_237 wf_15_171 (n := 171) rfl ⟨(by omega), (by omega)⟩ ?_
  refine wa_aload_n (n := 0) rfl ?_
  refine wa_iconst ?_
  refine wb_pfi 237 rfl (wy_pr rfl) wt_237 wf_15_172 (n := 172) rfl ⟨(by omega), (by omega)⟩ ?_
  refine wa_aload_n (n := 0) rfl ?_
  refine wb_gf4 237 rfl (wy_pr rfl) wt_237 wf_15_49 (v := 304) wl_237_49 ?_
  refine wa_iload_n (n := 1) rfl ?_
  refine wb_iald 304 rfl (wy_pr rfl) wt_304 (n := 4000) ((w_up_slot (by decide)).trans ((w_up_slot (by decide)).trans ((w_up_slot (by decide)).trans ((w_up_slot (by decide)).trans ((ml_304 hM)))))) (by omega) (by omega) (v := kd) ((w_up_slot (by decide)).trans ((w_up_slot (by decide)).trans ((w_up_slot (by decide)).trans ((w_up_slot (by decide)).trans (h04))))) (fun r901 => ?_)
  refine wa_istore_n (n := 3) rfl ?_
  refine wa_aload_n (n := 0) rfl ?_
  refine wb_gfi 237 rfl (wy_pr rfl) wt_237 wf_15_174 (v := gk) ((w_up_at (by decide)).trans ((w_up_at (by decide)).trans ((w_up_at (by decide)).trans ((w_up_at (by decide)).trans (h74))))) (fun r902 => ?_)
  refine wa_iconst ?_
  refine wa_icmpge (w_rg0 (by omega) (by omega)) (w_rg0 (by omega) (by omega)) ⟨_, rfl⟩ (fun c903 => ?_) (fun c903 => ?_)
  · skip
    exact absurd c903 (by omega)
  · skip
    refine wa_aload_n (n := 0) rfl ?_
    refine wa_iconst ?_
    refine wa_cv 237 rfl (wy_pr rfl) wt_237 (M2 := fun _ => False) rfl at_M_error ⟨_, rfl⟩ rfl rfl ⟨trivial, (Or.inr ⟨wy_pr rfl, fun q => q⟩), trivial, trivial, trivial⟩ trivial (fun _ _ q => False.elim q) ?_ (fun _ _ _ q => q)
    refine wa_aload_n (n := 0) rfl ?_
    refine wb_gf4 237 rfl (wy_pr rfl) wt_237 wf_15_1 (v := 238) wl_237_1 ?_
    refine wa_iload_n (n := 1) rfl ?_
    refine wa_iconst ?_
    refine wa_cv 238 rfl (wy_pr rfl) wt_238 (M2 := fun _ => False) rfl at_MH_of ⟨_, rfl⟩ rfl rfl ⟨(Or.inr ⟨wy_pr rfl, fun q => q⟩), trivial, trivial⟩ trivial (fun _ _ q => False.elim q) ?_ (fun _ _ _ q => q)
    refine wa_aload_n (n := 0) rfl ?_
    refine wa_iload_n (n := 1) rfl ?_
    refine wb_pfi 238 rfl (wy_pr rfl) wt_238 wf_11_5 (n := 5) rfl ⟨(by omega), (by omega)⟩ ?_
    refine wa_aload_n (n := 0) rfl ?_
    refine wa_iload_n (n := 2) rfl ?_
    refine wb_pfi 238 rfl (wy_pr rfl) wt_238 wf_11_6 (n := 6) rfl ⟨(by omega), (by omega)⟩ ?_
    refine wa_aload_n (n := 0) rfl ?_
    refine wa_oreturn rfl ?_
    show wJ _ _ _ _ _ _ _ _ _ _
    refine wa_th (j := 238) ?_
    refine ⟨rfl, ?_⟩
    exact ⟨rfl, rfl⟩
end Wlm
