/-! PART dq: the class's give. -/
section Wdq
variable {xs : List (Nat × List Int32)} {d : Nat} {S Z : wS}
theorem gv_215 {n k v : Int} (hC : w_CL S) (hI : gI S) (hk : -128 ≤ k ∧ k ≤ 127) (hv : -9223372036854775808 ≤ v ∧ v ≤ 9223372036854775807) (hl : S 218 (-1) = S 217 (-1) ∧ 64 ≤ S 217 (-1) ∧ S 217 (-1) ≤ 4095) (hn : 0 ≤ n ∧ n ≤ S 216 2 ∧ S 216 2 ≤ S 217 (-1)) (hc : 1 ≤ S 215 4 ∧ S 215 4 ≤ 200) (hx : 0 ≤ S 220 (S 215 4 - 1) ∧ S 220 (S 215 4 - 1) ≤ 1000000) : wJ (pe_GA xs) wY0 (mS [217, 218]) (d + 4) t_XK_give ((pe_at t_XK_give.bl 0).getD (0, [])).2 [(0, (2, 215)), (1, (0, n)), (2, (0, k)), (3, (1, v))] [] S (fun o Z => o = .inl none ∧ ∃ A : wS, ra_ag 216 217 218 (w_up S 216 2 (S 216 2 - n)) A k v ∧ w_up A 220 (S 215 4 - 1) (S 220 (S 215 4 - 1) + 1) = Z) := by
  have hg : wG = 1000000 := rfl
  refine wa_aload_n (n := 0) rfl ?_
  refine wb_gf4 215 rfl (wy_pr rfl) wt_215 wf_8_3 (v := 216) wl_215_3 ?_
  refine wa_dup (by decide) ?_
  refine wb_gfi 216 rfl (wy_pr rfl) wt_216 wf_7_2 (v := (S 216 2)) rfl (fun r1 => ?_)
  refine wa_iload_n (n := 1) rfl ?_
  refine wa_isub ?_
  refine wb_pfi 216 rfl (wy_pr rfl) wt_216 wf_7_2 (n := 2) rfl ⟨(by omega), (by omega)⟩ ?_
  refine wa_aload_n (n := 0) rfl ?_
  refine wb_gf4 215 rfl (wy_pr rfl) wt_215 wf_8_3 (v := 216) wl_215_3 ?_
  refine wa_iload_n (n := 2) rfl ?_
  refine wa_lload_n (n := 3) rfl ?_
  refine wa_cv 216 rfl (wy_pr rfl) wt_216 (M2 := mS [217, 218]) rfl at_XV_add ⟨_, rfl⟩ rfl rfl ⟨(Or.inr ⟨wy_pr rfl, mS_no rfl⟩), trivial, trivial, trivial, trivial⟩ trivial (fun _ _ q => q) (ra_216 (S := (w_up S 216 2 ((S 216 2) - n))) (gI_up hI (by omega) (by omega) (by omega)) ⟨by omega, by omega⟩ ⟨by omega, by omega⟩ (show rw_L 216 217 218 (w_up S 216 2 ((S 216 2) - n)) from ⟨by rw [w_up_same, w_up_slot (by decide)]; omega, by rw [w_up_slot (by decide), w_up_slot (by decide)]; exact hl.1, by rw [w_up_slot (by decide)]; omega, by rw [w_up_slot (by decide)]; omega⟩)) (fun oq2 Sq2 hp3 q2 => ?_)
  rcases q2 with ⟨rfl, ra⟩
  show wJ _ _ _ _ _ _ _ _ _ _
  generalize Sq2 = Zn at ra ⊢
  have z4 : Zn 215 4 = S 215 4 := (ra.2.2.2.1 215 4 (by decide) (by decide) (by decide) (by decide) (Or.inl (by decide))).trans (w_up_slot (by decide))
  have z5 : Zn 220 (S 215 4 - 1) = S 220 (S 215 4 - 1) := (ra.2.2.2.1 220 _ (by decide) (by decide) (by decide) (by decide) (Or.inl (by decide))).trans (w_up_slot (by decide))
  have z200 : Zn 220 (-1) = 200 := (ra.2.2.2.1 220 _ (by decide) (by decide) (by decide) (by decide) (Or.inl (by decide))).trans ((w_up_slot (by decide)).trans (cl_220 hC))
  refine wa_aload_n (n := 0) rfl ?_
  refine wb_gf4 215 rfl (wy_pr rfl) wt_215 wf_8_6 (v := 220) wl_215_6 ?_
  refine wa_aload_n (n := 0) rfl ?_
  refine wb_gfi 215 rfl (wy_pr rfl) wt_215 wf_8_4 (v := (S 215 4)) (z4) (fun r4 => ?_)
  refine wa_iconst ?_
  refine wa_isub ?_
  refine wa_dup2 (by decide) (by decide) ?_
  refine wb_iald 220 rfl (wy_pr rfl) wt_220 (n := 200) (z200) (by omega) (by omega) (v := (S 220 (S 215 4 - 1))) (z5) (fun r5 => ?_)
  refine wa_iconst ?_
  refine wa_iadd ?_
  refine wb_iast 220 rfl (wy_pr rfl) wt_220 (n := 200) (z200) (by omega) (by omega) ⟨(by omega), (by omega)⟩ ?_
  refine wa_return rfl ?_
  exact ⟨rfl, Zn, ra, rfl⟩
theorem gv_226 {n k v : Int} (hC : w_CL S) (hI : gI S) (hk : -128 ≤ k ∧ k ≤ 127) (hv : -9223372036854775808 ≤ v ∧ v ≤ 9223372036854775807) (hl : S 229 (-1) = S 228 (-1) ∧ 64 ≤ S 228 (-1) ∧ S 228 (-1) ≤ 4095) (hn : 0 ≤ n ∧ n ≤ S 227 2 ∧ S 227 2 ≤ S 228 (-1)) (hc : 1 ≤ S 226 4 ∧ S 226 4 ≤ 200) (hx : 0 ≤ S 231 (S 226 4 - 1) ∧ S 231 (S 226 4 - 1) ≤ 1000000) : wJ (pe_GA xs) wY0 (mS [228, 229]) (d + 4) t_XK_give ((pe_at t_XK_give.bl 0).getD (0, [])).2 [(0, (2, 226)), (1, (0, n)), (2, (0, k)), (3, (1, v))] [] S (fun o Z => o = .inl none ∧ ∃ A : wS, ra_ag 227 228 229 (w_up S 227 2 (S 227 2 - n)) A k v ∧ w_up A 231 (S 226 4 - 1) (S 231 (S 226 4 - 1) + 1) = Z) := by
  have hg : wG = 1000000 := rfl
  refine wa_aload_n (n := 0) rfl ?_
  refine wb_gf4 226 rfl (wy_pr rfl) wt_226 wf_8_3 (v := 227) wl_226_3 ?_
  refine wa_dup (by decide) ?_
  refine wb_gfi 227 rfl (wy_pr rfl) wt_227 wf_7_2 (v := (S 227 2)) rfl (fun r1 => ?_)
  refine wa_iload_n (n := 1) rfl ?_
  refine wa_isub ?_
  refine wb_pfi 227 rfl (wy_pr rfl) wt_227 wf_7_2 (n := 2) rfl ⟨(by omega), (by omega)⟩ ?_
  refine wa_aload_n (n := 0) rfl ?_
  refine wb_gf4 226 rfl (wy_pr rfl) wt_226 wf_8_3 (v := 227) wl_226_3 ?_
  refine wa_iload_n (n := 2) rfl ?_
  refine wa_lload_n (n := 3) rfl ?_
  refine wa_cv 227 rfl (wy_pr rfl) wt_227 (M2 := mS [228, 229]) rfl at_XV_add ⟨_, rfl⟩ rfl rfl ⟨(Or.inr ⟨wy_pr rfl, mS_no rfl⟩), trivial, trivial, trivial, trivial⟩ trivial (fun _ _ q => q) (ra_227 (S := (w_up S 227 2 ((S 227 2) - n))) (gI_up hI (by omega) (by omega) (by omega)) ⟨by omega, by omega⟩ ⟨by omega, by omega⟩ (show rw_L 227 228 229 (w_up S 227 2 ((S 227 2) - n)) from ⟨by rw [w_up_same, w_up_slot (by decide)]; omega, by rw [w_up_slot (by decide), w_up_slot (by decide)]; exact hl.1, by rw [w_up_slot (by decide)]; omega, by rw [w_up_slot (by decide)]; omega⟩)) (fun oq2 Sq2 hp3 q2 => ?_)
  rcases q2 with ⟨rfl, ra⟩
  show wJ _ _ _ _ _ _ _ _ _ _
  generalize Sq2 = Zn at ra ⊢
  have z4 : Zn 226 4 = S 226 4 := (ra.2.2.2.1 226 4 (by decide) (by decide) (by decide) (by decide) (Or.inl (by decide))).trans (w_up_slot (by decide))
  have z5 : Zn 231 (S 226 4 - 1) = S 231 (S 226 4 - 1) := (ra.2.2.2.1 231 _ (by decide) (by decide) (by decide) (by decide) (Or.inl (by decide))).trans (w_up_slot (by decide))
  have z200 : Zn 231 (-1) = 200 := (ra.2.2.2.1 231 _ (by decide) (by decide) (by decide) (by decide) (Or.inl (by decide))).trans ((w_up_slot (by decide)).trans (cl_231 hC))
  refine wa_aload_n (n := 0) rfl ?_
  refine wb_gf4 226 rfl (wy_pr rfl) wt_226 wf_8_6 (v := 231) wl_226_6 ?_
  refine wa_aload_n (n := 0) rfl ?_
  refine wb_gfi 226 rfl (wy_pr rfl) wt_226 wf_8_4 (v := (S 226 4)) (z4) (fun r4 => ?_)
  refine wa_iconst ?_
  refine wa_isub ?_
  refine wa_dup2 (by decide) (by decide) ?_
  refine wb_iald 231 rfl (wy_pr rfl) wt_231 (n := 200) (z200) (by omega) (by omega) (v := (S 231 (S 226 4 - 1))) (z5) (fun r5 => ?_)
  refine wa_iconst ?_
  refine wa_iadd ?_
  refine wb_iast 231 rfl (wy_pr rfl) wt_231 (n := 200) (z200) (by omega) (by omega) ⟨(by omega), (by omega)⟩ ?_
  refine wa_return rfl ?_
  exact ⟨rfl, Zn, ra, rfl⟩
end Wdq
