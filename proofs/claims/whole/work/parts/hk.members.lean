/-! PART hk: the class: addTrace, useField, answer by numbers. -/
section Whk
variable {xs : List (Nat × List Int32)} {M : Nat → Prop} {d : Nat} {S Z A : wS} {T : Int → Int} {cs : List hCR} {ms : List hMR} {os : Int → List Int} {Q : wO → wS → Prop}
/-- two numbers more of the trace -/
def trR (m k : Int) (S Z : wS) : Prop := Z 72 15 = S 72 15 + 2 ∧ (Z 152 (S 72 15) = m ∧ Z 152 (S 72 15 + 1) = k) ∧ (∀ i : Int, 0 ≤ i → i < S 72 15 → Z 152 i = S 152 i) ∧ (∀ (j : Nat) (i : Int), j < 4000000 → j ≠ wG → j ≠ 152 → (j ≠ 72 ∨ i ≠ 15) → Z j i = S j i) ∧ (16 ≤ Z 152 (-1) ∧ Z 152 (-1) ≤ 262143 ∧ S 72 15 + 2 ≤ Z 152 (-1)) ∧ gI Z ∧ rmR S Z
theorem tra1 {m k : Int} (hI : gI S) (hm : -2147483648 ≤ m ∧ m ≤ 2147483647) (hk : -2147483648 ≤ k ∧ k ≤ 2147483647) (h0 : 0 ≤ S 72 15 ∧ S 72 15 + 2 ≤ S 152 (-1)) (h9 : 16 ≤ S 152 (-1) ∧ S 152 (-1) ≤ 262143) : wJ (pe_GA xs) wY0 (mS [152]) (d + 3) t_XH_addTrace ((pe_at t_XH_addTrace.bl 1).getD (0, [])).2 [(0, (2, 72)), (1, (0, m)), (2, (0, k))] [] S (fun o Z => o = .inl none ∧ trR m k S Z) := by
  have hR := rmR_rfl S
  refine wa_aload_n (n := 0) rfl ?_
  refine wb_gf4 72 rfl (wy_pr rfl) wt_72 wf_2_14 (v := 152) wl_72_14 ?_
  refine wa_aload_n (n := 0) rfl ?_
  refine wb_gfi 72 rfl (wy_pr rfl) wt_72 wf_2_15 (v := (S 72 15)) rfl (fun r1 => ?_)
  refine wa_iload_n (n := 1) rfl ?_
  refine wb_iast 152 rfl (wy_pr rfl) wt_152 (n := (S 152 (-1))) rfl (by omega) (by omega) ⟨(by omega), (by omega)⟩ ?_
  refine wa_aload_n (n := 0) rfl ?_
  refine wb_gf4 72 rfl (wy_pr rfl) wt_72 wf_2_14 (v := 152) wl_72_14 ?_
  refine wa_aload_n (n := 0) rfl ?_
  refine wb_gfi 72 rfl (wy_pr rfl) wt_72 wf_2_15 (v := (S 72 15)) (w_up_slot (by decide)) (fun r2 => ?_)
  refine wa_iconst ?_
  refine wa_iadd ?_
  refine wa_iload_n (n := 2) rfl ?_
  refine wb_iast 152 rfl (wy_pr rfl) wt_152 (n := (S 152 (-1))) (w_up_at (by omega)) (by omega) (by omega) ⟨(by omega), (by omega)⟩ ?_
  refine wa_aload_n (n := 0) rfl ?_
  refine wa_dup (by decide) ?_
  refine wb_gfi 72 rfl (wy_pr rfl) wt_72 wf_2_15 (v := (S 72 15)) ((w_up_slot (by decide)).trans (w_up_slot (by decide))) (fun r3 => ?_)
  refine wa_iconst ?_
  refine wa_iadd ?_
  refine wb_pfi 72 rfl (wy_pr rfl) wt_72 wf_2_15 (n := 15) rfl ⟨(by omega), (by omega)⟩ ?_
  refine wa_return rfl ?_
  refine ⟨rfl, (w_up_same _ _ _ _), ⟨((w_up_slot (by first | decide | omega)).trans ((w_up_at (by omega)).trans (w_up_same _ _ _ _))), ((w_up_slot (by first | decide | omega)).trans (w_up_same _ _ _ _))⟩, fun i i0 i1 => ((w_up_slot (by first | decide | omega)).trans ((w_up_at (by omega)).trans (w_up_at (by omega)))), fun j i j0 j1 j2 j3 => (w_up_no (by omega)).trans ((w_up_no (by omega)).trans ((w_up_no (by omega)).trans (rfl))), ?_, (gI_up (gI_up (gI_up hI (by omega) (by omega) (by omega)) (by omega) (by omega) (by omega)) (by omega) (by omega) (by omega)), (rmR_up (rmR_up (rmR_up hR (by omega) (by first | decide | omega)) (by omega) (by first | decide | omega)) (by omega) (by first | decide | omega))⟩
  rw [show (w_up (w_up (w_up S 152 (S 72 15) m) 152 ((S 72 15) + 1) k) 72 15 ((S 72 15) + 2)) 152 (-1) = S 152 (-1) from ((w_up_slot (by first | decide | omega)).trans ((w_up_at (by omega)).trans (w_up_at (by omega))))]
  exact ⟨h9.1, h9.2, by omega⟩
theorem tra {m k : Int} (hI : gI S) (hm : -2147483648 ≤ m ∧ m ≤ 2147483647) (hk : -2147483648 ≤ k ∧ k ≤ 2147483647) (h0 : 0 ≤ S 72 15 ∧ S 72 15 ≤ S 152 (-1) ∧ S 72 15 ≤ 100000) (h9 : 16 ≤ S 152 (-1) ∧ S 152 (-1) ≤ 131072 ∨ (16 ≤ S 152 (-1) ∧ S 152 (-1) ≤ 262143 ∧ S 72 15 + 2 ≤ S 152 (-1))) : wJ (pe_GA xs) wY0 (mS [152]) (d + 3) t_XH_addTrace ((pe_at t_XH_addTrace.bl 0).getD (0, [])).2 [(0, (2, 72)), (1, (0, m)), (2, (0, k))] [] S (fun o Z => o = .inl none ∧ trR m k S Z) := by
  have hR := rmR_rfl S
  refine wa_aload_n (n := 0) rfl ?_
  refine wb_gfi 72 rfl (wy_pr rfl) wt_72 wf_2_15 (v := (S 72 15)) rfl (fun r1 => ?_)
  refine wa_iconst ?_
  refine wa_iadd ?_
  refine wa_aload_n (n := 0) rfl ?_
  refine wb_gf4 72 rfl (wy_pr rfl) wt_72 wf_2_14 (v := 152) wl_72_14 ?_
  refine wb_alen 152 rfl (wy_pr rfl) (by rw [wt_152]; rfl) (v := (S 152 (-1))) rfl (fun r2 => ?_)
  refine wa_icmple (w_rg0 (by omega) (by omega)) (w_rg0 (by omega) (by omega)) ⟨_, rfl⟩ (fun c3 => ?_) (fun c3 => ?_)
  · skip
    exact tra1 hI hm hk ⟨by omega, by omega⟩ ⟨by omega, by omega⟩
  · skip
    refine wa_aload_n (n := 0) rfl ?_
    refine wa_aload_n (n := 0) rfl ?_
    refine wb_gf4 72 rfl (wy_pr rfl) wt_72 wf_2_14 (v := 152) wl_72_14 ?_
    refine wa_aload_n (n := 0) rfl ?_
    refine wb_gf4 72 rfl (wy_pr rfl) wt_72 wf_2_14 (v := 152) wl_72_14 ?_
    refine wb_alen 152 rfl (wy_pr rfl) (by rw [wt_152]; rfl) (v := (S 152 (-1))) rfl (fun r4 => ?_)
    refine wa_iconst ?_
    refine wa_imul ?_
    refine wa_cs (M2 := fun _ => False) rfl at_JA_copyOf_2 ⟨_, rfl⟩ rfl rfl ⟨(Or.inr ⟨wy_pr rfl, fun q => q⟩), trivial, trivial, trivial⟩ ⟨(Or.inr ⟨wy_pr rfl, fun q => q⟩), trivial⟩ (fun _ _ q => False.elim q) (cp_I (S := S) (a := 152) (n := ((S 152 (-1)) * 2)) (len := (S 152 (-1))) (wy_pr rfl) wt_152 rfl ⟨by omega, by omega, by omega⟩) (fun oq5 Sq5 _ q5 => ?_)
    rcases q5 with ⟨rfl, rfl⟩
    show wJ _ _ _ _ _ _ _ _ _ _
    refine wg_pf (S := S) (len := (S 152 (-1))) 0 72 152 rfl rfl rfl wt_72 wf_2_14 wl_72_14 (by decide +kernel) wt_152 (by first | decide | omega) (by decide +kernel) hI (fun q => absurd q (by first | decide | omega)) (by first | decide | omega) ⟨by omega, by omega⟩ rfl (fun _ => ⟨Or.inr (by first | decide | omega), Or.inl (nN_ge _)⟩) ⟨(Or.inr ⟨wy_pr rfl, mS_no rfl⟩), trivial, trivial, trivial⟩ trivial (fun Z6 g7 gi8 => ?_)
    have rm9 := rmR_gr hR g7 (by decide +kernel) (len := (S 152 (-1))) rfl ⟨by omega, by omega⟩ ⟨fun q => by first | omega | exact absurd q (by decide), by show _ ≤ (100000000 : Int); omega⟩
    refine wa_fall ⟨_, rfl⟩ ?_
    have zz : ∀ (j : Nat) (i : Int), j < 4000000 → j ≠ wG → j ≠ 152 → Z6 j i = S j i := fun j i j0 j1 j2 => congrFun (g7.2.2.1 j (by omega) j0 j1) i
    have y1 : ∀ i : Int, 0 ≤ i → i < (S 72 15) → Z6 152 i = S 152 i := fun i i0 i1 => g7.2.1 i i0 (by omega)
    have n1 : Z6 152 (-1) = ((S 152 (-1)) * 2) := (g7.1)
    have e3 : Z6 72 15 = (S 72 15) := zz 72 15 (by first | decide | omega) (by first | decide | omega) (by first | decide | omega)
    refine wJ_mono (tra1 (S := Z6) gi8 hm hk ⟨by omega, by omega⟩ ⟨by omega, by omega⟩) (fun o Z hz => ⟨hz.1, ?_⟩)
    obtain ⟨-, a1, a2, a3, a4, a5, a6, a7⟩ := hz
    rw [e3] at a1 a2 a3 a5
    exact ⟨a1, a2, fun i i0 i1 => (a3 i i0 i1).trans (y1 i i0 i1), fun j i j0 j1 j2 j3 => (a4 j i j0 j1 j2 j3).trans (zz j i j0 j1 j2), a5, a6, rmR_tr rm9 a7⟩
theorem usg1_73_215 {m f fi gb ba vk vb : Int} (hC : w_CL S) (h72 : S 72 1 = 73) (l5 : S 158 5 = 216) (l8 : S 158 8 = ba) (l10 : S 158 10 = gb) (hm : 0 ≤ m ∧ m < 400) (hf : 0 ≤ f ∧ f < 400) (hstt : S 99 f = 1) (hfi : S 112 f = fi) (hrl : S 118 (-1) = S 117 (-1)) (hrb : 0 ≤ fi ∧ fi < S 117 (-1) ∧ S 117 (-1) ≤ 8388608) (hcn : S 101 m = 0) (hvk : S 117 fi = vk) (hvb : S 118 fi = vb) : wJ (pe_GA xs) wY0 M (d + 3) t_XL_useField ((pe_at t_XL_useField.bl 0).getD (0, [])).2 [(0, (2, 158)), (1, (0, m)), (2, (0, f))] [] S (fun o Z => o = .inl none ∧ w_up (w_up S 158 16 vk) 158 17 vb = Z) := by
  refine wa_aload_n (n := 0) rfl ?_
  refine wa_iload_n (n := 2) rfl ?_
  refine wa_cv 158 rfl (wy_pr rfl) wt_158 (M2 := fun _ => False) rfl at_XL_rowOf ⟨_, rfl⟩ rfl rfl ⟨(Or.inr ⟨wy_pr rfl, fun q => q⟩), trivial, trivial, trivial⟩ trivial (fun _ _ q => False.elim q) ?_ (fun _ _ _ q => q)
  refine wa_aload_n (n := 0) rfl ?_
  refine wb_gf4 158 rfl (wy_pr rfl) wt_158 wf_5_0 (v := 72) wl_158_0 ?_
  refine wb_gf5 72 rfl (wy_pr rfl) wt_72 wf_2_1 (v := 73) (h72) (fun r1 => ?_)
  refine wb_gf4 73 rfl (wy_pr rfl) wt_73 wf_3_3 (v := 96) wl_73_3 ?_
  refine wa_iconst ?_
  refine wb_aald5 96 2 rfl rfl (wy_pr rfl) wt_96 (by rw [show _ = _ from ((cl_96 hC))]; omega) wl_96_2 ?_
  refine wa_iload_n (n := 1) rfl ?_
  refine wb_iald 99 rfl (wy_pr rfl) wt_99 (n := 400) ((cl_99 hC)) (by omega) (by omega) (v := 1) (hstt) (fun r2 => ?_)
  refine wa_iconst ?_
  refine wa_icmpne (w_rg0 (by omega) (by omega)) (w_rg0 (by omega) (by omega)) ⟨_, rfl⟩ (fun c3 => ?_) (fun c3 => ?_)
  · skip
    exact absurd c3 (by omega)
  · skip
    refine wa_aload_n (n := 0) rfl ?_
    refine wb_gf4 158 rfl (wy_pr rfl) wt_158 wf_5_0 (v := 72) wl_158_0 ?_
    refine wb_gf5 72 rfl (wy_pr rfl) wt_72 wf_2_1 (v := 73) (h72) (fun r4 => ?_)
    refine wb_gf4 73 rfl (wy_pr rfl) wt_73 wf_3_7 (v := 116) wl_73_7 ?_
    refine wa_goto ⟨_, rfl⟩ ?_
    refine wa_oreturn rfl ?_
    show wJ _ _ _ _ _ _ _ _ _ _
    refine wa_astore_n (n := 3) rfl ?_
    refine wa_aload_n (n := 0) rfl ?_
    refine wa_iload_n (n := 2) rfl ?_
    refine wa_cv 158 rfl (wy_pr rfl) wt_158 (M2 := fun _ => False) rfl at_XL_placeOf ⟨_, rfl⟩ rfl rfl ⟨(Or.inr ⟨wy_pr rfl, fun q => q⟩), (Or.inr ⟨wy_pr rfl, fun q => q⟩), trivial, trivial, trivial⟩ trivial (fun _ _ q => False.elim q) ?_ (fun _ _ _ q => q)
    refine wa_aload_n (n := 0) rfl ?_
    refine wb_gf4 158 rfl (wy_pr rfl) wt_158 wf_5_0 (v := 72) wl_158_0 ?_
    refine wb_gf5 72 rfl (wy_pr rfl) wt_72 wf_2_1 (v := 73) (h72) (fun r5 => ?_)
    refine wb_gf4 73 rfl (wy_pr rfl) wt_73 wf_3_3 (v := 96) wl_73_3 ?_
    refine wa_bipush (w_rg2 (by omega) (by omega)) ?_
    refine wb_aald5 96 15 rfl rfl (wy_pr rfl) wt_96 (by rw [show _ = _ from ((cl_96 hC))]; omega) wl_96_15 ?_
    refine wa_iload_n (n := 1) rfl ?_
    refine wb_iald 112 rfl (wy_pr rfl) wt_112 (n := 400) ((cl_112 hC)) (by omega) (by omega) (v := fi) (hfi) (fun r6 => ?_)
    refine wa_istore_n (n := 2) rfl ?_
    refine wa_aload_n (n := 0) rfl ?_
    refine wb_gf4 158 rfl (wy_pr rfl) wt_158 wf_5_0 (v := 72) wl_158_0 ?_
    refine wb_gf5 72 rfl (wy_pr rfl) wt_72 wf_2_1 (v := 73) (h72) (fun r7 => ?_)
    refine wb_gf4 73 rfl (wy_pr rfl) wt_73 wf_3_3 (v := 96) wl_73_3 ?_
    refine wa_iconst ?_
    refine wb_aald5 96 2 rfl rfl (wy_pr rfl) wt_96 (by rw [show _ = _ from ((cl_96 hC))]; omega) wl_96_2 ?_
    refine wa_iload_n (n := 1) rfl ?_
    refine wb_iald 99 rfl (wy_pr rfl) wt_99 (n := 400) ((cl_99 hC)) (by omega) (by omega) (v := 1) (hstt) (fun r8 => ?_)
    refine wa_iconst ?_
    refine wa_icmpne (w_rg0 (by omega) (by omega)) (w_rg0 (by omega) (by omega)) ⟨_, rfl⟩ (fun c9 => ?_) (fun c9 => ?_)
    · skip
      exact absurd c9 (by omega)
    · skip
      refine wa_iconst ?_
      refine wa_goto ⟨_, rfl⟩ ?_
      refine wa_istore_n (n := 3) rfl ?_
      refine wa_iload_n (n := 3) rfl ?_
      refine wa_ifeq (w_rg0 (by omega) (by omega)) ⟨_, rfl⟩ (fun c10 => ?_) (fun c10 => ?_)
      · skip
        exact absurd c10 (by omega)
      · skip
        refine wa_iload_n (n := 2) rfl ?_
        refine wa_goto ⟨_, rfl⟩ ?_
        refine wa_ireturn rfl ?_
        show wJ _ _ _ _ _ _ _ _ _ _
        refine wa_istore (n := 4) rfl ?_
        refine wa_aload_n (n := 0) rfl ?_
        refine wb_gf4 158 rfl (wy_pr rfl) wt_158 wf_5_0 (v := 72) wl_158_0 ?_
        refine wb_gf5 72 rfl (wy_pr rfl) wt_72 wf_2_1 (v := 73) (h72) (fun r11 => ?_)
        refine wb_gf4 73 rfl (wy_pr rfl) wt_73 wf_3_3 (v := 96) wl_73_3 ?_
        refine wa_iconst ?_
        refine wb_aald5 96 4 rfl rfl (wy_pr rfl) wt_96 (by rw [show _ = _ from ((cl_96 hC))]; omega) wl_96_4 ?_
        refine wa_iload_n (n := 1) rfl ?_
        refine wb_iald 101 rfl (wy_pr rfl) wt_101 (n := 400) ((cl_101 hC)) (by omega) (by omega) (v := 0) (hcn) (fun r12 => ?_)
        refine wa_iconst ?_
        refine wa_icmpne (w_rg0 (by omega) (by omega)) (w_rg0 (by omega) (by omega)) ⟨_, rfl⟩ (fun c13 => ?_) (fun c13 => ?_)
        · skip
          refine wa_aload_n (n := 0) rfl ?_
          refine wa_aload_n (n := 3) rfl ?_
          refine wb_gf4 116 rfl (wy_pr rfl) wt_116 wf_7_0 (v := 117) wl_116_0 ?_
          refine wa_iload (n := 4) rfl ?_
          refine wb_bald 117 rfl (wy_pr rfl) wt_117 (n := (S 117 (-1))) (rfl) (by omega) (by omega) (v := vk) (hvk) (fun r14 => ?_)
          refine wb_pfi 158 rfl (wy_pr rfl) wt_158 wf_5_16 (n := 16) rfl ⟨(by omega), (by omega)⟩ ?_
          refine wa_aload_n (n := 0) rfl ?_
          refine wa_aload_n (n := 3) rfl ?_
          refine wb_gf4 116 rfl (wy_pr rfl) wt_116 wf_7_1 (v := 118) wl_116_1 ?_
          refine wa_iload (n := 4) rfl ?_
          refine wb_lald 118 rfl (wy_pr rfl) wt_118 (n := (S 117 (-1))) ((w_up_slot (by decide)).trans (hrl)) (by omega) (by omega) (v := vb) ((w_up_slot (by decide)).trans (hvb)) (fun r15 => ?_)
          refine wb_pfl 158 rfl (wy_pr rfl) wt_158 wf_5_17 (n := 17) rfl ⟨(by omega), (by omega)⟩ ?_
          refine wa_fall ⟨_, rfl⟩ ?_
          refine wa_return rfl ?_
          exact ⟨rfl, rfl⟩
        · skip
          exact absurd c13 (by omega)
theorem uss1_73_215 {m f fi gb ba k1 v1 : Int} (hC : w_CL S) (h72 : S 72 1 = 73) (l5 : S 158 5 = 216) (l8 : S 158 8 = ba) (l10 : S 158 10 = gb) (hm : 0 ≤ m ∧ m < 400) (hf : 0 ≤ f ∧ f < 400) (hstt : S 99 f = 1) (hfi : S 112 f = fi) (hrl : S 118 (-1) = S 117 (-1)) (hrb : 0 ≤ fi ∧ fi < S 117 (-1) ∧ S 117 (-1) ≤ 8388608) (hcn : S 101 m = 1) (hpl : S 218 (-1) = S 217 (-1)) (hpb : 0 ≤ ba ∧ ba + 1 < S 217 (-1) ∧ S 217 (-1) ≤ 4095) (hk1 : S 217 (ba + 1) = k1) (hv1 : S 218 (ba + 1) = v1) : wJ (pe_GA xs) wY0 M (d + 3) t_XL_useField ((pe_at t_XL_useField.bl 0).getD (0, [])).2 [(0, (2, 158)), (1, (0, m)), (2, (0, f))] [] S (fun o Z => o = .inl none ∧ w_up (w_up S 117 fi k1) 118 fi v1 = Z) := by
  refine wa_aload_n (n := 0) rfl ?_
  refine wa_iload_n (n := 2) rfl ?_
  refine wa_cv 158 rfl (wy_pr rfl) wt_158 (M2 := fun _ => False) rfl at_XL_rowOf ⟨_, rfl⟩ rfl rfl ⟨(Or.inr ⟨wy_pr rfl, fun q => q⟩), trivial, trivial, trivial⟩ trivial (fun _ _ q => False.elim q) ?_ (fun _ _ _ q => q)
  refine wa_aload_n (n := 0) rfl ?_
  refine wb_gf4 158 rfl (wy_pr rfl) wt_158 wf_5_0 (v := 72) wl_158_0 ?_
  refine wb_gf5 72 rfl (wy_pr rfl) wt_72 wf_2_1 (v := 73) (h72) (fun r1 => ?_)
  refine wb_gf4 73 rfl (wy_pr rfl) wt_73 wf_3_3 (v := 96) wl_73_3 ?_
  refine wa_iconst ?_
  refine wb_aald5 96 2 rfl rfl (wy_pr rfl) wt_96 (by rw [show _ = _ from ((cl_96 hC))]; omega) wl_96_2 ?_
  refine wa_iload_n (n := 1) rfl ?_
  refine wb_iald 99 rfl (wy_pr rfl) wt_99 (n := 400) ((cl_99 hC)) (by omega) (by omega) (v := 1) (hstt) (fun r2 => ?_)
  refine wa_iconst ?_
  refine wa_icmpne (w_rg0 (by omega) (by omega)) (w_rg0 (by omega) (by omega)) ⟨_, rfl⟩ (fun c3 => ?_) (fun c3 => ?_)
  · skip
    exact absurd c3 (by omega)
  · skip
    refine wa_aload_n (n := 0) rfl ?_
    refine wb_gf4 158 rfl (wy_pr rfl) wt_158 wf_5_0 (v := 72) wl_158_0 ?_
    refine wb_gf5 72 rfl (wy_pr rfl) wt_72 wf_2_1 (v := 73) (h72) (fun r4 => ?_)
    refine wb_gf4 73 rfl (wy_pr rfl) wt_73 wf_3_7 (v := 116) wl_73_7 ?_
    refine wa_goto ⟨_, rfl⟩ ?_
    refine wa_oreturn rfl ?_
    show wJ _ _ _ _ _ _ _ _ _ _
    refine wa_astore_n (n := 3) rfl ?_
    refine wa_aload_n (n := 0) rfl ?_
    refine wa_iload_n (n := 2) rfl ?_
    refine wa_cv 158 rfl (wy_pr rfl) wt_158 (M2 := fun _ => False) rfl at_XL_placeOf ⟨_, rfl⟩ rfl rfl ⟨(Or.inr ⟨wy_pr rfl, fun q => q⟩), (Or.inr ⟨wy_pr rfl, fun q => q⟩), trivial, trivial, trivial⟩ trivial (fun _ _ q => False.elim q) ?_ (fun _ _ _ q => q)
    refine wa_aload_n (n := 0) rfl ?_
    refine wb_gf4 158 rfl (wy_pr rfl) wt_158 wf_5_0 (v := 72) wl_158_0 ?_
    refine wb_gf5 72 rfl (wy_pr rfl) wt_72 wf_2_1 (v := 73) (h72) (fun r5 => ?_)
    refine wb_gf4 73 rfl (wy_pr rfl) wt_73 wf_3_3 (v := 96) wl_73_3 ?_
    refine wa_bipush (w_rg2 (by omega) (by omega)) ?_
    refine wb_aald5 96 15 rfl rfl (wy_pr rfl) wt_96 (by rw [show _ = _ from ((cl_96 hC))]; omega) wl_96_15 ?_
    refine wa_iload_n (n := 1) rfl ?_
    refine wb_iald 112 rfl (wy_pr rfl) wt_112 (n := 400) ((cl_112 hC)) (by omega) (by omega) (v := fi) (hfi) (fun r6 => ?_)
    refine wa_istore_n (n := 2) rfl ?_
    refine wa_aload_n (n := 0) rfl ?_
    refine wb_gf4 158 rfl (wy_pr rfl) wt_158 wf_5_0 (v := 72) wl_158_0 ?_
    refine wb_gf5 72 rfl (wy_pr rfl) wt_72 wf_2_1 (v := 73) (h72) (fun r7 => ?_)
    refine wb_gf4 73 rfl (wy_pr rfl) wt_73 wf_3_3 (v := 96) wl_73_3 ?_
    refine wa_iconst ?_
    refine wb_aald5 96 2 rfl rfl (wy_pr rfl) wt_96 (by rw [show _ = _ from ((cl_96 hC))]; omega) wl_96_2 ?_
    refine wa_iload_n (n := 1) rfl ?_
    refine wb_iald 99 rfl (wy_pr rfl) wt_99 (n := 400) ((cl_99 hC)) (by omega) (by omega) (v := 1) (hstt) (fun r8 => ?_)
    refine wa_iconst ?_
    refine wa_icmpne (w_rg0 (by omega) (by omega)) (w_rg0 (by omega) (by omega)) ⟨_, rfl⟩ (fun c9 => ?_) (fun c9 => ?_)
    · skip
      exact absurd c9 (by omega)
    · skip
      refine wa_iconst ?_
      refine wa_goto ⟨_, rfl⟩ ?_
      refine wa_istore_n (n := 3) rfl ?_
      refine wa_iload_n (n := 3) rfl ?_
      refine wa_ifeq (w_rg0 (by omega) (by omega)) ⟨_, rfl⟩ (fun c10 => ?_) (fun c10 => ?_)
      · skip
        exact absurd c10 (by omega)
      · skip
        refine wa_iload_n (n := 2) rfl ?_
        refine wa_goto ⟨_, rfl⟩ ?_
        refine wa_ireturn rfl ?_
        show wJ _ _ _ _ _ _ _ _ _ _
        refine wa_istore (n := 4) rfl ?_
        refine wa_aload_n (n := 0) rfl ?_
        refine wb_gf4 158 rfl (wy_pr rfl) wt_158 wf_5_0 (v := 72) wl_158_0 ?_
        refine wb_gf5 72 rfl (wy_pr rfl) wt_72 wf_2_1 (v := 73) (h72) (fun r11 => ?_)
        refine wb_gf4 73 rfl (wy_pr rfl) wt_73 wf_3_3 (v := 96) wl_73_3 ?_
        refine wa_iconst ?_
        refine wb_aald5 96 4 rfl rfl (wy_pr rfl) wt_96 (by rw [show _ = _ from ((cl_96 hC))]; omega) wl_96_4 ?_
        refine wa_iload_n (n := 1) rfl ?_
        refine wb_iald 101 rfl (wy_pr rfl) wt_101 (n := 400) ((cl_101 hC)) (by omega) (by omega) (v := 1) (hcn) (fun r12 => ?_)
        refine wa_iconst ?_
        refine wa_icmpne (w_rg0 (by omega) (by omega)) (w_rg0 (by omega) (by omega)) ⟨_, rfl⟩ (fun c13 => ?_) (fun c13 => ?_)
        · skip
          exact absurd c13 (by omega)
        · skip
          refine wa_aload_n (n := 3) rfl ?_
          refine wa_iload (n := 4) rfl ?_
          refine wa_aload_n (n := 0) rfl ?_
          refine wb_gf5 158 rfl (wy_pr rfl) wt_158 wf_5_5 (v := 216) (l5) (fun r14 => ?_)
          refine wb_gf4 216 rfl (wy_pr rfl) wt_216 wf_7_0 (v := 217) wl_216_0 ?_
          refine wa_aload_n (n := 0) rfl ?_
          refine wb_gfi 158 rfl (wy_pr rfl) wt_158 wf_5_8 (v := ba) (l8) (fun r15 => ?_)
          refine wa_iconst ?_
          refine wa_iadd ?_
          refine wb_bald 217 rfl (wy_pr rfl) wt_217 (n := (S 217 (-1))) (rfl) (by omega) (by omega) (v := k1) (hk1) (fun r16 => ?_)
          refine wa_aload_n (n := 0) rfl ?_
          refine wb_gf5 158 rfl (wy_pr rfl) wt_158 wf_5_5 (v := 216) (l5) (fun r17 => ?_)
          refine wb_gf4 216 rfl (wy_pr rfl) wt_216 wf_7_1 (v := 218) wl_216_1 ?_
          refine wa_aload_n (n := 0) rfl ?_
          refine wb_gfi 158 rfl (wy_pr rfl) wt_158 wf_5_8 (v := ba) (l8) (fun r18 => ?_)
          refine wa_iconst ?_
          refine wa_iadd ?_
          refine wb_lald 218 rfl (wy_pr rfl) wt_218 (n := (S 217 (-1))) (hpl) (by omega) (by omega) (v := v1) (hv1) (fun r19 => ?_)
          refine wa_cv 116 rfl (wy_pr rfl) wt_116 (M2 := fun _ => False) rfl at_XV_put ⟨_, rfl⟩ rfl rfl ⟨trivial, (Or.inr ⟨wy_pr rfl, fun q => q⟩), (Or.inr ⟨wy_pr rfl, fun q => q⟩), trivial, trivial, trivial⟩ trivial (fun _ _ q => False.elim q) ?_ (fun _ _ _ q => q)
          refine wa_aload_n (n := 0) rfl ?_
          refine wb_gf4 116 rfl (wy_pr rfl) wt_116 wf_7_0 (v := 117) wl_116_0 ?_
          refine wa_iload_n (n := 1) rfl ?_
          refine wa_iload_n (n := 2) rfl ?_
          refine wb_i2b_r (wb_i2b_id ⟨(by omega), (by omega)⟩) ?_
          refine wb_bast 117 rfl (wy_pr rfl) wt_117 (n := (S 117 (-1))) (rfl) (by omega) (by omega) ⟨(by omega), (by omega)⟩ ?_
          refine wa_aload_n (n := 0) rfl ?_
          refine wb_gf4 116 rfl (wy_pr rfl) wt_116 wf_7_1 (v := 118) wl_116_1 ?_
          refine wa_iload_n (n := 1) rfl ?_
          refine wa_lload_n (n := 3) rfl ?_
          refine wb_last 118 rfl (wy_pr rfl) wt_118 (n := (S 117 (-1))) ((w_up_slot (by decide)).trans (hrl)) (by omega) (by omega) ⟨(by omega), (by omega)⟩ ?_
          refine wa_return rfl ?_
          show wJ _ _ _ _ _ _ _ _ _ _
          refine wa_goto ⟨_, rfl⟩ ?_
          refine wa_return rfl ?_
          exact ⟨rfl, rfl⟩
theorem usg0_73_215 {m f fi gb ba st vk vb : Int} (hC : w_CL S) (h72 : S 72 1 = 73) (l5 : S 158 5 = 216) (l8 : S 158 8 = ba) (l10 : S 158 10 = gb) (hm : 0 ≤ m ∧ m < 400) (hf : 0 ≤ f ∧ f < 400) (hstt : S 99 f = 0) (hfi : S 112 f = fi) (hth : ∀ x : Nat, x < 10 → S (127 + x) (-1) = S 127 (-1)) (hn2 : S 127 (-1) ≤ 16383) (hl14 : S 142 (-1) = S 141 (-1)) (hz14 : 16 ≤ S 141 (-1) ∧ S 141 (-1) ≤ 480400) (hgb : 0 ≤ gb ∧ gb < S 127 (-1)) (hst : S 133 gb = st) (hrb : 0 ≤ st ∧ 0 ≤ fi ∧ fi ≤ 1000 ∧ st + fi < S 141 (-1)) (hcn : S 101 m = 0) (hvk : S 141 (st + fi) = vk) (hvb : S 142 (st + fi) = vb) : wJ (pe_GA xs) wY0 M (d + 3) t_XL_useField ((pe_at t_XL_useField.bl 0).getD (0, [])).2 [(0, (2, 158)), (1, (0, m)), (2, (0, f))] [] S (fun o Z => o = .inl none ∧ w_up (w_up S 158 16 vk) 158 17 vb = Z) := by
  refine wa_aload_n (n := 0) rfl ?_
  refine wa_iload_n (n := 2) rfl ?_
  refine wa_cv 158 rfl (wy_pr rfl) wt_158 (M2 := fun _ => False) rfl at_XL_rowOf ⟨_, rfl⟩ rfl rfl ⟨(Or.inr ⟨wy_pr rfl, fun q => q⟩), trivial, trivial, trivial⟩ trivial (fun _ _ q => False.elim q) ?_ (fun _ _ _ q => q)
  refine wa_aload_n (n := 0) rfl ?_
  refine wb_gf4 158 rfl (wy_pr rfl) wt_158 wf_5_0 (v := 72) wl_158_0 ?_
  refine wb_gf5 72 rfl (wy_pr rfl) wt_72 wf_2_1 (v := 73) (h72) (fun r1 => ?_)
  refine wb_gf4 73 rfl (wy_pr rfl) wt_73 wf_3_3 (v := 96) wl_73_3 ?_
  refine wa_iconst ?_
  refine wb_aald5 96 2 rfl rfl (wy_pr rfl) wt_96 (by rw [show _ = _ from ((cl_96 hC))]; omega) wl_96_2 ?_
  refine wa_iload_n (n := 1) rfl ?_
  refine wb_iald 99 rfl (wy_pr rfl) wt_99 (n := 400) ((cl_99 hC)) (by omega) (by omega) (v := 0) (hstt) (fun r2 => ?_)
  refine wa_iconst ?_
  refine wa_icmpne (w_rg0 (by omega) (by omega)) (w_rg0 (by omega) (by omega)) ⟨_, rfl⟩ (fun c3 => ?_) (fun c3 => ?_)
  · skip
    refine wa_aload_n (n := 0) rfl ?_
    refine wb_gf4 158 rfl (wy_pr rfl) wt_158 wf_5_0 (v := 72) wl_158_0 ?_
    refine wb_gf4 72 rfl (wy_pr rfl) wt_72 wf_2_6 (v := 140) wl_72_6 ?_
    refine wa_fall ⟨_, rfl⟩ ?_
    refine wa_oreturn rfl ?_
    show wJ _ _ _ _ _ _ _ _ _ _
    refine wa_astore_n (n := 3) rfl ?_
    refine wa_aload_n (n := 0) rfl ?_
    refine wa_iload_n (n := 2) rfl ?_
    refine wa_cv 158 rfl (wy_pr rfl) wt_158 (M2 := fun _ => False) rfl at_XL_placeOf ⟨_, rfl⟩ rfl rfl ⟨(Or.inr ⟨wy_pr rfl, fun q => q⟩), (Or.inr ⟨wy_pr rfl, fun q => q⟩), trivial, trivial, trivial⟩ trivial (fun _ _ q => False.elim q) ?_ (fun _ _ _ q => q)
    refine wa_aload_n (n := 0) rfl ?_
    refine wb_gf4 158 rfl (wy_pr rfl) wt_158 wf_5_0 (v := 72) wl_158_0 ?_
    refine wb_gf5 72 rfl (wy_pr rfl) wt_72 wf_2_1 (v := 73) (h72) (fun r4 => ?_)
    refine wb_gf4 73 rfl (wy_pr rfl) wt_73 wf_3_3 (v := 96) wl_73_3 ?_
    refine wa_bipush (w_rg2 (by omega) (by omega)) ?_
    refine wb_aald5 96 15 rfl rfl (wy_pr rfl) wt_96 (by rw [show _ = _ from ((cl_96 hC))]; omega) wl_96_15 ?_
    refine wa_iload_n (n := 1) rfl ?_
    refine wb_iald 112 rfl (wy_pr rfl) wt_112 (n := 400) ((cl_112 hC)) (by omega) (by omega) (v := fi) (hfi) (fun r5 => ?_)
    refine wa_istore_n (n := 2) rfl ?_
    refine wa_aload_n (n := 0) rfl ?_
    refine wb_gf4 158 rfl (wy_pr rfl) wt_158 wf_5_0 (v := 72) wl_158_0 ?_
    refine wb_gf5 72 rfl (wy_pr rfl) wt_72 wf_2_1 (v := 73) (h72) (fun r6 => ?_)
    refine wb_gf4 73 rfl (wy_pr rfl) wt_73 wf_3_3 (v := 96) wl_73_3 ?_
    refine wa_iconst ?_
    refine wb_aald5 96 2 rfl rfl (wy_pr rfl) wt_96 (by rw [show _ = _ from ((cl_96 hC))]; omega) wl_96_2 ?_
    refine wa_iload_n (n := 1) rfl ?_
    refine wb_iald 99 rfl (wy_pr rfl) wt_99 (n := 400) ((cl_99 hC)) (by omega) (by omega) (v := 0) (hstt) (fun r7 => ?_)
    refine wa_iconst ?_
    refine wa_icmpne (w_rg0 (by omega) (by omega)) (w_rg0 (by omega) (by omega)) ⟨_, rfl⟩ (fun c8 => ?_) (fun c8 => ?_)
    · skip
      refine wa_iconst ?_
      refine wa_fall ⟨_, rfl⟩ ?_
      refine wa_istore_n (n := 3) rfl ?_
      refine wa_iload_n (n := 3) rfl ?_
      refine wa_ifeq (w_rg0 (by omega) (by omega)) ⟨_, rfl⟩ (fun c9 => ?_) (fun c9 => ?_)
      · skip
        refine wa_aload_n (n := 0) rfl ?_
        refine wb_gf4 158 rfl (wy_pr rfl) wt_158 wf_5_0 (v := 72) wl_158_0 ?_
        refine wb_gf4 72 rfl (wy_pr rfl) wt_72 wf_2_2 (v := 126) wl_72_2 ?_
        refine wa_bipush (w_rg2 (by omega) (by omega)) ?_
        refine wb_aald5 126 6 rfl rfl (wy_pr rfl) wt_126 (by rw [show _ = _ from ((cl_126 hC))]; omega) wl_126_6 ?_
        refine wa_aload_n (n := 0) rfl ?_
        refine wb_gfl 158 rfl (wy_pr rfl) wt_158 wf_5_10 (v := gb) (l10) (fun r10 => ?_)
        refine wb_l2i_r (wb_l2i_id ⟨(by omega), (by omega)⟩) ?_
        refine wb_iald 133 rfl (wy_pr rfl) wt_133 (n := (S 127 (-1))) ((hth 6 (by decide))) (by omega) (by omega) (v := st) (hst) (fun r11 => ?_)
        refine wa_iload_n (n := 2) rfl ?_
        refine wa_iadd ?_
        refine wa_fall ⟨_, rfl⟩ ?_
        refine wa_ireturn rfl ?_
        show wJ _ _ _ _ _ _ _ _ _ _
        refine wa_istore (n := 4) rfl ?_
        refine wa_aload_n (n := 0) rfl ?_
        refine wb_gf4 158 rfl (wy_pr rfl) wt_158 wf_5_0 (v := 72) wl_158_0 ?_
        refine wb_gf5 72 rfl (wy_pr rfl) wt_72 wf_2_1 (v := 73) (h72) (fun r12 => ?_)
        refine wb_gf4 73 rfl (wy_pr rfl) wt_73 wf_3_3 (v := 96) wl_73_3 ?_
        refine wa_iconst ?_
        refine wb_aald5 96 4 rfl rfl (wy_pr rfl) wt_96 (by rw [show _ = _ from ((cl_96 hC))]; omega) wl_96_4 ?_
        refine wa_iload_n (n := 1) rfl ?_
        refine wb_iald 101 rfl (wy_pr rfl) wt_101 (n := 400) ((cl_101 hC)) (by omega) (by omega) (v := 0) (hcn) (fun r13 => ?_)
        refine wa_iconst ?_
        refine wa_icmpne (w_rg0 (by omega) (by omega)) (w_rg0 (by omega) (by omega)) ⟨_, rfl⟩ (fun c14 => ?_) (fun c14 => ?_)
        · skip
          refine wa_aload_n (n := 0) rfl ?_
          refine wa_aload_n (n := 3) rfl ?_
          refine wb_gf4 140 rfl (wy_pr rfl) wt_140 wf_7_0 (v := 141) wl_140_0 ?_
          refine wa_iload (n := 4) rfl ?_
          refine wb_bald 141 rfl (wy_pr rfl) wt_141 (n := (S 141 (-1))) (rfl) (by omega) (by omega) (v := vk) (hvk) (fun r15 => ?_)
          refine wb_pfi 158 rfl (wy_pr rfl) wt_158 wf_5_16 (n := 16) rfl ⟨(by omega), (by omega)⟩ ?_
          refine wa_aload_n (n := 0) rfl ?_
          refine wa_aload_n (n := 3) rfl ?_
          refine wb_gf4 140 rfl (wy_pr rfl) wt_140 wf_7_1 (v := 142) wl_140_1 ?_
          refine wa_iload (n := 4) rfl ?_
          refine wb_lald 142 rfl (wy_pr rfl) wt_142 (n := (S 141 (-1))) ((w_up_slot (by decide)).trans (hl14)) (by omega) (by omega) (v := vb) ((w_up_slot (by decide)).trans (hvb)) (fun r16 => ?_)
          refine wb_pfl 158 rfl (wy_pr rfl) wt_158 wf_5_17 (n := 17) rfl ⟨(by omega), (by omega)⟩ ?_
          refine wa_fall ⟨_, rfl⟩ ?_
          refine wa_return rfl ?_
          exact ⟨rfl, rfl⟩
        · skip
          exact absurd c14 (by omega)
      · skip
        exact absurd c9 (by omega)
    · skip
      exact absurd c8 (by omega)
  · skip
    exact absurd c3 (by omega)
theorem uss0_73_215 {m f fi gb ba st k1 v1 : Int} (hC : w_CL S) (h72 : S 72 1 = 73) (l5 : S 158 5 = 216) (l8 : S 158 8 = ba) (l10 : S 158 10 = gb) (hm : 0 ≤ m ∧ m < 400) (hf : 0 ≤ f ∧ f < 400) (hstt : S 99 f = 0) (hfi : S 112 f = fi) (hth : ∀ x : Nat, x < 10 → S (127 + x) (-1) = S 127 (-1)) (hn2 : S 127 (-1) ≤ 16383) (hl14 : S 142 (-1) = S 141 (-1)) (hz14 : 16 ≤ S 141 (-1) ∧ S 141 (-1) ≤ 480400) (hgb : 0 ≤ gb ∧ gb < S 127 (-1)) (hst : S 133 gb = st) (hrb : 0 ≤ st ∧ 0 ≤ fi ∧ fi ≤ 1000 ∧ st + fi < S 141 (-1)) (hcn : S 101 m = 1) (hpl : S 218 (-1) = S 217 (-1)) (hpb : 0 ≤ ba ∧ ba + 1 < S 217 (-1) ∧ S 217 (-1) ≤ 4095) (hk1 : S 217 (ba + 1) = k1) (hv1 : S 218 (ba + 1) = v1) : wJ (pe_GA xs) wY0 M (d + 3) t_XL_useField ((pe_at t_XL_useField.bl 0).getD (0, [])).2 [(0, (2, 158)), (1, (0, m)), (2, (0, f))] [] S (fun o Z => o = .inl none ∧ w_up (w_up S 141 (st + fi) k1) 142 (st + fi) v1 = Z) := by
  refine wa_aload_n (n := 0) rfl ?_
  refine wa_iload_n (n := 2) rfl ?_
  refine wa_cv 158 rfl (wy_pr rfl) wt_158 (M2 := fun _ => False) rfl at_XL_rowOf ⟨_, rfl⟩ rfl rfl ⟨(Or.inr ⟨wy_pr rfl, fun q => q⟩), trivial, trivial, trivial⟩ trivial (fun _ _ q => False.elim q) ?_ (fun _ _ _ q => q)
  refine wa_aload_n (n := 0) rfl ?_
  refine wb_gf4 158 rfl (wy_pr rfl) wt_158 wf_5_0 (v := 72) wl_158_0 ?_
  refine wb_gf5 72 rfl (wy_pr rfl) wt_72 wf_2_1 (v := 73) (h72) (fun r1 => ?_)
  refine wb_gf4 73 rfl (wy_pr rfl) wt_73 wf_3_3 (v := 96) wl_73_3 ?_
  refine wa_iconst ?_
  refine wb_aald5 96 2 rfl rfl (wy_pr rfl) wt_96 (by rw [show _ = _ from ((cl_96 hC))]; omega) wl_96_2 ?_
  refine wa_iload_n (n := 1) rfl ?_
  refine wb_iald 99 rfl (wy_pr rfl) wt_99 (n := 400) ((cl_99 hC)) (by omega) (by omega) (v := 0) (hstt) (fun r2 => ?_)
  refine wa_iconst ?_
  refine wa_icmpne (w_rg0 (by omega) (by omega)) (w_rg0 (by omega) (by omega)) ⟨_, rfl⟩ (fun c3 => ?_) (fun c3 => ?_)
  · skip
    refine wa_aload_n (n := 0) rfl ?_
    refine wb_gf4 158 rfl (wy_pr rfl) wt_158 wf_5_0 (v := 72) wl_158_0 ?_
    refine wb_gf4 72 rfl (wy_pr rfl) wt_72 wf_2_6 (v := 140) wl_72_6 ?_
    refine wa_fall ⟨_, rfl⟩ ?_
    refine wa_oreturn rfl ?_
    show wJ _ _ _ _ _ _ _ _ _ _
    refine wa_astore_n (n := 3) rfl ?_
    refine wa_aload_n (n := 0) rfl ?_
    refine wa_iload_n (n := 2) rfl ?_
    refine wa_cv 158 rfl (wy_pr rfl) wt_158 (M2 := fun _ => False) rfl at_XL_placeOf ⟨_, rfl⟩ rfl rfl ⟨(Or.inr ⟨wy_pr rfl, fun q => q⟩), (Or.inr ⟨wy_pr rfl, fun q => q⟩), trivial, trivial, trivial⟩ trivial (fun _ _ q => False.elim q) ?_ (fun _ _ _ q => q)
    refine wa_aload_n (n := 0) rfl ?_
    refine wb_gf4 158 rfl (wy_pr rfl) wt_158 wf_5_0 (v := 72) wl_158_0 ?_
    refine wb_gf5 72 rfl (wy_pr rfl) wt_72 wf_2_1 (v := 73) (h72) (fun r4 => ?_)
    refine wb_gf4 73 rfl (wy_pr rfl) wt_73 wf_3_3 (v := 96) wl_73_3 ?_
    refine wa_bipush (w_rg2 (by omega) (by omega)) ?_
    refine wb_aald5 96 15 rfl rfl (wy_pr rfl) wt_96 (by rw [show _ = _ from ((cl_96 hC))]; omega) wl_96_15 ?_
    refine wa_iload_n (n := 1) rfl ?_
    refine wb_iald 112 rfl (wy_pr rfl) wt_112 (n := 400) ((cl_112 hC)) (by omega) (by omega) (v := fi) (hfi) (fun r5 => ?_)
    refine wa_istore_n (n := 2) rfl ?_
    refine wa_aload_n (n := 0) rfl ?_
    refine wb_gf4 158 rfl (wy_pr rfl) wt_158 wf_5_0 (v := 72) wl_158_0 ?_
    refine wb_gf5 72 rfl (wy_pr rfl) wt_72 wf_2_1 (v := 73) (h72) (fun r6 => ?_)
    refine wb_gf4 73 rfl (wy_pr rfl) wt_73 wf_3_3 (v := 96) wl_73_3 ?_
    refine wa_iconst ?_
    refine wb_aald5 96 2 rfl rfl (wy_pr rfl) wt_96 (by rw [show _ = _ from ((cl_96 hC))]; omega) wl_96_2 ?_
    refine wa_iload_n (n := 1) rfl ?_
    refine wb_iald 99 rfl (wy_pr rfl) wt_99 (n := 400) ((cl_99 hC)) (by omega) (by omega) (v := 0) (hstt) (fun r7 => ?_)
    refine wa_iconst ?_
    refine wa_icmpne (w_rg0 (by omega) (by omega)) (w_rg0 (by omega) (by omega)) ⟨_, rfl⟩ (fun c8 => ?_) (fun c8 => ?_)
    · skip
      refine wa_iconst ?_
      refine wa_fall ⟨_, rfl⟩ ?_
      refine wa_istore_n (n := 3) rfl ?_
      refine wa_iload_n (n := 3) rfl ?_
      refine wa_ifeq (w_rg0 (by omega) (by omega)) ⟨_, rfl⟩ (fun c9 => ?_) (fun c9 => ?_)
      · skip
        refine wa_aload_n (n := 0) rfl ?_
        refine wb_gf4 158 rfl (wy_pr rfl) wt_158 wf_5_0 (v := 72) wl_158_0 ?_
        refine wb_gf4 72 rfl (wy_pr rfl) wt_72 wf_2_2 (v := 126) wl_72_2 ?_
        refine wa_bipush (w_rg2 (by omega) (by omega)) ?_
        refine wb_aald5 126 6 rfl rfl (wy_pr rfl) wt_126 (by rw [show _ = _ from ((cl_126 hC))]; omega) wl_126_6 ?_
        refine wa_aload_n (n := 0) rfl ?_
        refine wb_gfl 158 rfl (wy_pr rfl) wt_158 wf_5_10 (v := gb) (l10) (fun r10 => ?_)
        refine wb_l2i_r (wb_l2i_id ⟨(by omega), (by omega)⟩) ?_
        refine wb_iald 133 rfl (wy_pr rfl) wt_133 (n := (S 127 (-1))) ((hth 6 (by decide))) (by omega) (by omega) (v := st) (hst) (fun r11 => ?_)
        refine wa_iload_n (n := 2) rfl ?_
        refine wa_iadd ?_
        refine wa_fall ⟨_, rfl⟩ ?_
        refine wa_ireturn rfl ?_
        show wJ _ _ _ _ _ _ _ _ _ _
        refine wa_istore (n := 4) rfl ?_
        refine wa_aload_n (n := 0) rfl ?_
        refine wb_gf4 158 rfl (wy_pr rfl) wt_158 wf_5_0 (v := 72) wl_158_0 ?_
        refine wb_gf5 72 rfl (wy_pr rfl) wt_72 wf_2_1 (v := 73) (h72) (fun r12 => ?_)
        refine wb_gf4 73 rfl (wy_pr rfl) wt_73 wf_3_3 (v := 96) wl_73_3 ?_
        refine wa_iconst ?_
        refine wb_aald5 96 4 rfl rfl (wy_pr rfl) wt_96 (by rw [show _ = _ from ((cl_96 hC))]; omega) wl_96_4 ?_
        refine wa_iload_n (n := 1) rfl ?_
        refine wb_iald 101 rfl (wy_pr rfl) wt_101 (n := 400) ((cl_101 hC)) (by omega) (by omega) (v := 1) (hcn) (fun r13 => ?_)
        refine wa_iconst ?_
        refine wa_icmpne (w_rg0 (by omega) (by omega)) (w_rg0 (by omega) (by omega)) ⟨_, rfl⟩ (fun c14 => ?_) (fun c14 => ?_)
        · skip
          exact absurd c14 (by omega)
        · skip
          refine wa_aload_n (n := 3) rfl ?_
          refine wa_iload (n := 4) rfl ?_
          refine wa_aload_n (n := 0) rfl ?_
          refine wb_gf5 158 rfl (wy_pr rfl) wt_158 wf_5_5 (v := 216) (l5) (fun r15 => ?_)
          refine wb_gf4 216 rfl (wy_pr rfl) wt_216 wf_7_0 (v := 217) wl_216_0 ?_
          refine wa_aload_n (n := 0) rfl ?_
          refine wb_gfi 158 rfl (wy_pr rfl) wt_158 wf_5_8 (v := ba) (l8) (fun r16 => ?_)
          refine wa_iconst ?_
          refine wa_iadd ?_
          refine wb_bald 217 rfl (wy_pr rfl) wt_217 (n := (S 217 (-1))) (rfl) (by omega) (by omega) (v := k1) (hk1) (fun r17 => ?_)
          refine wa_aload_n (n := 0) rfl ?_
          refine wb_gf5 158 rfl (wy_pr rfl) wt_158 wf_5_5 (v := 216) (l5) (fun r18 => ?_)
          refine wb_gf4 216 rfl (wy_pr rfl) wt_216 wf_7_1 (v := 218) wl_216_1 ?_
          refine wa_aload_n (n := 0) rfl ?_
          refine wb_gfi 158 rfl (wy_pr rfl) wt_158 wf_5_8 (v := ba) (l8) (fun r19 => ?_)
          refine wa_iconst ?_
          refine wa_iadd ?_
          refine wb_lald 218 rfl (wy_pr rfl) wt_218 (n := (S 217 (-1))) (hpl) (by omega) (by omega) (v := v1) (hv1) (fun r20 => ?_)
          refine wa_cv 140 rfl (wy_pr rfl) wt_140 (M2 := fun _ => False) rfl at_XV_put ⟨_, rfl⟩ rfl rfl ⟨trivial, (Or.inr ⟨wy_pr rfl, fun q => q⟩), (Or.inr ⟨wy_pr rfl, fun q => q⟩), trivial, trivial, trivial⟩ trivial (fun _ _ q => False.elim q) ?_ (fun _ _ _ q => q)
          refine wa_aload_n (n := 0) rfl ?_
          refine wb_gf4 140 rfl (wy_pr rfl) wt_140 wf_7_0 (v := 141) wl_140_0 ?_
          refine wa_iload_n (n := 1) rfl ?_
          refine wa_iload_n (n := 2) rfl ?_
          refine wb_i2b_r (wb_i2b_id ⟨(by omega), (by omega)⟩) ?_
          refine wb_bast 141 rfl (wy_pr rfl) wt_141 (n := (S 141 (-1))) (rfl) (by omega) (by omega) ⟨(by omega), (by omega)⟩ ?_
          refine wa_aload_n (n := 0) rfl ?_
          refine wb_gf4 140 rfl (wy_pr rfl) wt_140 wf_7_1 (v := 142) wl_140_1 ?_
          refine wa_iload_n (n := 1) rfl ?_
          refine wa_lload_n (n := 3) rfl ?_
          refine wb_last 142 rfl (wy_pr rfl) wt_142 (n := (S 141 (-1))) ((w_up_slot (by decide)).trans (hl14)) (by omega) (by omega) ⟨(by omega), (by omega)⟩ ?_
          refine wa_return rfl ?_
          show wJ _ _ _ _ _ _ _ _ _ _
          refine wa_goto ⟨_, rfl⟩ ?_
          refine wa_return rfl ?_
          exact ⟨rfl, rfl⟩
      · skip
        exact absurd c9 (by omega)
    · skip
      exact absurd c8 (by omega)
  · skip
    exact absurd c3 (by omega)
theorem usg1_73_226 {m f fi gb ba vk vb : Int} (hC : w_CL S) (h72 : S 72 1 = 73) (l5 : S 158 5 = 227) (l8 : S 158 8 = ba) (l10 : S 158 10 = gb) (hm : 0 ≤ m ∧ m < 400) (hf : 0 ≤ f ∧ f < 400) (hstt : S 99 f = 1) (hfi : S 112 f = fi) (hrl : S 118 (-1) = S 117 (-1)) (hrb : 0 ≤ fi ∧ fi < S 117 (-1) ∧ S 117 (-1) ≤ 8388608) (hcn : S 101 m = 0) (hvk : S 117 fi = vk) (hvb : S 118 fi = vb) : wJ (pe_GA xs) wY0 M (d + 3) t_XL_useField ((pe_at t_XL_useField.bl 0).getD (0, [])).2 [(0, (2, 158)), (1, (0, m)), (2, (0, f))] [] S (fun o Z => o = .inl none ∧ w_up (w_up S 158 16 vk) 158 17 vb = Z) := by
  refine wa_aload_n (n := 0) rfl ?_
  refine wa_iload_n (n := 2) rfl ?_
  refine wa_cv 158 rfl (wy_pr rfl) wt_158 (M2 := fun _ => False) rfl at_XL_rowOf ⟨_, rfl⟩ rfl rfl ⟨(Or.inr ⟨wy_pr rfl, fun q => q⟩), trivial, trivial, trivial⟩ trivial (fun _ _ q => False.elim q) ?_ (fun _ _ _ q => q)
  refine wa_aload_n (n := 0) rfl ?_
  refine wb_gf4 158 rfl (wy_pr rfl) wt_158 wf_5_0 (v := 72) wl_158_0 ?_
  refine wb_gf5 72 rfl (wy_pr rfl) wt_72 wf_2_1 (v := 73) (h72) (fun r1 => ?_)
  refine wb_gf4 73 rfl (wy_pr rfl) wt_73 wf_3_3 (v := 96) wl_73_3 ?_
  refine wa_iconst ?_
  refine wb_aald5 96 2 rfl rfl (wy_pr rfl) wt_96 (by rw [show _ = _ from ((cl_96 hC))]; omega) wl_96_2 ?_
  refine wa_iload_n (n := 1) rfl ?_
  refine wb_iald 99 rfl (wy_pr rfl) wt_99 (n := 400) ((cl_99 hC)) (by omega) (by omega) (v := 1) (hstt) (fun r2 => ?_)
  refine wa_iconst ?_
  refine wa_icmpne (w_rg0 (by omega) (by omega)) (w_rg0 (by omega) (by omega)) ⟨_, rfl⟩ (fun c3 => ?_) (fun c3 => ?_)
  · skip
    exact absurd c3 (by omega)
  · skip
    refine wa_aload_n (n := 0) rfl ?_
    refine wb_gf4 158 rfl (wy_pr rfl) wt_158 wf_5_0 (v := 72) wl_158_0 ?_
    refine wb_gf5 72 rfl (wy_pr rfl) wt_72 wf_2_1 (v := 73) (h72) (fun r4 => ?_)
    refine wb_gf4 73 rfl (wy_pr rfl) wt_73 wf_3_7 (v := 116) wl_73_7 ?_
    refine wa_goto ⟨_, rfl⟩ ?_
    refine wa_oreturn rfl ?_
    show wJ _ _ _ _ _ _ _ _ _ _
    refine wa_astore_n (n := 3) rfl ?_
    refine wa_aload_n (n := 0) rfl ?_
    refine wa_iload_n (n := 2) rfl ?_
    refine wa_cv 158 rfl (wy_pr rfl) wt_158 (M2 := fun _ => False) rfl at_XL_placeOf ⟨_, rfl⟩ rfl rfl ⟨(Or.inr ⟨wy_pr rfl, fun q => q⟩), (Or.inr ⟨wy_pr rfl, fun q => q⟩), trivial, trivial, trivial⟩ trivial (fun _ _ q => False.elim q) ?_ (fun _ _ _ q => q)
    refine wa_aload_n (n := 0) rfl ?_
    refine wb_gf4 158 rfl (wy_pr rfl) wt_158 wf_5_0 (v := 72) wl_158_0 ?_
    refine wb_gf5 72 rfl (wy_pr rfl) wt_72 wf_2_1 (v := 73) (h72) (fun r5 => ?_)
    refine wb_gf4 73 rfl (wy_pr rfl) wt_73 wf_3_3 (v := 96) wl_73_3 ?_
    refine wa_bipush (w_rg2 (by omega) (by omega)) ?_
    refine wb_aald5 96 15 rfl rfl (wy_pr rfl) wt_96 (by rw [show _ = _ from ((cl_96 hC))]; omega) wl_96_15 ?_
    refine wa_iload_n (n := 1) rfl ?_
    refine wb_iald 112 rfl (wy_pr rfl) wt_112 (n := 400) ((cl_112 hC)) (by omega) (by omega) (v := fi) (hfi) (fun r6 => ?_)
    refine wa_istore_n (n := 2) rfl ?_
    refine wa_aload_n (n := 0) rfl ?_
    refine wb_gf4 158 rfl (wy_pr rfl) wt_158 wf_5_0 (v := 72) wl_158_0 ?_
    refine wb_gf5 72 rfl (wy_pr rfl) wt_72 wf_2_1 (v := 73) (h72) (fun r7 => ?_)
    refine wb_gf4 73 rfl (wy_pr rfl) wt_73 wf_3_3 (v := 96) wl_73_3 ?_
    refine wa_iconst ?_
    refine wb_aald5 96 2 rfl rfl (wy_pr rfl) wt_96 (by rw [show _ = _ from ((cl_96 hC))]; omega) wl_96_2 ?_
    refine wa_iload_n (n := 1) rfl ?_
    refine wb_iald 99 rfl (wy_pr rfl) wt_99 (n := 400) ((cl_99 hC)) (by omega) (by omega) (v := 1) (hstt) (fun r8 => ?_)
    refine wa_iconst ?_
    refine wa_icmpne (w_rg0 (by omega) (by omega)) (w_rg0 (by omega) (by omega)) ⟨_, rfl⟩ (fun c9 => ?_) (fun c9 => ?_)
    · skip
      exact absurd c9 (by omega)
    · skip
      refine wa_iconst ?_
      refine wa_goto ⟨_, rfl⟩ ?_
      refine wa_istore_n (n := 3) rfl ?_
      refine wa_iload_n (n := 3) rfl ?_
      refine wa_ifeq (w_rg0 (by omega) (by omega)) ⟨_, rfl⟩ (fun c10 => ?_) (fun c10 => ?_)
      · skip
        exact absurd c10 (by omega)
      · skip
        refine wa_iload_n (n := 2) rfl ?_
        refine wa_goto ⟨_, rfl⟩ ?_
        refine wa_ireturn rfl ?_
        show wJ _ _ _ _ _ _ _ _ _ _
        refine wa_istore (n := 4) rfl ?_
        refine wa_aload_n (n := 0) rfl ?_
        refine wb_gf4 158 rfl (wy_pr rfl) wt_158 wf_5_0 (v := 72) wl_158_0 ?_
        refine wb_gf5 72 rfl (wy_pr rfl) wt_72 wf_2_1 (v := 73) (h72) (fun r11 => ?_)
        refine wb_gf4 73 rfl (wy_pr rfl) wt_73 wf_3_3 (v := 96) wl_73_3 ?_
        refine wa_iconst ?_
        refine wb_aald5 96 4 rfl rfl (wy_pr rfl) wt_96 (by rw [show _ = _ from ((cl_96 hC))]; omega) wl_96_4 ?_
        refine wa_iload_n (n := 1) rfl ?_
        refine wb_iald 101 rfl (wy_pr rfl) wt_101 (n := 400) ((cl_101 hC)) (by omega) (by omega) (v := 0) (hcn) (fun r12 => ?_)
        refine wa_iconst ?_
        refine wa_icmpne (w_rg0 (by omega) (by omega)) (w_rg0 (by omega) (by omega)) ⟨_, rfl⟩ (fun c13 => ?_) (fun c13 => ?_)
        · skip
          refine wa_aload_n (n := 0) rfl ?_
          refine wa_aload_n (n := 3) rfl ?_
          refine wb_gf4 116 rfl (wy_pr rfl) wt_116 wf_7_0 (v := 117) wl_116_0 ?_
          refine wa_iload (n := 4) rfl ?_
          refine wb_bald 117 rfl (wy_pr rfl) wt_117 (n := (S 117 (-1))) (rfl) (by omega) (by omega) (v := vk) (hvk) (fun r14 => ?_)
          refine wb_pfi 158 rfl (wy_pr rfl) wt_158 wf_5_16 (n := 16) rfl ⟨(by omega), (by omega)⟩ ?_
          refine wa_aload_n (n := 0) rfl ?_
          refine wa_aload_n (n := 3) rfl ?_
          refine wb_gf4 116 rfl (wy_pr rfl) wt_116 wf_7_1 (v := 118) wl_116_1 ?_
          refine wa_iload (n := 4) rfl ?_
          refine wb_lald 118 rfl (wy_pr rfl) wt_118 (n := (S 117 (-1))) ((w_up_slot (by decide)).trans (hrl)) (by omega) (by omega) (v := vb) ((w_up_slot (by decide)).trans (hvb)) (fun r15 => ?_)
          refine wb_pfl 158 rfl (wy_pr rfl) wt_158 wf_5_17 (n := 17) rfl ⟨(by omega), (by omega)⟩ ?_
          refine wa_fall ⟨_, rfl⟩ ?_
          refine wa_return rfl ?_
          exact ⟨rfl, rfl⟩
        · skip
          exact absurd c13 (by omega)
theorem uss1_73_226 {m f fi gb ba k1 v1 : Int} (hC : w_CL S) (h72 : S 72 1 = 73) (l5 : S 158 5 = 227) (l8 : S 158 8 = ba) (l10 : S 158 10 = gb) (hm : 0 ≤ m ∧ m < 400) (hf : 0 ≤ f ∧ f < 400) (hstt : S 99 f = 1) (hfi : S 112 f = fi) (hrl : S 118 (-1) = S 117 (-1)) (hrb : 0 ≤ fi ∧ fi < S 117 (-1) ∧ S 117 (-1) ≤ 8388608) (hcn : S 101 m = 1) (hpl : S 229 (-1) = S 228 (-1)) (hpb : 0 ≤ ba ∧ ba + 1 < S 228 (-1) ∧ S 228 (-1) ≤ 4095) (hk1 : S 228 (ba + 1) = k1) (hv1 : S 229 (ba + 1) = v1) : wJ (pe_GA xs) wY0 M (d + 3) t_XL_useField ((pe_at t_XL_useField.bl 0).getD (0, [])).2 [(0, (2, 158)), (1, (0, m)), (2, (0, f))] [] S (fun o Z => o = .inl none ∧ w_up (w_up S 117 fi k1) 118 fi v1 = Z) := by
  refine wa_aload_n (n := 0) rfl ?_
  refine wa_iload_n (n := 2) rfl ?_
  refine wa_cv 158 rfl (wy_pr rfl) wt_158 (M2 := fun _ => False) rfl at_XL_rowOf ⟨_, rfl⟩ rfl rfl ⟨(Or.inr ⟨wy_pr rfl, fun q => q⟩), trivial, trivial, trivial⟩ trivial (fun _ _ q => False.elim q) ?_ (fun _ _ _ q => q)
  refine wa_aload_n (n := 0) rfl ?_
  refine wb_gf4 158 rfl (wy_pr rfl) wt_158 wf_5_0 (v := 72) wl_158_0 ?_
  refine wb_gf5 72 rfl (wy_pr rfl) wt_72 wf_2_1 (v := 73) (h72) (fun r1 => ?_)
  refine wb_gf4 73 rfl (wy_pr rfl) wt_73 wf_3_3 (v := 96) wl_73_3 ?_
  refine wa_iconst ?_
  refine wb_aald5 96 2 rfl rfl (wy_pr rfl) wt_96 (by rw [show _ = _ from ((cl_96 hC))]; omega) wl_96_2 ?_
  refine wa_iload_n (n := 1) rfl ?_
  refine wb_iald 99 rfl (wy_pr rfl) wt_99 (n := 400) ((cl_99 hC)) (by omega) (by omega) (v := 1) (hstt) (fun r2 => ?_)
  refine wa_iconst ?_
  refine wa_icmpne (w_rg0 (by omega) (by omega)) (w_rg0 (by omega) (by omega)) ⟨_, rfl⟩ (fun c3 => ?_) (fun c3 => ?_)
  · skip
    exact absurd c3 (by omega)
  · skip
    refine wa_aload_n (n := 0) rfl ?_
    refine wb_gf4 158 rfl (wy_pr rfl) wt_158 wf_5_0 (v := 72) wl_158_0 ?_
    refine wb_gf5 72 rfl (wy_pr rfl) wt_72 wf_2_1 (v := 73) (h72) (fun r4 => ?_)
    refine wb_gf4 73 rfl (wy_pr rfl) wt_73 wf_3_7 (v := 116) wl_73_7 ?_
    refine wa_goto ⟨_, rfl⟩ ?_
    refine wa_oreturn rfl ?_
    show wJ _ _ _ _ _ _ _ _ _ _
    refine wa_astore_n (n := 3) rfl ?_
    refine wa_aload_n (n := 0) rfl ?_
    refine wa_iload_n (n := 2) rfl ?_
    refine wa_cv 158 rfl (wy_pr rfl) wt_158 (M2 := fun _ => False) rfl at_XL_placeOf ⟨_, rfl⟩ rfl rfl ⟨(Or.inr ⟨wy_pr rfl, fun q => q⟩), (Or.inr ⟨wy_pr rfl, fun q => q⟩), trivial, trivial, trivial⟩ trivial (fun _ _ q => False.elim q) ?_ (fun _ _ _ q => q)
    refine wa_aload_n (n := 0) rfl ?_
    refine wb_gf4 158 rfl (wy_pr rfl) wt_158 wf_5_0 (v := 72) wl_158_0 ?_
    refine wb_gf5 72 rfl (wy_pr rfl) wt_72 wf_2_1 (v := 73) (h72) (fun r5 => ?_)
    refine wb_gf4 73 rfl (wy_pr rfl) wt_73 wf_3_3 (v := 96) wl_73_3 ?_
    refine wa_bipush (w_rg2 (by omega) (by omega)) ?_
    refine wb_aald5 96 15 rfl rfl (wy_pr rfl) wt_96 (by rw [show _ = _ from ((cl_96 hC))]; omega) wl_96_15 ?_
    refine wa_iload_n (n := 1) rfl ?_
    refine wb_iald 112 rfl (wy_pr rfl) wt_112 (n := 400) ((cl_112 hC)) (by omega) (by omega) (v := fi) (hfi) (fun r6 => ?_)
    refine wa_istore_n (n := 2) rfl ?_
    refine wa_aload_n (n := 0) rfl ?_
    refine wb_gf4 158 rfl (wy_pr rfl) wt_158 wf_5_0 (v := 72) wl_158_0 ?_
    refine wb_gf5 72 rfl (wy_pr rfl) wt_72 wf_2_1 (v := 73) (h72) (fun r7 => ?_)
    refine wb_gf4 73 rfl (wy_pr rfl) wt_73 wf_3_3 (v := 96) wl_73_3 ?_
    refine wa_iconst ?_
    refine wb_aald5 96 2 rfl rfl (wy_pr rfl) wt_96 (by rw [show _ = _ from ((cl_96 hC))]; omega) wl_96_2 ?_
    refine wa_iload_n (n := 1) rfl ?_
    refine wb_iald 99 rfl (wy_pr rfl) wt_99 (n := 400) ((cl_99 hC)) (by omega) (by omega) (v := 1) (hstt) (fun r8 => ?_)
    refine wa_iconst ?_
    refine wa_icmpne (w_rg0 (by omega) (by omega)) (w_rg0 (by omega) (by omega)) ⟨_, rfl⟩ (fun c9 => ?_) (fun c9 => ?_)
    · skip
      exact absurd c9 (by omega)
    · skip
      refine wa_iconst ?_
      refine wa_goto ⟨_, rfl⟩ ?_
      refine wa_istore_n (n := 3) rfl ?_
      refine wa_iload_n (n := 3) rfl ?_
      refine wa_ifeq (w_rg0 (by omega) (by omega)) ⟨_, rfl⟩ (fun c10 => ?_) (fun c10 => ?_)
      · skip
        exact absurd c10 (by omega)
      · skip
        refine wa_iload_n (n := 2) rfl ?_
        refine wa_goto ⟨_, rfl⟩ ?_
        refine wa_ireturn rfl ?_
        show wJ _ _ _ _ _ _ _ _ _ _
        refine wa_istore (n := 4) rfl ?_
        refine wa_aload_n (n := 0) rfl ?_
        refine wb_gf4 158 rfl (wy_pr rfl) wt_158 wf_5_0 (v := 72) wl_158_0 ?_
        refine wb_gf5 72 rfl (wy_pr rfl) wt_72 wf_2_1 (v := 73) (h72) (fun r11 => ?_)
        refine wb_gf4 73 rfl (wy_pr rfl) wt_73 wf_3_3 (v := 96) wl_73_3 ?_
        refine wa_iconst ?_
        refine wb_aald5 96 4 rfl rfl (wy_pr rfl) wt_96 (by rw [show _ = _ from ((cl_96 hC))]; omega) wl_96_4 ?_
        refine wa_iload_n (n := 1) rfl ?_
        refine wb_iald 101 rfl (wy_pr rfl) wt_101 (n := 400) ((cl_101 hC)) (by omega) (by omega) (v := 1) (hcn) (fun r12 => ?_)
        refine wa_iconst ?_
        refine wa_icmpne (w_rg0 (by omega) (by omega)) (w_rg0 (by omega) (by omega)) ⟨_, rfl⟩ (fun c13 => ?_) (fun c13 => ?_)
        · skip
          exact absurd c13 (by omega)
        · skip
          refine wa_aload_n (n := 3) rfl ?_
          refine wa_iload (n := 4) rfl ?_
          refine wa_aload_n (n := 0) rfl ?_
          refine wb_gf5 158 rfl (wy_pr rfl) wt_158 wf_5_5 (v := 227) (l5) (fun r14 => ?_)
          refine wb_gf4 227 rfl (wy_pr rfl) wt_227 wf_7_0 (v := 228) wl_227_0 ?_
          refine wa_aload_n (n := 0) rfl ?_
          refine wb_gfi 158 rfl (wy_pr rfl) wt_158 wf_5_8 (v := ba) (l8) (fun r15 => ?_)
          refine wa_iconst ?_
          refine wa_iadd ?_
          refine wb_bald 228 rfl (wy_pr rfl) wt_228 (n := (S 228 (-1))) (rfl) (by omega) (by omega) (v := k1) (hk1) (fun r16 => ?_)
          refine wa_aload_n (n := 0) rfl ?_
          refine wb_gf5 158 rfl (wy_pr rfl) wt_158 wf_5_5 (v := 227) (l5) (fun r17 => ?_)
          refine wb_gf4 227 rfl (wy_pr rfl) wt_227 wf_7_1 (v := 229) wl_227_1 ?_
          refine wa_aload_n (n := 0) rfl ?_
          refine wb_gfi 158 rfl (wy_pr rfl) wt_158 wf_5_8 (v := ba) (l8) (fun r18 => ?_)
          refine wa_iconst ?_
          refine wa_iadd ?_
          refine wb_lald 229 rfl (wy_pr rfl) wt_229 (n := (S 228 (-1))) (hpl) (by omega) (by omega) (v := v1) (hv1) (fun r19 => ?_)
          refine wa_cv 116 rfl (wy_pr rfl) wt_116 (M2 := fun _ => False) rfl at_XV_put ⟨_, rfl⟩ rfl rfl ⟨trivial, (Or.inr ⟨wy_pr rfl, fun q => q⟩), (Or.inr ⟨wy_pr rfl, fun q => q⟩), trivial, trivial, trivial⟩ trivial (fun _ _ q => False.elim q) ?_ (fun _ _ _ q => q)
          refine wa_aload_n (n := 0) rfl ?_
          refine wb_gf4 116 rfl (wy_pr rfl) wt_116 wf_7_0 (v := 117) wl_116_0 ?_
          refine wa_iload_n (n := 1) rfl ?_
          refine wa_iload_n (n := 2) rfl ?_
          refine wb_i2b_r (wb_i2b_id ⟨(by omega), (by omega)⟩) ?_
          refine wb_bast 117 rfl (wy_pr rfl) wt_117 (n := (S 117 (-1))) (rfl) (by omega) (by omega) ⟨(by omega), (by omega)⟩ ?_
          refine wa_aload_n (n := 0) rfl ?_
          refine wb_gf4 116 rfl (wy_pr rfl) wt_116 wf_7_1 (v := 118) wl_116_1 ?_
          refine wa_iload_n (n := 1) rfl ?_
          refine wa_lload_n (n := 3) rfl ?_
          refine wb_last 118 rfl (wy_pr rfl) wt_118 (n := (S 117 (-1))) ((w_up_slot (by decide)).trans (hrl)) (by omega) (by omega) ⟨(by omega), (by omega)⟩ ?_
          refine wa_return rfl ?_
          show wJ _ _ _ _ _ _ _ _ _ _
          refine wa_goto ⟨_, rfl⟩ ?_
          refine wa_return rfl ?_
          exact ⟨rfl, rfl⟩
theorem usg0_73_226 {m f fi gb ba st vk vb : Int} (hC : w_CL S) (h72 : S 72 1 = 73) (l5 : S 158 5 = 227) (l8 : S 158 8 = ba) (l10 : S 158 10 = gb) (hm : 0 ≤ m ∧ m < 400) (hf : 0 ≤ f ∧ f < 400) (hstt : S 99 f = 0) (hfi : S 112 f = fi) (hth : ∀ x : Nat, x < 10 → S (127 + x) (-1) = S 127 (-1)) (hn2 : S 127 (-1) ≤ 16383) (hl14 : S 142 (-1) = S 141 (-1)) (hz14 : 16 ≤ S 141 (-1) ∧ S 141 (-1) ≤ 480400) (hgb : 0 ≤ gb ∧ gb < S 127 (-1)) (hst : S 133 gb = st) (hrb : 0 ≤ st ∧ 0 ≤ fi ∧ fi ≤ 1000 ∧ st + fi < S 141 (-1)) (hcn : S 101 m = 0) (hvk : S 141 (st + fi) = vk) (hvb : S 142 (st + fi) = vb) : wJ (pe_GA xs) wY0 M (d + 3) t_XL_useField ((pe_at t_XL_useField.bl 0).getD (0, [])).2 [(0, (2, 158)), (1, (0, m)), (2, (0, f))] [] S (fun o Z => o = .inl none ∧ w_up (w_up S 158 16 vk) 158 17 vb = Z) := by
  refine wa_aload_n (n := 0) rfl ?_
  refine wa_iload_n (n := 2) rfl ?_
  refine wa_cv 158 rfl (wy_pr rfl) wt_158 (M2 := fun _ => False) rfl at_XL_rowOf ⟨_, rfl⟩ rfl rfl ⟨(Or.inr ⟨wy_pr rfl, fun q => q⟩), trivial, trivial, trivial⟩ trivial (fun _ _ q => False.elim q) ?_ (fun _ _ _ q => q)
  refine wa_aload_n (n := 0) rfl ?_
  refine wb_gf4 158 rfl (wy_pr rfl) wt_158 wf_5_0 (v := 72) wl_158_0 ?_
  refine wb_gf5 72 rfl (wy_pr rfl) wt_72 wf_2_1 (v := 73) (h72) (fun r1 => ?_)
  refine wb_gf4 73 rfl (wy_pr rfl) wt_73 wf_3_3 (v := 96) wl_73_3 ?_
  refine wa_iconst ?_
  refine wb_aald5 96 2 rfl rfl (wy_pr rfl) wt_96 (by rw [show _ = _ from ((cl_96 hC))]; omega) wl_96_2 ?_
  refine wa_iload_n (n := 1) rfl ?_
  refine wb_iald 99 rfl (wy_pr rfl) wt_99 (n := 400) ((cl_99 hC)) (by omega) (by omega) (v := 0) (hstt) (fun r2 => ?_)
  refine wa_iconst ?_
  refine wa_icmpne (w_rg0 (by omega) (by omega)) (w_rg0 (by omega) (by omega)) ⟨_, rfl⟩ (fun c3 => ?_) (fun c3 => ?_)
  · skip
    refine wa_aload_n (n := 0) rfl ?_
    refine wb_gf4 158 rfl (wy_pr rfl) wt_158 wf_5_0 (v := 72) wl_158_0 ?_
    refine wb_gf4 72 rfl (wy_pr rfl) wt_72 wf_2_6 (v := 140) wl_72_6 ?_
    refine wa_fall ⟨_, rfl⟩ ?_
    refine wa_oreturn rfl ?_
    show wJ _ _ _ _ _ _ _ _ _ _
    refine wa_astore_n (n := 3) rfl ?_
    refine wa_aload_n (n := 0) rfl ?_
    refine wa_iload_n (n := 2) rfl ?_
    refine wa_cv 158 rfl (wy_pr rfl) wt_158 (M2 := fun _ => False) rfl at_XL_placeOf ⟨_, rfl⟩ rfl rfl ⟨(Or.inr ⟨wy_pr rfl, fun q => q⟩), (Or.inr ⟨wy_pr rfl, fun q => q⟩), trivial, trivial, trivial⟩ trivial (fun _ _ q => False.elim q) ?_ (fun _ _ _ q => q)
    refine wa_aload_n (n := 0) rfl ?_
    refine wb_gf4 158 rfl (wy_pr rfl) wt_158 wf_5_0 (v := 72) wl_158_0 ?_
    refine wb_gf5 72 rfl (wy_pr rfl) wt_72 wf_2_1 (v := 73) (h72) (fun r4 => ?_)
    refine wb_gf4 73 rfl (wy_pr rfl) wt_73 wf_3_3 (v := 96) wl_73_3 ?_
    refine wa_bipush (w_rg2 (by omega) (by omega)) ?_
    refine wb_aald5 96 15 rfl rfl (wy_pr rfl) wt_96 (by rw [show _ = _ from ((cl_96 hC))]; omega) wl_96_15 ?_
    refine wa_iload_n (n := 1) rfl ?_
    refine wb_iald 112 rfl (wy_pr rfl) wt_112 (n := 400) ((cl_112 hC)) (by omega) (by omega) (v := fi) (hfi) (fun r5 => ?_)
    refine wa_istore_n (n := 2) rfl ?_
    refine wa_aload_n (n := 0) rfl ?_
    refine wb_gf4 158 rfl (wy_pr rfl) wt_158 wf_5_0 (v := 72) wl_158_0 ?_
    refine wb_gf5 72 rfl (wy_pr rfl) wt_72 wf_2_1 (v := 73) (h72) (fun r6 => ?_)
    refine wb_gf4 73 rfl (wy_pr rfl) wt_73 wf_3_3 (v := 96) wl_73_3 ?_
    refine wa_iconst ?_
    refine wb_aald5 96 2 rfl rfl (wy_pr rfl) wt_96 (by rw [show _ = _ from ((cl_96 hC))]; omega) wl_96_2 ?_
    refine wa_iload_n (n := 1) rfl ?_
    refine wb_iald 99 rfl (wy_pr rfl) wt_99 (n := 400) ((cl_99 hC)) (by omega) (by omega) (v := 0) (hstt) (fun r7 => ?_)
    refine wa_iconst ?_
    refine wa_icmpne (w_rg0 (by omega) (by omega)) (w_rg0 (by omega) (by omega)) ⟨_, rfl⟩ (fun c8 => ?_) (fun c8 => ?_)
    · skip
      refine wa_iconst ?_
      refine wa_fall ⟨_, rfl⟩ ?_
      refine wa_istore_n (n := 3) rfl ?_
      refine wa_iload_n (n := 3) rfl ?_
      refine wa_ifeq (w_rg0 (by omega) (by omega)) ⟨_, rfl⟩ (fun c9 => ?_) (fun c9 => ?_)
      · skip
        refine wa_aload_n (n := 0) rfl ?_
        refine wb_gf4 158 rfl (wy_pr rfl) wt_158 wf_5_0 (v := 72) wl_158_0 ?_
        refine wb_gf4 72 rfl (wy_pr rfl) wt_72 wf_2_2 (v := 126) wl_72_2 ?_
        refine wa_bipush (w_rg2 (by omega) (by omega)) ?_
        refine wb_aald5 126 6 rfl rfl (wy_pr rfl) wt_126 (by rw [show _ = _ from ((cl_126 hC))]; omega) wl_126_6 ?_
        refine wa_aload_n (n := 0) rfl ?_
        refine wb_gfl 158 rfl (wy_pr rfl) wt_158 wf_5_10 (v := gb) (l10) (fun r10 => ?_)
        refine wb_l2i_r (wb_l2i_id ⟨(by omega), (by omega)⟩) ?_
        refine wb_iald 133 rfl (wy_pr rfl) wt_133 (n := (S 127 (-1))) ((hth 6 (by decide))) (by omega) (by omega) (v := st) (hst) (fun r11 => ?_)
        refine wa_iload_n (n := 2) rfl ?_
        refine wa_iadd ?_
        refine wa_fall ⟨_, rfl⟩ ?_
        refine wa_ireturn rfl ?_
        show wJ _ _ _ _ _ _ _ _ _ _
        refine wa_istore (n := 4) rfl ?_
        refine wa_aload_n (n := 0) rfl ?_
        refine wb_gf4 158 rfl (wy_pr rfl) wt_158 wf_5_0 (v := 72) wl_158_0 ?_
        refine wb_gf5 72 rfl (wy_pr rfl) wt_72 wf_2_1 (v := 73) (h72) (fun r12 => ?_)
        refine wb_gf4 73 rfl (wy_pr rfl) wt_73 wf_3_3 (v := 96) wl_73_3 ?_
        refine wa_iconst ?_
        refine wb_aald5 96 4 rfl rfl (wy_pr rfl) wt_96 (by rw [show _ = _ from ((cl_96 hC))]; omega) wl_96_4 ?_
        refine wa_iload_n (n := 1) rfl ?_
        refine wb_iald 101 rfl (wy_pr rfl) wt_101 (n := 400) ((cl_101 hC)) (by omega) (by omega) (v := 0) (hcn) (fun r13 => ?_)
        refine wa_iconst ?_
        refine wa_icmpne (w_rg0 (by omega) (by omega)) (w_rg0 (by omega) (by omega)) ⟨_, rfl⟩ (fun c14 => ?_) (fun c14 => ?_)
        · skip
          refine wa_aload_n (n := 0) rfl ?_
          refine wa_aload_n (n := 3) rfl ?_
          refine wb_gf4 140 rfl (wy_pr rfl) wt_140 wf_7_0 (v := 141) wl_140_0 ?_
          refine wa_iload (n := 4) rfl ?_
          refine wb_bald 141 rfl (wy_pr rfl) wt_141 (n := (S 141 (-1))) (rfl) (by omega) (by omega) (v := vk) (hvk) (fun r15 => ?_)
          refine wb_pfi 158 rfl (wy_pr rfl) wt_158 wf_5_16 (n := 16) rfl ⟨(by omega), (by omega)⟩ ?_
          refine wa_aload_n (n := 0) rfl ?_
          refine wa_aload_n (n := 3) rfl ?_
          refine wb_gf4 140 rfl (wy_pr rfl) wt_140 wf_7_1 (v := 142) wl_140_1 ?_
          refine wa_iload (n := 4) rfl ?_
          refine wb_lald 142 rfl (wy_pr rfl) wt_142 (n := (S 141 (-1))) ((w_up_slot (by decide)).trans (hl14)) (by omega) (by omega) (v := vb) ((w_up_slot (by decide)).trans (hvb)) (fun r16 => ?_)
          refine wb_pfl 158 rfl (wy_pr rfl) wt_158 wf_5_17 (n := 17) rfl ⟨(by omega), (by omega)⟩ ?_
          refine wa_fall ⟨_, rfl⟩ ?_
          refine wa_return rfl ?_
          exact ⟨rfl, rfl⟩
        · skip
          exact absurd c14 (by omega)
      · skip
        exact absurd c9 (by omega)
    · skip
      exact absurd c8 (by omega)
  · skip
    exact absurd c3 (by omega)
theorem uss0_73_226 {m f fi gb ba st k1 v1 : Int} (hC : w_CL S) (h72 : S 72 1 = 73) (l5 : S 158 5 = 227) (l8 : S 158 8 = ba) (l10 : S 158 10 = gb) (hm : 0 ≤ m ∧ m < 400) (hf : 0 ≤ f ∧ f < 400) (hstt : S 99 f = 0) (hfi : S 112 f = fi) (hth : ∀ x : Nat, x < 10 → S (127 + x) (-1) = S 127 (-1)) (hn2 : S 127 (-1) ≤ 16383) (hl14 : S 142 (-1) = S 141 (-1)) (hz14 : 16 ≤ S 141 (-1) ∧ S 141 (-1) ≤ 480400) (hgb : 0 ≤ gb ∧ gb < S 127 (-1)) (hst : S 133 gb = st) (hrb : 0 ≤ st ∧ 0 ≤ fi ∧ fi ≤ 1000 ∧ st + fi < S 141 (-1)) (hcn : S 101 m = 1) (hpl : S 229 (-1) = S 228 (-1)) (hpb : 0 ≤ ba ∧ ba + 1 < S 228 (-1) ∧ S 228 (-1) ≤ 4095) (hk1 : S 228 (ba + 1) = k1) (hv1 : S 229 (ba + 1) = v1) : wJ (pe_GA xs) wY0 M (d + 3) t_XL_useField ((pe_at t_XL_useField.bl 0).getD (0, [])).2 [(0, (2, 158)), (1, (0, m)), (2, (0, f))] [] S (fun o Z => o = .inl none ∧ w_up (w_up S 141 (st + fi) k1) 142 (st + fi) v1 = Z) := by
  refine wa_aload_n (n := 0) rfl ?_
  refine wa_iload_n (n := 2) rfl ?_
  refine wa_cv 158 rfl (wy_pr rfl) wt_158 (M2 := fun _ => False) rfl at_XL_rowOf ⟨_, rfl⟩ rfl rfl ⟨(Or.inr ⟨wy_pr rfl, fun q => q⟩), trivial, trivial, trivial⟩ trivial (fun _ _ q => False.elim q) ?_ (fun _ _ _ q => q)
  refine wa_aload_n (n := 0) rfl ?_
  refine wb_gf4 158 rfl (wy_pr rfl) wt_158 wf_5_0 (v := 72) wl_158_0 ?_
  refine wb_gf5 72 rfl (wy_pr rfl) wt_72 wf_2_1 (v := 73) (h72) (fun r1 => ?_)
  refine wb_gf4 73 rfl (wy_pr rfl) wt_73 wf_3_3 (v := 96) wl_73_3 ?_
  refine wa_iconst ?_
  refine wb_aald5 96 2 rfl rfl (wy_pr rfl) wt_96 (by rw [show _ = _ from ((cl_96 hC))]; omega) wl_96_2 ?_
  refine wa_iload_n (n := 1) rfl ?_
  refine wb_iald 99 rfl (wy_pr rfl) wt_99 (n := 400) ((cl_99 hC)) (by omega) (by omega) (v := 0) (hstt) (fun r2 => ?_)
  refine wa_iconst ?_
  refine wa_icmpne (w_rg0 (by omega) (by omega)) (w_rg0 (by omega) (by omega)) ⟨_, rfl⟩ (fun c3 => ?_) (fun c3 => ?_)
  · skip
    refine wa_aload_n (n := 0) rfl ?_
    refine wb_gf4 158 rfl (wy_pr rfl) wt_158 wf_5_0 (v := 72) wl_158_0 ?_
    refine wb_gf4 72 rfl (wy_pr rfl) wt_72 wf_2_6 (v := 140) wl_72_6 ?_
    refine wa_fall ⟨_, rfl⟩ ?_
    refine wa_oreturn rfl ?_
    show wJ _ _ _ _ _ _ _ _ _ _
    refine wa_astore_n (n := 3) rfl ?_
    refine wa_aload_n (n := 0) rfl ?_
    refine wa_iload_n (n := 2) rfl ?_
    refine wa_cv 158 rfl (wy_pr rfl) wt_158 (M2 := fun _ => False) rfl at_XL_placeOf ⟨_, rfl⟩ rfl rfl ⟨(Or.inr ⟨wy_pr rfl, fun q => q⟩), (Or.inr ⟨wy_pr rfl, fun q => q⟩), trivial, trivial, trivial⟩ trivial (fun _ _ q => False.elim q) ?_ (fun _ _ _ q => q)
    refine wa_aload_n (n := 0) rfl ?_
    refine wb_gf4 158 rfl (wy_pr rfl) wt_158 wf_5_0 (v := 72) wl_158_0 ?_
    refine wb_gf5 72 rfl (wy_pr rfl) wt_72 wf_2_1 (v := 73) (h72) (fun r4 => ?_)
    refine wb_gf4 73 rfl (wy_pr rfl) wt_73 wf_3_3 (v := 96) wl_73_3 ?_
    refine wa_bipush (w_rg2 (by omega) (by omega)) ?_
    refine wb_aald5 96 15 rfl rfl (wy_pr rfl) wt_96 (by rw [show _ = _ from ((cl_96 hC))]; omega) wl_96_15 ?_
    refine wa_iload_n (n := 1) rfl ?_
    refine wb_iald 112 rfl (wy_pr rfl) wt_112 (n := 400) ((cl_112 hC)) (by omega) (by omega) (v := fi) (hfi) (fun r5 => ?_)
    refine wa_istore_n (n := 2) rfl ?_
    refine wa_aload_n (n := 0) rfl ?_
    refine wb_gf4 158 rfl (wy_pr rfl) wt_158 wf_5_0 (v := 72) wl_158_0 ?_
    refine wb_gf5 72 rfl (wy_pr rfl) wt_72 wf_2_1 (v := 73) (h72) (fun r6 => ?_)
    refine wb_gf4 73 rfl (wy_pr rfl) wt_73 wf_3_3 (v := 96) wl_73_3 ?_
    refine wa_iconst ?_
    refine wb_aald5 96 2 rfl rfl (wy_pr rfl) wt_96 (by rw [show _ = _ from ((cl_96 hC))]; omega) wl_96_2 ?_
    refine wa_iload_n (n := 1) rfl ?_
    refine wb_iald 99 rfl (wy_pr rfl) wt_99 (n := 400) ((cl_99 hC)) (by omega) (by omega) (v := 0) (hstt) (fun r7 => ?_)
    refine wa_iconst ?_
    refine wa_icmpne (w_rg0 (by omega) (by omega)) (w_rg0 (by omega) (by omega)) ⟨_, rfl⟩ (fun c8 => ?_) (fun c8 => ?_)
    · skip
      refine wa_iconst ?_
      refine wa_fall ⟨_, rfl⟩ ?_
      refine wa_istore_n (n := 3) rfl ?_
      refine wa_iload_n (n := 3) rfl ?_
      refine wa_ifeq (w_rg0 (by omega) (by omega)) ⟨_, rfl⟩ (fun c9 => ?_) (fun c9 => ?_)
      · skip
        refine wa_aload_n (n := 0) rfl ?_
        refine wb_gf4 158 rfl (wy_pr rfl) wt_158 wf_5_0 (v := 72) wl_158_0 ?_
        refine wb_gf4 72 rfl (wy_pr rfl) wt_72 wf_2_2 (v := 126) wl_72_2 ?_
        refine wa_bipush (w_rg2 (by omega) (by omega)) ?_
        refine wb_aald5 126 6 rfl rfl (wy_pr rfl) wt_126 (by rw [show _ = _ from ((cl_126 hC))]; omega) wl_126_6 ?_
        refine wa_aload_n (n := 0) rfl ?_
        refine wb_gfl 158 rfl (wy_pr rfl) wt_158 wf_5_10 (v := gb) (l10) (fun r10 => ?_)
        refine wb_l2i_r (wb_l2i_id ⟨(by omega), (by omega)⟩) ?_
        refine wb_iald 133 rfl (wy_pr rfl) wt_133 (n := (S 127 (-1))) ((hth 6 (by decide))) (by omega) (by omega) (v := st) (hst) (fun r11 => ?_)
        refine wa_iload_n (n := 2) rfl ?_
        refine wa_iadd ?_
        refine wa_fall ⟨_, rfl⟩ ?_
        refine wa_ireturn rfl ?_
        show wJ _ _ _ _ _ _ _ _ _ _
        refine wa_istore (n := 4) rfl ?_
        refine wa_aload_n (n := 0) rfl ?_
        refine wb_gf4 158 rfl (wy_pr rfl) wt_158 wf_5_0 (v := 72) wl_158_0 ?_
        refine wb_gf5 72 rfl (wy_pr rfl) wt_72 wf_2_1 (v := 73) (h72) (fun r12 => ?_)
        refine wb_gf4 73 rfl (wy_pr rfl) wt_73 wf_3_3 (v := 96) wl_73_3 ?_
        refine wa_iconst ?_
        refine wb_aald5 96 4 rfl rfl (wy_pr rfl) wt_96 (by rw [show _ = _ from ((cl_96 hC))]; omega) wl_96_4 ?_
        refine wa_iload_n (n := 1) rfl ?_
        refine wb_iald 101 rfl (wy_pr rfl) wt_101 (n := 400) ((cl_101 hC)) (by omega) (by omega) (v := 1) (hcn) (fun r13 => ?_)
        refine wa_iconst ?_
        refine wa_icmpne (w_rg0 (by omega) (by omega)) (w_rg0 (by omega) (by omega)) ⟨_, rfl⟩ (fun c14 => ?_) (fun c14 => ?_)
        · skip
          exact absurd c14 (by omega)
        · skip
          refine wa_aload_n (n := 3) rfl ?_
          refine wa_iload (n := 4) rfl ?_
          refine wa_aload_n (n := 0) rfl ?_
          refine wb_gf5 158 rfl (wy_pr rfl) wt_158 wf_5_5 (v := 227) (l5) (fun r15 => ?_)
          refine wb_gf4 227 rfl (wy_pr rfl) wt_227 wf_7_0 (v := 228) wl_227_0 ?_
          refine wa_aload_n (n := 0) rfl ?_
          refine wb_gfi 158 rfl (wy_pr rfl) wt_158 wf_5_8 (v := ba) (l8) (fun r16 => ?_)
          refine wa_iconst ?_
          refine wa_iadd ?_
          refine wb_bald 228 rfl (wy_pr rfl) wt_228 (n := (S 228 (-1))) (rfl) (by omega) (by omega) (v := k1) (hk1) (fun r17 => ?_)
          refine wa_aload_n (n := 0) rfl ?_
          refine wb_gf5 158 rfl (wy_pr rfl) wt_158 wf_5_5 (v := 227) (l5) (fun r18 => ?_)
          refine wb_gf4 227 rfl (wy_pr rfl) wt_227 wf_7_1 (v := 229) wl_227_1 ?_
          refine wa_aload_n (n := 0) rfl ?_
          refine wb_gfi 158 rfl (wy_pr rfl) wt_158 wf_5_8 (v := ba) (l8) (fun r19 => ?_)
          refine wa_iconst ?_
          refine wa_iadd ?_
          refine wb_lald 229 rfl (wy_pr rfl) wt_229 (n := (S 228 (-1))) (hpl) (by omega) (by omega) (v := v1) (hv1) (fun r20 => ?_)
          refine wa_cv 140 rfl (wy_pr rfl) wt_140 (M2 := fun _ => False) rfl at_XV_put ⟨_, rfl⟩ rfl rfl ⟨trivial, (Or.inr ⟨wy_pr rfl, fun q => q⟩), (Or.inr ⟨wy_pr rfl, fun q => q⟩), trivial, trivial, trivial⟩ trivial (fun _ _ q => False.elim q) ?_ (fun _ _ _ q => q)
          refine wa_aload_n (n := 0) rfl ?_
          refine wb_gf4 140 rfl (wy_pr rfl) wt_140 wf_7_0 (v := 141) wl_140_0 ?_
          refine wa_iload_n (n := 1) rfl ?_
          refine wa_iload_n (n := 2) rfl ?_
          refine wb_i2b_r (wb_i2b_id ⟨(by omega), (by omega)⟩) ?_
          refine wb_bast 141 rfl (wy_pr rfl) wt_141 (n := (S 141 (-1))) (rfl) (by omega) (by omega) ⟨(by omega), (by omega)⟩ ?_
          refine wa_aload_n (n := 0) rfl ?_
          refine wb_gf4 140 rfl (wy_pr rfl) wt_140 wf_7_1 (v := 142) wl_140_1 ?_
          refine wa_iload_n (n := 1) rfl ?_
          refine wa_lload_n (n := 3) rfl ?_
          refine wb_last 142 rfl (wy_pr rfl) wt_142 (n := (S 141 (-1))) ((w_up_slot (by decide)).trans (hl14)) (by omega) (by omega) ⟨(by omega), (by omega)⟩ ?_
          refine wa_return rfl ?_
          show wJ _ _ _ _ _ _ _ _ _ _
          refine wa_goto ⟨_, rfl⟩ ?_
          refine wa_return rfl ?_
          exact ⟨rfl, rfl⟩
      · skip
        exact absurd c9 (by omega)
    · skip
      exact absurd c8 (by omega)
  · skip
    exact absurd c3 (by omega)
theorem usg1_162_215 {m f fi gb ba vk vb : Int} (hC : w_CL S) (h72 : S 72 1 = 162) (l5 : S 158 5 = 216) (l8 : S 158 8 = ba) (l10 : S 158 10 = gb) (hm : 0 ≤ m ∧ m < 400) (hf : 0 ≤ f ∧ f < 400) (hstt : S 188 f = 1) (hfi : S 201 f = fi) (hrl : S 207 (-1) = S 206 (-1)) (hrb : 0 ≤ fi ∧ fi < S 206 (-1) ∧ S 206 (-1) ≤ 8388608) (hcn : S 190 m = 0) (hvk : S 206 fi = vk) (hvb : S 207 fi = vb) : wJ (pe_GA xs) wY0 M (d + 3) t_XL_useField ((pe_at t_XL_useField.bl 0).getD (0, [])).2 [(0, (2, 158)), (1, (0, m)), (2, (0, f))] [] S (fun o Z => o = .inl none ∧ w_up (w_up S 158 16 vk) 158 17 vb = Z) := by
  refine wa_aload_n (n := 0) rfl ?_
  refine wa_iload_n (n := 2) rfl ?_
  refine wa_cv 158 rfl (wy_pr rfl) wt_158 (M2 := fun _ => False) rfl at_XL_rowOf ⟨_, rfl⟩ rfl rfl ⟨(Or.inr ⟨wy_pr rfl, fun q => q⟩), trivial, trivial, trivial⟩ trivial (fun _ _ q => False.elim q) ?_ (fun _ _ _ q => q)
  refine wa_aload_n (n := 0) rfl ?_
  refine wb_gf4 158 rfl (wy_pr rfl) wt_158 wf_5_0 (v := 72) wl_158_0 ?_
  refine wb_gf5 72 rfl (wy_pr rfl) wt_72 wf_2_1 (v := 162) (h72) (fun r1 => ?_)
  refine wb_gf4 162 rfl (wy_pr rfl) wt_162 wf_3_3 (v := 185) wl_162_3 ?_
  refine wa_iconst ?_
  refine wb_aald5 185 2 rfl rfl (wy_pr rfl) wt_185 (by rw [show _ = _ from ((cl_185 hC))]; omega) wl_185_2 ?_
  refine wa_iload_n (n := 1) rfl ?_
  refine wb_iald 188 rfl (wy_pr rfl) wt_188 (n := 400) ((cl_188 hC)) (by omega) (by omega) (v := 1) (hstt) (fun r2 => ?_)
  refine wa_iconst ?_
  refine wa_icmpne (w_rg0 (by omega) (by omega)) (w_rg0 (by omega) (by omega)) ⟨_, rfl⟩ (fun c3 => ?_) (fun c3 => ?_)
  · skip
    exact absurd c3 (by omega)
  · skip
    refine wa_aload_n (n := 0) rfl ?_
    refine wb_gf4 158 rfl (wy_pr rfl) wt_158 wf_5_0 (v := 72) wl_158_0 ?_
    refine wb_gf5 72 rfl (wy_pr rfl) wt_72 wf_2_1 (v := 162) (h72) (fun r4 => ?_)
    refine wb_gf4 162 rfl (wy_pr rfl) wt_162 wf_3_7 (v := 205) wl_162_7 ?_
    refine wa_goto ⟨_, rfl⟩ ?_
    refine wa_oreturn rfl ?_
    show wJ _ _ _ _ _ _ _ _ _ _
    refine wa_astore_n (n := 3) rfl ?_
    refine wa_aload_n (n := 0) rfl ?_
    refine wa_iload_n (n := 2) rfl ?_
    refine wa_cv 158 rfl (wy_pr rfl) wt_158 (M2 := fun _ => False) rfl at_XL_placeOf ⟨_, rfl⟩ rfl rfl ⟨(Or.inr ⟨wy_pr rfl, fun q => q⟩), (Or.inr ⟨wy_pr rfl, fun q => q⟩), trivial, trivial, trivial⟩ trivial (fun _ _ q => False.elim q) ?_ (fun _ _ _ q => q)
    refine wa_aload_n (n := 0) rfl ?_
    refine wb_gf4 158 rfl (wy_pr rfl) wt_158 wf_5_0 (v := 72) wl_158_0 ?_
    refine wb_gf5 72 rfl (wy_pr rfl) wt_72 wf_2_1 (v := 162) (h72) (fun r5 => ?_)
    refine wb_gf4 162 rfl (wy_pr rfl) wt_162 wf_3_3 (v := 185) wl_162_3 ?_
    refine wa_bipush (w_rg2 (by omega) (by omega)) ?_
    refine wb_aald5 185 15 rfl rfl (wy_pr rfl) wt_185 (by rw [show _ = _ from ((cl_185 hC))]; omega) wl_185_15 ?_
    refine wa_iload_n (n := 1) rfl ?_
    refine wb_iald 201 rfl (wy_pr rfl) wt_201 (n := 400) ((cl_201 hC)) (by omega) (by omega) (v := fi) (hfi) (fun r6 => ?_)
    refine wa_istore_n (n := 2) rfl ?_
    refine wa_aload_n (n := 0) rfl ?_
    refine wb_gf4 158 rfl (wy_pr rfl) wt_158 wf_5_0 (v := 72) wl_158_0 ?_
    refine wb_gf5 72 rfl (wy_pr rfl) wt_72 wf_2_1 (v := 162) (h72) (fun r7 => ?_)
    refine wb_gf4 162 rfl (wy_pr rfl) wt_162 wf_3_3 (v := 185) wl_162_3 ?_
    refine wa_iconst ?_
    refine wb_aald5 185 2 rfl rfl (wy_pr rfl) wt_185 (by rw [show _ = _ from ((cl_185 hC))]; omega) wl_185_2 ?_
    refine wa_iload_n (n := 1) rfl ?_
    refine wb_iald 188 rfl (wy_pr rfl) wt_188 (n := 400) ((cl_188 hC)) (by omega) (by omega) (v := 1) (hstt) (fun r8 => ?_)
    refine wa_iconst ?_
    refine wa_icmpne (w_rg0 (by omega) (by omega)) (w_rg0 (by omega) (by omega)) ⟨_, rfl⟩ (fun c9 => ?_) (fun c9 => ?_)
    · skip
      exact absurd c9 (by omega)
    · skip
      refine wa_iconst ?_
      refine wa_goto ⟨_, rfl⟩ ?_
      refine wa_istore_n (n := 3) rfl ?_
      refine wa_iload_n (n := 3) rfl ?_
      refine wa_ifeq (w_rg0 (by omega) (by omega)) ⟨_, rfl⟩ (fun c10 => ?_) (fun c10 => ?_)
      · skip
        exact absurd c10 (by omega)
      · skip
        refine wa_iload_n (n := 2) rfl ?_
        refine wa_goto ⟨_, rfl⟩ ?_
        refine wa_ireturn rfl ?_
        show wJ _ _ _ _ _ _ _ _ _ _
        refine wa_istore (n := 4) rfl ?_
        refine wa_aload_n (n := 0) rfl ?_
        refine wb_gf4 158 rfl (wy_pr rfl) wt_158 wf_5_0 (v := 72) wl_158_0 ?_
        refine wb_gf5 72 rfl (wy_pr rfl) wt_72 wf_2_1 (v := 162) (h72) (fun r11 => ?_)
        refine wb_gf4 162 rfl (wy_pr rfl) wt_162 wf_3_3 (v := 185) wl_162_3 ?_
        refine wa_iconst ?_
        refine wb_aald5 185 4 rfl rfl (wy_pr rfl) wt_185 (by rw [show _ = _ from ((cl_185 hC))]; omega) wl_185_4 ?_
        refine wa_iload_n (n := 1) rfl ?_
        refine wb_iald 190 rfl (wy_pr rfl) wt_190 (n := 400) ((cl_190 hC)) (by omega) (by omega) (v := 0) (hcn) (fun r12 => ?_)
        refine wa_iconst ?_
        refine wa_icmpne (w_rg0 (by omega) (by omega)) (w_rg0 (by omega) (by omega)) ⟨_, rfl⟩ (fun c13 => ?_) (fun c13 => ?_)
        · skip
          refine wa_aload_n (n := 0) rfl ?_
          refine wa_aload_n (n := 3) rfl ?_
          refine wb_gf4 205 rfl (wy_pr rfl) wt_205 wf_7_0 (v := 206) wl_205_0 ?_
          refine wa_iload (n := 4) rfl ?_
          refine wb_bald 206 rfl (wy_pr rfl) wt_206 (n := (S 206 (-1))) (rfl) (by omega) (by omega) (v := vk) (hvk) (fun r14 => ?_)
          refine wb_pfi 158 rfl (wy_pr rfl) wt_158 wf_5_16 (n := 16) rfl ⟨(by omega), (by omega)⟩ ?_
          refine wa_aload_n (n := 0) rfl ?_
          refine wa_aload_n (n := 3) rfl ?_
          refine wb_gf4 205 rfl (wy_pr rfl) wt_205 wf_7_1 (v := 207) wl_205_1 ?_
          refine wa_iload (n := 4) rfl ?_
          refine wb_lald 207 rfl (wy_pr rfl) wt_207 (n := (S 206 (-1))) ((w_up_slot (by decide)).trans (hrl)) (by omega) (by omega) (v := vb) ((w_up_slot (by decide)).trans (hvb)) (fun r15 => ?_)
          refine wb_pfl 158 rfl (wy_pr rfl) wt_158 wf_5_17 (n := 17) rfl ⟨(by omega), (by omega)⟩ ?_
          refine wa_fall ⟨_, rfl⟩ ?_
          refine wa_return rfl ?_
          exact ⟨rfl, rfl⟩
        · skip
          exact absurd c13 (by omega)
theorem uss1_162_215 {m f fi gb ba k1 v1 : Int} (hC : w_CL S) (h72 : S 72 1 = 162) (l5 : S 158 5 = 216) (l8 : S 158 8 = ba) (l10 : S 158 10 = gb) (hm : 0 ≤ m ∧ m < 400) (hf : 0 ≤ f ∧ f < 400) (hstt : S 188 f = 1) (hfi : S 201 f = fi) (hrl : S 207 (-1) = S 206 (-1)) (hrb : 0 ≤ fi ∧ fi < S 206 (-1) ∧ S 206 (-1) ≤ 8388608) (hcn : S 190 m = 1) (hpl : S 218 (-1) = S 217 (-1)) (hpb : 0 ≤ ba ∧ ba + 1 < S 217 (-1) ∧ S 217 (-1) ≤ 4095) (hk1 : S 217 (ba + 1) = k1) (hv1 : S 218 (ba + 1) = v1) : wJ (pe_GA xs) wY0 M (d + 3) t_XL_useField ((pe_at t_XL_useField.bl 0).getD (0, [])).2 [(0, (2, 158)), (1, (0, m)), (2, (0, f))] [] S (fun o Z => o = .inl none ∧ w_up (w_up S 206 fi k1) 207 fi v1 = Z) := by
  refine wa_aload_n (n := 0) rfl ?_
  refine wa_iload_n (n := 2) rfl ?_
  refine wa_cv 158 rfl (wy_pr rfl) wt_158 (M2 := fun _ => False) rfl at_XL_rowOf ⟨_, rfl⟩ rfl rfl ⟨(Or.inr ⟨wy_pr rfl, fun q => q⟩), trivial, trivial, trivial⟩ trivial (fun _ _ q => False.elim q) ?_ (fun _ _ _ q => q)
  refine wa_aload_n (n := 0) rfl ?_
  refine wb_gf4 158 rfl (wy_pr rfl) wt_158 wf_5_0 (v := 72) wl_158_0 ?_
  refine wb_gf5 72 rfl (wy_pr rfl) wt_72 wf_2_1 (v := 162) (h72) (fun r1 => ?_)
  refine wb_gf4 162 rfl (wy_pr rfl) wt_162 wf_3_3 (v := 185) wl_162_3 ?_
  refine wa_iconst ?_
  refine wb_aald5 185 2 rfl rfl (wy_pr rfl) wt_185 (by rw [show _ = _ from ((cl_185 hC))]; omega) wl_185_2 ?_
  refine wa_iload_n (n := 1) rfl ?_
  refine wb_iald 188 rfl (wy_pr rfl) wt_188 (n := 400) ((cl_188 hC)) (by omega) (by omega) (v := 1) (hstt) (fun r2 => ?_)
  refine wa_iconst ?_
  refine wa_icmpne (w_rg0 (by omega) (by omega)) (w_rg0 (by omega) (by omega)) ⟨_, rfl⟩ (fun c3 => ?_) (fun c3 => ?_)
  · skip
    exact absurd c3 (by omega)
  · skip
    refine wa_aload_n (n := 0) rfl ?_
    refine wb_gf4 158 rfl (wy_pr rfl) wt_158 wf_5_0 (v := 72) wl_158_0 ?_
    refine wb_gf5 72 rfl (wy_pr rfl) wt_72 wf_2_1 (v := 162) (h72) (fun r4 => ?_)
    refine wb_gf4 162 rfl (wy_pr rfl) wt_162 wf_3_7 (v := 205) wl_162_7 ?_
    refine wa_goto ⟨_, rfl⟩ ?_
    refine wa_oreturn rfl ?_
    show wJ _ _ _ _ _ _ _ _ _ _
    refine wa_astore_n (n := 3) rfl ?_
    refine wa_aload_n (n := 0) rfl ?_
    refine wa_iload_n (n := 2) rfl ?_
    refine wa_cv 158 rfl (wy_pr rfl) wt_158 (M2 := fun _ => False) rfl at_XL_placeOf ⟨_, rfl⟩ rfl rfl ⟨(Or.inr ⟨wy_pr rfl, fun q => q⟩), (Or.inr ⟨wy_pr rfl, fun q => q⟩), trivial, trivial, trivial⟩ trivial (fun _ _ q => False.elim q) ?_ (fun _ _ _ q => q)
    refine wa_aload_n (n := 0) rfl ?_
    refine wb_gf4 158 rfl (wy_pr rfl) wt_158 wf_5_0 (v := 72) wl_158_0 ?_
    refine wb_gf5 72 rfl (wy_pr rfl) wt_72 wf_2_1 (v := 162) (h72) (fun r5 => ?_)
    refine wb_gf4 162 rfl (wy_pr rfl) wt_162 wf_3_3 (v := 185) wl_162_3 ?_
    refine wa_bipush (w_rg2 (by omega) (by omega)) ?_
    refine wb_aald5 185 15 rfl rfl (wy_pr rfl) wt_185 (by rw [show _ = _ from ((cl_185 hC))]; omega) wl_185_15 ?_
    refine wa_iload_n (n := 1) rfl ?_
    refine wb_iald 201 rfl (wy_pr rfl) wt_201 (n := 400) ((cl_201 hC)) (by omega) (by omega) (v := fi) (hfi) (fun r6 => ?_)
    refine wa_istore_n (n := 2) rfl ?_
    refine wa_aload_n (n := 0) rfl ?_
    refine wb_gf4 158 rfl (wy_pr rfl) wt_158 wf_5_0 (v := 72) wl_158_0 ?_
    refine wb_gf5 72 rfl (wy_pr rfl) wt_72 wf_2_1 (v := 162) (h72) (fun r7 => ?_)
    refine wb_gf4 162 rfl (wy_pr rfl) wt_162 wf_3_3 (v := 185) wl_162_3 ?_
    refine wa_iconst ?_
    refine wb_aald5 185 2 rfl rfl (wy_pr rfl) wt_185 (by rw [show _ = _ from ((cl_185 hC))]; omega) wl_185_2 ?_
    refine wa_iload_n (n := 1) rfl ?_
    refine wb_iald 188 rfl (wy_pr rfl) wt_188 (n := 400) ((cl_188 hC)) (by omega) (by omega) (v := 1) (hstt) (fun r8 => ?_)
    refine wa_iconst ?_
    refine wa_icmpne (w_rg0 (by omega) (by omega)) (w_rg0 (by omega) (by omega)) ⟨_, rfl⟩ (fun c9 => ?_) (fun c9 => ?_)
    · skip
      exact absurd c9 (by omega)
    · skip
      refine wa_iconst ?_
      refine wa_goto ⟨_, rfl⟩ ?_
      refine wa_istore_n (n := 3) rfl ?_
      refine wa_iload_n (n := 3) rfl ?_
      refine wa_ifeq (w_rg0 (by omega) (by omega)) ⟨_, rfl⟩ (fun c10 => ?_) (fun c10 => ?_)
      · skip
        exact absurd c10 (by omega)
      · skip
        refine wa_iload_n (n := 2) rfl ?_
        refine wa_goto ⟨_, rfl⟩ ?_
        refine wa_ireturn rfl ?_
        show wJ _ _ _ _ _ _ _ _ _ _
        refine wa_istore (n := 4) rfl ?_
        refine wa_aload_n (n := 0) rfl ?_
        refine wb_gf4 158 rfl (wy_pr rfl) wt_158 wf_5_0 (v := 72) wl_158_0 ?_
        refine wb_gf5 72 rfl (wy_pr rfl) wt_72 wf_2_1 (v := 162) (h72) (fun r11 => ?_)
        refine wb_gf4 162 rfl (wy_pr rfl) wt_162 wf_3_3 (v := 185) wl_162_3 ?_
        refine wa_iconst ?_
        refine wb_aald5 185 4 rfl rfl (wy_pr rfl) wt_185 (by rw [show _ = _ from ((cl_185 hC))]; omega) wl_185_4 ?_
        refine wa_iload_n (n := 1) rfl ?_
        refine wb_iald 190 rfl (wy_pr rfl) wt_190 (n := 400) ((cl_190 hC)) (by omega) (by omega) (v := 1) (hcn) (fun r12 => ?_)
        refine wa_iconst ?_
        refine wa_icmpne (w_rg0 (by omega) (by omega)) (w_rg0 (by omega) (by omega)) ⟨_, rfl⟩ (fun c13 => ?_) (fun c13 => ?_)
        · skip
          exact absurd c13 (by omega)
        · skip
          refine wa_aload_n (n := 3) rfl ?_
          refine wa_iload (n := 4) rfl ?_
          refine wa_aload_n (n := 0) rfl ?_
          refine wb_gf5 158 rfl (wy_pr rfl) wt_158 wf_5_5 (v := 216) (l5) (fun r14 => ?_)
          refine wb_gf4 216 rfl (wy_pr rfl) wt_216 wf_7_0 (v := 217) wl_216_0 ?_
          refine wa_aload_n (n := 0) rfl ?_
          refine wb_gfi 158 rfl (wy_pr rfl) wt_158 wf_5_8 (v := ba) (l8) (fun r15 => ?_)
          refine wa_iconst ?_
          refine wa_iadd ?_
          refine wb_bald 217 rfl (wy_pr rfl) wt_217 (n := (S 217 (-1))) (rfl) (by omega) (by omega) (v := k1) (hk1) (fun r16 => ?_)
          refine wa_aload_n (n := 0) rfl ?_
          refine wb_gf5 158 rfl (wy_pr rfl) wt_158 wf_5_5 (v := 216) (l5) (fun r17 => ?_)
          refine wb_gf4 216 rfl (wy_pr rfl) wt_216 wf_7_1 (v := 218) wl_216_1 ?_
          refine wa_aload_n (n := 0) rfl ?_
          refine wb_gfi 158 rfl (wy_pr rfl) wt_158 wf_5_8 (v := ba) (l8) (fun r18 => ?_)
          refine wa_iconst ?_
          refine wa_iadd ?_
          refine wb_lald 218 rfl (wy_pr rfl) wt_218 (n := (S 217 (-1))) (hpl) (by omega) (by omega) (v := v1) (hv1) (fun r19 => ?_)
          refine wa_cv 205 rfl (wy_pr rfl) wt_205 (M2 := fun _ => False) rfl at_XV_put ⟨_, rfl⟩ rfl rfl ⟨trivial, (Or.inr ⟨wy_pr rfl, fun q => q⟩), (Or.inr ⟨wy_pr rfl, fun q => q⟩), trivial, trivial, trivial⟩ trivial (fun _ _ q => False.elim q) ?_ (fun _ _ _ q => q)
          refine wa_aload_n (n := 0) rfl ?_
          refine wb_gf4 205 rfl (wy_pr rfl) wt_205 wf_7_0 (v := 206) wl_205_0 ?_
          refine wa_iload_n (n := 1) rfl ?_
          refine wa_iload_n (n := 2) rfl ?_
          refine wb_i2b_r (wb_i2b_id ⟨(by omega), (by omega)⟩) ?_
          refine wb_bast 206 rfl (wy_pr rfl) wt_206 (n := (S 206 (-1))) (rfl) (by omega) (by omega) ⟨(by omega), (by omega)⟩ ?_
          refine wa_aload_n (n := 0) rfl ?_
          refine wb_gf4 205 rfl (wy_pr rfl) wt_205 wf_7_1 (v := 207) wl_205_1 ?_
          refine wa_iload_n (n := 1) rfl ?_
          refine wa_lload_n (n := 3) rfl ?_
          refine wb_last 207 rfl (wy_pr rfl) wt_207 (n := (S 206 (-1))) ((w_up_slot (by decide)).trans (hrl)) (by omega) (by omega) ⟨(by omega), (by omega)⟩ ?_
          refine wa_return rfl ?_
          show wJ _ _ _ _ _ _ _ _ _ _
          refine wa_goto ⟨_, rfl⟩ ?_
          refine wa_return rfl ?_
          exact ⟨rfl, rfl⟩
theorem usg0_162_215 {m f fi gb ba st vk vb : Int} (hC : w_CL S) (h72 : S 72 1 = 162) (l5 : S 158 5 = 216) (l8 : S 158 8 = ba) (l10 : S 158 10 = gb) (hm : 0 ≤ m ∧ m < 400) (hf : 0 ≤ f ∧ f < 400) (hstt : S 188 f = 0) (hfi : S 201 f = fi) (hth : ∀ x : Nat, x < 10 → S (127 + x) (-1) = S 127 (-1)) (hn2 : S 127 (-1) ≤ 16383) (hl14 : S 142 (-1) = S 141 (-1)) (hz14 : 16 ≤ S 141 (-1) ∧ S 141 (-1) ≤ 480400) (hgb : 0 ≤ gb ∧ gb < S 127 (-1)) (hst : S 133 gb = st) (hrb : 0 ≤ st ∧ 0 ≤ fi ∧ fi ≤ 1000 ∧ st + fi < S 141 (-1)) (hcn : S 190 m = 0) (hvk : S 141 (st + fi) = vk) (hvb : S 142 (st + fi) = vb) : wJ (pe_GA xs) wY0 M (d + 3) t_XL_useField ((pe_at t_XL_useField.bl 0).getD (0, [])).2 [(0, (2, 158)), (1, (0, m)), (2, (0, f))] [] S (fun o Z => o = .inl none ∧ w_up (w_up S 158 16 vk) 158 17 vb = Z) := by
  refine wa_aload_n (n := 0) rfl ?_
  refine wa_iload_n (n := 2) rfl ?_
  refine wa_cv 158 rfl (wy_pr rfl) wt_158 (M2 := fun _ => False) rfl at_XL_rowOf ⟨_, rfl⟩ rfl rfl ⟨(Or.inr ⟨wy_pr rfl, fun q => q⟩), trivial, trivial, trivial⟩ trivial (fun _ _ q => False.elim q) ?_ (fun _ _ _ q => q)
  refine wa_aload_n (n := 0) rfl ?_
  refine wb_gf4 158 rfl (wy_pr rfl) wt_158 wf_5_0 (v := 72) wl_158_0 ?_
  refine wb_gf5 72 rfl (wy_pr rfl) wt_72 wf_2_1 (v := 162) (h72) (fun r1 => ?_)
  refine wb_gf4 162 rfl (wy_pr rfl) wt_162 wf_3_3 (v := 185) wl_162_3 ?_
  refine wa_iconst ?_
  refine wb_aald5 185 2 rfl rfl (wy_pr rfl) wt_185 (by rw [show _ = _ from ((cl_185 hC))]; omega) wl_185_2 ?_
  refine wa_iload_n (n := 1) rfl ?_
  refine wb_iald 188 rfl (wy_pr rfl) wt_188 (n := 400) ((cl_188 hC)) (by omega) (by omega) (v := 0) (hstt) (fun r2 => ?_)
  refine wa_iconst ?_
  refine wa_icmpne (w_rg0 (by omega) (by omega)) (w_rg0 (by omega) (by omega)) ⟨_, rfl⟩ (fun c3 => ?_) (fun c3 => ?_)
  · skip
    refine wa_aload_n (n := 0) rfl ?_
    refine wb_gf4 158 rfl (wy_pr rfl) wt_158 wf_5_0 (v := 72) wl_158_0 ?_
    refine wb_gf4 72 rfl (wy_pr rfl) wt_72 wf_2_6 (v := 140) wl_72_6 ?_
    refine wa_fall ⟨_, rfl⟩ ?_
    refine wa_oreturn rfl ?_
    show wJ _ _ _ _ _ _ _ _ _ _
    refine wa_astore_n (n := 3) rfl ?_
    refine wa_aload_n (n := 0) rfl ?_
    refine wa_iload_n (n := 2) rfl ?_
    refine wa_cv 158 rfl (wy_pr rfl) wt_158 (M2 := fun _ => False) rfl at_XL_placeOf ⟨_, rfl⟩ rfl rfl ⟨(Or.inr ⟨wy_pr rfl, fun q => q⟩), (Or.inr ⟨wy_pr rfl, fun q => q⟩), trivial, trivial, trivial⟩ trivial (fun _ _ q => False.elim q) ?_ (fun _ _ _ q => q)
    refine wa_aload_n (n := 0) rfl ?_
    refine wb_gf4 158 rfl (wy_pr rfl) wt_158 wf_5_0 (v := 72) wl_158_0 ?_
    refine wb_gf5 72 rfl (wy_pr rfl) wt_72 wf_2_1 (v := 162) (h72) (fun r4 => ?_)
    refine wb_gf4 162 rfl (wy_pr rfl) wt_162 wf_3_3 (v := 185) wl_162_3 ?_
    refine wa_bipush (w_rg2 (by omega) (by omega)) ?_
    refine wb_aald5 185 15 rfl rfl (wy_pr rfl) wt_185 (by rw [show _ = _ from ((cl_185 hC))]; omega) wl_185_15 ?_
    refine wa_iload_n (n := 1) rfl ?_
    refine wb_iald 201 rfl (wy_pr rfl) wt_201 (n := 400) ((cl_201 hC)) (by omega) (by omega) (v := fi) (hfi) (fun r5 => ?_)
    refine wa_istore_n (n := 2) rfl ?_
    refine wa_aload_n (n := 0) rfl ?_
    refine wb_gf4 158 rfl (wy_pr rfl) wt_158 wf_5_0 (v := 72) wl_158_0 ?_
    refine wb_gf5 72 rfl (wy_pr rfl) wt_72 wf_2_1 (v := 162) (h72) (fun r6 => ?_)
    refine wb_gf4 162 rfl (wy_pr rfl) wt_162 wf_3_3 (v := 185) wl_162_3 ?_
    refine wa_iconst ?_
    refine wb_aald5 185 2 rfl rfl (wy_pr rfl) wt_185 (by rw [show _ = _ from ((cl_185 hC))]; omega) wl_185_2 ?_
    refine wa_iload_n (n := 1) rfl ?_
    refine wb_iald 188 rfl (wy_pr rfl) wt_188 (n := 400) ((cl_188 hC)) (by omega) (by omega) (v := 0) (hstt) (fun r7 => ?_)
    refine wa_iconst ?_
    refine wa_icmpne (w_rg0 (by omega) (by omega)) (w_rg0 (by omega) (by omega)) ⟨_, rfl⟩ (fun c8 => ?_) (fun c8 => ?_)
    · skip
      refine wa_iconst ?_
      refine wa_fall ⟨_, rfl⟩ ?_
      refine wa_istore_n (n := 3) rfl ?_
      refine wa_iload_n (n := 3) rfl ?_
      refine wa_ifeq (w_rg0 (by omega) (by omega)) ⟨_, rfl⟩ (fun c9 => ?_) (fun c9 => ?_)
      · skip
        refine wa_aload_n (n := 0) rfl ?_
        refine wb_gf4 158 rfl (wy_pr rfl) wt_158 wf_5_0 (v := 72) wl_158_0 ?_
        refine wb_gf4 72 rfl (wy_pr rfl) wt_72 wf_2_2 (v := 126) wl_72_2 ?_
        refine wa_bipush (w_rg2 (by omega) (by omega)) ?_
        refine wb_aald5 126 6 rfl rfl (wy_pr rfl) wt_126 (by rw [show _ = _ from ((cl_126 hC))]; omega) wl_126_6 ?_
        refine wa_aload_n (n := 0) rfl ?_
        refine wb_gfl 158 rfl (wy_pr rfl) wt_158 wf_5_10 (v := gb) (l10) (fun r10 => ?_)
        refine wb_l2i_r (wb_l2i_id ⟨(by omega), (by omega)⟩) ?_
        refine wb_iald 133 rfl (wy_pr rfl) wt_133 (n := (S 127 (-1))) ((hth 6 (by decide))) (by omega) (by omega) (v := st) (hst) (fun r11 => ?_)
        refine wa_iload_n (n := 2) rfl ?_
        refine wa_iadd ?_
        refine wa_fall ⟨_, rfl⟩ ?_
        refine wa_ireturn rfl ?_
        show wJ _ _ _ _ _ _ _ _ _ _
        refine wa_istore (n := 4) rfl ?_
        refine wa_aload_n (n := 0) rfl ?_
        refine wb_gf4 158 rfl (wy_pr rfl) wt_158 wf_5_0 (v := 72) wl_158_0 ?_
        refine wb_gf5 72 rfl (wy_pr rfl) wt_72 wf_2_1 (v := 162) (h72) (fun r12 => ?_)
        refine wb_gf4 162 rfl (wy_pr rfl) wt_162 wf_3_3 (v := 185) wl_162_3 ?_
        refine wa_iconst ?_
        refine wb_aald5 185 4 rfl rfl (wy_pr rfl) wt_185 (by rw [show _ = _ from ((cl_185 hC))]; omega) wl_185_4 ?_
        refine wa_iload_n (n := 1) rfl ?_
        refine wb_iald 190 rfl (wy_pr rfl) wt_190 (n := 400) ((cl_190 hC)) (by omega) (by omega) (v := 0) (hcn) (fun r13 => ?_)
        refine wa_iconst ?_
        refine wa_icmpne (w_rg0 (by omega) (by omega)) (w_rg0 (by omega) (by omega)) ⟨_, rfl⟩ (fun c14 => ?_) (fun c14 => ?_)
        · skip
          refine wa_aload_n (n := 0) rfl ?_
          refine wa_aload_n (n := 3) rfl ?_
          refine wb_gf4 140 rfl (wy_pr rfl) wt_140 wf_7_0 (v := 141) wl_140_0 ?_
          refine wa_iload (n := 4) rfl ?_
          refine wb_bald 141 rfl (wy_pr rfl) wt_141 (n := (S 141 (-1))) (rfl) (by omega) (by omega) (v := vk) (hvk) (fun r15 => ?_)
          refine wb_pfi 158 rfl (wy_pr rfl) wt_158 wf_5_16 (n := 16) rfl ⟨(by omega), (by omega)⟩ ?_
          refine wa_aload_n (n := 0) rfl ?_
          refine wa_aload_n (n := 3) rfl ?_
          refine wb_gf4 140 rfl (wy_pr rfl) wt_140 wf_7_1 (v := 142) wl_140_1 ?_
          refine wa_iload (n := 4) rfl ?_
          refine wb_lald 142 rfl (wy_pr rfl) wt_142 (n := (S 141 (-1))) ((w_up_slot (by decide)).trans (hl14)) (by omega) (by omega) (v := vb) ((w_up_slot (by decide)).trans (hvb)) (fun r16 => ?_)
          refine wb_pfl 158 rfl (wy_pr rfl) wt_158 wf_5_17 (n := 17) rfl ⟨(by omega), (by omega)⟩ ?_
          refine wa_fall ⟨_, rfl⟩ ?_
          refine wa_return rfl ?_
          exact ⟨rfl, rfl⟩
        · skip
          exact absurd c14 (by omega)
      · skip
        exact absurd c9 (by omega)
    · skip
      exact absurd c8 (by omega)
  · skip
    exact absurd c3 (by omega)
theorem uss0_162_215 {m f fi gb ba st k1 v1 : Int} (hC : w_CL S) (h72 : S 72 1 = 162) (l5 : S 158 5 = 216) (l8 : S 158 8 = ba) (l10 : S 158 10 = gb) (hm : 0 ≤ m ∧ m < 400) (hf : 0 ≤ f ∧ f < 400) (hstt : S 188 f = 0) (hfi : S 201 f = fi) (hth : ∀ x : Nat, x < 10 → S (127 + x) (-1) = S 127 (-1)) (hn2 : S 127 (-1) ≤ 16383) (hl14 : S 142 (-1) = S 141 (-1)) (hz14 : 16 ≤ S 141 (-1) ∧ S 141 (-1) ≤ 480400) (hgb : 0 ≤ gb ∧ gb < S 127 (-1)) (hst : S 133 gb = st) (hrb : 0 ≤ st ∧ 0 ≤ fi ∧ fi ≤ 1000 ∧ st + fi < S 141 (-1)) (hcn : S 190 m = 1) (hpl : S 218 (-1) = S 217 (-1)) (hpb : 0 ≤ ba ∧ ba + 1 < S 217 (-1) ∧ S 217 (-1) ≤ 4095) (hk1 : S 217 (ba + 1) = k1) (hv1 : S 218 (ba + 1) = v1) : wJ (pe_GA xs) wY0 M (d + 3) t_XL_useField ((pe_at t_XL_useField.bl 0).getD (0, [])).2 [(0, (2, 158)), (1, (0, m)), (2, (0, f))] [] S (fun o Z => o = .inl none ∧ w_up (w_up S 141 (st + fi) k1) 142 (st + fi) v1 = Z) := by
  refine wa_aload_n (n := 0) rfl ?_
  refine wa_iload_n (n := 2) rfl ?_
  refine wa_cv 158 rfl (wy_pr rfl) wt_158 (M2 := fun _ => False) rfl at_XL_rowOf ⟨_, rfl⟩ rfl rfl ⟨(Or.inr ⟨wy_pr rfl, fun q => q⟩), trivial, trivial, trivial⟩ trivial (fun _ _ q => False.elim q) ?_ (fun _ _ _ q => q)
  refine wa_aload_n (n := 0) rfl ?_
  refine wb_gf4 158 rfl (wy_pr rfl) wt_158 wf_5_0 (v := 72) wl_158_0 ?_
  refine wb_gf5 72 rfl (wy_pr rfl) wt_72 wf_2_1 (v := 162) (h72) (fun r1 => ?_)
  refine wb_gf4 162 rfl (wy_pr rfl) wt_162 wf_3_3 (v := 185) wl_162_3 ?_
  refine wa_iconst ?_
  refine wb_aald5 185 2 rfl rfl (wy_pr rfl) wt_185 (by rw [show _ = _ from ((cl_185 hC))]; omega) wl_185_2 ?_
  refine wa_iload_n (n := 1) rfl ?_
  refine wb_iald 188 rfl (wy_pr rfl) wt_188 (n := 400) ((cl_188 hC)) (by omega) (by omega) (v := 0) (hstt) (fun r2 => ?_)
  refine wa_iconst ?_
  refine wa_icmpne (w_rg0 (by omega) (by omega)) (w_rg0 (by omega) (by omega)) ⟨_, rfl⟩ (fun c3 => ?_) (fun c3 => ?_)
  · skip
    refine wa_aload_n (n := 0) rfl ?_
    refine wb_gf4 158 rfl (wy_pr rfl) wt_158 wf_5_0 (v := 72) wl_158_0 ?_
    refine wb_gf4 72 rfl (wy_pr rfl) wt_72 wf_2_6 (v := 140) wl_72_6 ?_
    refine wa_fall ⟨_, rfl⟩ ?_
    refine wa_oreturn rfl ?_
    show wJ _ _ _ _ _ _ _ _ _ _
    refine wa_astore_n (n := 3) rfl ?_
    refine wa_aload_n (n := 0) rfl ?_
    refine wa_iload_n (n := 2) rfl ?_
    refine wa_cv 158 rfl (wy_pr rfl) wt_158 (M2 := fun _ => False) rfl at_XL_placeOf ⟨_, rfl⟩ rfl rfl ⟨(Or.inr ⟨wy_pr rfl, fun q => q⟩), (Or.inr ⟨wy_pr rfl, fun q => q⟩), trivial, trivial, trivial⟩ trivial (fun _ _ q => False.elim q) ?_ (fun _ _ _ q => q)
    refine wa_aload_n (n := 0) rfl ?_
    refine wb_gf4 158 rfl (wy_pr rfl) wt_158 wf_5_0 (v := 72) wl_158_0 ?_
    refine wb_gf5 72 rfl (wy_pr rfl) wt_72 wf_2_1 (v := 162) (h72) (fun r4 => ?_)
    refine wb_gf4 162 rfl (wy_pr rfl) wt_162 wf_3_3 (v := 185) wl_162_3 ?_
    refine wa_bipush (w_rg2 (by omega) (by omega)) ?_
    refine wb_aald5 185 15 rfl rfl (wy_pr rfl) wt_185 (by rw [show _ = _ from ((cl_185 hC))]; omega) wl_185_15 ?_
    refine wa_iload_n (n := 1) rfl ?_
    refine wb_iald 201 rfl (wy_pr rfl) wt_201 (n := 400) ((cl_201 hC)) (by omega) (by omega) (v := fi) (hfi) (fun r5 => ?_)
    refine wa_istore_n (n := 2) rfl ?_
    refine wa_aload_n (n := 0) rfl ?_
    refine wb_gf4 158 rfl (wy_pr rfl) wt_158 wf_5_0 (v := 72) wl_158_0 ?_
    refine wb_gf5 72 rfl (wy_pr rfl) wt_72 wf_2_1 (v := 162) (h72) (fun r6 => ?_)
    refine wb_gf4 162 rfl (wy_pr rfl) wt_162 wf_3_3 (v := 185) wl_162_3 ?_
    refine wa_iconst ?_
    refine wb_aald5 185 2 rfl rfl (wy_pr rfl) wt_185 (by rw [show _ = _ from ((cl_185 hC))]; omega) wl_185_2 ?_
    refine wa_iload_n (n := 1) rfl ?_
    refine wb_iald 188 rfl (wy_pr rfl) wt_188 (n := 400) ((cl_188 hC)) (by omega) (by omega) (v := 0) (hstt) (fun r7 => ?_)
    refine wa_iconst ?_
    refine wa_icmpne (w_rg0 (by omega) (by omega)) (w_rg0 (by omega) (by omega)) ⟨_, rfl⟩ (fun c8 => ?_) (fun c8 => ?_)
    · skip
      refine wa_iconst ?_
      refine wa_fall ⟨_, rfl⟩ ?_
      refine wa_istore_n (n := 3) rfl ?_
      refine wa_iload_n (n := 3) rfl ?_
      refine wa_ifeq (w_rg0 (by omega) (by omega)) ⟨_, rfl⟩ (fun c9 => ?_) (fun c9 => ?_)
      · skip
        refine wa_aload_n (n := 0) rfl ?_
        refine wb_gf4 158 rfl (wy_pr rfl) wt_158 wf_5_0 (v := 72) wl_158_0 ?_
        refine wb_gf4 72 rfl (wy_pr rfl) wt_72 wf_2_2 (v := 126) wl_72_2 ?_
        refine wa_bipush (w_rg2 (by omega) (by omega)) ?_
        refine wb_aald5 126 6 rfl rfl (wy_pr rfl) wt_126 (by rw [show _ = _ from ((cl_126 hC))]; omega) wl_126_6 ?_
        refine wa_aload_n (n := 0) rfl ?_
        refine wb_gfl 158 rfl (wy_pr rfl) wt_158 wf_5_10 (v := gb) (l10) (fun r10 => ?_)
        refine wb_l2i_r (wb_l2i_id ⟨(by omega), (by omega)⟩) ?_
        refine wb_iald 133 rfl (wy_pr rfl) wt_133 (n := (S 127 (-1))) ((hth 6 (by decide))) (by omega) (by omega) (v := st) (hst) (fun r11 => ?_)
        refine wa_iload_n (n := 2) rfl ?_
        refine wa_iadd ?_
        refine wa_fall ⟨_, rfl⟩ ?_
        refine wa_ireturn rfl ?_
        show wJ _ _ _ _ _ _ _ _ _ _
        refine wa_istore (n := 4) rfl ?_
        refine wa_aload_n (n := 0) rfl ?_
        refine wb_gf4 158 rfl (wy_pr rfl) wt_158 wf_5_0 (v := 72) wl_158_0 ?_
        refine wb_gf5 72 rfl (wy_pr rfl) wt_72 wf_2_1 (v := 162) (h72) (fun r12 => ?_)
        refine wb_gf4 162 rfl (wy_pr rfl) wt_162 wf_3_3 (v := 185) wl_162_3 ?_
        refine wa_iconst ?_
        refine wb_aald5 185 4 rfl rfl (wy_pr rfl) wt_185 (by rw [show _ = _ from ((cl_185 hC))]; omega) wl_185_4 ?_
        refine wa_iload_n (n := 1) rfl ?_
        refine wb_iald 190 rfl (wy_pr rfl) wt_190 (n := 400) ((cl_190 hC)) (by omega) (by omega) (v := 1) (hcn) (fun r13 => ?_)
        refine wa_iconst ?_
        refine wa_icmpne (w_rg0 (by omega) (by omega)) (w_rg0 (by omega) (by omega)) ⟨_, rfl⟩ (fun c14 => ?_) (fun c14 => ?_)
        · skip
          exact absurd c14 (by omega)
        · skip
          refine wa_aload_n (n := 3) rfl ?_
          refine wa_iload (n := 4) rfl ?_
          refine wa_aload_n (n := 0) rfl ?_
          refine wb_gf5 158 rfl (wy_pr rfl) wt_158 wf_5_5 (v := 216) (l5) (fun r15 => ?_)
          refine wb_gf4 216 rfl (wy_pr rfl) wt_216 wf_7_0 (v := 217) wl_216_0 ?_
          refine wa_aload_n (n := 0) rfl ?_
          refine wb_gfi 158 rfl (wy_pr rfl) wt_158 wf_5_8 (v := ba) (l8) (fun r16 => ?_)
          refine wa_iconst ?_
          refine wa_iadd ?_
          refine wb_bald 217 rfl (wy_pr rfl) wt_217 (n := (S 217 (-1))) (rfl) (by omega) (by omega) (v := k1) (hk1) (fun r17 => ?_)
          refine wa_aload_n (n := 0) rfl ?_
          refine wb_gf5 158 rfl (wy_pr rfl) wt_158 wf_5_5 (v := 216) (l5) (fun r18 => ?_)
          refine wb_gf4 216 rfl (wy_pr rfl) wt_216 wf_7_1 (v := 218) wl_216_1 ?_
          refine wa_aload_n (n := 0) rfl ?_
          refine wb_gfi 158 rfl (wy_pr rfl) wt_158 wf_5_8 (v := ba) (l8) (fun r19 => ?_)
          refine wa_iconst ?_
          refine wa_iadd ?_
          refine wb_lald 218 rfl (wy_pr rfl) wt_218 (n := (S 217 (-1))) (hpl) (by omega) (by omega) (v := v1) (hv1) (fun r20 => ?_)
          refine wa_cv 140 rfl (wy_pr rfl) wt_140 (M2 := fun _ => False) rfl at_XV_put ⟨_, rfl⟩ rfl rfl ⟨trivial, (Or.inr ⟨wy_pr rfl, fun q => q⟩), (Or.inr ⟨wy_pr rfl, fun q => q⟩), trivial, trivial, trivial⟩ trivial (fun _ _ q => False.elim q) ?_ (fun _ _ _ q => q)
          refine wa_aload_n (n := 0) rfl ?_
          refine wb_gf4 140 rfl (wy_pr rfl) wt_140 wf_7_0 (v := 141) wl_140_0 ?_
          refine wa_iload_n (n := 1) rfl ?_
          refine wa_iload_n (n := 2) rfl ?_
          refine wb_i2b_r (wb_i2b_id ⟨(by omega), (by omega)⟩) ?_
          refine wb_bast 141 rfl (wy_pr rfl) wt_141 (n := (S 141 (-1))) (rfl) (by omega) (by omega) ⟨(by omega), (by omega)⟩ ?_
          refine wa_aload_n (n := 0) rfl ?_
          refine wb_gf4 140 rfl (wy_pr rfl) wt_140 wf_7_1 (v := 142) wl_140_1 ?_
          refine wa_iload_n (n := 1) rfl ?_
          refine wa_lload_n (n := 3) rfl ?_
          refine wb_last 142 rfl (wy_pr rfl) wt_142 (n := (S 141 (-1))) ((w_up_slot (by decide)).trans (hl14)) (by omega) (by omega) ⟨(by omega), (by omega)⟩ ?_
          refine wa_return rfl ?_
          show wJ _ _ _ _ _ _ _ _ _ _
          refine wa_goto ⟨_, rfl⟩ ?_
          refine wa_return rfl ?_
          exact ⟨rfl, rfl⟩
      · skip
        exact absurd c9 (by omega)
    · skip
      exact absurd c8 (by omega)
  · skip
    exact absurd c3 (by omega)
theorem usg1_162_226 {m f fi gb ba vk vb : Int} (hC : w_CL S) (h72 : S 72 1 = 162) (l5 : S 158 5 = 227) (l8 : S 158 8 = ba) (l10 : S 158 10 = gb) (hm : 0 ≤ m ∧ m < 400) (hf : 0 ≤ f ∧ f < 400) (hstt : S 188 f = 1) (hfi : S 201 f = fi) (hrl : S 207 (-1) = S 206 (-1)) (hrb : 0 ≤ fi ∧ fi < S 206 (-1) ∧ S 206 (-1) ≤ 8388608) (hcn : S 190 m = 0) (hvk : S 206 fi = vk) (hvb : S 207 fi = vb) : wJ (pe_GA xs) wY0 M (d + 3) t_XL_useField ((pe_at t_XL_useField.bl 0).getD (0, [])).2 [(0, (2, 158)), (1, (0, m)), (2, (0, f))] [] S (fun o Z => o = .inl none ∧ w_up (w_up S 158 16 vk) 158 17 vb = Z) := by
  refine wa_aload_n (n := 0) rfl ?_
  refine wa_iload_n (n := 2) rfl ?_
  refine wa_cv 158 rfl (wy_pr rfl) wt_158 (M2 := fun _ => False) rfl at_XL_rowOf ⟨_, rfl⟩ rfl rfl ⟨(Or.inr ⟨wy_pr rfl, fun q => q⟩), trivial, trivial, trivial⟩ trivial (fun _ _ q => False.elim q) ?_ (fun _ _ _ q => q)
  refine wa_aload_n (n := 0) rfl ?_
  refine wb_gf4 158 rfl (wy_pr rfl) wt_158 wf_5_0 (v := 72) wl_158_0 ?_
  refine wb_gf5 72 rfl (wy_pr rfl) wt_72 wf_2_1 (v := 162) (h72) (fun r1 => ?_)
  refine wb_gf4 162 rfl (wy_pr rfl) wt_162 wf_3_3 (v := 185) wl_162_3 ?_
  refine wa_iconst ?_
  refine wb_aald5 185 2 rfl rfl (wy_pr rfl) wt_185 (by rw [show _ = _ from ((cl_185 hC))]; omega) wl_185_2 ?_
  refine wa_iload_n (n := 1) rfl ?_
  refine wb_iald 188 rfl (wy_pr rfl) wt_188 (n := 400) ((cl_188 hC)) (by omega) (by omega) (v := 1) (hstt) (fun r2 => ?_)
  refine wa_iconst ?_
  refine wa_icmpne (w_rg0 (by omega) (by omega)) (w_rg0 (by omega) (by omega)) ⟨_, rfl⟩ (fun c3 => ?_) (fun c3 => ?_)
  · skip
    exact absurd c3 (by omega)
  · skip
    refine wa_aload_n (n := 0) rfl ?_
    refine wb_gf4 158 rfl (wy_pr rfl) wt_158 wf_5_0 (v := 72) wl_158_0 ?_
    refine wb_gf5 72 rfl (wy_pr rfl) wt_72 wf_2_1 (v := 162) (h72) (fun r4 => ?_)
    refine wb_gf4 162 rfl (wy_pr rfl) wt_162 wf_3_7 (v := 205) wl_162_7 ?_
    refine wa_goto ⟨_, rfl⟩ ?_
    refine wa_oreturn rfl ?_
    show wJ _ _ _ _ _ _ _ _ _ _
    refine wa_astore_n (n := 3) rfl ?_
    refine wa_aload_n (n := 0) rfl ?_
    refine wa_iload_n (n := 2) rfl ?_
    refine wa_cv 158 rfl (wy_pr rfl) wt_158 (M2 := fun _ => False) rfl at_XL_placeOf ⟨_, rfl⟩ rfl rfl ⟨(Or.inr ⟨wy_pr rfl, fun q => q⟩), (Or.inr ⟨wy_pr rfl, fun q => q⟩), trivial, trivial, trivial⟩ trivial (fun _ _ q => False.elim q) ?_ (fun _ _ _ q => q)
    refine wa_aload_n (n := 0) rfl ?_
    refine wb_gf4 158 rfl (wy_pr rfl) wt_158 wf_5_0 (v := 72) wl_158_0 ?_
    refine wb_gf5 72 rfl (wy_pr rfl) wt_72 wf_2_1 (v := 162) (h72) (fun r5 => ?_)
    refine wb_gf4 162 rfl (wy_pr rfl) wt_162 wf_3_3 (v := 185) wl_162_3 ?_
    refine wa_bipush (w_rg2 (by omega) (by omega)) ?_
    refine wb_aald5 185 15 rfl rfl (wy_pr rfl) wt_185 (by rw [show _ = _ from ((cl_185 hC))]; omega) wl_185_15 ?_
    refine wa_iload_n (n := 1) rfl ?_
    refine wb_iald 201 rfl (wy_pr rfl) wt_201 (n := 400) ((cl_201 hC)) (by omega) (by omega) (v := fi) (hfi) (fun r6 => ?_)
    refine wa_istore_n (n := 2) rfl ?_
    refine wa_aload_n (n := 0) rfl ?_
    refine wb_gf4 158 rfl (wy_pr rfl) wt_158 wf_5_0 (v := 72) wl_158_0 ?_
    refine wb_gf5 72 rfl (wy_pr rfl) wt_72 wf_2_1 (v := 162) (h72) (fun r7 => ?_)
    refine wb_gf4 162 rfl (wy_pr rfl) wt_162 wf_3_3 (v := 185) wl_162_3 ?_
    refine wa_iconst ?_
    refine wb_aald5 185 2 rfl rfl (wy_pr rfl) wt_185 (by rw [show _ = _ from ((cl_185 hC))]; omega) wl_185_2 ?_
    refine wa_iload_n (n := 1) rfl ?_
    refine wb_iald 188 rfl (wy_pr rfl) wt_188 (n := 400) ((cl_188 hC)) (by omega) (by omega) (v := 1) (hstt) (fun r8 => ?_)
    refine wa_iconst ?_
    refine wa_icmpne (w_rg0 (by omega) (by omega)) (w_rg0 (by omega) (by omega)) ⟨_, rfl⟩ (fun c9 => ?_) (fun c9 => ?_)
    · skip
      exact absurd c9 (by omega)
    · skip
      refine wa_iconst ?_
      refine wa_goto ⟨_, rfl⟩ ?_
      refine wa_istore_n (n := 3) rfl ?_
      refine wa_iload_n (n := 3) rfl ?_
      refine wa_ifeq (w_rg0 (by omega) (by omega)) ⟨_, rfl⟩ (fun c10 => ?_) (fun c10 => ?_)
      · skip
        exact absurd c10 (by omega)
      · skip
        refine wa_iload_n (n := 2) rfl ?_
        refine wa_goto ⟨_, rfl⟩ ?_
        refine wa_ireturn rfl ?_
        show wJ _ _ _ _ _ _ _ _ _ _
        refine wa_istore (n := 4) rfl ?_
        refine wa_aload_n (n := 0) rfl ?_
        refine wb_gf4 158 rfl (wy_pr rfl) wt_158 wf_5_0 (v := 72) wl_158_0 ?_
        refine wb_gf5 72 rfl (wy_pr rfl) wt_72 wf_2_1 (v := 162) (h72) (fun r11 => ?_)
        refine wb_gf4 162 rfl (wy_pr rfl) wt_162 wf_3_3 (v := 185) wl_162_3 ?_
        refine wa_iconst ?_
        refine wb_aald5 185 4 rfl rfl (wy_pr rfl) wt_185 (by rw [show _ = _ from ((cl_185 hC))]; omega) wl_185_4 ?_
        refine wa_iload_n (n := 1) rfl ?_
        refine wb_iald 190 rfl (wy_pr rfl) wt_190 (n := 400) ((cl_190 hC)) (by omega) (by omega) (v := 0) (hcn) (fun r12 => ?_)
        refine wa_iconst ?_
        refine wa_icmpne (w_rg0 (by omega) (by omega)) (w_rg0 (by omega) (by omega)) ⟨_, rfl⟩ (fun c13 => ?_) (fun c13 => ?_)
        · skip
          refine wa_aload_n (n := 0) rfl ?_
          refine wa_aload_n (n := 3) rfl ?_
          refine wb_gf4 205 rfl (wy_pr rfl) wt_205 wf_7_0 (v := 206) wl_205_0 ?_
          refine wa_iload (n := 4) rfl ?_
          refine wb_bald 206 rfl (wy_pr rfl) wt_206 (n := (S 206 (-1))) (rfl) (by omega) (by omega) (v := vk) (hvk) (fun r14 => ?_)
          refine wb_pfi 158 rfl (wy_pr rfl) wt_158 wf_5_16 (n := 16) rfl ⟨(by omega), (by omega)⟩ ?_
          refine wa_aload_n (n := 0) rfl ?_
          refine wa_aload_n (n := 3) rfl ?_
          refine wb_gf4 205 rfl (wy_pr rfl) wt_205 wf_7_1 (v := 207) wl_205_1 ?_
          refine wa_iload (n := 4) rfl ?_
          refine wb_lald 207 rfl (wy_pr rfl) wt_207 (n := (S 206 (-1))) ((w_up_slot (by decide)).trans (hrl)) (by omega) (by omega) (v := vb) ((w_up_slot (by decide)).trans (hvb)) (fun r15 => ?_)
          refine wb_pfl 158 rfl (wy_pr rfl) wt_158 wf_5_17 (n := 17) rfl ⟨(by omega), (by omega)⟩ ?_
          refine wa_fall ⟨_, rfl⟩ ?_
          refine wa_return rfl ?_
          exact ⟨rfl, rfl⟩
        · skip
          exact absurd c13 (by omega)
theorem uss1_162_226 {m f fi gb ba k1 v1 : Int} (hC : w_CL S) (h72 : S 72 1 = 162) (l5 : S 158 5 = 227) (l8 : S 158 8 = ba) (l10 : S 158 10 = gb) (hm : 0 ≤ m ∧ m < 400) (hf : 0 ≤ f ∧ f < 400) (hstt : S 188 f = 1) (hfi : S 201 f = fi) (hrl : S 207 (-1) = S 206 (-1)) (hrb : 0 ≤ fi ∧ fi < S 206 (-1) ∧ S 206 (-1) ≤ 8388608) (hcn : S 190 m = 1) (hpl : S 229 (-1) = S 228 (-1)) (hpb : 0 ≤ ba ∧ ba + 1 < S 228 (-1) ∧ S 228 (-1) ≤ 4095) (hk1 : S 228 (ba + 1) = k1) (hv1 : S 229 (ba + 1) = v1) : wJ (pe_GA xs) wY0 M (d + 3) t_XL_useField ((pe_at t_XL_useField.bl 0).getD (0, [])).2 [(0, (2, 158)), (1, (0, m)), (2, (0, f))] [] S (fun o Z => o = .inl none ∧ w_up (w_up S 206 fi k1) 207 fi v1 = Z) := by
  refine wa_aload_n (n := 0) rfl ?_
  refine wa_iload_n (n := 2) rfl ?_
  refine wa_cv 158 rfl (wy_pr rfl) wt_158 (M2 := fun _ => False) rfl at_XL_rowOf ⟨_, rfl⟩ rfl rfl ⟨(Or.inr ⟨wy_pr rfl, fun q => q⟩), trivial, trivial, trivial⟩ trivial (fun _ _ q => False.elim q) ?_ (fun _ _ _ q => q)
  refine wa_aload_n (n := 0) rfl ?_
  refine wb_gf4 158 rfl (wy_pr rfl) wt_158 wf_5_0 (v := 72) wl_158_0 ?_
  refine wb_gf5 72 rfl (wy_pr rfl) wt_72 wf_2_1 (v := 162) (h72) (fun r1 => ?_)
  refine wb_gf4 162 rfl (wy_pr rfl) wt_162 wf_3_3 (v := 185) wl_162_3 ?_
  refine wa_iconst ?_
  refine wb_aald5 185 2 rfl rfl (wy_pr rfl) wt_185 (by rw [show _ = _ from ((cl_185 hC))]; omega) wl_185_2 ?_
  refine wa_iload_n (n := 1) rfl ?_
  refine wb_iald 188 rfl (wy_pr rfl) wt_188 (n := 400) ((cl_188 hC)) (by omega) (by omega) (v := 1) (hstt) (fun r2 => ?_)
  refine wa_iconst ?_
  refine wa_icmpne (w_rg0 (by omega) (by omega)) (w_rg0 (by omega) (by omega)) ⟨_, rfl⟩ (fun c3 => ?_) (fun c3 => ?_)
  · skip
    exact absurd c3 (by omega)
  · skip
    refine wa_aload_n (n := 0) rfl ?_
    refine wb_gf4 158 rfl (wy_pr rfl) wt_158 wf_5_0 (v := 72) wl_158_0 ?_
    refine wb_gf5 72 rfl (wy_pr rfl) wt_72 wf_2_1 (v := 162) (h72) (fun r4 => ?_)
    refine wb_gf4 162 rfl (wy_pr rfl) wt_162 wf_3_7 (v := 205) wl_162_7 ?_
    refine wa_goto ⟨_, rfl⟩ ?_
    refine wa_oreturn rfl ?_
    show wJ _ _ _ _ _ _ _ _ _ _
    refine wa_astore_n (n := 3) rfl ?_
    refine wa_aload_n (n := 0) rfl ?_
    refine wa_iload_n (n := 2) rfl ?_
    refine wa_cv 158 rfl (wy_pr rfl) wt_158 (M2 := fun _ => False) rfl at_XL_placeOf ⟨_, rfl⟩ rfl rfl ⟨(Or.inr ⟨wy_pr rfl, fun q => q⟩), (Or.inr ⟨wy_pr rfl, fun q => q⟩), trivial, trivial, trivial⟩ trivial (fun _ _ q => False.elim q) ?_ (fun _ _ _ q => q)
    refine wa_aload_n (n := 0) rfl ?_
    refine wb_gf4 158 rfl (wy_pr rfl) wt_158 wf_5_0 (v := 72) wl_158_0 ?_
    refine wb_gf5 72 rfl (wy_pr rfl) wt_72 wf_2_1 (v := 162) (h72) (fun r5 => ?_)
    refine wb_gf4 162 rfl (wy_pr rfl) wt_162 wf_3_3 (v := 185) wl_162_3 ?_
    refine wa_bipush (w_rg2 (by omega) (by omega)) ?_
    refine wb_aald5 185 15 rfl rfl (wy_pr rfl) wt_185 (by rw [show _ = _ from ((cl_185 hC))]; omega) wl_185_15 ?_
    refine wa_iload_n (n := 1) rfl ?_
    refine wb_iald 201 rfl (wy_pr rfl) wt_201 (n := 400) ((cl_201 hC)) (by omega) (by omega) (v := fi) (hfi) (fun r6 => ?_)
    refine wa_istore_n (n := 2) rfl ?_
    refine wa_aload_n (n := 0) rfl ?_
    refine wb_gf4 158 rfl (wy_pr rfl) wt_158 wf_5_0 (v := 72) wl_158_0 ?_
    refine wb_gf5 72 rfl (wy_pr rfl) wt_72 wf_2_1 (v := 162) (h72) (fun r7 => ?_)
    refine wb_gf4 162 rfl (wy_pr rfl) wt_162 wf_3_3 (v := 185) wl_162_3 ?_
    refine wa_iconst ?_
    refine wb_aald5 185 2 rfl rfl (wy_pr rfl) wt_185 (by rw [show _ = _ from ((cl_185 hC))]; omega) wl_185_2 ?_
    refine wa_iload_n (n := 1) rfl ?_
    refine wb_iald 188 rfl (wy_pr rfl) wt_188 (n := 400) ((cl_188 hC)) (by omega) (by omega) (v := 1) (hstt) (fun r8 => ?_)
    refine wa_iconst ?_
    refine wa_icmpne (w_rg0 (by omega) (by omega)) (w_rg0 (by omega) (by omega)) ⟨_, rfl⟩ (fun c9 => ?_) (fun c9 => ?_)
    · skip
      exact absurd c9 (by omega)
    · skip
      refine wa_iconst ?_
      refine wa_goto ⟨_, rfl⟩ ?_
      refine wa_istore_n (n := 3) rfl ?_
      refine wa_iload_n (n := 3) rfl ?_
      refine wa_ifeq (w_rg0 (by omega) (by omega)) ⟨_, rfl⟩ (fun c10 => ?_) (fun c10 => ?_)
      · skip
        exact absurd c10 (by omega)
      · skip
        refine wa_iload_n (n := 2) rfl ?_
        refine wa_goto ⟨_, rfl⟩ ?_
        refine wa_ireturn rfl ?_
        show wJ _ _ _ _ _ _ _ _ _ _
        refine wa_istore (n := 4) rfl ?_
        refine wa_aload_n (n := 0) rfl ?_
        refine wb_gf4 158 rfl (wy_pr rfl) wt_158 wf_5_0 (v := 72) wl_158_0 ?_
        refine wb_gf5 72 rfl (wy_pr rfl) wt_72 wf_2_1 (v := 162) (h72) (fun r11 => ?_)
        refine wb_gf4 162 rfl (wy_pr rfl) wt_162 wf_3_3 (v := 185) wl_162_3 ?_
        refine wa_iconst ?_
        refine wb_aald5 185 4 rfl rfl (wy_pr rfl) wt_185 (by rw [show _ = _ from ((cl_185 hC))]; omega) wl_185_4 ?_
        refine wa_iload_n (n := 1) rfl ?_
        refine wb_iald 190 rfl (wy_pr rfl) wt_190 (n := 400) ((cl_190 hC)) (by omega) (by omega) (v := 1) (hcn) (fun r12 => ?_)
        refine wa_iconst ?_
        refine wa_icmpne (w_rg0 (by omega) (by omega)) (w_rg0 (by omega) (by omega)) ⟨_, rfl⟩ (fun c13 => ?_) (fun c13 => ?_)
        · skip
          exact absurd c13 (by omega)
        · skip
          refine wa_aload_n (n := 3) rfl ?_
          refine wa_iload (n := 4) rfl ?_
          refine wa_aload_n (n := 0) rfl ?_
          refine wb_gf5 158 rfl (wy_pr rfl) wt_158 wf_5_5 (v := 227) (l5) (fun r14 => ?_)
          refine wb_gf4 227 rfl (wy_pr rfl) wt_227 wf_7_0 (v := 228) wl_227_0 ?_
          refine wa_aload_n (n := 0) rfl ?_
          refine wb_gfi 158 rfl (wy_pr rfl) wt_158 wf_5_8 (v := ba) (l8) (fun r15 => ?_)
          refine wa_iconst ?_
          refine wa_iadd ?_
          refine wb_bald 228 rfl (wy_pr rfl) wt_228 (n := (S 228 (-1))) (rfl) (by omega) (by omega) (v := k1) (hk1) (fun r16 => ?_)
          refine wa_aload_n (n := 0) rfl ?_
          refine wb_gf5 158 rfl (wy_pr rfl) wt_158 wf_5_5 (v := 227) (l5) (fun r17 => ?_)
          refine wb_gf4 227 rfl (wy_pr rfl) wt_227 wf_7_1 (v := 229) wl_227_1 ?_
          refine wa_aload_n (n := 0) rfl ?_
          refine wb_gfi 158 rfl (wy_pr rfl) wt_158 wf_5_8 (v := ba) (l8) (fun r18 => ?_)
          refine wa_iconst ?_
          refine wa_iadd ?_
          refine wb_lald 229 rfl (wy_pr rfl) wt_229 (n := (S 228 (-1))) (hpl) (by omega) (by omega) (v := v1) (hv1) (fun r19 => ?_)
          refine wa_cv 205 rfl (wy_pr rfl) wt_205 (M2 := fun _ => False) rfl at_XV_put ⟨_, rfl⟩ rfl rfl ⟨trivial, (Or.inr ⟨wy_pr rfl, fun q => q⟩), (Or.inr ⟨wy_pr rfl, fun q => q⟩), trivial, trivial, trivial⟩ trivial (fun _ _ q => False.elim q) ?_ (fun _ _ _ q => q)
          refine wa_aload_n (n := 0) rfl ?_
          refine wb_gf4 205 rfl (wy_pr rfl) wt_205 wf_7_0 (v := 206) wl_205_0 ?_
          refine wa_iload_n (n := 1) rfl ?_
          refine wa_iload_n (n := 2) rfl ?_
          refine wb_i2b_r (wb_i2b_id ⟨(by omega), (by omega)⟩) ?_
          refine wb_bast 206 rfl (wy_pr rfl) wt_206 (n := (S 206 (-1))) (rfl) (by omega) (by omega) ⟨(by omega), (by omega)⟩ ?_
          refine wa_aload_n (n := 0) rfl ?_
          refine wb_gf4 205 rfl (wy_pr rfl) wt_205 wf_7_1 (v := 207) wl_205_1 ?_
          refine wa_iload_n (n := 1) rfl ?_
          refine wa_lload_n (n := 3) rfl ?_
          refine wb_last 207 rfl (wy_pr rfl) wt_207 (n := (S 206 (-1))) ((w_up_slot (by decide)).trans (hrl)) (by omega) (by omega) ⟨(by omega), (by omega)⟩ ?_
          refine wa_return rfl ?_
          show wJ _ _ _ _ _ _ _ _ _ _
          refine wa_goto ⟨_, rfl⟩ ?_
          refine wa_return rfl ?_
          exact ⟨rfl, rfl⟩
theorem usg0_162_226 {m f fi gb ba st vk vb : Int} (hC : w_CL S) (h72 : S 72 1 = 162) (l5 : S 158 5 = 227) (l8 : S 158 8 = ba) (l10 : S 158 10 = gb) (hm : 0 ≤ m ∧ m < 400) (hf : 0 ≤ f ∧ f < 400) (hstt : S 188 f = 0) (hfi : S 201 f = fi) (hth : ∀ x : Nat, x < 10 → S (127 + x) (-1) = S 127 (-1)) (hn2 : S 127 (-1) ≤ 16383) (hl14 : S 142 (-1) = S 141 (-1)) (hz14 : 16 ≤ S 141 (-1) ∧ S 141 (-1) ≤ 480400) (hgb : 0 ≤ gb ∧ gb < S 127 (-1)) (hst : S 133 gb = st) (hrb : 0 ≤ st ∧ 0 ≤ fi ∧ fi ≤ 1000 ∧ st + fi < S 141 (-1)) (hcn : S 190 m = 0) (hvk : S 141 (st + fi) = vk) (hvb : S 142 (st + fi) = vb) : wJ (pe_GA xs) wY0 M (d + 3) t_XL_useField ((pe_at t_XL_useField.bl 0).getD (0, [])).2 [(0, (2, 158)), (1, (0, m)), (2, (0, f))] [] S (fun o Z => o = .inl none ∧ w_up (w_up S 158 16 vk) 158 17 vb = Z) := by
  refine wa_aload_n (n := 0) rfl ?_
  refine wa_iload_n (n := 2) rfl ?_
  refine wa_cv 158 rfl (wy_pr rfl) wt_158 (M2 := fun _ => False) rfl at_XL_rowOf ⟨_, rfl⟩ rfl rfl ⟨(Or.inr ⟨wy_pr rfl, fun q => q⟩), trivial, trivial, trivial⟩ trivial (fun _ _ q => False.elim q) ?_ (fun _ _ _ q => q)
  refine wa_aload_n (n := 0) rfl ?_
  refine wb_gf4 158 rfl (wy_pr rfl) wt_158 wf_5_0 (v := 72) wl_158_0 ?_
  refine wb_gf5 72 rfl (wy_pr rfl) wt_72 wf_2_1 (v := 162) (h72) (fun r1 => ?_)
  refine wb_gf4 162 rfl (wy_pr rfl) wt_162 wf_3_3 (v := 185) wl_162_3 ?_
  refine wa_iconst ?_
  refine wb_aald5 185 2 rfl rfl (wy_pr rfl) wt_185 (by rw [show _ = _ from ((cl_185 hC))]; omega) wl_185_2 ?_
  refine wa_iload_n (n := 1) rfl ?_
  refine wb_iald 188 rfl (wy_pr rfl) wt_188 (n := 400) ((cl_188 hC)) (by omega) (by omega) (v := 0) (hstt) (fun r2 => ?_)
  refine wa_iconst ?_
  refine wa_icmpne (w_rg0 (by omega) (by omega)) (w_rg0 (by omega) (by omega)) ⟨_, rfl⟩ (fun c3 => ?_) (fun c3 => ?_)
  · skip
    refine wa_aload_n (n := 0) rfl ?_
    refine wb_gf4 158 rfl (wy_pr rfl) wt_158 wf_5_0 (v := 72) wl_158_0 ?_
    refine wb_gf4 72 rfl (wy_pr rfl) wt_72 wf_2_6 (v := 140) wl_72_6 ?_
    refine wa_fall ⟨_, rfl⟩ ?_
    refine wa_oreturn rfl ?_
    show wJ _ _ _ _ _ _ _ _ _ _
    refine wa_astore_n (n := 3) rfl ?_
    refine wa_aload_n (n := 0) rfl ?_
    refine wa_iload_n (n := 2) rfl ?_
    refine wa_cv 158 rfl (wy_pr rfl) wt_158 (M2 := fun _ => False) rfl at_XL_placeOf ⟨_, rfl⟩ rfl rfl ⟨(Or.inr ⟨wy_pr rfl, fun q => q⟩), (Or.inr ⟨wy_pr rfl, fun q => q⟩), trivial, trivial, trivial⟩ trivial (fun _ _ q => False.elim q) ?_ (fun _ _ _ q => q)
    refine wa_aload_n (n := 0) rfl ?_
    refine wb_gf4 158 rfl (wy_pr rfl) wt_158 wf_5_0 (v := 72) wl_158_0 ?_
    refine wb_gf5 72 rfl (wy_pr rfl) wt_72 wf_2_1 (v := 162) (h72) (fun r4 => ?_)
    refine wb_gf4 162 rfl (wy_pr rfl) wt_162 wf_3_3 (v := 185) wl_162_3 ?_
    refine wa_bipush (w_rg2 (by omega) (by omega)) ?_
    refine wb_aald5 185 15 rfl rfl (wy_pr rfl) wt_185 (by rw [show _ = _ from ((cl_185 hC))]; omega) wl_185_15 ?_
    refine wa_iload_n (n := 1) rfl ?_
    refine wb_iald 201 rfl (wy_pr rfl) wt_201 (n := 400) ((cl_201 hC)) (by omega) (by omega) (v := fi) (hfi) (fun r5 => ?_)
    refine wa_istore_n (n := 2) rfl ?_
    refine wa_aload_n (n := 0) rfl ?_
    refine wb_gf4 158 rfl (wy_pr rfl) wt_158 wf_5_0 (v := 72) wl_158_0 ?_
    refine wb_gf5 72 rfl (wy_pr rfl) wt_72 wf_2_1 (v := 162) (h72) (fun r6 => ?_)
    refine wb_gf4 162 rfl (wy_pr rfl) wt_162 wf_3_3 (v := 185) wl_162_3 ?_
    refine wa_iconst ?_
    refine wb_aald5 185 2 rfl rfl (wy_pr rfl) wt_185 (by rw [show _ = _ from ((cl_185 hC))]; omega) wl_185_2 ?_
    refine wa_iload_n (n := 1) rfl ?_
    refine wb_iald 188 rfl (wy_pr rfl) wt_188 (n := 400) ((cl_188 hC)) (by omega) (by omega) (v := 0) (hstt) (fun r7 => ?_)
    refine wa_iconst ?_
    refine wa_icmpne (w_rg0 (by omega) (by omega)) (w_rg0 (by omega) (by omega)) ⟨_, rfl⟩ (fun c8 => ?_) (fun c8 => ?_)
    · skip
      refine wa_iconst ?_
      refine wa_fall ⟨_, rfl⟩ ?_
      refine wa_istore_n (n := 3) rfl ?_
      refine wa_iload_n (n := 3) rfl ?_
      refine wa_ifeq (w_rg0 (by omega) (by omega)) ⟨_, rfl⟩ (fun c9 => ?_) (fun c9 => ?_)
      · skip
        refine wa_aload_n (n := 0) rfl ?_
        refine wb_gf4 158 rfl (wy_pr rfl) wt_158 wf_5_0 (v := 72) wl_158_0 ?_
        refine wb_gf4 72 rfl (wy_pr rfl) wt_72 wf_2_2 (v := 126) wl_72_2 ?_
        refine wa_bipush (w_rg2 (by omega) (by omega)) ?_
        refine wb_aald5 126 6 rfl rfl (wy_pr rfl) wt_126 (by rw [show _ = _ from ((cl_126 hC))]; omega) wl_126_6 ?_
        refine wa_aload_n (n := 0) rfl ?_
        refine wb_gfl 158 rfl (wy_pr rfl) wt_158 wf_5_10 (v := gb) (l10) (fun r10 => ?_)
        refine wb_l2i_r (wb_l2i_id ⟨(by omega), (by omega)⟩) ?_
        refine wb_iald 133 rfl (wy_pr rfl) wt_133 (n := (S 127 (-1))) ((hth 6 (by decide))) (by omega) (by omega) (v := st) (hst) (fun r11 => ?_)
        refine wa_iload_n (n := 2) rfl ?_
        refine wa_iadd ?_
        refine wa_fall ⟨_, rfl⟩ ?_
        refine wa_ireturn rfl ?_
        show wJ _ _ _ _ _ _ _ _ _ _
        refine wa_istore (n := 4) rfl ?_
        refine wa_aload_n (n := 0) rfl ?_
        refine wb_gf4 158 rfl (wy_pr rfl) wt_158 wf_5_0 (v := 72) wl_158_0 ?_
        refine wb_gf5 72 rfl (wy_pr rfl) wt_72 wf_2_1 (v := 162) (h72) (fun r12 => ?_)
        refine wb_gf4 162 rfl (wy_pr rfl) wt_162 wf_3_3 (v := 185) wl_162_3 ?_
        refine wa_iconst ?_
        refine wb_aald5 185 4 rfl rfl (wy_pr rfl) wt_185 (by rw [show _ = _ from ((cl_185 hC))]; omega) wl_185_4 ?_
        refine wa_iload_n (n := 1) rfl ?_
        refine wb_iald 190 rfl (wy_pr rfl) wt_190 (n := 400) ((cl_190 hC)) (by omega) (by omega) (v := 0) (hcn) (fun r13 => ?_)
        refine wa_iconst ?_
        refine wa_icmpne (w_rg0 (by omega) (by omega)) (w_rg0 (by omega) (by omega)) ⟨_, rfl⟩ (fun c14 => ?_) (fun c14 => ?_)
        · skip
          refine wa_aload_n (n := 0) rfl ?_
          refine wa_aload_n (n := 3) rfl ?_
          refine wb_gf4 140 rfl (wy_pr rfl) wt_140 wf_7_0 (v := 141) wl_140_0 ?_
          refine wa_iload (n := 4) rfl ?_
          refine wb_bald 141 rfl (wy_pr rfl) wt_141 (n := (S 141 (-1))) (rfl) (by omega) (by omega) (v := vk) (hvk) (fun r15 => ?_)
          refine wb_pfi 158 rfl (wy_pr rfl) wt_158 wf_5_16 (n := 16) rfl ⟨(by omega), (by omega)⟩ ?_
          refine wa_aload_n (n := 0) rfl ?_
          refine wa_aload_n (n := 3) rfl ?_
          refine wb_gf4 140 rfl (wy_pr rfl) wt_140 wf_7_1 (v := 142) wl_140_1 ?_
          refine wa_iload (n := 4) rfl ?_
          refine wb_lald 142 rfl (wy_pr rfl) wt_142 (n := (S 141 (-1))) ((w_up_slot (by decide)).trans (hl14)) (by omega) (by omega) (v := vb) ((w_up_slot (by decide)).trans (hvb)) (fun r16 => ?_)
          refine wb_pfl 158 rfl (wy_pr rfl) wt_158 wf_5_17 (n := 17) rfl ⟨(by omega), (by omega)⟩ ?_
          refine wa_fall ⟨_, rfl⟩ ?_
          refine wa_return rfl ?_
          exact ⟨rfl, rfl⟩
        · skip
          exact absurd c14 (by omega)
      · skip
        exact absurd c9 (by omega)
    · skip
      exact absurd c8 (by omega)
  · skip
    exact absurd c3 (by omega)
theorem uss0_162_226 {m f fi gb ba st k1 v1 : Int} (hC : w_CL S) (h72 : S 72 1 = 162) (l5 : S 158 5 = 227) (l8 : S 158 8 = ba) (l10 : S 158 10 = gb) (hm : 0 ≤ m ∧ m < 400) (hf : 0 ≤ f ∧ f < 400) (hstt : S 188 f = 0) (hfi : S 201 f = fi) (hth : ∀ x : Nat, x < 10 → S (127 + x) (-1) = S 127 (-1)) (hn2 : S 127 (-1) ≤ 16383) (hl14 : S 142 (-1) = S 141 (-1)) (hz14 : 16 ≤ S 141 (-1) ∧ S 141 (-1) ≤ 480400) (hgb : 0 ≤ gb ∧ gb < S 127 (-1)) (hst : S 133 gb = st) (hrb : 0 ≤ st ∧ 0 ≤ fi ∧ fi ≤ 1000 ∧ st + fi < S 141 (-1)) (hcn : S 190 m = 1) (hpl : S 229 (-1) = S 228 (-1)) (hpb : 0 ≤ ba ∧ ba + 1 < S 228 (-1) ∧ S 228 (-1) ≤ 4095) (hk1 : S 228 (ba + 1) = k1) (hv1 : S 229 (ba + 1) = v1) : wJ (pe_GA xs) wY0 M (d + 3) t_XL_useField ((pe_at t_XL_useField.bl 0).getD (0, [])).2 [(0, (2, 158)), (1, (0, m)), (2, (0, f))] [] S (fun o Z => o = .inl none ∧ w_up (w_up S 141 (st + fi) k1) 142 (st + fi) v1 = Z) := by
  refine wa_aload_n (n := 0) rfl ?_
  refine wa_iload_n (n := 2) rfl ?_
  refine wa_cv 158 rfl (wy_pr rfl) wt_158 (M2 := fun _ => False) rfl at_XL_rowOf ⟨_, rfl⟩ rfl rfl ⟨(Or.inr ⟨wy_pr rfl, fun q => q⟩), trivial, trivial, trivial⟩ trivial (fun _ _ q => False.elim q) ?_ (fun _ _ _ q => q)
  refine wa_aload_n (n := 0) rfl ?_
  refine wb_gf4 158 rfl (wy_pr rfl) wt_158 wf_5_0 (v := 72) wl_158_0 ?_
  refine wb_gf5 72 rfl (wy_pr rfl) wt_72 wf_2_1 (v := 162) (h72) (fun r1 => ?_)
  refine wb_gf4 162 rfl (wy_pr rfl) wt_162 wf_3_3 (v := 185) wl_162_3 ?_
  refine wa_iconst ?_
  refine wb_aald5 185 2 rfl rfl (wy_pr rfl) wt_185 (by rw [show _ = _ from ((cl_185 hC))]; omega) wl_185_2 ?_
  refine wa_iload_n (n := 1) rfl ?_
  refine wb_iald 188 rfl (wy_pr rfl) wt_188 (n := 400) ((cl_188 hC)) (by omega) (by omega) (v := 0) (hstt) (fun r2 => ?_)
  refine wa_iconst ?_
  refine wa_icmpne (w_rg0 (by omega) (by omega)) (w_rg0 (by omega) (by omega)) ⟨_, rfl⟩ (fun c3 => ?_) (fun c3 => ?_)
  · skip
    refine wa_aload_n (n := 0) rfl ?_
    refine wb_gf4 158 rfl (wy_pr rfl) wt_158 wf_5_0 (v := 72) wl_158_0 ?_
    refine wb_gf4 72 rfl (wy_pr rfl) wt_72 wf_2_6 (v := 140) wl_72_6 ?_
    refine wa_fall ⟨_, rfl⟩ ?_
    refine wa_oreturn rfl ?_
    show wJ _ _ _ _ _ _ _ _ _ _
    refine wa_astore_n (n := 3) rfl ?_
    refine wa_aload_n (n := 0) rfl ?_
    refine wa_iload_n (n := 2) rfl ?_
    refine wa_cv 158 rfl (wy_pr rfl) wt_158 (M2 := fun _ => False) rfl at_XL_placeOf ⟨_, rfl⟩ rfl rfl ⟨(Or.inr ⟨wy_pr rfl, fun q => q⟩), (Or.inr ⟨wy_pr rfl, fun q => q⟩), trivial, trivial, trivial⟩ trivial (fun _ _ q => False.elim q) ?_ (fun _ _ _ q => q)
    refine wa_aload_n (n := 0) rfl ?_
    refine wb_gf4 158 rfl (wy_pr rfl) wt_158 wf_5_0 (v := 72) wl_158_0 ?_
    refine wb_gf5 72 rfl (wy_pr rfl) wt_72 wf_2_1 (v := 162) (h72) (fun r4 => ?_)
    refine wb_gf4 162 rfl (wy_pr rfl) wt_162 wf_3_3 (v := 185) wl_162_3 ?_
    refine wa_bipush (w_rg2 (by omega) (by omega)) ?_
    refine wb_aald5 185 15 rfl rfl (wy_pr rfl) wt_185 (by rw [show _ = _ from ((cl_185 hC))]; omega) wl_185_15 ?_
    refine wa_iload_n (n := 1) rfl ?_
    refine wb_iald 201 rfl (wy_pr rfl) wt_201 (n := 400) ((cl_201 hC)) (by omega) (by omega) (v := fi) (hfi) (fun r5 => ?_)
    refine wa_istore_n (n := 2) rfl ?_
    refine wa_aload_n (n := 0) rfl ?_
    refine wb_gf4 158 rfl (wy_pr rfl) wt_158 wf_5_0 (v := 72) wl_158_0 ?_
    refine wb_gf5 72 rfl (wy_pr rfl) wt_72 wf_2_1 (v := 162) (h72) (fun r6 => ?_)
    refine wb_gf4 162 rfl (wy_pr rfl) wt_162 wf_3_3 (v := 185) wl_162_3 ?_
    refine wa_iconst ?_
    refine wb_aald5 185 2 rfl rfl (wy_pr rfl) wt_185 (by rw [show _ = _ from ((cl_185 hC))]; omega) wl_185_2 ?_
    refine wa_iload_n (n := 1) rfl ?_
    refine wb_iald 188 rfl (wy_pr rfl) wt_188 (n := 400) ((cl_188 hC)) (by omega) (by omega) (v := 0) (hstt) (fun r7 => ?_)
    refine wa_iconst ?_
    refine wa_icmpne (w_rg0 (by omega) (by omega)) (w_rg0 (by omega) (by omega)) ⟨_, rfl⟩ (fun c8 => ?_) (fun c8 => ?_)
    · skip
      refine wa_iconst ?_
      refine wa_fall ⟨_, rfl⟩ ?_
      refine wa_istore_n (n := 3) rfl ?_
      refine wa_iload_n (n := 3) rfl ?_
      refine wa_ifeq (w_rg0 (by omega) (by omega)) ⟨_, rfl⟩ (fun c9 => ?_) (fun c9 => ?_)
      · skip
        refine wa_aload_n (n := 0) rfl ?_
        refine wb_gf4 158 rfl (wy_pr rfl) wt_158 wf_5_0 (v := 72) wl_158_0 ?_
        refine wb_gf4 72 rfl (wy_pr rfl) wt_72 wf_2_2 (v := 126) wl_72_2 ?_
        refine wa_bipush (w_rg2 (by omega) (by omega)) ?_
        refine wb_aald5 126 6 rfl rfl (wy_pr rfl) wt_126 (by rw [show _ = _ from ((cl_126 hC))]; omega) wl_126_6 ?_
        refine wa_aload_n (n := 0) rfl ?_
        refine wb_gfl 158 rfl (wy_pr rfl) wt_158 wf_5_10 (v := gb) (l10) (fun r10 => ?_)
        refine wb_l2i_r (wb_l2i_id ⟨(by omega), (by omega)⟩) ?_
        refine wb_iald 133 rfl (wy_pr rfl) wt_133 (n := (S 127 (-1))) ((hth 6 (by decide))) (by omega) (by omega) (v := st) (hst) (fun r11 => ?_)
        refine wa_iload_n (n := 2) rfl ?_
        refine wa_iadd ?_
        refine wa_fall ⟨_, rfl⟩ ?_
        refine wa_ireturn rfl ?_
        show wJ _ _ _ _ _ _ _ _ _ _
        refine wa_istore (n := 4) rfl ?_
        refine wa_aload_n (n := 0) rfl ?_
        refine wb_gf4 158 rfl (wy_pr rfl) wt_158 wf_5_0 (v := 72) wl_158_0 ?_
        refine wb_gf5 72 rfl (wy_pr rfl) wt_72 wf_2_1 (v := 162) (h72) (fun r12 => ?_)
        refine wb_gf4 162 rfl (wy_pr rfl) wt_162 wf_3_3 (v := 185) wl_162_3 ?_
        refine wa_iconst ?_
        refine wb_aald5 185 4 rfl rfl (wy_pr rfl) wt_185 (by rw [show _ = _ from ((cl_185 hC))]; omega) wl_185_4 ?_
        refine wa_iload_n (n := 1) rfl ?_
        refine wb_iald 190 rfl (wy_pr rfl) wt_190 (n := 400) ((cl_190 hC)) (by omega) (by omega) (v := 1) (hcn) (fun r13 => ?_)
        refine wa_iconst ?_
        refine wa_icmpne (w_rg0 (by omega) (by omega)) (w_rg0 (by omega) (by omega)) ⟨_, rfl⟩ (fun c14 => ?_) (fun c14 => ?_)
        · skip
          exact absurd c14 (by omega)
        · skip
          refine wa_aload_n (n := 3) rfl ?_
          refine wa_iload (n := 4) rfl ?_
          refine wa_aload_n (n := 0) rfl ?_
          refine wb_gf5 158 rfl (wy_pr rfl) wt_158 wf_5_5 (v := 227) (l5) (fun r15 => ?_)
          refine wb_gf4 227 rfl (wy_pr rfl) wt_227 wf_7_0 (v := 228) wl_227_0 ?_
          refine wa_aload_n (n := 0) rfl ?_
          refine wb_gfi 158 rfl (wy_pr rfl) wt_158 wf_5_8 (v := ba) (l8) (fun r16 => ?_)
          refine wa_iconst ?_
          refine wa_iadd ?_
          refine wb_bald 228 rfl (wy_pr rfl) wt_228 (n := (S 228 (-1))) (rfl) (by omega) (by omega) (v := k1) (hk1) (fun r17 => ?_)
          refine wa_aload_n (n := 0) rfl ?_
          refine wb_gf5 158 rfl (wy_pr rfl) wt_158 wf_5_5 (v := 227) (l5) (fun r18 => ?_)
          refine wb_gf4 227 rfl (wy_pr rfl) wt_227 wf_7_1 (v := 229) wl_227_1 ?_
          refine wa_aload_n (n := 0) rfl ?_
          refine wb_gfi 158 rfl (wy_pr rfl) wt_158 wf_5_8 (v := ba) (l8) (fun r19 => ?_)
          refine wa_iconst ?_
          refine wa_iadd ?_
          refine wb_lald 229 rfl (wy_pr rfl) wt_229 (n := (S 228 (-1))) (hpl) (by omega) (by omega) (v := v1) (hv1) (fun r20 => ?_)
          refine wa_cv 140 rfl (wy_pr rfl) wt_140 (M2 := fun _ => False) rfl at_XV_put ⟨_, rfl⟩ rfl rfl ⟨trivial, (Or.inr ⟨wy_pr rfl, fun q => q⟩), (Or.inr ⟨wy_pr rfl, fun q => q⟩), trivial, trivial, trivial⟩ trivial (fun _ _ q => False.elim q) ?_ (fun _ _ _ q => q)
          refine wa_aload_n (n := 0) rfl ?_
          refine wb_gf4 140 rfl (wy_pr rfl) wt_140 wf_7_0 (v := 141) wl_140_0 ?_
          refine wa_iload_n (n := 1) rfl ?_
          refine wa_iload_n (n := 2) rfl ?_
          refine wb_i2b_r (wb_i2b_id ⟨(by omega), (by omega)⟩) ?_
          refine wb_bast 141 rfl (wy_pr rfl) wt_141 (n := (S 141 (-1))) (rfl) (by omega) (by omega) ⟨(by omega), (by omega)⟩ ?_
          refine wa_aload_n (n := 0) rfl ?_
          refine wb_gf4 140 rfl (wy_pr rfl) wt_140 wf_7_1 (v := 142) wl_140_1 ?_
          refine wa_iload_n (n := 1) rfl ?_
          refine wa_lload_n (n := 3) rfl ?_
          refine wb_last 142 rfl (wy_pr rfl) wt_142 (n := (S 141 (-1))) ((w_up_slot (by decide)).trans (hl14)) (by omega) (by omega) ⟨(by omega), (by omega)⟩ ?_
          refine wa_return rfl ?_
          show wJ _ _ _ _ _ _ _ _ _ _
          refine wa_goto ⟨_, rfl⟩ ?_
          refine wa_return rfl ?_
          exact ⟨rfl, rfl⟩
      · skip
        exact absurd c9 (by omega)
    · skip
      exact absurd c8 (by omega)
  · skip
    exact absurd c3 (by omega)
theorem land_1 (z : Int) : 0 ≤ wb_land z 1 ∧ wb_land z 1 ≤ 1 := by
  have a2 : (Int64.ofInt z &&& Int64.ofInt 1).toBitVec.toNat = (Int64.ofInt z).toBitVec.toNat % 2 := by
    rw [Int64.toBitVec_and, BitVec.toNat_and, show (Int64.ofInt 1).toBitVec.toNat = 2 ^ 1 - 1 by decide, Nat.and_two_pow_sub_one_eq_mod]
  have h : wb_land z 1 = (Int64.ofInt z &&& Int64.ofInt 1).toBitVec.toInt := rfl
  rw [h, BitVec.toInt_eq_toNat_of_lt (by rw [a2]; omega), a2]
  omega
/-- the sum of a member's number and of the ES that are numbers -/
def anS : Int → List (Int × Int) → Int
  | s, [] => s
  | s, e :: l => anS (s + (if e.1 = 2 then e.2 else 0)) l
/-- what a method of a number's or a bool's type gives -/
def anK (ty : Int) : Int := if ty = 3 ∨ ty = 6 then 1 else 2
def anB (ty s : Int) : Int := if ty = 3 ∨ ty = 6 then wb_land s 1 else if ty = 1 ∨ ty = 4 then wb_l2i s else w64 s
theorem anl_73_215 {m ty ba : Int} {es : List (Int × Int)} (hC : w_CL S) (h72 : S 72 1 = 73) (l5 : S 158 5 = 216) (l8 : S 158 8 = ba) (l12 : S 158 12 = (es.length : Int)) (hm : 0 ≤ m ∧ m < 400) (hty : S 100 m = ty) (htr : 1 ≤ ty ∧ ty ≤ 6) (hpl : S 218 (-1) = S 217 (-1)) (hpb : 0 ≤ ba ∧ ba + 1 + (es.length : Int) ≤ S 217 (-1) ∧ S 217 (-1) ≤ 4095) (hes : ∀ i : Nat, i < es.length → S 217 (ba + 1 + (i : Int)) = (es.getD i (0, 0)).1 ∧ S 218 (ba + 1 + (i : Int)) = (es.getD i (0, 0)).2) : ∀ (f i : Nat) (sm : Int), i + f = es.length → wJ (pe_GA xs) wY0 M (d + 1) t_XL_answer ((pe_at t_XL_answer.bl 5).getD (0, [])).2 [(0, (2, 158)), (1, (0, m)), (2, (0, ty)), (3, (1, sm)), (5, (0, (i : Int)))] [] S (fun o Z => o = .inl none ∧ w_up (w_up S 158 16 (anK ty)) 158 17 (anB ty (anS sm (es.drop i))) = Z) := by
  intro f
  induction f with
  | zero =>
    intro i sm hi
    rw [List.drop_of_length_le (by omega)]
    have hbx : ∀ z : Int, 0 ≤ wb_land z 1 ∧ wb_land z 1 ≤ 1 := fun z => land_1 z
    have hb0 := hbx sm
    have hl0 := wb_l2i_rg sm
    have hw0 := w64_rg sm
    refine wa_iload (n := 5) rfl ?_
    refine wa_aload_n (n := 0) rfl ?_
    refine wb_gfi 158 rfl (wy_pr rfl) wt_158 wf_5_12 (v := (es.length : Int)) (l12) (fun r1 => ?_)
    refine wa_icmpge (w_rg0 (by omega) (by omega)) (w_rg0 (by omega) (by omega)) ⟨_, rfl⟩ (fun c2 => ?_) (fun c2 => ?_)
    · skip
      refine wa_iload_n (n := 2) rfl ?_
      refine wa_iconst ?_
      refine wa_icmpeq (w_rg0 (by omega) (by omega)) (w_rg0 (by omega) (by omega)) ⟨_, rfl⟩ (fun c3 => ?_) (fun c3 => ?_)
      · skip
        refine wa_iconst ?_
        refine wa_goto ⟨_, rfl⟩ ?_
        refine wa_istore (n := 5) rfl ?_
        refine wa_aload_n (n := 0) rfl ?_
        refine wa_iload (n := 5) rfl ?_
        refine wa_ifeq (w_rg0 (by omega) (by omega)) ⟨_, rfl⟩ (fun c4 => ?_) (fun c4 => ?_)
        · skip
          exact absurd c4 (by omega)
        · skip
          refine wa_iconst ?_
          refine wa_goto ⟨_, rfl⟩ ?_
          refine wb_pfi 158 rfl (wy_pr rfl) wt_158 wf_5_16 (n := 16) rfl ⟨(by omega), (by omega)⟩ ?_
          refine wa_aload_n (n := 0) rfl ?_
          refine wa_iload (n := 5) rfl ?_
          refine wa_ifeq (w_rg0 (by omega) (by omega)) ⟨_, rfl⟩ (fun c5 => ?_) (fun c5 => ?_)
          · skip
            exact absurd c5 (by omega)
          · skip
            refine wa_lload_n (n := 3) rfl ?_
            refine wb_lconst (m := 1) rfl ?_
            refine wa_land ?_
            refine wa_goto ⟨_, rfl⟩ ?_
            refine wb_pfl 158 rfl (wy_pr rfl) wt_158 wf_5_17 (n := 17) rfl ⟨(by omega), (by omega)⟩ ?_
            refine wa_fall ⟨_, rfl⟩ ?_
            refine wa_return rfl ?_
            have ek : anK ty = 1 := by unfold anK; first | exact if_pos (by omega) | exact if_neg (by omega)
            have eb : anB ty (anS sm []) = (wb_land sm 1) := by show anB ty sm = _; unfold anB; first | exact if_pos (by omega) | (rw [if_neg (by omega)]; first | exact if_pos (by omega) | exact if_neg (by omega))
            rw [ek, eb]
            exact ⟨rfl, rfl⟩
      · skip
        refine wa_iload_n (n := 2) rfl ?_
        refine wa_bipush (w_rg2 (by omega) (by omega)) ?_
        refine wa_icmpne (w_rg0 (by omega) (by omega)) (w_rg0 (by omega) (by omega)) ⟨_, rfl⟩ (fun c6 => ?_) (fun c6 => ?_)
        · skip
          refine wa_iconst ?_
          refine wa_fall ⟨_, rfl⟩ ?_
          refine wa_istore (n := 5) rfl ?_
          refine wa_aload_n (n := 0) rfl ?_
          refine wa_iload (n := 5) rfl ?_
          refine wa_ifeq (w_rg0 (by omega) (by omega)) ⟨_, rfl⟩ (fun c7 => ?_) (fun c7 => ?_)
          · skip
            refine wa_iconst ?_
            refine wa_fall ⟨_, rfl⟩ ?_
            refine wb_pfi 158 rfl (wy_pr rfl) wt_158 wf_5_16 (n := 16) rfl ⟨(by omega), (by omega)⟩ ?_
            refine wa_aload_n (n := 0) rfl ?_
            refine wa_iload (n := 5) rfl ?_
            refine wa_ifeq (w_rg0 (by omega) (by omega)) ⟨_, rfl⟩ (fun c8 => ?_) (fun c8 => ?_)
            · skip
              refine wa_iload_n (n := 2) rfl ?_
              refine wa_iconst ?_
              refine wa_icmpeq (w_rg0 (by omega) (by omega)) (w_rg0 (by omega) (by omega)) ⟨_, rfl⟩ (fun c9 => ?_) (fun c9 => ?_)
              · skip
                refine wa_lload_n (n := 3) rfl ?_
                refine wa_l2i ?_
                refine wa_i2l (w_rg0 (by omega) (by omega)) ?_
                refine wa_goto ⟨_, rfl⟩ ?_
                refine wb_pfl 158 rfl (wy_pr rfl) wt_158 wf_5_17 (n := 17) rfl ⟨(by omega), (by omega)⟩ ?_
                refine wa_fall ⟨_, rfl⟩ ?_
                refine wa_return rfl ?_
                have ek : anK ty = 2 := by unfold anK; first | exact if_pos (by omega) | exact if_neg (by omega)
                have eb : anB ty (anS sm []) = (wb_l2i sm) := by show anB ty sm = _; unfold anB; first | exact if_pos (by omega) | (rw [if_neg (by omega)]; first | exact if_pos (by omega) | exact if_neg (by omega))
                rw [ek, eb]
                exact ⟨rfl, rfl⟩
              · skip
                refine wa_iload_n (n := 2) rfl ?_
                refine wa_iconst ?_
                refine wa_icmpne (w_rg0 (by omega) (by omega)) (w_rg0 (by omega) (by omega)) ⟨_, rfl⟩ (fun c10 => ?_) (fun c10 => ?_)
                · skip
                  refine wa_lload_n (n := 3) rfl ?_
                  refine wa_fall ⟨_, rfl⟩ ?_
                  refine wJ_n1 (w64_o _) ?_
                  refine wb_pfl 158 rfl (wy_pr rfl) wt_158 wf_5_17 (n := 17) rfl ⟨(by omega), (by omega)⟩ ?_
                  refine wa_fall ⟨_, rfl⟩ ?_
                  refine wa_return rfl ?_
                  have ek : anK ty = 2 := by unfold anK; first | exact if_pos (by omega) | exact if_neg (by omega)
                  have eb : anB ty (anS sm []) = (w64 sm) := by show anB ty sm = _; unfold anB; first | exact if_pos (by omega) | (rw [if_neg (by omega)]; first | exact if_pos (by omega) | exact if_neg (by omega))
                  rw [ek, eb]
                  exact ⟨rfl, rfl⟩
                · skip
                  refine wa_fall ⟨_, rfl⟩ ?_
                  refine wa_lload_n (n := 3) rfl ?_
                  refine wa_l2i ?_
                  refine wa_i2l (w_rg0 (by omega) (by omega)) ?_
                  refine wa_goto ⟨_, rfl⟩ ?_
                  refine wb_pfl 158 rfl (wy_pr rfl) wt_158 wf_5_17 (n := 17) rfl ⟨(by omega), (by omega)⟩ ?_
                  refine wa_fall ⟨_, rfl⟩ ?_
                  refine wa_return rfl ?_
                  have ek : anK ty = 2 := by unfold anK; first | exact if_pos (by omega) | exact if_neg (by omega)
                  have eb : anB ty (anS sm []) = (wb_l2i sm) := by show anB ty sm = _; unfold anB; first | exact if_pos (by omega) | (rw [if_neg (by omega)]; first | exact if_pos (by omega) | exact if_neg (by omega))
                  rw [ek, eb]
                  exact ⟨rfl, rfl⟩
            · skip
              exact absurd c8 (by omega)
          · skip
            exact absurd c7 (by omega)
        · skip
          refine wa_fall ⟨_, rfl⟩ ?_
          refine wa_iconst ?_
          refine wa_goto ⟨_, rfl⟩ ?_
          refine wa_istore (n := 5) rfl ?_
          refine wa_aload_n (n := 0) rfl ?_
          refine wa_iload (n := 5) rfl ?_
          refine wa_ifeq (w_rg0 (by omega) (by omega)) ⟨_, rfl⟩ (fun c11 => ?_) (fun c11 => ?_)
          · skip
            exact absurd c11 (by omega)
          · skip
            refine wa_iconst ?_
            refine wa_goto ⟨_, rfl⟩ ?_
            refine wb_pfi 158 rfl (wy_pr rfl) wt_158 wf_5_16 (n := 16) rfl ⟨(by omega), (by omega)⟩ ?_
            refine wa_aload_n (n := 0) rfl ?_
            refine wa_iload (n := 5) rfl ?_
            refine wa_ifeq (w_rg0 (by omega) (by omega)) ⟨_, rfl⟩ (fun c12 => ?_) (fun c12 => ?_)
            · skip
              exact absurd c12 (by omega)
            · skip
              refine wa_lload_n (n := 3) rfl ?_
              refine wb_lconst (m := 1) rfl ?_
              refine wa_land ?_
              refine wa_goto ⟨_, rfl⟩ ?_
              refine wb_pfl 158 rfl (wy_pr rfl) wt_158 wf_5_17 (n := 17) rfl ⟨(by omega), (by omega)⟩ ?_
              refine wa_fall ⟨_, rfl⟩ ?_
              refine wa_return rfl ?_
              have ek : anK ty = 1 := by unfold anK; first | exact if_pos (by omega) | exact if_neg (by omega)
              have eb : anB ty (anS sm []) = (wb_land sm 1) := by show anB ty sm = _; unfold anB; first | exact if_pos (by omega) | (rw [if_neg (by omega)]; first | exact if_pos (by omega) | exact if_neg (by omega))
              rw [ek, eb]
              exact ⟨rfl, rfl⟩
    · skip
      exfalso; omega
  | succ f ih =>
    intro i sm hi
    have hil : i < es.length := by omega
    have he := hes i hil
    have he1 : S 217 (ba + 1 + (i : Int)) = (es.getD i (0, 0)).1 := he.1
    have he2 : S 218 (ba + 1 + (i : Int)) = (es.getD i (0, 0)).2 := he.2
    have hdr : es.drop i = es.getD i (0, 0) :: es.drop (i + 1) := by rw [List.drop_eq_getElem_cons hil, List.getD_eq_getElem?_getD, List.getElem?_eq_getElem hil]; rfl
    rw [hdr]
    refine wa_iload (n := 5) rfl ?_
    refine wa_aload_n (n := 0) rfl ?_
    refine wb_gfi 158 rfl (wy_pr rfl) wt_158 wf_5_12 (v := (es.length : Int)) (l12) (fun r51 => ?_)
    refine wa_icmpge (w_rg0 (by omega) (by omega)) (w_rg0 (by omega) (by omega)) ⟨_, rfl⟩ (fun c52 => ?_) (fun c52 => ?_)
    · skip
      exfalso; omega
    · skip
      refine wa_lload_n (n := 3) rfl ?_
      refine wa_aload_n (n := 0) rfl ?_
      refine wb_gf5 158 rfl (wy_pr rfl) wt_158 wf_5_5 (v := 216) (l5) (fun r53 => ?_)
      refine wb_gf4 216 rfl (wy_pr rfl) wt_216 wf_7_0 (v := 217) wl_216_0 ?_
      refine wa_aload_n (n := 0) rfl ?_
      refine wb_gfi 158 rfl (wy_pr rfl) wt_158 wf_5_8 (v := ba) (l8) (fun r54 => ?_)
      refine wa_iconst ?_
      refine wa_iadd ?_
      refine wa_iload (n := 5) rfl ?_
      refine wa_iadd ?_
      refine wb_bald 217 rfl (wy_pr rfl) wt_217 (n := (S 217 (-1))) (rfl) (by omega) (by omega) (v := (es.getD i (0, 0)).1) (he1) (fun r55 => ?_)
      refine wa_iconst ?_
      refine wa_icmpne (w_rg0 (by omega) (by omega)) (w_rg0 (by omega) (by omega)) ⟨_, rfl⟩ (fun c56 => ?_) (fun c56 => ?_)
      · skip
        refine wb_lconst (m := 0) rfl ?_
        refine wa_fall ⟨_, rfl⟩ ?_
        refine wa_ladd ?_
        refine wa_lstore_n (n := 3) rfl ?_
        refine wa_iinc rfl rfl ?_
        refine wa_goto ⟨_, rfl⟩ ?_
        have ea : anS sm (es.getD i (0, 0) :: es.drop (i + 1)) = anS (sm + 0) (es.drop (i + 1)) := by show anS (sm + (if (es.getD i (0, 0)).1 = 2 then (es.getD i (0, 0)).2 else 0)) (es.drop (i + 1)) = _; first | rw [if_pos (by omega)] | rw [if_neg (by omega)]
        rw [ea]
        exact wJ_S (ih (i + 1) (sm + 0) (by omega)) ⟨rfl, rfl, rfl, rfl, rfl, trivial⟩
      · skip
        refine wa_aload_n (n := 0) rfl ?_
        refine wb_gf5 158 rfl (wy_pr rfl) wt_158 wf_5_5 (v := 216) (l5) (fun r57 => ?_)
        refine wb_gf4 216 rfl (wy_pr rfl) wt_216 wf_7_1 (v := 218) wl_216_1 ?_
        refine wa_aload_n (n := 0) rfl ?_
        refine wb_gfi 158 rfl (wy_pr rfl) wt_158 wf_5_8 (v := ba) (l8) (fun r58 => ?_)
        refine wa_iconst ?_
        refine wa_iadd ?_
        refine wa_iload (n := 5) rfl ?_
        refine wa_iadd ?_
        refine wb_lald 218 rfl (wy_pr rfl) wt_218 (n := (S 217 (-1))) (hpl) (by omega) (by omega) (v := (es.getD i (0, 0)).2) (he2) (fun r59 => ?_)
        refine wa_goto ⟨_, rfl⟩ ?_
        refine wa_ladd ?_
        refine wa_lstore_n (n := 3) rfl ?_
        refine wa_iinc rfl rfl ?_
        refine wa_goto ⟨_, rfl⟩ ?_
        have ea : anS sm (es.getD i (0, 0) :: es.drop (i + 1)) = anS (sm + (es.getD i (0, 0)).2) (es.drop (i + 1)) := by show anS (sm + (if (es.getD i (0, 0)).1 = 2 then (es.getD i (0, 0)).2 else 0)) (es.drop (i + 1)) = _; first | rw [if_pos (by omega)] | rw [if_neg (by omega)]
        rw [ea]
        exact wJ_S (ih (i + 1) (sm + (es.getD i (0, 0)).2) (by omega)) ⟨rfl, rfl, rfl, rfl, rfl, trivial⟩
theorem ann_73_215 {m ty ba : Int} {es : List (Int × Int)} (hC : w_CL S) (h72 : S 72 1 = 73) (l5 : S 158 5 = 216) (l8 : S 158 8 = ba) (l12 : S 158 12 = (es.length : Int)) (hm : 0 ≤ m ∧ m < 400) (hty : S 100 m = ty) (htr : 1 ≤ ty ∧ ty ≤ 6) (hpl : S 218 (-1) = S 217 (-1)) (hpb : 0 ≤ ba ∧ ba + 1 + (es.length : Int) ≤ S 217 (-1) ∧ S 217 (-1) ≤ 4095) (hes : ∀ i : Nat, i < es.length → S 217 (ba + 1 + (i : Int)) = (es.getD i (0, 0)).1 ∧ S 218 (ba + 1 + (i : Int)) = (es.getD i (0, 0)).2) : wJ (pe_GA xs) wY0 M (d + 1) t_XL_answer ((pe_at t_XL_answer.bl 0).getD (0, [])).2 [(0, (2, 158)), (1, (0, m))] [] S (fun o Z => o = .inl none ∧ w_up (w_up S 158 16 (anK ty)) 158 17 (anB ty (anS m es)) = Z) := by
  refine wa_aload_n (n := 0) rfl ?_
  refine wb_gf4 158 rfl (wy_pr rfl) wt_158 wf_5_0 (v := 72) wl_158_0 ?_
  refine wb_gf5 72 rfl (wy_pr rfl) wt_72 wf_2_1 (v := 73) (h72) (fun r1 => ?_)
  refine wb_gf4 73 rfl (wy_pr rfl) wt_73 wf_3_3 (v := 96) wl_73_3 ?_
  refine wa_iconst ?_
  refine wb_aald5 96 3 rfl rfl (wy_pr rfl) wt_96 (by rw [show _ = _ from ((cl_96 hC))]; omega) wl_96_3 ?_
  refine wa_iload_n (n := 1) rfl ?_
  refine wb_iald 100 rfl (wy_pr rfl) wt_100 (n := 400) ((cl_100 hC)) (by omega) (by omega) (v := ty) (hty) (fun r2 => ?_)
  refine wa_istore_n (n := 2) rfl ?_
  refine wa_iload_n (n := 2) rfl ?_
  refine wa_bipush (w_rg2 (by omega) (by omega)) ?_
  refine wa_icmpne (w_rg0 (by omega) (by omega)) (w_rg0 (by omega) (by omega)) ⟨_, rfl⟩ (fun c3 => ?_) (fun c3 => ?_)
  · skip
    refine wa_iload_n (n := 2) rfl ?_
    refine wa_bipush (w_rg2 (by omega) (by omega)) ?_
    refine wa_icmplt (w_rg0 (by omega) (by omega)) (w_rg0 (by omega) (by omega)) ⟨_, rfl⟩ (fun c4 => ?_) (fun c4 => ?_)
    · skip
      refine wa_iload_n (n := 2) rfl ?_
      refine wa_ifeq (w_rg0 (by omega) (by omega)) ⟨_, rfl⟩ (fun c5 => ?_) (fun c5 => ?_)
      · skip
        exact absurd c5 (by omega)
      · skip
        refine wa_iload_n (n := 1) rfl ?_
        refine wa_i2l (w_rg0 (by omega) (by omega)) ?_
        refine wa_lstore_n (n := 3) rfl ?_
        refine wa_iconst ?_
        refine wa_istore (n := 5) rfl ?_
        refine wa_fall ⟨_, rfl⟩ ?_
        exact wJ_S (anl_73_215 hC h72 l5 l8 l12 hm hty htr hpl hpb hes es.length 0 m (by omega)) ⟨rfl, rfl, rfl, rfl, rfl, trivial⟩
    · skip
      exact absurd c4 (by omega)
  · skip
    exact absurd c3 (by omega)
theorem anv_73_215 {m : Int} (hC : w_CL S) (h72 : S 72 1 = 73) (hm : 0 ≤ m ∧ m < 400) (hty : S 100 m = 0) : wJ (pe_GA xs) wY0 M (d + 1) t_XL_answer ((pe_at t_XL_answer.bl 0).getD (0, [])).2 [(0, (2, 158)), (1, (0, m))] [] S (fun o Z => o = .inl none ∧ S = Z) := by
  refine wa_aload_n (n := 0) rfl ?_
  refine wb_gf4 158 rfl (wy_pr rfl) wt_158 wf_5_0 (v := 72) wl_158_0 ?_
  refine wb_gf5 72 rfl (wy_pr rfl) wt_72 wf_2_1 (v := 73) (h72) (fun r1 => ?_)
  refine wb_gf4 73 rfl (wy_pr rfl) wt_73 wf_3_3 (v := 96) wl_73_3 ?_
  refine wa_iconst ?_
  refine wb_aald5 96 3 rfl rfl (wy_pr rfl) wt_96 (by rw [show _ = _ from ((cl_96 hC))]; omega) wl_96_3 ?_
  refine wa_iload_n (n := 1) rfl ?_
  refine wb_iald 100 rfl (wy_pr rfl) wt_100 (n := 400) ((cl_100 hC)) (by omega) (by omega) (v := 0) (hty) (fun r2 => ?_)
  refine wa_istore_n (n := 2) rfl ?_
  refine wa_iload_n (n := 2) rfl ?_
  refine wa_bipush (w_rg2 (by omega) (by omega)) ?_
  refine wa_icmpne (w_rg0 (by omega) (by omega)) (w_rg0 (by omega) (by omega)) ⟨_, rfl⟩ (fun c3 => ?_) (fun c3 => ?_)
  · skip
    refine wa_iload_n (n := 2) rfl ?_
    refine wa_bipush (w_rg2 (by omega) (by omega)) ?_
    refine wa_icmplt (w_rg0 (by omega) (by omega)) (w_rg0 (by omega) (by omega)) ⟨_, rfl⟩ (fun c4 => ?_) (fun c4 => ?_)
    · skip
      refine wa_iload_n (n := 2) rfl ?_
      refine wa_ifeq (w_rg0 (by omega) (by omega)) ⟨_, rfl⟩ (fun c5 => ?_) (fun c5 => ?_)
      · skip
        refine wa_return rfl ?_
        exact ⟨rfl, rfl⟩
      · skip
        exact absurd c5 (by omega)
    · skip
      exact absurd c4 (by omega)
  · skip
    exact absurd c3 (by omega)
theorem anl_73_226 {m ty ba : Int} {es : List (Int × Int)} (hC : w_CL S) (h72 : S 72 1 = 73) (l5 : S 158 5 = 227) (l8 : S 158 8 = ba) (l12 : S 158 12 = (es.length : Int)) (hm : 0 ≤ m ∧ m < 400) (hty : S 100 m = ty) (htr : 1 ≤ ty ∧ ty ≤ 6) (hpl : S 229 (-1) = S 228 (-1)) (hpb : 0 ≤ ba ∧ ba + 1 + (es.length : Int) ≤ S 228 (-1) ∧ S 228 (-1) ≤ 4095) (hes : ∀ i : Nat, i < es.length → S 228 (ba + 1 + (i : Int)) = (es.getD i (0, 0)).1 ∧ S 229 (ba + 1 + (i : Int)) = (es.getD i (0, 0)).2) : ∀ (f i : Nat) (sm : Int), i + f = es.length → wJ (pe_GA xs) wY0 M (d + 1) t_XL_answer ((pe_at t_XL_answer.bl 5).getD (0, [])).2 [(0, (2, 158)), (1, (0, m)), (2, (0, ty)), (3, (1, sm)), (5, (0, (i : Int)))] [] S (fun o Z => o = .inl none ∧ w_up (w_up S 158 16 (anK ty)) 158 17 (anB ty (anS sm (es.drop i))) = Z) := by
  intro f
  induction f with
  | zero =>
    intro i sm hi
    rw [List.drop_of_length_le (by omega)]
    have hbx : ∀ z : Int, 0 ≤ wb_land z 1 ∧ wb_land z 1 ≤ 1 := fun z => land_1 z
    have hb0 := hbx sm
    have hl0 := wb_l2i_rg sm
    have hw0 := w64_rg sm
    refine wa_iload (n := 5) rfl ?_
    refine wa_aload_n (n := 0) rfl ?_
    refine wb_gfi 158 rfl (wy_pr rfl) wt_158 wf_5_12 (v := (es.length : Int)) (l12) (fun r1 => ?_)
    refine wa_icmpge (w_rg0 (by omega) (by omega)) (w_rg0 (by omega) (by omega)) ⟨_, rfl⟩ (fun c2 => ?_) (fun c2 => ?_)
    · skip
      refine wa_iload_n (n := 2) rfl ?_
      refine wa_iconst ?_
      refine wa_icmpeq (w_rg0 (by omega) (by omega)) (w_rg0 (by omega) (by omega)) ⟨_, rfl⟩ (fun c3 => ?_) (fun c3 => ?_)
      · skip
        refine wa_iconst ?_
        refine wa_goto ⟨_, rfl⟩ ?_
        refine wa_istore (n := 5) rfl ?_
        refine wa_aload_n (n := 0) rfl ?_
        refine wa_iload (n := 5) rfl ?_
        refine wa_ifeq (w_rg0 (by omega) (by omega)) ⟨_, rfl⟩ (fun c4 => ?_) (fun c4 => ?_)
        · skip
          exact absurd c4 (by omega)
        · skip
          refine wa_iconst ?_
          refine wa_goto ⟨_, rfl⟩ ?_
          refine wb_pfi 158 rfl (wy_pr rfl) wt_158 wf_5_16 (n := 16) rfl ⟨(by omega), (by omega)⟩ ?_
          refine wa_aload_n (n := 0) rfl ?_
          refine wa_iload (n := 5) rfl ?_
          refine wa_ifeq (w_rg0 (by omega) (by omega)) ⟨_, rfl⟩ (fun c5 => ?_) (fun c5 => ?_)
          · skip
            exact absurd c5 (by omega)
          · skip
            refine wa_lload_n (n := 3) rfl ?_
            refine wb_lconst (m := 1) rfl ?_
            refine wa_land ?_
            refine wa_goto ⟨_, rfl⟩ ?_
            refine wb_pfl 158 rfl (wy_pr rfl) wt_158 wf_5_17 (n := 17) rfl ⟨(by omega), (by omega)⟩ ?_
            refine wa_fall ⟨_, rfl⟩ ?_
            refine wa_return rfl ?_
            have ek : anK ty = 1 := by unfold anK; first | exact if_pos (by omega) | exact if_neg (by omega)
            have eb : anB ty (anS sm []) = (wb_land sm 1) := by show anB ty sm = _; unfold anB; first | exact if_pos (by omega) | (rw [if_neg (by omega)]; first | exact if_pos (by omega) | exact if_neg (by omega))
            rw [ek, eb]
            exact ⟨rfl, rfl⟩
      · skip
        refine wa_iload_n (n := 2) rfl ?_
        refine wa_bipush (w_rg2 (by omega) (by omega)) ?_
        refine wa_icmpne (w_rg0 (by omega) (by omega)) (w_rg0 (by omega) (by omega)) ⟨_, rfl⟩ (fun c6 => ?_) (fun c6 => ?_)
        · skip
          refine wa_iconst ?_
          refine wa_fall ⟨_, rfl⟩ ?_
          refine wa_istore (n := 5) rfl ?_
          refine wa_aload_n (n := 0) rfl ?_
          refine wa_iload (n := 5) rfl ?_
          refine wa_ifeq (w_rg0 (by omega) (by omega)) ⟨_, rfl⟩ (fun c7 => ?_) (fun c7 => ?_)
          · skip
            refine wa_iconst ?_
            refine wa_fall ⟨_, rfl⟩ ?_
            refine wb_pfi 158 rfl (wy_pr rfl) wt_158 wf_5_16 (n := 16) rfl ⟨(by omega), (by omega)⟩ ?_
            refine wa_aload_n (n := 0) rfl ?_
            refine wa_iload (n := 5) rfl ?_
            refine wa_ifeq (w_rg0 (by omega) (by omega)) ⟨_, rfl⟩ (fun c8 => ?_) (fun c8 => ?_)
            · skip
              refine wa_iload_n (n := 2) rfl ?_
              refine wa_iconst ?_
              refine wa_icmpeq (w_rg0 (by omega) (by omega)) (w_rg0 (by omega) (by omega)) ⟨_, rfl⟩ (fun c9 => ?_) (fun c9 => ?_)
              · skip
                refine wa_lload_n (n := 3) rfl ?_
                refine wa_l2i ?_
                refine wa_i2l (w_rg0 (by omega) (by omega)) ?_
                refine wa_goto ⟨_, rfl⟩ ?_
                refine wb_pfl 158 rfl (wy_pr rfl) wt_158 wf_5_17 (n := 17) rfl ⟨(by omega), (by omega)⟩ ?_
                refine wa_fall ⟨_, rfl⟩ ?_
                refine wa_return rfl ?_
                have ek : anK ty = 2 := by unfold anK; first | exact if_pos (by omega) | exact if_neg (by omega)
                have eb : anB ty (anS sm []) = (wb_l2i sm) := by show anB ty sm = _; unfold anB; first | exact if_pos (by omega) | (rw [if_neg (by omega)]; first | exact if_pos (by omega) | exact if_neg (by omega))
                rw [ek, eb]
                exact ⟨rfl, rfl⟩
              · skip
                refine wa_iload_n (n := 2) rfl ?_
                refine wa_iconst ?_
                refine wa_icmpne (w_rg0 (by omega) (by omega)) (w_rg0 (by omega) (by omega)) ⟨_, rfl⟩ (fun c10 => ?_) (fun c10 => ?_)
                · skip
                  refine wa_lload_n (n := 3) rfl ?_
                  refine wa_fall ⟨_, rfl⟩ ?_
                  refine wJ_n1 (w64_o _) ?_
                  refine wb_pfl 158 rfl (wy_pr rfl) wt_158 wf_5_17 (n := 17) rfl ⟨(by omega), (by omega)⟩ ?_
                  refine wa_fall ⟨_, rfl⟩ ?_
                  refine wa_return rfl ?_
                  have ek : anK ty = 2 := by unfold anK; first | exact if_pos (by omega) | exact if_neg (by omega)
                  have eb : anB ty (anS sm []) = (w64 sm) := by show anB ty sm = _; unfold anB; first | exact if_pos (by omega) | (rw [if_neg (by omega)]; first | exact if_pos (by omega) | exact if_neg (by omega))
                  rw [ek, eb]
                  exact ⟨rfl, rfl⟩
                · skip
                  refine wa_fall ⟨_, rfl⟩ ?_
                  refine wa_lload_n (n := 3) rfl ?_
                  refine wa_l2i ?_
                  refine wa_i2l (w_rg0 (by omega) (by omega)) ?_
                  refine wa_goto ⟨_, rfl⟩ ?_
                  refine wb_pfl 158 rfl (wy_pr rfl) wt_158 wf_5_17 (n := 17) rfl ⟨(by omega), (by omega)⟩ ?_
                  refine wa_fall ⟨_, rfl⟩ ?_
                  refine wa_return rfl ?_
                  have ek : anK ty = 2 := by unfold anK; first | exact if_pos (by omega) | exact if_neg (by omega)
                  have eb : anB ty (anS sm []) = (wb_l2i sm) := by show anB ty sm = _; unfold anB; first | exact if_pos (by omega) | (rw [if_neg (by omega)]; first | exact if_pos (by omega) | exact if_neg (by omega))
                  rw [ek, eb]
                  exact ⟨rfl, rfl⟩
            · skip
              exact absurd c8 (by omega)
          · skip
            exact absurd c7 (by omega)
        · skip
          refine wa_fall ⟨_, rfl⟩ ?_
          refine wa_iconst ?_
          refine wa_goto ⟨_, rfl⟩ ?_
          refine wa_istore (n := 5) rfl ?_
          refine wa_aload_n (n := 0) rfl ?_
          refine wa_iload (n := 5) rfl ?_
          refine wa_ifeq (w_rg0 (by omega) (by omega)) ⟨_, rfl⟩ (fun c11 => ?_) (fun c11 => ?_)
          · skip
            exact absurd c11 (by omega)
          · skip
            refine wa_iconst ?_
            refine wa_goto ⟨_, rfl⟩ ?_
            refine wb_pfi 158 rfl (wy_pr rfl) wt_158 wf_5_16 (n := 16) rfl ⟨(by omega), (by omega)⟩ ?_
            refine wa_aload_n (n := 0) rfl ?_
            refine wa_iload (n := 5) rfl ?_
            refine wa_ifeq (w_rg0 (by omega) (by omega)) ⟨_, rfl⟩ (fun c12 => ?_) (fun c12 => ?_)
            · skip
              exact absurd c12 (by omega)
            · skip
              refine wa_lload_n (n := 3) rfl ?_
              refine wb_lconst (m := 1) rfl ?_
              refine wa_land ?_
              refine wa_goto ⟨_, rfl⟩ ?_
              refine wb_pfl 158 rfl (wy_pr rfl) wt_158 wf_5_17 (n := 17) rfl ⟨(by omega), (by omega)⟩ ?_
              refine wa_fall ⟨_, rfl⟩ ?_
              refine wa_return rfl ?_
              have ek : anK ty = 1 := by unfold anK; first | exact if_pos (by omega) | exact if_neg (by omega)
              have eb : anB ty (anS sm []) = (wb_land sm 1) := by show anB ty sm = _; unfold anB; first | exact if_pos (by omega) | (rw [if_neg (by omega)]; first | exact if_pos (by omega) | exact if_neg (by omega))
              rw [ek, eb]
              exact ⟨rfl, rfl⟩
    · skip
      exfalso; omega
  | succ f ih =>
    intro i sm hi
    have hil : i < es.length := by omega
    have he := hes i hil
    have he1 : S 228 (ba + 1 + (i : Int)) = (es.getD i (0, 0)).1 := he.1
    have he2 : S 229 (ba + 1 + (i : Int)) = (es.getD i (0, 0)).2 := he.2
    have hdr : es.drop i = es.getD i (0, 0) :: es.drop (i + 1) := by rw [List.drop_eq_getElem_cons hil, List.getD_eq_getElem?_getD, List.getElem?_eq_getElem hil]; rfl
    rw [hdr]
    refine wa_iload (n := 5) rfl ?_
    refine wa_aload_n (n := 0) rfl ?_
    refine wb_gfi 158 rfl (wy_pr rfl) wt_158 wf_5_12 (v := (es.length : Int)) (l12) (fun r51 => ?_)
    refine wa_icmpge (w_rg0 (by omega) (by omega)) (w_rg0 (by omega) (by omega)) ⟨_, rfl⟩ (fun c52 => ?_) (fun c52 => ?_)
    · skip
      exfalso; omega
    · skip
      refine wa_lload_n (n := 3) rfl ?_
      refine wa_aload_n (n := 0) rfl ?_
      refine wb_gf5 158 rfl (wy_pr rfl) wt_158 wf_5_5 (v := 227) (l5) (fun r53 => ?_)
      refine wb_gf4 227 rfl (wy_pr rfl) wt_227 wf_7_0 (v := 228) wl_227_0 ?_
      refine wa_aload_n (n := 0) rfl ?_
      refine wb_gfi 158 rfl (wy_pr rfl) wt_158 wf_5_8 (v := ba) (l8) (fun r54 => ?_)
      refine wa_iconst ?_
      refine wa_iadd ?_
      refine wa_iload (n := 5) rfl ?_
      refine wa_iadd ?_
      refine wb_bald 228 rfl (wy_pr rfl) wt_228 (n := (S 228 (-1))) (rfl) (by omega) (by omega) (v := (es.getD i (0, 0)).1) (he1) (fun r55 => ?_)
      refine wa_iconst ?_
      refine wa_icmpne (w_rg0 (by omega) (by omega)) (w_rg0 (by omega) (by omega)) ⟨_, rfl⟩ (fun c56 => ?_) (fun c56 => ?_)
      · skip
        refine wb_lconst (m := 0) rfl ?_
        refine wa_fall ⟨_, rfl⟩ ?_
        refine wa_ladd ?_
        refine wa_lstore_n (n := 3) rfl ?_
        refine wa_iinc rfl rfl ?_
        refine wa_goto ⟨_, rfl⟩ ?_
        have ea : anS sm (es.getD i (0, 0) :: es.drop (i + 1)) = anS (sm + 0) (es.drop (i + 1)) := by show anS (sm + (if (es.getD i (0, 0)).1 = 2 then (es.getD i (0, 0)).2 else 0)) (es.drop (i + 1)) = _; first | rw [if_pos (by omega)] | rw [if_neg (by omega)]
        rw [ea]
        exact wJ_S (ih (i + 1) (sm + 0) (by omega)) ⟨rfl, rfl, rfl, rfl, rfl, trivial⟩
      · skip
        refine wa_aload_n (n := 0) rfl ?_
        refine wb_gf5 158 rfl (wy_pr rfl) wt_158 wf_5_5 (v := 227) (l5) (fun r57 => ?_)
        refine wb_gf4 227 rfl (wy_pr rfl) wt_227 wf_7_1 (v := 229) wl_227_1 ?_
        refine wa_aload_n (n := 0) rfl ?_
        refine wb_gfi 158 rfl (wy_pr rfl) wt_158 wf_5_8 (v := ba) (l8) (fun r58 => ?_)
        refine wa_iconst ?_
        refine wa_iadd ?_
        refine wa_iload (n := 5) rfl ?_
        refine wa_iadd ?_
        refine wb_lald 229 rfl (wy_pr rfl) wt_229 (n := (S 228 (-1))) (hpl) (by omega) (by omega) (v := (es.getD i (0, 0)).2) (he2) (fun r59 => ?_)
        refine wa_goto ⟨_, rfl⟩ ?_
        refine wa_ladd ?_
        refine wa_lstore_n (n := 3) rfl ?_
        refine wa_iinc rfl rfl ?_
        refine wa_goto ⟨_, rfl⟩ ?_
        have ea : anS sm (es.getD i (0, 0) :: es.drop (i + 1)) = anS (sm + (es.getD i (0, 0)).2) (es.drop (i + 1)) := by show anS (sm + (if (es.getD i (0, 0)).1 = 2 then (es.getD i (0, 0)).2 else 0)) (es.drop (i + 1)) = _; first | rw [if_pos (by omega)] | rw [if_neg (by omega)]
        rw [ea]
        exact wJ_S (ih (i + 1) (sm + (es.getD i (0, 0)).2) (by omega)) ⟨rfl, rfl, rfl, rfl, rfl, trivial⟩
theorem ann_73_226 {m ty ba : Int} {es : List (Int × Int)} (hC : w_CL S) (h72 : S 72 1 = 73) (l5 : S 158 5 = 227) (l8 : S 158 8 = ba) (l12 : S 158 12 = (es.length : Int)) (hm : 0 ≤ m ∧ m < 400) (hty : S 100 m = ty) (htr : 1 ≤ ty ∧ ty ≤ 6) (hpl : S 229 (-1) = S 228 (-1)) (hpb : 0 ≤ ba ∧ ba + 1 + (es.length : Int) ≤ S 228 (-1) ∧ S 228 (-1) ≤ 4095) (hes : ∀ i : Nat, i < es.length → S 228 (ba + 1 + (i : Int)) = (es.getD i (0, 0)).1 ∧ S 229 (ba + 1 + (i : Int)) = (es.getD i (0, 0)).2) : wJ (pe_GA xs) wY0 M (d + 1) t_XL_answer ((pe_at t_XL_answer.bl 0).getD (0, [])).2 [(0, (2, 158)), (1, (0, m))] [] S (fun o Z => o = .inl none ∧ w_up (w_up S 158 16 (anK ty)) 158 17 (anB ty (anS m es)) = Z) := by
  refine wa_aload_n (n := 0) rfl ?_
  refine wb_gf4 158 rfl (wy_pr rfl) wt_158 wf_5_0 (v := 72) wl_158_0 ?_
  refine wb_gf5 72 rfl (wy_pr rfl) wt_72 wf_2_1 (v := 73) (h72) (fun r1 => ?_)
  refine wb_gf4 73 rfl (wy_pr rfl) wt_73 wf_3_3 (v := 96) wl_73_3 ?_
  refine wa_iconst ?_
  refine wb_aald5 96 3 rfl rfl (wy_pr rfl) wt_96 (by rw [show _ = _ from ((cl_96 hC))]; omega) wl_96_3 ?_
  refine wa_iload_n (n := 1) rfl ?_
  refine wb_iald 100 rfl (wy_pr rfl) wt_100 (n := 400) ((cl_100 hC)) (by omega) (by omega) (v := ty) (hty) (fun r2 => ?_)
  refine wa_istore_n (n := 2) rfl ?_
  refine wa_iload_n (n := 2) rfl ?_
  refine wa_bipush (w_rg2 (by omega) (by omega)) ?_
  refine wa_icmpne (w_rg0 (by omega) (by omega)) (w_rg0 (by omega) (by omega)) ⟨_, rfl⟩ (fun c3 => ?_) (fun c3 => ?_)
  · skip
    refine wa_iload_n (n := 2) rfl ?_
    refine wa_bipush (w_rg2 (by omega) (by omega)) ?_
    refine wa_icmplt (w_rg0 (by omega) (by omega)) (w_rg0 (by omega) (by omega)) ⟨_, rfl⟩ (fun c4 => ?_) (fun c4 => ?_)
    · skip
      refine wa_iload_n (n := 2) rfl ?_
      refine wa_ifeq (w_rg0 (by omega) (by omega)) ⟨_, rfl⟩ (fun c5 => ?_) (fun c5 => ?_)
      · skip
        exact absurd c5 (by omega)
      · skip
        refine wa_iload_n (n := 1) rfl ?_
        refine wa_i2l (w_rg0 (by omega) (by omega)) ?_
        refine wa_lstore_n (n := 3) rfl ?_
        refine wa_iconst ?_
        refine wa_istore (n := 5) rfl ?_
        refine wa_fall ⟨_, rfl⟩ ?_
        exact wJ_S (anl_73_226 hC h72 l5 l8 l12 hm hty htr hpl hpb hes es.length 0 m (by omega)) ⟨rfl, rfl, rfl, rfl, rfl, trivial⟩
    · skip
      exact absurd c4 (by omega)
  · skip
    exact absurd c3 (by omega)
theorem anl_162_215 {m ty ba : Int} {es : List (Int × Int)} (hC : w_CL S) (h72 : S 72 1 = 162) (l5 : S 158 5 = 216) (l8 : S 158 8 = ba) (l12 : S 158 12 = (es.length : Int)) (hm : 0 ≤ m ∧ m < 400) (hty : S 189 m = ty) (htr : 1 ≤ ty ∧ ty ≤ 6) (hpl : S 218 (-1) = S 217 (-1)) (hpb : 0 ≤ ba ∧ ba + 1 + (es.length : Int) ≤ S 217 (-1) ∧ S 217 (-1) ≤ 4095) (hes : ∀ i : Nat, i < es.length → S 217 (ba + 1 + (i : Int)) = (es.getD i (0, 0)).1 ∧ S 218 (ba + 1 + (i : Int)) = (es.getD i (0, 0)).2) : ∀ (f i : Nat) (sm : Int), i + f = es.length → wJ (pe_GA xs) wY0 M (d + 1) t_XL_answer ((pe_at t_XL_answer.bl 5).getD (0, [])).2 [(0, (2, 158)), (1, (0, m)), (2, (0, ty)), (3, (1, sm)), (5, (0, (i : Int)))] [] S (fun o Z => o = .inl none ∧ w_up (w_up S 158 16 (anK ty)) 158 17 (anB ty (anS sm (es.drop i))) = Z) := by
  intro f
  induction f with
  | zero =>
    intro i sm hi
    rw [List.drop_of_length_le (by omega)]
    have hbx : ∀ z : Int, 0 ≤ wb_land z 1 ∧ wb_land z 1 ≤ 1 := fun z => land_1 z
    have hb0 := hbx sm
    have hl0 := wb_l2i_rg sm
    have hw0 := w64_rg sm
    refine wa_iload (n := 5) rfl ?_
    refine wa_aload_n (n := 0) rfl ?_
    refine wb_gfi 158 rfl (wy_pr rfl) wt_158 wf_5_12 (v := (es.length : Int)) (l12) (fun r1 => ?_)
    refine wa_icmpge (w_rg0 (by omega) (by omega)) (w_rg0 (by omega) (by omega)) ⟨_, rfl⟩ (fun c2 => ?_) (fun c2 => ?_)
    · skip
      refine wa_iload_n (n := 2) rfl ?_
      refine wa_iconst ?_
      refine wa_icmpeq (w_rg0 (by omega) (by omega)) (w_rg0 (by omega) (by omega)) ⟨_, rfl⟩ (fun c3 => ?_) (fun c3 => ?_)
      · skip
        refine wa_iconst ?_
        refine wa_goto ⟨_, rfl⟩ ?_
        refine wa_istore (n := 5) rfl ?_
        refine wa_aload_n (n := 0) rfl ?_
        refine wa_iload (n := 5) rfl ?_
        refine wa_ifeq (w_rg0 (by omega) (by omega)) ⟨_, rfl⟩ (fun c4 => ?_) (fun c4 => ?_)
        · skip
          exact absurd c4 (by omega)
        · skip
          refine wa_iconst ?_
          refine wa_goto ⟨_, rfl⟩ ?_
          refine wb_pfi 158 rfl (wy_pr rfl) wt_158 wf_5_16 (n := 16) rfl ⟨(by omega), (by omega)⟩ ?_
          refine wa_aload_n (n := 0) rfl ?_
          refine wa_iload (n := 5) rfl ?_
          refine wa_ifeq (w_rg0 (by omega) (by omega)) ⟨_, rfl⟩ (fun c5 => ?_) (fun c5 => ?_)
          · skip
            exact absurd c5 (by omega)
          · skip
            refine wa_lload_n (n := 3) rfl ?_
            refine wb_lconst (m := 1) rfl ?_
            refine wa_land ?_
            refine wa_goto ⟨_, rfl⟩ ?_
            refine wb_pfl 158 rfl (wy_pr rfl) wt_158 wf_5_17 (n := 17) rfl ⟨(by omega), (by omega)⟩ ?_
            refine wa_fall ⟨_, rfl⟩ ?_
            refine wa_return rfl ?_
            have ek : anK ty = 1 := by unfold anK; first | exact if_pos (by omega) | exact if_neg (by omega)
            have eb : anB ty (anS sm []) = (wb_land sm 1) := by show anB ty sm = _; unfold anB; first | exact if_pos (by omega) | (rw [if_neg (by omega)]; first | exact if_pos (by omega) | exact if_neg (by omega))
            rw [ek, eb]
            exact ⟨rfl, rfl⟩
      · skip
        refine wa_iload_n (n := 2) rfl ?_
        refine wa_bipush (w_rg2 (by omega) (by omega)) ?_
        refine wa_icmpne (w_rg0 (by omega) (by omega)) (w_rg0 (by omega) (by omega)) ⟨_, rfl⟩ (fun c6 => ?_) (fun c6 => ?_)
        · skip
          refine wa_iconst ?_
          refine wa_fall ⟨_, rfl⟩ ?_
          refine wa_istore (n := 5) rfl ?_
          refine wa_aload_n (n := 0) rfl ?_
          refine wa_iload (n := 5) rfl ?_
          refine wa_ifeq (w_rg0 (by omega) (by omega)) ⟨_, rfl⟩ (fun c7 => ?_) (fun c7 => ?_)
          · skip
            refine wa_iconst ?_
            refine wa_fall ⟨_, rfl⟩ ?_
            refine wb_pfi 158 rfl (wy_pr rfl) wt_158 wf_5_16 (n := 16) rfl ⟨(by omega), (by omega)⟩ ?_
            refine wa_aload_n (n := 0) rfl ?_
            refine wa_iload (n := 5) rfl ?_
            refine wa_ifeq (w_rg0 (by omega) (by omega)) ⟨_, rfl⟩ (fun c8 => ?_) (fun c8 => ?_)
            · skip
              refine wa_iload_n (n := 2) rfl ?_
              refine wa_iconst ?_
              refine wa_icmpeq (w_rg0 (by omega) (by omega)) (w_rg0 (by omega) (by omega)) ⟨_, rfl⟩ (fun c9 => ?_) (fun c9 => ?_)
              · skip
                refine wa_lload_n (n := 3) rfl ?_
                refine wa_l2i ?_
                refine wa_i2l (w_rg0 (by omega) (by omega)) ?_
                refine wa_goto ⟨_, rfl⟩ ?_
                refine wb_pfl 158 rfl (wy_pr rfl) wt_158 wf_5_17 (n := 17) rfl ⟨(by omega), (by omega)⟩ ?_
                refine wa_fall ⟨_, rfl⟩ ?_
                refine wa_return rfl ?_
                have ek : anK ty = 2 := by unfold anK; first | exact if_pos (by omega) | exact if_neg (by omega)
                have eb : anB ty (anS sm []) = (wb_l2i sm) := by show anB ty sm = _; unfold anB; first | exact if_pos (by omega) | (rw [if_neg (by omega)]; first | exact if_pos (by omega) | exact if_neg (by omega))
                rw [ek, eb]
                exact ⟨rfl, rfl⟩
              · skip
                refine wa_iload_n (n := 2) rfl ?_
                refine wa_iconst ?_
                refine wa_icmpne (w_rg0 (by omega) (by omega)) (w_rg0 (by omega) (by omega)) ⟨_, rfl⟩ (fun c10 => ?_) (fun c10 => ?_)
                · skip
                  refine wa_lload_n (n := 3) rfl ?_
                  refine wa_fall ⟨_, rfl⟩ ?_
                  refine wJ_n1 (w64_o _) ?_
                  refine wb_pfl 158 rfl (wy_pr rfl) wt_158 wf_5_17 (n := 17) rfl ⟨(by omega), (by omega)⟩ ?_
                  refine wa_fall ⟨_, rfl⟩ ?_
                  refine wa_return rfl ?_
                  have ek : anK ty = 2 := by unfold anK; first | exact if_pos (by omega) | exact if_neg (by omega)
                  have eb : anB ty (anS sm []) = (w64 sm) := by show anB ty sm = _; unfold anB; first | exact if_pos (by omega) | (rw [if_neg (by omega)]; first | exact if_pos (by omega) | exact if_neg (by omega))
                  rw [ek, eb]
                  exact ⟨rfl, rfl⟩
                · skip
                  refine wa_fall ⟨_, rfl⟩ ?_
                  refine wa_lload_n (n := 3) rfl ?_
                  refine wa_l2i ?_
                  refine wa_i2l (w_rg0 (by omega) (by omega)) ?_
                  refine wa_goto ⟨_, rfl⟩ ?_
                  refine wb_pfl 158 rfl (wy_pr rfl) wt_158 wf_5_17 (n := 17) rfl ⟨(by omega), (by omega)⟩ ?_
                  refine wa_fall ⟨_, rfl⟩ ?_
                  refine wa_return rfl ?_
                  have ek : anK ty = 2 := by unfold anK; first | exact if_pos (by omega) | exact if_neg (by omega)
                  have eb : anB ty (anS sm []) = (wb_l2i sm) := by show anB ty sm = _; unfold anB; first | exact if_pos (by omega) | (rw [if_neg (by omega)]; first | exact if_pos (by omega) | exact if_neg (by omega))
                  rw [ek, eb]
                  exact ⟨rfl, rfl⟩
            · skip
              exact absurd c8 (by omega)
          · skip
            exact absurd c7 (by omega)
        · skip
          refine wa_fall ⟨_, rfl⟩ ?_
          refine wa_iconst ?_
          refine wa_goto ⟨_, rfl⟩ ?_
          refine wa_istore (n := 5) rfl ?_
          refine wa_aload_n (n := 0) rfl ?_
          refine wa_iload (n := 5) rfl ?_
          refine wa_ifeq (w_rg0 (by omega) (by omega)) ⟨_, rfl⟩ (fun c11 => ?_) (fun c11 => ?_)
          · skip
            exact absurd c11 (by omega)
          · skip
            refine wa_iconst ?_
            refine wa_goto ⟨_, rfl⟩ ?_
            refine wb_pfi 158 rfl (wy_pr rfl) wt_158 wf_5_16 (n := 16) rfl ⟨(by omega), (by omega)⟩ ?_
            refine wa_aload_n (n := 0) rfl ?_
            refine wa_iload (n := 5) rfl ?_
            refine wa_ifeq (w_rg0 (by omega) (by omega)) ⟨_, rfl⟩ (fun c12 => ?_) (fun c12 => ?_)
            · skip
              exact absurd c12 (by omega)
            · skip
              refine wa_lload_n (n := 3) rfl ?_
              refine wb_lconst (m := 1) rfl ?_
              refine wa_land ?_
              refine wa_goto ⟨_, rfl⟩ ?_
              refine wb_pfl 158 rfl (wy_pr rfl) wt_158 wf_5_17 (n := 17) rfl ⟨(by omega), (by omega)⟩ ?_
              refine wa_fall ⟨_, rfl⟩ ?_
              refine wa_return rfl ?_
              have ek : anK ty = 1 := by unfold anK; first | exact if_pos (by omega) | exact if_neg (by omega)
              have eb : anB ty (anS sm []) = (wb_land sm 1) := by show anB ty sm = _; unfold anB; first | exact if_pos (by omega) | (rw [if_neg (by omega)]; first | exact if_pos (by omega) | exact if_neg (by omega))
              rw [ek, eb]
              exact ⟨rfl, rfl⟩
    · skip
      exfalso; omega
  | succ f ih =>
    intro i sm hi
    have hil : i < es.length := by omega
    have he := hes i hil
    have he1 : S 217 (ba + 1 + (i : Int)) = (es.getD i (0, 0)).1 := he.1
    have he2 : S 218 (ba + 1 + (i : Int)) = (es.getD i (0, 0)).2 := he.2
    have hdr : es.drop i = es.getD i (0, 0) :: es.drop (i + 1) := by rw [List.drop_eq_getElem_cons hil, List.getD_eq_getElem?_getD, List.getElem?_eq_getElem hil]; rfl
    rw [hdr]
    refine wa_iload (n := 5) rfl ?_
    refine wa_aload_n (n := 0) rfl ?_
    refine wb_gfi 158 rfl (wy_pr rfl) wt_158 wf_5_12 (v := (es.length : Int)) (l12) (fun r51 => ?_)
    refine wa_icmpge (w_rg0 (by omega) (by omega)) (w_rg0 (by omega) (by omega)) ⟨_, rfl⟩ (fun c52 => ?_) (fun c52 => ?_)
    · skip
      exfalso; omega
    · skip
      refine wa_lload_n (n := 3) rfl ?_
      refine wa_aload_n (n := 0) rfl ?_
      refine wb_gf5 158 rfl (wy_pr rfl) wt_158 wf_5_5 (v := 216) (l5) (fun r53 => ?_)
      refine wb_gf4 216 rfl (wy_pr rfl) wt_216 wf_7_0 (v := 217) wl_216_0 ?_
      refine wa_aload_n (n := 0) rfl ?_
      refine wb_gfi 158 rfl (wy_pr rfl) wt_158 wf_5_8 (v := ba) (l8) (fun r54 => ?_)
      refine wa_iconst ?_
      refine wa_iadd ?_
      refine wa_iload (n := 5) rfl ?_
      refine wa_iadd ?_
      refine wb_bald 217 rfl (wy_pr rfl) wt_217 (n := (S 217 (-1))) (rfl) (by omega) (by omega) (v := (es.getD i (0, 0)).1) (he1) (fun r55 => ?_)
      refine wa_iconst ?_
      refine wa_icmpne (w_rg0 (by omega) (by omega)) (w_rg0 (by omega) (by omega)) ⟨_, rfl⟩ (fun c56 => ?_) (fun c56 => ?_)
      · skip
        refine wb_lconst (m := 0) rfl ?_
        refine wa_fall ⟨_, rfl⟩ ?_
        refine wa_ladd ?_
        refine wa_lstore_n (n := 3) rfl ?_
        refine wa_iinc rfl rfl ?_
        refine wa_goto ⟨_, rfl⟩ ?_
        have ea : anS sm (es.getD i (0, 0) :: es.drop (i + 1)) = anS (sm + 0) (es.drop (i + 1)) := by show anS (sm + (if (es.getD i (0, 0)).1 = 2 then (es.getD i (0, 0)).2 else 0)) (es.drop (i + 1)) = _; first | rw [if_pos (by omega)] | rw [if_neg (by omega)]
        rw [ea]
        exact wJ_S (ih (i + 1) (sm + 0) (by omega)) ⟨rfl, rfl, rfl, rfl, rfl, trivial⟩
      · skip
        refine wa_aload_n (n := 0) rfl ?_
        refine wb_gf5 158 rfl (wy_pr rfl) wt_158 wf_5_5 (v := 216) (l5) (fun r57 => ?_)
        refine wb_gf4 216 rfl (wy_pr rfl) wt_216 wf_7_1 (v := 218) wl_216_1 ?_
        refine wa_aload_n (n := 0) rfl ?_
        refine wb_gfi 158 rfl (wy_pr rfl) wt_158 wf_5_8 (v := ba) (l8) (fun r58 => ?_)
        refine wa_iconst ?_
        refine wa_iadd ?_
        refine wa_iload (n := 5) rfl ?_
        refine wa_iadd ?_
        refine wb_lald 218 rfl (wy_pr rfl) wt_218 (n := (S 217 (-1))) (hpl) (by omega) (by omega) (v := (es.getD i (0, 0)).2) (he2) (fun r59 => ?_)
        refine wa_goto ⟨_, rfl⟩ ?_
        refine wa_ladd ?_
        refine wa_lstore_n (n := 3) rfl ?_
        refine wa_iinc rfl rfl ?_
        refine wa_goto ⟨_, rfl⟩ ?_
        have ea : anS sm (es.getD i (0, 0) :: es.drop (i + 1)) = anS (sm + (es.getD i (0, 0)).2) (es.drop (i + 1)) := by show anS (sm + (if (es.getD i (0, 0)).1 = 2 then (es.getD i (0, 0)).2 else 0)) (es.drop (i + 1)) = _; first | rw [if_pos (by omega)] | rw [if_neg (by omega)]
        rw [ea]
        exact wJ_S (ih (i + 1) (sm + (es.getD i (0, 0)).2) (by omega)) ⟨rfl, rfl, rfl, rfl, rfl, trivial⟩
theorem ann_162_215 {m ty ba : Int} {es : List (Int × Int)} (hC : w_CL S) (h72 : S 72 1 = 162) (l5 : S 158 5 = 216) (l8 : S 158 8 = ba) (l12 : S 158 12 = (es.length : Int)) (hm : 0 ≤ m ∧ m < 400) (hty : S 189 m = ty) (htr : 1 ≤ ty ∧ ty ≤ 6) (hpl : S 218 (-1) = S 217 (-1)) (hpb : 0 ≤ ba ∧ ba + 1 + (es.length : Int) ≤ S 217 (-1) ∧ S 217 (-1) ≤ 4095) (hes : ∀ i : Nat, i < es.length → S 217 (ba + 1 + (i : Int)) = (es.getD i (0, 0)).1 ∧ S 218 (ba + 1 + (i : Int)) = (es.getD i (0, 0)).2) : wJ (pe_GA xs) wY0 M (d + 1) t_XL_answer ((pe_at t_XL_answer.bl 0).getD (0, [])).2 [(0, (2, 158)), (1, (0, m))] [] S (fun o Z => o = .inl none ∧ w_up (w_up S 158 16 (anK ty)) 158 17 (anB ty (anS m es)) = Z) := by
  refine wa_aload_n (n := 0) rfl ?_
  refine wb_gf4 158 rfl (wy_pr rfl) wt_158 wf_5_0 (v := 72) wl_158_0 ?_
  refine wb_gf5 72 rfl (wy_pr rfl) wt_72 wf_2_1 (v := 162) (h72) (fun r1 => ?_)
  refine wb_gf4 162 rfl (wy_pr rfl) wt_162 wf_3_3 (v := 185) wl_162_3 ?_
  refine wa_iconst ?_
  refine wb_aald5 185 3 rfl rfl (wy_pr rfl) wt_185 (by rw [show _ = _ from ((cl_185 hC))]; omega) wl_185_3 ?_
  refine wa_iload_n (n := 1) rfl ?_
  refine wb_iald 189 rfl (wy_pr rfl) wt_189 (n := 400) ((cl_189 hC)) (by omega) (by omega) (v := ty) (hty) (fun r2 => ?_)
  refine wa_istore_n (n := 2) rfl ?_
  refine wa_iload_n (n := 2) rfl ?_
  refine wa_bipush (w_rg2 (by omega) (by omega)) ?_
  refine wa_icmpne (w_rg0 (by omega) (by omega)) (w_rg0 (by omega) (by omega)) ⟨_, rfl⟩ (fun c3 => ?_) (fun c3 => ?_)
  · skip
    refine wa_iload_n (n := 2) rfl ?_
    refine wa_bipush (w_rg2 (by omega) (by omega)) ?_
    refine wa_icmplt (w_rg0 (by omega) (by omega)) (w_rg0 (by omega) (by omega)) ⟨_, rfl⟩ (fun c4 => ?_) (fun c4 => ?_)
    · skip
      refine wa_iload_n (n := 2) rfl ?_
      refine wa_ifeq (w_rg0 (by omega) (by omega)) ⟨_, rfl⟩ (fun c5 => ?_) (fun c5 => ?_)
      · skip
        exact absurd c5 (by omega)
      · skip
        refine wa_iload_n (n := 1) rfl ?_
        refine wa_i2l (w_rg0 (by omega) (by omega)) ?_
        refine wa_lstore_n (n := 3) rfl ?_
        refine wa_iconst ?_
        refine wa_istore (n := 5) rfl ?_
        refine wa_fall ⟨_, rfl⟩ ?_
        exact wJ_S (anl_162_215 hC h72 l5 l8 l12 hm hty htr hpl hpb hes es.length 0 m (by omega)) ⟨rfl, rfl, rfl, rfl, rfl, trivial⟩
    · skip
      exact absurd c4 (by omega)
  · skip
    exact absurd c3 (by omega)
theorem anv_162_215 {m : Int} (hC : w_CL S) (h72 : S 72 1 = 162) (hm : 0 ≤ m ∧ m < 400) (hty : S 189 m = 0) : wJ (pe_GA xs) wY0 M (d + 1) t_XL_answer ((pe_at t_XL_answer.bl 0).getD (0, [])).2 [(0, (2, 158)), (1, (0, m))] [] S (fun o Z => o = .inl none ∧ S = Z) := by
  refine wa_aload_n (n := 0) rfl ?_
  refine wb_gf4 158 rfl (wy_pr rfl) wt_158 wf_5_0 (v := 72) wl_158_0 ?_
  refine wb_gf5 72 rfl (wy_pr rfl) wt_72 wf_2_1 (v := 162) (h72) (fun r1 => ?_)
  refine wb_gf4 162 rfl (wy_pr rfl) wt_162 wf_3_3 (v := 185) wl_162_3 ?_
  refine wa_iconst ?_
  refine wb_aald5 185 3 rfl rfl (wy_pr rfl) wt_185 (by rw [show _ = _ from ((cl_185 hC))]; omega) wl_185_3 ?_
  refine wa_iload_n (n := 1) rfl ?_
  refine wb_iald 189 rfl (wy_pr rfl) wt_189 (n := 400) ((cl_189 hC)) (by omega) (by omega) (v := 0) (hty) (fun r2 => ?_)
  refine wa_istore_n (n := 2) rfl ?_
  refine wa_iload_n (n := 2) rfl ?_
  refine wa_bipush (w_rg2 (by omega) (by omega)) ?_
  refine wa_icmpne (w_rg0 (by omega) (by omega)) (w_rg0 (by omega) (by omega)) ⟨_, rfl⟩ (fun c3 => ?_) (fun c3 => ?_)
  · skip
    refine wa_iload_n (n := 2) rfl ?_
    refine wa_bipush (w_rg2 (by omega) (by omega)) ?_
    refine wa_icmplt (w_rg0 (by omega) (by omega)) (w_rg0 (by omega) (by omega)) ⟨_, rfl⟩ (fun c4 => ?_) (fun c4 => ?_)
    · skip
      refine wa_iload_n (n := 2) rfl ?_
      refine wa_ifeq (w_rg0 (by omega) (by omega)) ⟨_, rfl⟩ (fun c5 => ?_) (fun c5 => ?_)
      · skip
        refine wa_return rfl ?_
        exact ⟨rfl, rfl⟩
      · skip
        exact absurd c5 (by omega)
    · skip
      exact absurd c4 (by omega)
  · skip
    exact absurd c3 (by omega)
theorem anl_162_226 {m ty ba : Int} {es : List (Int × Int)} (hC : w_CL S) (h72 : S 72 1 = 162) (l5 : S 158 5 = 227) (l8 : S 158 8 = ba) (l12 : S 158 12 = (es.length : Int)) (hm : 0 ≤ m ∧ m < 400) (hty : S 189 m = ty) (htr : 1 ≤ ty ∧ ty ≤ 6) (hpl : S 229 (-1) = S 228 (-1)) (hpb : 0 ≤ ba ∧ ba + 1 + (es.length : Int) ≤ S 228 (-1) ∧ S 228 (-1) ≤ 4095) (hes : ∀ i : Nat, i < es.length → S 228 (ba + 1 + (i : Int)) = (es.getD i (0, 0)).1 ∧ S 229 (ba + 1 + (i : Int)) = (es.getD i (0, 0)).2) : ∀ (f i : Nat) (sm : Int), i + f = es.length → wJ (pe_GA xs) wY0 M (d + 1) t_XL_answer ((pe_at t_XL_answer.bl 5).getD (0, [])).2 [(0, (2, 158)), (1, (0, m)), (2, (0, ty)), (3, (1, sm)), (5, (0, (i : Int)))] [] S (fun o Z => o = .inl none ∧ w_up (w_up S 158 16 (anK ty)) 158 17 (anB ty (anS sm (es.drop i))) = Z) := by
  intro f
  induction f with
  | zero =>
    intro i sm hi
    rw [List.drop_of_length_le (by omega)]
    have hbx : ∀ z : Int, 0 ≤ wb_land z 1 ∧ wb_land z 1 ≤ 1 := fun z => land_1 z
    have hb0 := hbx sm
    have hl0 := wb_l2i_rg sm
    have hw0 := w64_rg sm
    refine wa_iload (n := 5) rfl ?_
    refine wa_aload_n (n := 0) rfl ?_
    refine wb_gfi 158 rfl (wy_pr rfl) wt_158 wf_5_12 (v := (es.length : Int)) (l12) (fun r1 => ?_)
    refine wa_icmpge (w_rg0 (by omega) (by omega)) (w_rg0 (by omega) (by omega)) ⟨_, rfl⟩ (fun c2 => ?_) (fun c2 => ?_)
    · skip
      refine wa_iload_n (n := 2) rfl ?_
      refine wa_iconst ?_
      refine wa_icmpeq (w_rg0 (by omega) (by omega)) (w_rg0 (by omega) (by omega)) ⟨_, rfl⟩ (fun c3 => ?_) (fun c3 => ?_)
      · skip
        refine wa_iconst ?_
        refine wa_goto ⟨_, rfl⟩ ?_
        refine wa_istore (n := 5) rfl ?_
        refine wa_aload_n (n := 0) rfl ?_
        refine wa_iload (n := 5) rfl ?_
        refine wa_ifeq (w_rg0 (by omega) (by omega)) ⟨_, rfl⟩ (fun c4 => ?_) (fun c4 => ?_)
        · skip
          exact absurd c4 (by omega)
        · skip
          refine wa_iconst ?_
          refine wa_goto ⟨_, rfl⟩ ?_
          refine wb_pfi 158 rfl (wy_pr rfl) wt_158 wf_5_16 (n := 16) rfl ⟨(by omega), (by omega)⟩ ?_
          refine wa_aload_n (n := 0) rfl ?_
          refine wa_iload (n := 5) rfl ?_
          refine wa_ifeq (w_rg0 (by omega) (by omega)) ⟨_, rfl⟩ (fun c5 => ?_) (fun c5 => ?_)
          · skip
            exact absurd c5 (by omega)
          · skip
            refine wa_lload_n (n := 3) rfl ?_
            refine wb_lconst (m := 1) rfl ?_
            refine wa_land ?_
            refine wa_goto ⟨_, rfl⟩ ?_
            refine wb_pfl 158 rfl (wy_pr rfl) wt_158 wf_5_17 (n := 17) rfl ⟨(by omega), (by omega)⟩ ?_
            refine wa_fall ⟨_, rfl⟩ ?_
            refine wa_return rfl ?_
            have ek : anK ty = 1 := by unfold anK; first | exact if_pos (by omega) | exact if_neg (by omega)
            have eb : anB ty (anS sm []) = (wb_land sm 1) := by show anB ty sm = _; unfold anB; first | exact if_pos (by omega) | (rw [if_neg (by omega)]; first | exact if_pos (by omega) | exact if_neg (by omega))
            rw [ek, eb]
            exact ⟨rfl, rfl⟩
      · skip
        refine wa_iload_n (n := 2) rfl ?_
        refine wa_bipush (w_rg2 (by omega) (by omega)) ?_
        refine wa_icmpne (w_rg0 (by omega) (by omega)) (w_rg0 (by omega) (by omega)) ⟨_, rfl⟩ (fun c6 => ?_) (fun c6 => ?_)
        · skip
          refine wa_iconst ?_
          refine wa_fall ⟨_, rfl⟩ ?_
          refine wa_istore (n := 5) rfl ?_
          refine wa_aload_n (n := 0) rfl ?_
          refine wa_iload (n := 5) rfl ?_
          refine wa_ifeq (w_rg0 (by omega) (by omega)) ⟨_, rfl⟩ (fun c7 => ?_) (fun c7 => ?_)
          · skip
            refine wa_iconst ?_
            refine wa_fall ⟨_, rfl⟩ ?_
            refine wb_pfi 158 rfl (wy_pr rfl) wt_158 wf_5_16 (n := 16) rfl ⟨(by omega), (by omega)⟩ ?_
            refine wa_aload_n (n := 0) rfl ?_
            refine wa_iload (n := 5) rfl ?_
            refine wa_ifeq (w_rg0 (by omega) (by omega)) ⟨_, rfl⟩ (fun c8 => ?_) (fun c8 => ?_)
            · skip
              refine wa_iload_n (n := 2) rfl ?_
              refine wa_iconst ?_
              refine wa_icmpeq (w_rg0 (by omega) (by omega)) (w_rg0 (by omega) (by omega)) ⟨_, rfl⟩ (fun c9 => ?_) (fun c9 => ?_)
              · skip
                refine wa_lload_n (n := 3) rfl ?_
                refine wa_l2i ?_
                refine wa_i2l (w_rg0 (by omega) (by omega)) ?_
                refine wa_goto ⟨_, rfl⟩ ?_
                refine wb_pfl 158 rfl (wy_pr rfl) wt_158 wf_5_17 (n := 17) rfl ⟨(by omega), (by omega)⟩ ?_
                refine wa_fall ⟨_, rfl⟩ ?_
                refine wa_return rfl ?_
                have ek : anK ty = 2 := by unfold anK; first | exact if_pos (by omega) | exact if_neg (by omega)
                have eb : anB ty (anS sm []) = (wb_l2i sm) := by show anB ty sm = _; unfold anB; first | exact if_pos (by omega) | (rw [if_neg (by omega)]; first | exact if_pos (by omega) | exact if_neg (by omega))
                rw [ek, eb]
                exact ⟨rfl, rfl⟩
              · skip
                refine wa_iload_n (n := 2) rfl ?_
                refine wa_iconst ?_
                refine wa_icmpne (w_rg0 (by omega) (by omega)) (w_rg0 (by omega) (by omega)) ⟨_, rfl⟩ (fun c10 => ?_) (fun c10 => ?_)
                · skip
                  refine wa_lload_n (n := 3) rfl ?_
                  refine wa_fall ⟨_, rfl⟩ ?_
                  refine wJ_n1 (w64_o _) ?_
                  refine wb_pfl 158 rfl (wy_pr rfl) wt_158 wf_5_17 (n := 17) rfl ⟨(by omega), (by omega)⟩ ?_
                  refine wa_fall ⟨_, rfl⟩ ?_
                  refine wa_return rfl ?_
                  have ek : anK ty = 2 := by unfold anK; first | exact if_pos (by omega) | exact if_neg (by omega)
                  have eb : anB ty (anS sm []) = (w64 sm) := by show anB ty sm = _; unfold anB; first | exact if_pos (by omega) | (rw [if_neg (by omega)]; first | exact if_pos (by omega) | exact if_neg (by omega))
                  rw [ek, eb]
                  exact ⟨rfl, rfl⟩
                · skip
                  refine wa_fall ⟨_, rfl⟩ ?_
                  refine wa_lload_n (n := 3) rfl ?_
                  refine wa_l2i ?_
                  refine wa_i2l (w_rg0 (by omega) (by omega)) ?_
                  refine wa_goto ⟨_, rfl⟩ ?_
                  refine wb_pfl 158 rfl (wy_pr rfl) wt_158 wf_5_17 (n := 17) rfl ⟨(by omega), (by omega)⟩ ?_
                  refine wa_fall ⟨_, rfl⟩ ?_
                  refine wa_return rfl ?_
                  have ek : anK ty = 2 := by unfold anK; first | exact if_pos (by omega) | exact if_neg (by omega)
                  have eb : anB ty (anS sm []) = (wb_l2i sm) := by show anB ty sm = _; unfold anB; first | exact if_pos (by omega) | (rw [if_neg (by omega)]; first | exact if_pos (by omega) | exact if_neg (by omega))
                  rw [ek, eb]
                  exact ⟨rfl, rfl⟩
            · skip
              exact absurd c8 (by omega)
          · skip
            exact absurd c7 (by omega)
        · skip
          refine wa_fall ⟨_, rfl⟩ ?_
          refine wa_iconst ?_
          refine wa_goto ⟨_, rfl⟩ ?_
          refine wa_istore (n := 5) rfl ?_
          refine wa_aload_n (n := 0) rfl ?_
          refine wa_iload (n := 5) rfl ?_
          refine wa_ifeq (w_rg0 (by omega) (by omega)) ⟨_, rfl⟩ (fun c11 => ?_) (fun c11 => ?_)
          · skip
            exact absurd c11 (by omega)
          · skip
            refine wa_iconst ?_
            refine wa_goto ⟨_, rfl⟩ ?_
            refine wb_pfi 158 rfl (wy_pr rfl) wt_158 wf_5_16 (n := 16) rfl ⟨(by omega), (by omega)⟩ ?_
            refine wa_aload_n (n := 0) rfl ?_
            refine wa_iload (n := 5) rfl ?_
            refine wa_ifeq (w_rg0 (by omega) (by omega)) ⟨_, rfl⟩ (fun c12 => ?_) (fun c12 => ?_)
            · skip
              exact absurd c12 (by omega)
            · skip
              refine wa_lload_n (n := 3) rfl ?_
              refine wb_lconst (m := 1) rfl ?_
              refine wa_land ?_
              refine wa_goto ⟨_, rfl⟩ ?_
              refine wb_pfl 158 rfl (wy_pr rfl) wt_158 wf_5_17 (n := 17) rfl ⟨(by omega), (by omega)⟩ ?_
              refine wa_fall ⟨_, rfl⟩ ?_
              refine wa_return rfl ?_
              have ek : anK ty = 1 := by unfold anK; first | exact if_pos (by omega) | exact if_neg (by omega)
              have eb : anB ty (anS sm []) = (wb_land sm 1) := by show anB ty sm = _; unfold anB; first | exact if_pos (by omega) | (rw [if_neg (by omega)]; first | exact if_pos (by omega) | exact if_neg (by omega))
              rw [ek, eb]
              exact ⟨rfl, rfl⟩
    · skip
      exfalso; omega
  | succ f ih =>
    intro i sm hi
    have hil : i < es.length := by omega
    have he := hes i hil
    have he1 : S 228 (ba + 1 + (i : Int)) = (es.getD i (0, 0)).1 := he.1
    have he2 : S 229 (ba + 1 + (i : Int)) = (es.getD i (0, 0)).2 := he.2
    have hdr : es.drop i = es.getD i (0, 0) :: es.drop (i + 1) := by rw [List.drop_eq_getElem_cons hil, List.getD_eq_getElem?_getD, List.getElem?_eq_getElem hil]; rfl
    rw [hdr]
    refine wa_iload (n := 5) rfl ?_
    refine wa_aload_n (n := 0) rfl ?_
    refine wb_gfi 158 rfl (wy_pr rfl) wt_158 wf_5_12 (v := (es.length : Int)) (l12) (fun r51 => ?_)
    refine wa_icmpge (w_rg0 (by omega) (by omega)) (w_rg0 (by omega) (by omega)) ⟨_, rfl⟩ (fun c52 => ?_) (fun c52 => ?_)
    · skip
      exfalso; omega
    · skip
      refine wa_lload_n (n := 3) rfl ?_
      refine wa_aload_n (n := 0) rfl ?_
      refine wb_gf5 158 rfl (wy_pr rfl) wt_158 wf_5_5 (v := 227) (l5) (fun r53 => ?_)
      refine wb_gf4 227 rfl (wy_pr rfl) wt_227 wf_7_0 (v := 228) wl_227_0 ?_
      refine wa_aload_n (n := 0) rfl ?_
      refine wb_gfi 158 rfl (wy_pr rfl) wt_158 wf_5_8 (v := ba) (l8) (fun r54 => ?_)
      refine wa_iconst ?_
      refine wa_iadd ?_
      refine wa_iload (n := 5) rfl ?_
      refine wa_iadd ?_
      refine wb_bald 228 rfl (wy_pr rfl) wt_228 (n := (S 228 (-1))) (rfl) (by omega) (by omega) (v := (es.getD i (0, 0)).1) (he1) (fun r55 => ?_)
      refine wa_iconst ?_
      refine wa_icmpne (w_rg0 (by omega) (by omega)) (w_rg0 (by omega) (by omega)) ⟨_, rfl⟩ (fun c56 => ?_) (fun c56 => ?_)
      · skip
        refine wb_lconst (m := 0) rfl ?_
        refine wa_fall ⟨_, rfl⟩ ?_
        refine wa_ladd ?_
        refine wa_lstore_n (n := 3) rfl ?_
        refine wa_iinc rfl rfl ?_
        refine wa_goto ⟨_, rfl⟩ ?_
        have ea : anS sm (es.getD i (0, 0) :: es.drop (i + 1)) = anS (sm + 0) (es.drop (i + 1)) := by show anS (sm + (if (es.getD i (0, 0)).1 = 2 then (es.getD i (0, 0)).2 else 0)) (es.drop (i + 1)) = _; first | rw [if_pos (by omega)] | rw [if_neg (by omega)]
        rw [ea]
        exact wJ_S (ih (i + 1) (sm + 0) (by omega)) ⟨rfl, rfl, rfl, rfl, rfl, trivial⟩
      · skip
        refine wa_aload_n (n := 0) rfl ?_
        refine wb_gf5 158 rfl (wy_pr rfl) wt_158 wf_5_5 (v := 227) (l5) (fun r57 => ?_)
        refine wb_gf4 227 rfl (wy_pr rfl) wt_227 wf_7_1 (v := 229) wl_227_1 ?_
        refine wa_aload_n (n := 0) rfl ?_
        refine wb_gfi 158 rfl (wy_pr rfl) wt_158 wf_5_8 (v := ba) (l8) (fun r58 => ?_)
        refine wa_iconst ?_
        refine wa_iadd ?_
        refine wa_iload (n := 5) rfl ?_
        refine wa_iadd ?_
        refine wb_lald 229 rfl (wy_pr rfl) wt_229 (n := (S 228 (-1))) (hpl) (by omega) (by omega) (v := (es.getD i (0, 0)).2) (he2) (fun r59 => ?_)
        refine wa_goto ⟨_, rfl⟩ ?_
        refine wa_ladd ?_
        refine wa_lstore_n (n := 3) rfl ?_
        refine wa_iinc rfl rfl ?_
        refine wa_goto ⟨_, rfl⟩ ?_
        have ea : anS sm (es.getD i (0, 0) :: es.drop (i + 1)) = anS (sm + (es.getD i (0, 0)).2) (es.drop (i + 1)) := by show anS (sm + (if (es.getD i (0, 0)).1 = 2 then (es.getD i (0, 0)).2 else 0)) (es.drop (i + 1)) = _; first | rw [if_pos (by omega)] | rw [if_neg (by omega)]
        rw [ea]
        exact wJ_S (ih (i + 1) (sm + (es.getD i (0, 0)).2) (by omega)) ⟨rfl, rfl, rfl, rfl, rfl, trivial⟩
theorem ann_162_226 {m ty ba : Int} {es : List (Int × Int)} (hC : w_CL S) (h72 : S 72 1 = 162) (l5 : S 158 5 = 227) (l8 : S 158 8 = ba) (l12 : S 158 12 = (es.length : Int)) (hm : 0 ≤ m ∧ m < 400) (hty : S 189 m = ty) (htr : 1 ≤ ty ∧ ty ≤ 6) (hpl : S 229 (-1) = S 228 (-1)) (hpb : 0 ≤ ba ∧ ba + 1 + (es.length : Int) ≤ S 228 (-1) ∧ S 228 (-1) ≤ 4095) (hes : ∀ i : Nat, i < es.length → S 228 (ba + 1 + (i : Int)) = (es.getD i (0, 0)).1 ∧ S 229 (ba + 1 + (i : Int)) = (es.getD i (0, 0)).2) : wJ (pe_GA xs) wY0 M (d + 1) t_XL_answer ((pe_at t_XL_answer.bl 0).getD (0, [])).2 [(0, (2, 158)), (1, (0, m))] [] S (fun o Z => o = .inl none ∧ w_up (w_up S 158 16 (anK ty)) 158 17 (anB ty (anS m es)) = Z) := by
  refine wa_aload_n (n := 0) rfl ?_
  refine wb_gf4 158 rfl (wy_pr rfl) wt_158 wf_5_0 (v := 72) wl_158_0 ?_
  refine wb_gf5 72 rfl (wy_pr rfl) wt_72 wf_2_1 (v := 162) (h72) (fun r1 => ?_)
  refine wb_gf4 162 rfl (wy_pr rfl) wt_162 wf_3_3 (v := 185) wl_162_3 ?_
  refine wa_iconst ?_
  refine wb_aald5 185 3 rfl rfl (wy_pr rfl) wt_185 (by rw [show _ = _ from ((cl_185 hC))]; omega) wl_185_3 ?_
  refine wa_iload_n (n := 1) rfl ?_
  refine wb_iald 189 rfl (wy_pr rfl) wt_189 (n := 400) ((cl_189 hC)) (by omega) (by omega) (v := ty) (hty) (fun r2 => ?_)
  refine wa_istore_n (n := 2) rfl ?_
  refine wa_iload_n (n := 2) rfl ?_
  refine wa_bipush (w_rg2 (by omega) (by omega)) ?_
  refine wa_icmpne (w_rg0 (by omega) (by omega)) (w_rg0 (by omega) (by omega)) ⟨_, rfl⟩ (fun c3 => ?_) (fun c3 => ?_)
  · skip
    refine wa_iload_n (n := 2) rfl ?_
    refine wa_bipush (w_rg2 (by omega) (by omega)) ?_
    refine wa_icmplt (w_rg0 (by omega) (by omega)) (w_rg0 (by omega) (by omega)) ⟨_, rfl⟩ (fun c4 => ?_) (fun c4 => ?_)
    · skip
      refine wa_iload_n (n := 2) rfl ?_
      refine wa_ifeq (w_rg0 (by omega) (by omega)) ⟨_, rfl⟩ (fun c5 => ?_) (fun c5 => ?_)
      · skip
        exact absurd c5 (by omega)
      · skip
        refine wa_iload_n (n := 1) rfl ?_
        refine wa_i2l (w_rg0 (by omega) (by omega)) ?_
        refine wa_lstore_n (n := 3) rfl ?_
        refine wa_iconst ?_
        refine wa_istore (n := 5) rfl ?_
        refine wa_fall ⟨_, rfl⟩ ?_
        exact wJ_S (anl_162_226 hC h72 l5 l8 l12 hm hty htr hpl hpb hes es.length 0 m (by omega)) ⟨rfl, rfl, rfl, rfl, rfl, trivial⟩
    · skip
      exact absurd c4 (by omega)
  · skip
    exact absurd c3 (by omega)
end Whk
