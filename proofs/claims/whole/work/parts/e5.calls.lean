/-! PART e5: the class's addCall, canEnter, enter. -/
section We5
variable {xs : List (Nat × List Int32)} {M : Nat → Prop} {d : Nat} {S Z A B : wS}
/-- a call is added -/
def ac_ag (ar vn : Int) (S Z : wS) : Prop := (Z 72 5 = S 72 5 + 1 ∧ Z 150 0 = S 150 0 + 1 ∧ Z 150 1 = S 150 1 + vn) ∧ (Z 138 (S 72 5) = S 140 2 ∧ Z 139 (S 72 5) = ar) ∧ (∀ i : Int, 0 ≤ i → i < S 72 5 → Z 138 i = S 138 i ∧ Z 139 i = S 139 i) ∧ Z 140 2 = S 140 2 + vn ∧ (∀ i : Int, 0 ≤ i → i < S 141 (-1) → Z 141 i = S 141 i ∧ Z 142 i = S 142 i) ∧ (Z 142 (-1) = Z 141 (-1) ∧ S 140 2 + vn ≤ Z 141 (-1) ∧ S 141 (-1) ≤ Z 141 (-1) ∧ (Z 141 (-1) = S 141 (-1) ∨ Z 141 (-1) ≤ 2 * (S 140 2 + vn))) ∧ (Z 139 (-1) = Z 138 (-1) ∧ S 72 5 < Z 138 (-1) ∧ S 138 (-1) ≤ Z 138 (-1) ∧ (Z 138 (-1) = S 138 (-1) ∨ Z 138 (-1) = 2 * S 72 5)) ∧ (∀ (j : Nat) (i : Int), j < 4000000 → j ≠ wG → j ≠ 138 → j ≠ 139 → j ≠ 141 → j ≠ 142 → (j ≠ 72 ∨ i ≠ 5) → (j ≠ 140 ∨ i ≠ 2) → (j ≠ 150 ∨ (i ≠ 0 ∧ i ≠ 1)) → Z j i = S j i) ∧ gI Z ∧ rmR S Z
set_option maxHeartbeats 4000000 in
theorem ac_ok {ar vn cs n u0 v0 : Int} (hC : w_CL S) (hI : gI S) (h2 : S 140 2 = cs) (hcs : 0 ≤ cs ∧ cs ≤ S 141 (-1)) (hl : S 142 (-1) = S 141 (-1)) (hz : 16 ≤ S 141 (-1) ∧ S 141 (-1) ≤ 480400) (hcl : S 139 (-1) = S 138 (-1)) (hm : S 72 5 = n) (hm1 : 0 ≤ n ∧ n ≤ S 138 (-1)) (hm2 : 64 ≤ S 138 (-1) ∧ S 138 (-1) ≤ 16383) (hu0 : S 150 0 = u0) (hu1 : 0 ≤ u0 ∧ u0 ≤ 8000) (hv0 : S 150 1 = v0) (hv1 : 0 ≤ v0 ∧ v0 ≤ 60000) (hr : 0 ≤ vn ∧ vn ≤ 1000) (har : -2147483648 ≤ ar ∧ ar ≤ 2147483647) : wJ (pe_GA xs) wY0 (mS [138, 139, 141, 142]) (d + 4) t_XH_addCall ((pe_at t_XH_addCall.bl 0).getD (0, [])).2 [(0, (2, 72)), (1, (0, ar)), (2, (0, vn))] [] S (fun o Z => o = .inl (some (0, n)) ∧ ac_ag ar vn S Z) := by
  have hg : wG = 1000000 := rfl
  have hcl2 : ∀ x : Nat, x < 2 → S (138 + x) (-1) = S 138 (-1) := fun x hx => by
    rcases (show x = 0 ∨ x = 1 by omega) with rfl | rfl
    · rfl
    · exact hcl
  refine wa_aload_n (n := 0) rfl ?_
  refine wb_gfi 72 rfl (wy_pr rfl) wt_72 wf_2_5 (v := n) (hm) (fun r1 => ?_)
  refine wa_istore_n (n := 3) rfl ?_
  refine wa_aload_n (n := 0) rfl ?_
  refine wb_gf4 72 rfl (wy_pr rfl) wt_72 wf_2_4 (v := 137) wl_72_4 ?_
  refine wa_iload_n (n := 3) rfl ?_
  have mh2 : ∀ x : Nat, x < 2 → S (138 + x) (-1) = S 138 (-1) := hcl2
  have mh2l : S 138 (-1) = (S 138 (-1)) := (rfl)
  refine wa_cs (M2 := mS [138, 139]) rfl at_X_makeRoom ⟨_, rfl⟩ rfl rfl ⟨trivial, (Or.inr ⟨wy_pr rfl, mS_no rfl⟩), trivial, trivial, trivial⟩ trivial (fun _ _ q => mS_sub (by decide) q) (wJ_mono (Q2 := fun o Z => o = .inl none ∧ mrQ 138 2 n S Z) (mkr_137 (S := S) (cnt := n) ((cl_137 hC)) hI ⟨by omega, by omega⟩ ⟨by omega, by omega⟩ mh2) (fun _ _ q => ⟨q.1, mrQ_of q.2 mh2 hI (by omega) (by decide)⟩)) (fun oq2 Sq2 hp3 q2 => ?_)
  rcases q2 with ⟨rfl, mr2⟩
  show wJ _ _ _ _ _ _ _ _ _ _
  have mr2a := mr2.2.1
  refine wa_aload_n (n := 0) rfl ?_
  refine wb_gf4 72 rfl (wy_pr rfl) wt_72 wf_2_4 (v := 137) wl_72_4 ?_
  refine wa_iconst ?_
  refine wb_aald5 137 0 rfl rfl (wy_pr rfl) wt_137 (by rw [show _ = _ from (((mr2.2.2.2.1 137 (-1) (by decide) (by decide) (by decide)).trans ((cl_137 hC))))]; omega) wl_137_0 ?_
  refine wa_iload_n (n := 3) rfl ?_
  refine wa_aload_n (n := 0) rfl ?_
  refine wa_iload_n (n := 2) rfl ?_
  have tc4l : Sq2 141 (-1) = (S 141 (-1)) := (((mr2.2.2.2.1 141 (-1) (by decide) (by decide) (by decide)).trans (rfl)))
  have tc4m : Sq2 142 (-1) = Sq2 141 (-1) := ((((mr2.2.2.2.1 142 (-1) (by decide) (by decide) (by decide)).trans (hl))) : Sq2 142 (-1) = (S 141 (-1))).trans tc4l.symm
  refine wa_cv 72 rfl (wy_pr rfl) wt_72 (M2 := mS [141, 142]) rfl at_XH_takeCells ⟨_, rfl⟩ rfl rfl ⟨trivial, (Or.inr ⟨wy_pr rfl, mS_no rfl⟩), trivial, trivial, trivial⟩ ⟨trivial, (Or.inr ⟨wy_pr rfl, mS_no rfl⟩), trivial⟩ (fun _ _ q => mS_sub (by decide) q) (tc_ok (S := Sq2) (m := vn) (cs := cs) mr2.2.2.2.2.1 (((mr2.2.2.2.1 140 2 (by decide) (by decide) (by decide)).trans (h2))) ⟨by omega, by omega⟩ tc4m ⟨by omega, by omega⟩ ⟨by omega, by omega⟩) (fun oq4 Sq4 hp5 q4 => ?_)
  rcases q4 with ⟨rfl, tc4⟩
  show wJ _ _ _ _ _ _ _ _ _ _
  refine wb_iast 138 rfl (wy_pr rfl) wt_138 (n := (Sq2 138 (-1))) (((tc4.2.2.1 138 (-1) (by decide) (by decide) (by decide) (by decide) (Or.inl (by decide))).trans (rfl))) (by omega) (by omega) ⟨(by omega), (by omega)⟩ ?_
  refine wa_aload_n (n := 0) rfl ?_
  refine wb_gf4 72 rfl (wy_pr rfl) wt_72 wf_2_4 (v := 137) wl_72_4 ?_
  refine wa_iconst ?_
  refine wb_aald5 137 1 rfl rfl (wy_pr rfl) wt_137 (by rw [show _ = _ from ((w_up_slot (by decide)).trans (((tc4.2.2.1 137 (-1) (by decide) (by decide) (by decide) (by decide) (Or.inl (by decide))).trans (((mr2.2.2.2.1 137 (-1) (by decide) (by decide) (by decide)).trans ((cl_137 hC)))))))]; omega) wl_137_1 ?_
  refine wa_iload_n (n := 3) rfl ?_
  refine wa_iload_n (n := 1) rfl ?_
  refine wb_iast 139 rfl (wy_pr rfl) wt_139 (n := (Sq2 138 (-1))) ((w_up_slot (by decide)).trans (((tc4.2.2.1 139 (-1) (by decide) (by decide) (by decide) (by decide) (Or.inl (by decide))).trans ((mr2.1 1 (by decide)))))) (by omega) (by omega) ⟨(by omega), (by omega)⟩ ?_
  refine wa_aload_n (n := 0) rfl ?_
  refine wa_dup (by decide) ?_
  refine wb_gfi 72 rfl (wy_pr rfl) wt_72 wf_2_5 (v := n) ((w_up_slot (by decide)).trans ((w_up_slot (by decide)).trans (((tc4.2.2.1 72 5 (by decide) (by decide) (by decide) (by decide) (Or.inl (by decide))).trans (((mr2.2.2.2.1 72 5 (by decide) (by decide) (by decide)).trans (hm))))))) (fun r6 => ?_)
  refine wa_iconst ?_
  refine wa_iadd ?_
  refine wb_pfi 72 rfl (wy_pr rfl) wt_72 wf_2_5 (n := 5) rfl ⟨(by omega), (by omega)⟩ ?_
  refine wa_aload_n (n := 0) rfl ?_
  refine wb_gf4 72 rfl (wy_pr rfl) wt_72 wf_2_10 (v := 150) wl_72_10 ?_
  refine wa_iconst ?_
  refine wa_dup2 (by decide) (by decide) ?_
  refine wb_iald 150 rfl (wy_pr rfl) wt_150 (n := 6) ((w_up_slot (by decide)).trans ((w_up_slot (by decide)).trans ((w_up_slot (by decide)).trans (((tc4.2.2.1 150 (-1) (by decide) (by decide) (by decide) (by decide) (Or.inl (by decide))).trans (((mr2.2.2.2.1 150 (-1) (by decide) (by decide) (by decide)).trans ((cl_150 hC))))))))) (by omega) (by omega) (v := u0) ((w_up_slot (by decide)).trans ((w_up_slot (by decide)).trans ((w_up_slot (by decide)).trans (((tc4.2.2.1 150 0 (by decide) (by decide) (by decide) (by decide) (Or.inl (by decide))).trans (((mr2.2.2.2.1 150 0 (by decide) (by decide) (by decide)).trans (hu0)))))))) (fun r7 => ?_)
  refine wa_iconst ?_
  refine wa_iadd ?_
  refine wb_iast 150 rfl (wy_pr rfl) wt_150 (n := 6) ((w_up_slot (by decide)).trans ((w_up_slot (by decide)).trans ((w_up_slot (by decide)).trans (((tc4.2.2.1 150 (-1) (by decide) (by decide) (by decide) (by decide) (Or.inl (by decide))).trans (((mr2.2.2.2.1 150 (-1) (by decide) (by decide) (by decide)).trans ((cl_150 hC))))))))) (by omega) (by omega) ⟨(by omega), (by omega)⟩ ?_
  refine wa_aload_n (n := 0) rfl ?_
  refine wb_gf4 72 rfl (wy_pr rfl) wt_72 wf_2_10 (v := 150) wl_72_10 ?_
  refine wa_iconst ?_
  refine wa_dup2 (by decide) (by decide) ?_
  refine wb_iald 150 rfl (wy_pr rfl) wt_150 (n := 6) ((w_up_at (by decide)).trans ((w_up_slot (by decide)).trans ((w_up_slot (by decide)).trans ((w_up_slot (by decide)).trans (((tc4.2.2.1 150 (-1) (by decide) (by decide) (by decide) (by decide) (Or.inl (by decide))).trans (((mr2.2.2.2.1 150 (-1) (by decide) (by decide) (by decide)).trans ((cl_150 hC)))))))))) (by omega) (by omega) (v := v0) ((w_up_at (by decide)).trans ((w_up_slot (by decide)).trans ((w_up_slot (by decide)).trans ((w_up_slot (by decide)).trans (((tc4.2.2.1 150 1 (by decide) (by decide) (by decide) (by decide) (Or.inl (by decide))).trans (((mr2.2.2.2.1 150 1 (by decide) (by decide) (by decide)).trans (hv0))))))))) (fun r8 => ?_)
  refine wa_iload_n (n := 2) rfl ?_
  refine wa_iadd ?_
  refine wb_iast 150 rfl (wy_pr rfl) wt_150 (n := 6) ((w_up_at (by decide)).trans ((w_up_slot (by decide)).trans ((w_up_slot (by decide)).trans ((w_up_slot (by decide)).trans (((tc4.2.2.1 150 (-1) (by decide) (by decide) (by decide) (by decide) (Or.inl (by decide))).trans (((mr2.2.2.2.1 150 (-1) (by decide) (by decide) (by decide)).trans ((cl_150 hC)))))))))) (by omega) (by omega) ⟨(by omega), (by omega)⟩ ?_
  refine wa_iload_n (n := 3) rfl ?_
  refine wa_ireturn rfl ?_
  have y38 : (w_up (w_up (w_up (w_up (w_up Sq4 138 n cs) 139 n ar) 72 5 (n + 1)) 150 0 (u0 + 1)) 150 1 (v0 + vn)) 138 (-1) = Sq2 138 (-1) := (w_up_no (by omega)).trans ((w_up_no (by omega)).trans ((w_up_no (by omega)).trans ((w_up_no (by omega)).trans ((w_up_no (by omega)).trans (tc4.2.2.1 138 (-1) (by decide) (by decide) (by decide) (by decide) (Or.inl (by decide)))))))
  have y39 : (w_up (w_up (w_up (w_up (w_up Sq4 138 n cs) 139 n ar) 72 5 (n + 1)) 150 0 (u0 + 1)) 150 1 (v0 + vn)) 139 (-1) = Sq2 139 (-1) := (w_up_no (by omega)).trans ((w_up_no (by omega)).trans ((w_up_no (by omega)).trans ((w_up_no (by omega)).trans ((w_up_no (by omega)).trans (tc4.2.2.1 139 (-1) (by decide) (by decide) (by decide) (by decide) (Or.inl (by decide)))))))
  have y41 : ∀ i : Int, Sq2 141 i = S 141 i := fun i => mr2.2.2.2.1 141 i (by decide) (by decide) (by decide)
  have y42 : ∀ i : Int, Sq2 142 i = S 142 i := fun i => mr2.2.2.2.1 142 i (by decide) (by decide) (by decide)
  have y40 : Sq2 140 2 = cs := (((mr2.2.2.2.1 140 2 (by decide) (by decide) (by decide)).trans (h2)))
  have z41 : ∀ i : Int, (w_up (w_up (w_up (w_up (w_up Sq4 138 n cs) 139 n ar) 72 5 (n + 1)) 150 0 (u0 + 1)) 150 1 (v0 + vn)) 141 i = Sq4 141 i := fun i => (w_up_no (by omega)).trans ((w_up_no (by omega)).trans ((w_up_no (by omega)).trans ((w_up_no (by omega)).trans ((w_up_no (by omega)).trans (rfl)))))
  have z42 : ∀ i : Int, (w_up (w_up (w_up (w_up (w_up Sq4 138 n cs) 139 n ar) 72 5 (n + 1)) 150 0 (u0 + 1)) 150 1 (v0 + vn)) 142 i = Sq4 142 i := fun i => (w_up_no (by omega)).trans ((w_up_no (by omega)).trans ((w_up_no (by omega)).trans ((w_up_no (by omega)).trans ((w_up_no (by omega)).trans (rfl)))))
  obtain ⟨t1, t2, t3, ⟨t4, t5, t6, t7⟩, t8, t9⟩ := tc4
  rw [y40] at t1 t5 t7
  rw [y41] at t6 t7
  refine ⟨rfl, ?_⟩
  unfold ac_ag
  rw [hm, h2, hu0, hv0]
  refine ⟨⟨((w_up_slot (by decide)).trans ((w_up_slot (by decide)).trans (w_up_same _ _ _ _))), ((w_up_at (by decide)).trans (w_up_same _ _ _ _)), (w_up_same _ _ _ _)⟩, ⟨((w_up_slot (by decide)).trans ((w_up_slot (by decide)).trans ((w_up_slot (by decide)).trans ((w_up_slot (by decide)).trans (w_up_same _ _ _ _))))), ((w_up_slot (by decide)).trans ((w_up_slot (by decide)).trans ((w_up_slot (by decide)).trans (w_up_same _ _ _ _))))⟩, fun i i0 i1 => ⟨(w_up_no (by omega)).trans ((w_up_no (by omega)).trans ((w_up_no (by omega)).trans ((w_up_no (by omega)).trans ((w_up_no (by omega)).trans ((t3 138 i (by decide) (by decide) (by decide) (by decide) (Or.inl (by decide))).trans (mr2.2.2.1 0 (by decide) i i0 i1)))))), (w_up_no (by omega)).trans ((w_up_no (by omega)).trans ((w_up_no (by omega)).trans ((w_up_no (by omega)).trans ((w_up_no (by omega)).trans ((t3 139 i (by decide) (by decide) (by decide) (by decide) (Or.inl (by decide))).trans (mr2.2.2.1 1 (by decide) i i0 i1))))))⟩, ((w_up_no (by omega)).trans ((w_up_no (by omega)).trans ((w_up_no (by omega)).trans ((w_up_no (by omega)).trans ((w_up_no (by omega)).trans (t1)))))), fun i i0 i1 => ⟨(z41 i).trans ((t2 i i0 (by rw [y41]; exact i1)).1.trans (y41 i)), (z42 i).trans ((t2 i i0 (by rw [y41]; exact i1)).2.trans (y42 i))⟩, ⟨by rw [z42, z41]; exact t4, by rw [z41]; exact t5, by rw [z41]; exact t6, by rw [z41]; exact t7⟩, ⟨by rw [y39, y38]; exact mr2.1 1 (by decide), by rw [y38]; exact mr2.2.1.1, by rw [y38]; exact mr2.2.1.2.1, by rw [y38]; exact mr2.2.1.2.2⟩, fun j i j0 j1 j2 j3 j4 j5 j6 j7 j8 => (w_up_no (by omega)).trans ((w_up_no (by omega)).trans ((w_up_no (by omega)).trans ((w_up_no (by omega)).trans ((w_up_no (by omega)).trans ((t3 j i j0 j1 j4 j5 j7).trans (mr2.2.2.2.1 j i j0 j1 (by omega))))))), ?_, ?_⟩
  · exact (gI_up (gI_up (gI_up (gI_up (gI_up t8 (by omega) (by omega) (by omega)) (by omega) (by omega) (by omega)) (by omega) (by omega) (by omega)) (by omega) (by omega) (by omega)) (by omega) (by omega) (by omega))
  · exact (rmR_up (rmR_up (rmR_up (rmR_up (rmR_up (rmR_tr mr2.2.2.2.2.2 t9) (by omega) (by decide)) (by omega) (by decide)) (by omega) (by decide)) (by omega) (by decide)) (by omega) (by decide))
theorem ce_215 {fn n0 f vs c u0 v0 : Int} (hx1 : pe_at (pe_GA xs).xs 1 = some (1, tx_1)) (hC : w_CL S) (hth : S 129 (-1) = S 127 (-1)) (hn : 0 ≤ fn ∧ fn < S 127 (-1)) (hf : S 129 fn = f) (hf1 : 0 ≤ f ∧ f < 400) (hvs : S 23 f = vs) (hvs1 : 0 ≤ vs ∧ vs ≤ 1000) (bc : S 215 4 = c) (bc0 : 0 ≤ c ∧ c ≤ 200) (hu0 : S 150 0 = u0) (hu1 : 0 ≤ u0 ∧ u0 ≤ 8000) (hv0 : S 150 1 = v0) (hv1 : 0 ≤ v0 ∧ v0 ≤ 60000) (hn0 : 0 ≤ n0 ∧ n0 ≤ 1) (hpr : S 215 16 = 0) : wJ (pe_GA xs) wY0 M (d + 2) t_XK_canEnter ((pe_at t_XK_canEnter.bl 0).getD (0, [])).2 [(0, (2, 215)), (1, (0, fn)), (2, (0, n0))] [] S (fun o Z => (c < 200 ∧ u0 + 1 + n0 ≤ 8000 ∧ v0 + vs ≤ 60000 ∧ S = Z ∧ o = .inl (some (0, 1))) ∨ (c = 200 ∧ w_up S 215 16 11 = Z ∧ o = .inl (some (0, 0))) ∨ (c < 200 ∧ ¬ (u0 + 1 + n0 ≤ 8000 ∧ v0 + vs ≤ 60000) ∧ w_up S 215 16 99 = Z ∧ o = .inl (some (0, 0)))) := by
  refine wa_aload_n (n := 0) rfl ?_
  refine wb_gf4 215 rfl (wy_pr rfl) wt_215 wf_8_1 (v := 19) wl_215_1 ?_
  refine wb_gf4 19 rfl (wy_pr rfl) wt_19 wf_0_0 (v := 20) wl_19_0 ?_
  refine wa_iconst ?_
  refine wb_aald5 20 2 rfl rfl (wy_pr rfl) wt_20 (by rw [show _ = _ from ((cl_20 hC))]; omega) wl_20_2 ?_
  refine wa_aload_n (n := 0) rfl ?_
  refine wb_gf4 215 rfl (wy_pr rfl) wt_215 wf_8_0 (v := 72) wl_215_0 ?_
  refine wb_gf4 72 rfl (wy_pr rfl) wt_72 wf_2_2 (v := 126) wl_72_2 ?_
  refine wa_iconst ?_
  refine wb_aald5 126 2 rfl rfl (wy_pr rfl) wt_126 (by rw [show _ = _ from ((cl_126 hC))]; omega) wl_126_2 ?_
  refine wa_iload_n (n := 1) rfl ?_
  refine wb_iald 129 rfl (wy_pr rfl) wt_129 (n := (S 127 (-1))) (hth) (by omega) (by omega) (v := f) (hf) (fun r1 => ?_)
  refine wb_iald 23 rfl (wy_pr rfl) wt_23 (n := 400) ((cl_23 hC)) (by omega) (by omega) (v := vs) (hvs) (fun r2 => ?_)
  refine wa_istore_n (n := 3) rfl ?_
  refine wa_aload_n (n := 0) rfl ?_
  refine wb_gfi 215 rfl (wy_pr rfl) wt_215 wf_8_4 (v := c) (bc) (fun r3 => ?_)
  refine wa_sipush (by omega) ?_
  refine wa_icmplt (w_rg0 (by omega) (by omega)) (w_rg0 (by omega) (by omega)) ⟨_, rfl⟩ (fun c4 => ?_) (fun c4 => ?_)
  · skip
    refine wa_aload_n (n := 0) rfl ?_
    refine wb_gf4 215 rfl (wy_pr rfl) wt_215 wf_8_0 (v := 72) wl_215_0 ?_
    refine wa_iconst ?_
    refine wa_iconst ?_
    refine wa_iload_n (n := 2) rfl ?_
    refine wa_iadd ?_
    refine wa_cv 72 rfl (wy_pr rfl) wt_72 (M2 := fun _ => False) rfl at_XH_hasRoom ⟨_, rfl⟩ rfl rfl ⟨trivial, (Or.inr ⟨wy_pr rfl, fun q => q⟩), trivial, trivial, trivial⟩ trivial (fun _ _ q => False.elim q) ?_ (fun _ _ _ q => q)
    refine wa_aload_n (n := 0) rfl ?_
    refine wb_gf4 72 rfl (wy_pr rfl) wt_72 wf_2_10 (v := 150) wl_72_10 ?_
    refine wa_iload_n (n := 1) rfl ?_
    refine wb_iald 150 rfl (wy_pr rfl) wt_150 (n := 6) ((cl_150 hC)) (by omega) (by omega) (v := u0) (hu0) (fun r5 => ?_)
    refine wa_iload_n (n := 2) rfl ?_
    refine wa_iadd ?_
    refine wa_gs ?_
    refine wa_iload_n (n := 1) rfl ?_
    refine wb_xald 1 rfl hx1 (by decide) (by omega) (by decide) (v := 8000) (by decide) (fun r6 => ?_)
    refine wa_icmpgt (w_rg0 (by omega) (by omega)) (w_rg0 (by omega) (by omega)) ⟨_, rfl⟩ (fun c7 => ?_) (fun c7 => ?_)
    · skip
      refine wa_iconst ?_
      refine wa_fall ⟨_, rfl⟩ ?_
      refine wa_zreturn rfl (Or.inl rfl) ?_
      show wJ _ _ _ _ _ _ _ _ _ _
      refine wa_ifeq (w_rg0 (by omega) (by omega)) ⟨_, rfl⟩ (fun c8 => ?_) (fun c8 => ?_)
      · skip
        refine wa_aload_n (n := 0) rfl ?_
        refine wa_bipush (w_rg2 (by omega) (by omega)) ?_
        refine wb_pfi 215 rfl (wy_pr rfl) wt_215 wf_8_16 (n := 16) rfl ⟨(by omega), (by omega)⟩ ?_
        refine wa_fall ⟨_, rfl⟩ ?_
        refine wa_aload_n (n := 0) rfl ?_
        refine wb_gfi 215 rfl (wy_pr rfl) wt_215 wf_8_16 (v := 99) (w_up_same _ _ _ _) (fun r9 => ?_)
        refine wa_ifne (w_rg0 (by omega) (by omega)) ⟨_, rfl⟩ (fun c10 => ?_) (fun c10 => ?_)
        · skip
          refine wa_iconst ?_
          refine wa_fall ⟨_, rfl⟩ ?_
          refine wa_zreturn rfl (Or.inl rfl) ?_
          exact Or.inr (Or.inr ⟨by omega, by omega, rfl, rfl⟩)
        · skip
          exact absurd c10 (by omega)
      · skip
        exact absurd c8 (by omega)
    · skip
      refine wa_iconst ?_
      refine wa_goto ⟨_, rfl⟩ ?_
      refine wa_zreturn rfl (Or.inr rfl) ?_
      show wJ _ _ _ _ _ _ _ _ _ _
      refine wa_ifeq (w_rg0 (by omega) (by omega)) ⟨_, rfl⟩ (fun c11 => ?_) (fun c11 => ?_)
      · skip
        exact absurd c11 (by omega)
      · skip
        refine wa_aload_n (n := 0) rfl ?_
        refine wb_gf4 215 rfl (wy_pr rfl) wt_215 wf_8_0 (v := 72) wl_215_0 ?_
        refine wa_iconst ?_
        refine wa_iload_n (n := 3) rfl ?_
        refine wa_cv 72 rfl (wy_pr rfl) wt_72 (M2 := fun _ => False) rfl at_XH_hasRoom ⟨_, rfl⟩ rfl rfl ⟨trivial, (Or.inr ⟨wy_pr rfl, fun q => q⟩), trivial, trivial, trivial⟩ trivial (fun _ _ q => False.elim q) ?_ (fun _ _ _ q => q)
        refine wa_aload_n (n := 0) rfl ?_
        refine wb_gf4 72 rfl (wy_pr rfl) wt_72 wf_2_10 (v := 150) wl_72_10 ?_
        refine wa_iload_n (n := 1) rfl ?_
        refine wb_iald 150 rfl (wy_pr rfl) wt_150 (n := 6) ((cl_150 hC)) (by omega) (by omega) (v := v0) (hv0) (fun r12 => ?_)
        refine wa_iload_n (n := 2) rfl ?_
        refine wa_iadd ?_
        refine wa_gs ?_
        refine wa_iload_n (n := 1) rfl ?_
        refine wb_xald 1 rfl hx1 (by decide) (by omega) (by decide) (v := 60000) (by decide) (fun r13 => ?_)
        refine wa_icmpgt (w_rg0 (by omega) (by omega)) (w_rg0 (by omega) (by omega)) ⟨_, rfl⟩ (fun c14 => ?_) (fun c14 => ?_)
        · skip
          refine wa_iconst ?_
          refine wa_fall ⟨_, rfl⟩ ?_
          refine wa_zreturn rfl (Or.inl rfl) ?_
          show wJ _ _ _ _ _ _ _ _ _ _
          refine wa_ifne (w_rg0 (by omega) (by omega)) ⟨_, rfl⟩ (fun c15 => ?_) (fun c15 => ?_)
          · skip
            exact absurd c15 (by omega)
          · skip
            refine wa_fall ⟨_, rfl⟩ ?_
            refine wa_aload_n (n := 0) rfl ?_
            refine wa_bipush (w_rg2 (by omega) (by omega)) ?_
            refine wb_pfi 215 rfl (wy_pr rfl) wt_215 wf_8_16 (n := 16) rfl ⟨(by omega), (by omega)⟩ ?_
            refine wa_fall ⟨_, rfl⟩ ?_
            refine wa_aload_n (n := 0) rfl ?_
            refine wb_gfi 215 rfl (wy_pr rfl) wt_215 wf_8_16 (v := 99) (w_up_same _ _ _ _) (fun r16 => ?_)
            refine wa_ifne (w_rg0 (by omega) (by omega)) ⟨_, rfl⟩ (fun c17 => ?_) (fun c17 => ?_)
            · skip
              refine wa_iconst ?_
              refine wa_fall ⟨_, rfl⟩ ?_
              refine wa_zreturn rfl (Or.inl rfl) ?_
              exact Or.inr (Or.inr ⟨by omega, by omega, rfl, rfl⟩)
            · skip
              exact absurd c17 (by omega)
        · skip
          refine wa_iconst ?_
          refine wa_goto ⟨_, rfl⟩ ?_
          refine wa_zreturn rfl (Or.inr rfl) ?_
          show wJ _ _ _ _ _ _ _ _ _ _
          refine wa_ifne (w_rg0 (by omega) (by omega)) ⟨_, rfl⟩ (fun c18 => ?_) (fun c18 => ?_)
          · skip
            refine wa_aload_n (n := 0) rfl ?_
            refine wb_gfi 215 rfl (wy_pr rfl) wt_215 wf_8_16 (v := 0) (hpr) (fun r19 => ?_)
            refine wa_ifne (w_rg0 (by omega) (by omega)) ⟨_, rfl⟩ (fun c20 => ?_) (fun c20 => ?_)
            · skip
              exact absurd c20 (by omega)
            · skip
              refine wa_iconst ?_
              refine wa_goto ⟨_, rfl⟩ ?_
              refine wa_zreturn rfl (Or.inr rfl) ?_
              exact Or.inl ⟨by omega, by omega, by omega, rfl, rfl⟩
          · skip
            exact absurd c18 (by omega)
  · skip
    refine wa_aload_n (n := 0) rfl ?_
    refine wa_bipush (w_rg2 (by omega) (by omega)) ?_
    refine wb_pfi 215 rfl (wy_pr rfl) wt_215 wf_8_16 (n := 16) rfl ⟨(by omega), (by omega)⟩ ?_
    refine wa_goto ⟨_, rfl⟩ ?_
    refine wa_aload_n (n := 0) rfl ?_
    refine wb_gfi 215 rfl (wy_pr rfl) wt_215 wf_8_16 (v := 11) (w_up_same _ _ _ _) (fun r21 => ?_)
    refine wa_ifne (w_rg0 (by omega) (by omega)) ⟨_, rfl⟩ (fun c22 => ?_) (fun c22 => ?_)
    · skip
      refine wa_iconst ?_
      refine wa_fall ⟨_, rfl⟩ ?_
      refine wa_zreturn rfl (Or.inl rfl) ?_
      exact Or.inr (Or.inl ⟨by omega, rfl, rfl⟩)
    · skip
      exact absurd c22 (by omega)
theorem ce_226 {fn n0 f vs c u0 v0 : Int} (hx1 : pe_at (pe_GA xs).xs 1 = some (1, tx_1)) (hC : w_CL S) (hth : S 129 (-1) = S 127 (-1)) (hn : 0 ≤ fn ∧ fn < S 127 (-1)) (hf : S 129 fn = f) (hf1 : 0 ≤ f ∧ f < 400) (hvs : S 23 f = vs) (hvs1 : 0 ≤ vs ∧ vs ≤ 1000) (bc : S 226 4 = c) (bc0 : 0 ≤ c ∧ c ≤ 200) (hu0 : S 150 0 = u0) (hu1 : 0 ≤ u0 ∧ u0 ≤ 8000) (hv0 : S 150 1 = v0) (hv1 : 0 ≤ v0 ∧ v0 ≤ 60000) (hn0 : 0 ≤ n0 ∧ n0 ≤ 1) (hpr : S 226 16 = 0) : wJ (pe_GA xs) wY0 M (d + 2) t_XK_canEnter ((pe_at t_XK_canEnter.bl 0).getD (0, [])).2 [(0, (2, 226)), (1, (0, fn)), (2, (0, n0))] [] S (fun o Z => (c < 200 ∧ u0 + 1 + n0 ≤ 8000 ∧ v0 + vs ≤ 60000 ∧ S = Z ∧ o = .inl (some (0, 1))) ∨ (c = 200 ∧ w_up S 226 16 11 = Z ∧ o = .inl (some (0, 0))) ∨ (c < 200 ∧ ¬ (u0 + 1 + n0 ≤ 8000 ∧ v0 + vs ≤ 60000) ∧ w_up S 226 16 99 = Z ∧ o = .inl (some (0, 0)))) := by
  refine wa_aload_n (n := 0) rfl ?_
  refine wb_gf4 226 rfl (wy_pr rfl) wt_226 wf_8_1 (v := 19) wl_226_1 ?_
  refine wb_gf4 19 rfl (wy_pr rfl) wt_19 wf_0_0 (v := 20) wl_19_0 ?_
  refine wa_iconst ?_
  refine wb_aald5 20 2 rfl rfl (wy_pr rfl) wt_20 (by rw [show _ = _ from ((cl_20 hC))]; omega) wl_20_2 ?_
  refine wa_aload_n (n := 0) rfl ?_
  refine wb_gf4 226 rfl (wy_pr rfl) wt_226 wf_8_0 (v := 72) wl_226_0 ?_
  refine wb_gf4 72 rfl (wy_pr rfl) wt_72 wf_2_2 (v := 126) wl_72_2 ?_
  refine wa_iconst ?_
  refine wb_aald5 126 2 rfl rfl (wy_pr rfl) wt_126 (by rw [show _ = _ from ((cl_126 hC))]; omega) wl_126_2 ?_
  refine wa_iload_n (n := 1) rfl ?_
  refine wb_iald 129 rfl (wy_pr rfl) wt_129 (n := (S 127 (-1))) (hth) (by omega) (by omega) (v := f) (hf) (fun r1 => ?_)
  refine wb_iald 23 rfl (wy_pr rfl) wt_23 (n := 400) ((cl_23 hC)) (by omega) (by omega) (v := vs) (hvs) (fun r2 => ?_)
  refine wa_istore_n (n := 3) rfl ?_
  refine wa_aload_n (n := 0) rfl ?_
  refine wb_gfi 226 rfl (wy_pr rfl) wt_226 wf_8_4 (v := c) (bc) (fun r3 => ?_)
  refine wa_sipush (by omega) ?_
  refine wa_icmplt (w_rg0 (by omega) (by omega)) (w_rg0 (by omega) (by omega)) ⟨_, rfl⟩ (fun c4 => ?_) (fun c4 => ?_)
  · skip
    refine wa_aload_n (n := 0) rfl ?_
    refine wb_gf4 226 rfl (wy_pr rfl) wt_226 wf_8_0 (v := 72) wl_226_0 ?_
    refine wa_iconst ?_
    refine wa_iconst ?_
    refine wa_iload_n (n := 2) rfl ?_
    refine wa_iadd ?_
    refine wa_cv 72 rfl (wy_pr rfl) wt_72 (M2 := fun _ => False) rfl at_XH_hasRoom ⟨_, rfl⟩ rfl rfl ⟨trivial, (Or.inr ⟨wy_pr rfl, fun q => q⟩), trivial, trivial, trivial⟩ trivial (fun _ _ q => False.elim q) ?_ (fun _ _ _ q => q)
    refine wa_aload_n (n := 0) rfl ?_
    refine wb_gf4 72 rfl (wy_pr rfl) wt_72 wf_2_10 (v := 150) wl_72_10 ?_
    refine wa_iload_n (n := 1) rfl ?_
    refine wb_iald 150 rfl (wy_pr rfl) wt_150 (n := 6) ((cl_150 hC)) (by omega) (by omega) (v := u0) (hu0) (fun r5 => ?_)
    refine wa_iload_n (n := 2) rfl ?_
    refine wa_iadd ?_
    refine wa_gs ?_
    refine wa_iload_n (n := 1) rfl ?_
    refine wb_xald 1 rfl hx1 (by decide) (by omega) (by decide) (v := 8000) (by decide) (fun r6 => ?_)
    refine wa_icmpgt (w_rg0 (by omega) (by omega)) (w_rg0 (by omega) (by omega)) ⟨_, rfl⟩ (fun c7 => ?_) (fun c7 => ?_)
    · skip
      refine wa_iconst ?_
      refine wa_fall ⟨_, rfl⟩ ?_
      refine wa_zreturn rfl (Or.inl rfl) ?_
      show wJ _ _ _ _ _ _ _ _ _ _
      refine wa_ifeq (w_rg0 (by omega) (by omega)) ⟨_, rfl⟩ (fun c8 => ?_) (fun c8 => ?_)
      · skip
        refine wa_aload_n (n := 0) rfl ?_
        refine wa_bipush (w_rg2 (by omega) (by omega)) ?_
        refine wb_pfi 226 rfl (wy_pr rfl) wt_226 wf_8_16 (n := 16) rfl ⟨(by omega), (by omega)⟩ ?_
        refine wa_fall ⟨_, rfl⟩ ?_
        refine wa_aload_n (n := 0) rfl ?_
        refine wb_gfi 226 rfl (wy_pr rfl) wt_226 wf_8_16 (v := 99) (w_up_same _ _ _ _) (fun r9 => ?_)
        refine wa_ifne (w_rg0 (by omega) (by omega)) ⟨_, rfl⟩ (fun c10 => ?_) (fun c10 => ?_)
        · skip
          refine wa_iconst ?_
          refine wa_fall ⟨_, rfl⟩ ?_
          refine wa_zreturn rfl (Or.inl rfl) ?_
          exact Or.inr (Or.inr ⟨by omega, by omega, rfl, rfl⟩)
        · skip
          exact absurd c10 (by omega)
      · skip
        exact absurd c8 (by omega)
    · skip
      refine wa_iconst ?_
      refine wa_goto ⟨_, rfl⟩ ?_
      refine wa_zreturn rfl (Or.inr rfl) ?_
      show wJ _ _ _ _ _ _ _ _ _ _
      refine wa_ifeq (w_rg0 (by omega) (by omega)) ⟨_, rfl⟩ (fun c11 => ?_) (fun c11 => ?_)
      · skip
        exact absurd c11 (by omega)
      · skip
        refine wa_aload_n (n := 0) rfl ?_
        refine wb_gf4 226 rfl (wy_pr rfl) wt_226 wf_8_0 (v := 72) wl_226_0 ?_
        refine wa_iconst ?_
        refine wa_iload_n (n := 3) rfl ?_
        refine wa_cv 72 rfl (wy_pr rfl) wt_72 (M2 := fun _ => False) rfl at_XH_hasRoom ⟨_, rfl⟩ rfl rfl ⟨trivial, (Or.inr ⟨wy_pr rfl, fun q => q⟩), trivial, trivial, trivial⟩ trivial (fun _ _ q => False.elim q) ?_ (fun _ _ _ q => q)
        refine wa_aload_n (n := 0) rfl ?_
        refine wb_gf4 72 rfl (wy_pr rfl) wt_72 wf_2_10 (v := 150) wl_72_10 ?_
        refine wa_iload_n (n := 1) rfl ?_
        refine wb_iald 150 rfl (wy_pr rfl) wt_150 (n := 6) ((cl_150 hC)) (by omega) (by omega) (v := v0) (hv0) (fun r12 => ?_)
        refine wa_iload_n (n := 2) rfl ?_
        refine wa_iadd ?_
        refine wa_gs ?_
        refine wa_iload_n (n := 1) rfl ?_
        refine wb_xald 1 rfl hx1 (by decide) (by omega) (by decide) (v := 60000) (by decide) (fun r13 => ?_)
        refine wa_icmpgt (w_rg0 (by omega) (by omega)) (w_rg0 (by omega) (by omega)) ⟨_, rfl⟩ (fun c14 => ?_) (fun c14 => ?_)
        · skip
          refine wa_iconst ?_
          refine wa_fall ⟨_, rfl⟩ ?_
          refine wa_zreturn rfl (Or.inl rfl) ?_
          show wJ _ _ _ _ _ _ _ _ _ _
          refine wa_ifne (w_rg0 (by omega) (by omega)) ⟨_, rfl⟩ (fun c15 => ?_) (fun c15 => ?_)
          · skip
            exact absurd c15 (by omega)
          · skip
            refine wa_fall ⟨_, rfl⟩ ?_
            refine wa_aload_n (n := 0) rfl ?_
            refine wa_bipush (w_rg2 (by omega) (by omega)) ?_
            refine wb_pfi 226 rfl (wy_pr rfl) wt_226 wf_8_16 (n := 16) rfl ⟨(by omega), (by omega)⟩ ?_
            refine wa_fall ⟨_, rfl⟩ ?_
            refine wa_aload_n (n := 0) rfl ?_
            refine wb_gfi 226 rfl (wy_pr rfl) wt_226 wf_8_16 (v := 99) (w_up_same _ _ _ _) (fun r16 => ?_)
            refine wa_ifne (w_rg0 (by omega) (by omega)) ⟨_, rfl⟩ (fun c17 => ?_) (fun c17 => ?_)
            · skip
              refine wa_iconst ?_
              refine wa_fall ⟨_, rfl⟩ ?_
              refine wa_zreturn rfl (Or.inl rfl) ?_
              exact Or.inr (Or.inr ⟨by omega, by omega, rfl, rfl⟩)
            · skip
              exact absurd c17 (by omega)
        · skip
          refine wa_iconst ?_
          refine wa_goto ⟨_, rfl⟩ ?_
          refine wa_zreturn rfl (Or.inr rfl) ?_
          show wJ _ _ _ _ _ _ _ _ _ _
          refine wa_ifne (w_rg0 (by omega) (by omega)) ⟨_, rfl⟩ (fun c18 => ?_) (fun c18 => ?_)
          · skip
            refine wa_aload_n (n := 0) rfl ?_
            refine wb_gfi 226 rfl (wy_pr rfl) wt_226 wf_8_16 (v := 0) (hpr) (fun r19 => ?_)
            refine wa_ifne (w_rg0 (by omega) (by omega)) ⟨_, rfl⟩ (fun c20 => ?_) (fun c20 => ?_)
            · skip
              exact absurd c20 (by omega)
            · skip
              refine wa_iconst ?_
              refine wa_goto ⟨_, rfl⟩ ?_
              refine wa_zreturn rfl (Or.inr rfl) ?_
              exact Or.inl ⟨by omega, by omega, by omega, rfl, rfl⟩
          · skip
            exact absurd c18 (by omega)
  · skip
    refine wa_aload_n (n := 0) rfl ?_
    refine wa_bipush (w_rg2 (by omega) (by omega)) ?_
    refine wb_pfi 226 rfl (wy_pr rfl) wt_226 wf_8_16 (n := 16) rfl ⟨(by omega), (by omega)⟩ ?_
    refine wa_goto ⟨_, rfl⟩ ?_
    refine wa_aload_n (n := 0) rfl ?_
    refine wb_gfi 226 rfl (wy_pr rfl) wt_226 wf_8_16 (v := 11) (w_up_same _ _ _ _) (fun r21 => ?_)
    refine wa_ifne (w_rg0 (by omega) (by omega)) ⟨_, rfl⟩ (fun c22 => ?_) (fun c22 => ?_)
    · skip
      refine wa_iconst ?_
      refine wa_fall ⟨_, rfl⟩ ?_
      refine wa_zreturn rfl (Or.inl rfl) ?_
      exact Or.inr (Or.inl ⟨by omega, rfl, rfl⟩)
    · skip
      exact absurd c22 (by omega)
end We5
