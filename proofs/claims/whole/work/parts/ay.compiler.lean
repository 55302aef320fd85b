/-! PART ay: the class's Compiler: refuse, note. -/
section Way
variable {xs : List (Nat × List Int32)} {M : Nat → Prop} {d : Nat} {A B C S Z : wS} {Q : wO → wS → Prop} {T : Int → Int} {n : Int}
/-- the compiler has refused: v is the fault -/
def ry_ag (S Z : wS) (x : Nat) (v : Int) : Prop := Z 63 17 = v ∧ (∀ (j : Nat) (i : Int), j < 4000000 → j ≠ wG → (j ≠ 63 ∨ i ≠ 17) → Z j i = S j i) ∧ gI Z ∧ (Z wG 0 = S wG 0 + 6 ∧ Z wG 1 = S wG 1 + 1 ∧ 0 < v ∧ v ≤ 2000000) ∧ wY0.ty x = 117 ∧ w_pr wY0 Z x
theorem rfp_c {k p i : Int} (hI : gI S) (h4 : S 14 4 = i) (h16 : S 16 i = p) (hi : 0 ≤ i ∧ i < S 16 (-1)) (hk : 1 ≤ k ∧ k ≤ 16) (hp : 0 ≤ p ∧ p ≤ 65536) : wJ (pe_GA xs) wY0 M (d + 6) t_XP_refuse ((pe_at t_XP_refuse.bl 0).getD (0, [])).2 [(0, (2, 63)), (1, (0, k))] [] S (fun o Z => ∃ v : Nat, o = .inr v ∧ ry_ag S Z v (k + 16 * p)) := wJ_E (fun ⟨ad, hp0, hE⟩ => by
  have hG : 0 ≤ S wG 1 := wE_G hE
  refine wa_aload_n (n := 0) rfl ?_
  refine wa_iload_n (n := 1) rfl ?_
  refine wa_bipush (w_rg2 (by omega) (by omega)) ?_
  refine wa_aload_n (n := 0) rfl ?_
  refine wb_gf4 63 rfl (wy_pr rfl) wt_63 wf_1_0 (v := 14) wl_63_0 ?_
  refine wb_gf4 14 rfl (wy_pr rfl) wt_14 wf_6_1 (v := 16) wl_14_1 ?_
  refine wa_aload_n (n := 0) rfl ?_
  refine wb_gf4 63 rfl (wy_pr rfl) wt_63 wf_1_0 (v := 14) wl_63_0 ?_
  refine wb_gfi 14 rfl (wy_pr rfl) wt_14 wf_6_4 (v := i) (h4) (fun r1 => ?_)
  refine wb_iald 16 rfl (wy_pr rfl) wt_16 (n := (S 16 (-1))) rfl (by omega) (by omega) (v := p) (h16) (fun r2 => ?_)
  refine wa_imul ?_
  refine wa_iadd ?_
  refine wb_pfi 63 rfl (wy_pr rfl) wt_63 wf_1_17 (n := 17) rfl ⟨(by omega), (by omega)⟩ ?_
  have g0 : 0 ≤ (w_up S 63 17 (k + (16 * p))) wG 1 := hG
  refine wa_nx (nN (w_up S 63 17 (k + (16 * p))) 49) (nN_rg g0 (by decide)) (wt_nX ⟨by decide, by decide⟩) (by decide +kernel) ⟨(Or.inr ⟨wy_pr rfl, fun q => q⟩), trivial, trivial⟩ trivial (nx_d (by omega) (by decide)) ?_
  refine wa_th ?_
  refine ⟨_, rfl, (w_nw_o (by decide) (by decide)).trans (w_up_same _ _ _ _), fun j i j0 j1 j2 => (w_nw_o j0 j1).trans (w_up_no (by omega)), gI_nx (gI_up hI (by omega) (by omega) (by omega)) (by decide) ⟨by decide, by decide⟩, ⟨w_nw_GX.1, w_nw_GX.2, by omega, by omega⟩, wt_nX ⟨by decide, by decide⟩, w_pr_nx (by decide)⟩)
/-- one more instruction is noted -/
def nt_ag (S Z : wS) (op a b : Int) : Prop := (Z 63 7 = S 63 7 + 1 ∧ Z 24 (S 63 11) = S 24 (S 63 11) + 1) ∧ (Z 64 (S 63 7) = op ∧ Z 65 (S 63 7) = a ∧ Z 66 (S 63 7) = b ∧ Z 67 (S 63 7) = S 63 11) ∧ (∀ i : Int, 0 ≤ i → i < S 63 7 → Z 64 i = S 64 i ∧ Z 65 i = S 65 i ∧ Z 66 i = S 66 i ∧ Z 67 i = S 67 i) ∧ (∀ (j : Nat) (i : Int), j < 4000000 → j ≠ wG → j ≠ 64 → j ≠ 65 → j ≠ 66 → j ≠ 67 → (j ≠ 63 ∨ i ≠ 7) → (j ≠ 24 ∨ i ≠ S 63 11) → Z j i = S j i) ∧ (Z 65 (-1) = Z 64 (-1) ∧ Z 66 (-1) = Z 64 (-1) ∧ Z 67 (-1) = Z 64 (-1) ∧ S 63 7 + 1 ≤ Z 64 (-1) ∧ (Z 64 (-1) = S 64 (-1) ∨ (S 63 7 = S 64 (-1) ∧ Z 64 (-1) = 2 * S 63 7))) ∧ gI Z ∧ rmR S Z
/-- the rows of what is noted -/
def nt_L (S : wS) : Prop := (0 ≤ S 63 7 ∧ S 63 7 ≤ S 64 (-1)) ∧ S 65 (-1) = S 64 (-1) ∧ S 66 (-1) = S 64 (-1) ∧ S 67 (-1) = S 64 (-1) ∧ 64 ≤ S 64 (-1) ∧ S 64 (-1) ≤ 8388608
theorem nt_1 {op a b : Int} (hC : w_CL S) (hI : gI S) (ho : -2147483648 ≤ op ∧ op ≤ 2147483647) (ha : -2147483648 ≤ a ∧ a ≤ 2147483647) (hb : -2147483648 ≤ b ∧ b ≤ 2147483647) (hu : 0 ≤ S 63 11 ∧ S 63 11 < 400) (h24 : 0 ≤ S 24 (S 63 11) ∧ S 24 (S 63 11) ≤ 1000000) (h0 : 0 ≤ (S 63 7) ∧ (S 63 7) < S 64 (-1) ∧ S 65 (-1) = S 64 (-1) ∧ S 66 (-1) = S 64 (-1) ∧ S 67 (-1) = S 64 (-1)) (h9 : (S 63 7) ≤ 2147483000) : wJ (pe_GA xs) wY0 (mS [64, 65, 66, 67]) (d + 3) t_XP_note ((pe_at t_XP_note.bl 2).getD (0, [])).2 [(0, (2, 63)), (1, (0, op)), (2, (0, a)), (3, (0, b))] [] S (fun o Z => o = .inl (some (0, (S 63 7))) ∧ nt_ag S Z op a b) := by
  have hR := rmR_rfl S
  have l65 := h0.2.2.1
  have l66 := h0.2.2.2.1
  have l67 := h0.2.2.2.2
  refine wa_aload_n (n := 0) rfl ?_
  refine wb_gf4 63 rfl (wy_pr rfl) wt_63 wf_1_3 (v := 64) wl_63_3 ?_
  refine wa_aload_n (n := 0) rfl ?_
  refine wb_gfi 63 rfl (wy_pr rfl) wt_63 wf_1_7 (v := (S 63 7)) rfl (fun r1 => ?_)
  refine wa_iload_n (n := 1) rfl ?_
  refine wb_iast 64 rfl (wy_pr rfl) wt_64 (n := (S 64 (-1))) rfl (by omega) (by omega) ⟨(by omega), (by omega)⟩ ?_
  refine wa_aload_n (n := 0) rfl ?_
  refine wb_gf4 63 rfl (wy_pr rfl) wt_63 wf_1_4 (v := 65) wl_63_4 ?_
  refine wa_aload_n (n := 0) rfl ?_
  refine wb_gfi 63 rfl (wy_pr rfl) wt_63 wf_1_7 (v := (S 63 7)) (w_up_slot (by decide)) (fun r2 => ?_)
  refine wa_iload_n (n := 2) rfl ?_
  refine wb_iast 65 rfl (wy_pr rfl) wt_65 (n := (S 64 (-1))) ((w_up_slot (by decide)).trans (l65)) (by omega) (by omega) ⟨(by omega), (by omega)⟩ ?_
  refine wa_aload_n (n := 0) rfl ?_
  refine wb_gf4 63 rfl (wy_pr rfl) wt_63 wf_1_5 (v := 66) wl_63_5 ?_
  refine wa_aload_n (n := 0) rfl ?_
  refine wb_gfi 63 rfl (wy_pr rfl) wt_63 wf_1_7 (v := (S 63 7)) ((w_up_slot (by decide)).trans (w_up_slot (by decide))) (fun r3 => ?_)
  refine wa_iload_n (n := 3) rfl ?_
  refine wb_iast 66 rfl (wy_pr rfl) wt_66 (n := (S 64 (-1))) ((w_up_slot (by decide)).trans ((w_up_slot (by decide)).trans (l66))) (by omega) (by omega) ⟨(by omega), (by omega)⟩ ?_
  refine wa_aload_n (n := 0) rfl ?_
  refine wb_gf4 63 rfl (wy_pr rfl) wt_63 wf_1_6 (v := 67) wl_63_6 ?_
  refine wa_aload_n (n := 0) rfl ?_
  refine wb_gfi 63 rfl (wy_pr rfl) wt_63 wf_1_7 (v := (S 63 7)) ((w_up_slot (by decide)).trans ((w_up_slot (by decide)).trans (w_up_slot (by decide)))) (fun r4 => ?_)
  refine wa_aload_n (n := 0) rfl ?_
  refine wb_gfi 63 rfl (wy_pr rfl) wt_63 wf_1_11 (v := (S 63 11)) ((w_up_slot (by decide)).trans ((w_up_slot (by decide)).trans (w_up_slot (by decide)))) (fun r5 => ?_)
  refine wb_iast 67 rfl (wy_pr rfl) wt_67 (n := (S 64 (-1))) ((w_up_slot (by decide)).trans ((w_up_slot (by decide)).trans ((w_up_slot (by decide)).trans (l67)))) (by omega) (by omega) ⟨(by omega), (by omega)⟩ ?_
  refine wa_aload_n (n := 0) rfl ?_
  refine wb_gf4 63 rfl (wy_pr rfl) wt_63 wf_1_9 (v := 20) wl_63_9 ?_
  refine wa_iconst ?_
  refine wb_aald5 20 3 rfl rfl (wy_pr rfl) wt_20 (by rw [show _ = _ from ((w_up_slot (by decide)).trans ((w_up_slot (by decide)).trans ((w_up_slot (by decide)).trans ((w_up_slot (by decide)).trans ((cl_20 hC))))))]; omega) wl_20_3 ?_
  refine wa_aload_n (n := 0) rfl ?_
  refine wb_gfi 63 rfl (wy_pr rfl) wt_63 wf_1_11 (v := (S 63 11)) ((w_up_slot (by decide)).trans ((w_up_slot (by decide)).trans ((w_up_slot (by decide)).trans (w_up_slot (by decide))))) (fun r6 => ?_)
  refine wa_dup2 (by decide) (by decide) ?_
  refine wb_iald 24 rfl (wy_pr rfl) wt_24 (n := 400) ((w_up_slot (by decide)).trans ((w_up_slot (by decide)).trans ((w_up_slot (by decide)).trans ((w_up_slot (by decide)).trans ((cl_24 hC)))))) (by omega) (by omega) (v := (S 24 (S 63 11))) ((w_up_slot (by decide)).trans ((w_up_slot (by decide)).trans ((w_up_slot (by decide)).trans (w_up_slot (by decide))))) (fun r7 => ?_)
  refine wa_iconst ?_
  refine wa_iadd ?_
  refine wb_iast 24 rfl (wy_pr rfl) wt_24 (n := 400) ((w_up_slot (by decide)).trans ((w_up_slot (by decide)).trans ((w_up_slot (by decide)).trans ((w_up_slot (by decide)).trans ((cl_24 hC)))))) (by omega) (by omega) ⟨(by omega), (by omega)⟩ ?_
  refine wa_aload_n (n := 0) rfl ?_
  refine wa_dup (by decide) ?_
  refine wb_gfi 63 rfl (wy_pr rfl) wt_63 wf_1_7 (v := (S 63 7)) ((w_up_slot (by decide)).trans ((w_up_slot (by decide)).trans ((w_up_slot (by decide)).trans ((w_up_slot (by decide)).trans (w_up_slot (by decide)))))) (fun r8 => ?_)
  refine wa_iconst ?_
  refine wa_fall ⟨_, rfl⟩ ?_
  refine wa_iadd ?_
  refine wb_pfi 63 rfl (wy_pr rfl) wt_63 wf_1_7 (n := 7) rfl ⟨(by omega), (by omega)⟩ ?_
  refine wa_aload_n (n := 0) rfl ?_
  refine wb_gfi 63 rfl (wy_pr rfl) wt_63 wf_1_7 (v := ((S 63 7) + 1)) (w_up_same _ _ _ _) (fun r9 => ?_)
  refine wa_iconst ?_
  refine wa_isub ?_
  refine wa_ireturn rfl ?_
  refine ⟨congrArg (fun z => Sum.inl (some (0, z))) (by omega), ⟨(w_up_same _ _ _ _), ((w_up_slot (by decide)).trans (w_up_same _ _ _ _))⟩, ⟨((w_up_slot (by decide)).trans ((w_up_slot (by decide)).trans ((w_up_slot (by decide)).trans ((w_up_slot (by decide)).trans ((w_up_slot (by decide)).trans (w_up_same _ _ _ _)))))), ((w_up_slot (by decide)).trans ((w_up_slot (by decide)).trans ((w_up_slot (by decide)).trans ((w_up_slot (by decide)).trans (w_up_same _ _ _ _))))), ((w_up_slot (by decide)).trans ((w_up_slot (by decide)).trans ((w_up_slot (by decide)).trans (w_up_same _ _ _ _)))), ((w_up_slot (by decide)).trans ((w_up_slot (by decide)).trans (w_up_same _ _ _ _)))⟩, fun i i0 i1 => ⟨((w_up_slot (by decide)).trans ((w_up_slot (by decide)).trans ((w_up_slot (by decide)).trans ((w_up_slot (by decide)).trans ((w_up_slot (by decide)).trans (w_up_at (by omega))))))), ((w_up_slot (by decide)).trans ((w_up_slot (by decide)).trans ((w_up_slot (by decide)).trans ((w_up_slot (by decide)).trans ((w_up_at (by omega)).trans (w_up_slot (by decide))))))), ((w_up_slot (by decide)).trans ((w_up_slot (by decide)).trans ((w_up_slot (by decide)).trans ((w_up_at (by omega)).trans ((w_up_slot (by decide)).trans (w_up_slot (by decide))))))), ((w_up_slot (by decide)).trans ((w_up_slot (by decide)).trans ((w_up_at (by omega)).trans ((w_up_slot (by decide)).trans ((w_up_slot (by decide)).trans (w_up_slot (by decide)))))))⟩, fun j i j0 j1 j2 j3 j4 j5 j6 j7 => ?_, ?_, (gI_up (gI_up (gI_up (gI_up (gI_up (gI_up hI (by omega) (by omega) (by omega)) (by omega) (by omega) (by omega)) (by omega) (by omega) (by omega)) (by omega) (by omega) (by omega)) (by omega) (by omega) (by omega)) (by omega) (by omega) (by omega)), (rmR_up (rmR_up (rmR_up (rmR_up (rmR_up (rmR_up hR (by omega) (by decide)) (by omega) (by decide)) (by omega) (by decide)) (by omega) (by decide)) (by omega) (by decide)) (by omega) (by decide))⟩
  · exact (w_up_no (by omega)).trans ((w_up_no (by omega)).trans ((w_up_no (by omega)).trans ((w_up_no (by omega)).trans ((w_up_no (by omega)).trans ((w_up_no (by omega)).trans (rfl))))))
  · have m64 : (w_up (w_up (w_up (w_up (w_up (w_up S 64 (S 63 7) op) 65 (S 63 7) a) 66 (S 63 7) b) 67 (S 63 7) (S 63 11)) 24 (S 63 11) ((S 24 (S 63 11)) + 1)) 63 7 ((S 63 7) + 1)) 64 (-1) = S 64 (-1) := ((w_up_slot (by decide)).trans ((w_up_slot (by decide)).trans ((w_up_slot (by decide)).trans ((w_up_slot (by decide)).trans ((w_up_slot (by decide)).trans (w_up_at (by omega)))))))
    have m65 : (w_up (w_up (w_up (w_up (w_up (w_up S 64 (S 63 7) op) 65 (S 63 7) a) 66 (S 63 7) b) 67 (S 63 7) (S 63 11)) 24 (S 63 11) ((S 24 (S 63 11)) + 1)) 63 7 ((S 63 7) + 1)) 65 (-1) = S 64 (-1) := ((w_up_slot (by decide)).trans ((w_up_slot (by decide)).trans ((w_up_slot (by decide)).trans ((w_up_slot (by decide)).trans ((w_up_at (by omega)).trans ((w_up_slot (by decide)).trans (l65)))))))
    have m66 : (w_up (w_up (w_up (w_up (w_up (w_up S 64 (S 63 7) op) 65 (S 63 7) a) 66 (S 63 7) b) 67 (S 63 7) (S 63 11)) 24 (S 63 11) ((S 24 (S 63 11)) + 1)) 63 7 ((S 63 7) + 1)) 66 (-1) = S 64 (-1) := ((w_up_slot (by decide)).trans ((w_up_slot (by decide)).trans ((w_up_slot (by decide)).trans ((w_up_at (by omega)).trans ((w_up_slot (by decide)).trans ((w_up_slot (by decide)).trans (l66)))))))
    have m67 : (w_up (w_up (w_up (w_up (w_up (w_up S 64 (S 63 7) op) 65 (S 63 7) a) 66 (S 63 7) b) 67 (S 63 7) (S 63 11)) 24 (S 63 11) ((S 24 (S 63 11)) + 1)) 63 7 ((S 63 7) + 1)) 67 (-1) = S 64 (-1) := ((w_up_slot (by decide)).trans ((w_up_slot (by decide)).trans ((w_up_at (by omega)).trans ((w_up_slot (by decide)).trans ((w_up_slot (by decide)).trans ((w_up_slot (by decide)).trans (l67)))))))
    exact ⟨m65.trans m64.symm, m66.trans m64.symm, m67.trans m64.symm, by rw [m64]; omega, Or.inl m64⟩
theorem wz_nt : ∀ q ∈ wz_n, q.1 < 64 ∨ 67 < q.1 := by decide +kernel
theorem nt_ok {op a b : Int} (hC : w_CL S) (hI : gI S) (ho : -2147483648 ≤ op ∧ op ≤ 2147483647) (ha : -2147483648 ≤ a ∧ a ≤ 2147483647) (hb : -2147483648 ≤ b ∧ b ≤ 2147483647) (hu : 0 ≤ S 63 11 ∧ S 63 11 < 400) (h24 : 0 ≤ S 24 (S 63 11) ∧ S 24 (S 63 11) ≤ 1000000) (h0 : nt_L S) : wJ (pe_GA xs) wY0 (mS [64, 65, 66, 67]) (d + 3) t_XP_note ((pe_at t_XP_note.bl 0).getD (0, [])).2 [(0, (2, 63)), (1, (0, op)), (2, (0, a)), (3, (0, b))] [] S (fun o Z => o = .inl (some (0, (S 63 7))) ∧ nt_ag S Z op a b) := by
  have hR := rmR_rfl S
  obtain ⟨h1, l65, l66, l67, h4, h5⟩ := h0
  refine wa_aload_n (n := 0) rfl ?_
  refine wb_gfi 63 rfl (wy_pr rfl) wt_63 wf_1_7 (v := (S 63 7)) rfl (fun r1 => ?_)
  refine wa_aload_n (n := 0) rfl ?_
  refine wb_gf4 63 rfl (wy_pr rfl) wt_63 wf_1_3 (v := 64) wl_63_3 ?_
  refine wb_alen 64 rfl (wy_pr rfl) (by rw [wt_64]; rfl) (v := (S 64 (-1))) rfl (fun r2 => ?_)
  refine wa_icmpne (w_rg0 (by omega) (by omega)) (w_rg0 (by omega) (by omega)) ⟨_, rfl⟩ (fun c3 => ?_) (fun c3 => ?_)
  · skip
    exact nt_1 hC hI ho ha hb hu h24 ⟨by omega, by omega, l65, l66, l67⟩ (by omega)
  · skip
    refine wa_aload_n (n := 0) rfl ?_
    refine wa_aload_n (n := 0) rfl ?_
    refine wb_gf4 63 rfl (wy_pr rfl) wt_63 wf_1_3 (v := 64) wl_63_3 ?_
    refine wa_aload_n (n := 0) rfl ?_
    refine wb_gfi 63 rfl (wy_pr rfl) wt_63 wf_1_7 (v := (S 63 7)) rfl (fun r4 => ?_)
    refine wa_iconst ?_
    refine wa_imul ?_
    refine wa_cs (M2 := fun _ => False) rfl at_JA_copyOf_2 ⟨_, rfl⟩ rfl rfl ⟨(Or.inr ⟨wy_pr rfl, fun q => q⟩), trivial, trivial, trivial, trivial⟩ ⟨(Or.inr ⟨wy_pr rfl, fun q => q⟩), trivial⟩ (fun _ _ q => False.elim q) (cp_I (S := S) (a := 64) (n := ((S 63 7) * 2)) (len := (S 64 (-1))) (wy_pr rfl) wt_64 rfl ⟨by omega, by omega, by omega⟩) (fun oq5 Sq5 _ q5 => ?_)
    rcases q5 with ⟨rfl, rfl⟩
    show wJ _ _ _ _ _ _ _ _ _ _
    refine wg_pf (S := S) (len := (S 64 (-1))) 0 63 64 rfl rfl rfl wt_63 wf_1_3 wl_63_3 (by decide +kernel) wt_64 (by decide) (by decide +kernel) hI (fun q => absurd q (by decide)) (by decide) ⟨by omega, by omega⟩ rfl (fun _ => ⟨Or.inr (by decide), Or.inl (nN_ge _)⟩) ⟨(Or.inr ⟨wy_pr rfl, mS_no rfl⟩), trivial, trivial, trivial, trivial⟩ trivial (fun Z6 g7 gi8 => ?_)
    have rm9 := rmR_gr hR g7 (by decide +kernel) (len := (S 64 (-1))) rfl ⟨by omega, by omega⟩ ⟨fun q => by first | omega | exact absurd q (by decide), by show _ ≤ (100000000 : Int); omega⟩
    refine wa_aload_n (n := 0) rfl ?_
    refine wa_aload_n (n := 0) rfl ?_
    refine wb_gf4 63 rfl (wy_pr rfl) wt_63 wf_1_4 (v := 65) wl_63_4 ?_
    refine wa_aload_n (n := 0) rfl ?_
    refine wb_gfi 63 rfl (wy_pr rfl) wt_63 wf_1_7 (v := (S 63 7)) ((congrFun (g7.2.2.1 63 (by decide) (by decide) (by decide)) 7)) (fun r10 => ?_)
    refine wa_iconst ?_
    refine wa_imul ?_
    refine wa_cs (M2 := fun _ => False) rfl at_JA_copyOf_2 ⟨_, rfl⟩ rfl rfl ⟨(Or.inr ⟨wy_pr rfl, fun q => q⟩), trivial, trivial, trivial, trivial⟩ ⟨(Or.inr ⟨wy_pr rfl, fun q => q⟩), trivial⟩ (fun _ _ q => False.elim q) (cp_I (S := Z6) (a := 65) (n := ((S 63 7) * 2)) (len := (S 64 (-1))) (wy_pr rfl) wt_65 (((congrFun (g7.2.2.1 65 (by decide) (by decide) (by decide)) (-1)).trans (l65))) ⟨by omega, by omega, by omega⟩) (fun oq11 Sq11 _ q11 => ?_)
    rcases q11 with ⟨rfl, rfl⟩
    show wJ _ _ _ _ _ _ _ _ _ _
    refine wg_pf (S := Z6) (len := (S 64 (-1))) 0 63 65 rfl rfl rfl wt_63 wf_1_4 wl_63_4 (by decide +kernel) wt_65 (by decide) (by decide +kernel) gi8 (fun q => absurd q (by decide)) (by decide) ⟨by omega, by omega⟩ (((congrFun (g7.2.2.1 65 (by decide) (by decide) (by decide)) (-1)).trans (l65))) (fun _ => ⟨Or.inr (by decide), Or.inl (nN_ge _)⟩) ⟨(Or.inr ⟨wy_pr rfl, mS_no rfl⟩), trivial, trivial, trivial, trivial⟩ trivial (fun Z12 g13 gi14 => ?_)
    have rm15 := rmR_gr rm9 g13 (by decide +kernel) (len := (S 64 (-1))) (((congrFun (g7.2.2.1 65 (by decide) (by decide) (by decide)) (-1)).trans (l65))) ⟨by omega, by omega⟩ ⟨fun q => by first | omega | exact absurd q (by decide), by show _ ≤ (100000000 : Int); omega⟩
    refine wa_aload_n (n := 0) rfl ?_
    refine wa_aload_n (n := 0) rfl ?_
    refine wb_gf4 63 rfl (wy_pr rfl) wt_63 wf_1_5 (v := 66) wl_63_5 ?_
    refine wa_aload_n (n := 0) rfl ?_
    refine wb_gfi 63 rfl (wy_pr rfl) wt_63 wf_1_7 (v := (S 63 7)) (((congrFun (g13.2.2.1 63 (by decide) (by decide) (by decide)) 7).trans ((congrFun (g7.2.2.1 63 (by decide) (by decide) (by decide)) 7)))) (fun r16 => ?_)
    refine wa_iconst ?_
    refine wa_imul ?_
    refine wa_cs (M2 := fun _ => False) rfl at_JA_copyOf_2 ⟨_, rfl⟩ rfl rfl ⟨(Or.inr ⟨wy_pr rfl, fun q => q⟩), trivial, trivial, trivial, trivial⟩ ⟨(Or.inr ⟨wy_pr rfl, fun q => q⟩), trivial⟩ (fun _ _ q => False.elim q) (cp_I (S := Z12) (a := 66) (n := ((S 63 7) * 2)) (len := (S 64 (-1))) (wy_pr rfl) wt_66 (((congrFun (g13.2.2.1 66 (by decide) (by decide) (by decide)) (-1)).trans (((congrFun (g7.2.2.1 66 (by decide) (by decide) (by decide)) (-1)).trans (l66))))) ⟨by omega, by omega, by omega⟩) (fun oq17 Sq17 _ q17 => ?_)
    rcases q17 with ⟨rfl, rfl⟩
    show wJ _ _ _ _ _ _ _ _ _ _
    refine wg_pf (S := Z12) (len := (S 64 (-1))) 0 63 66 rfl rfl rfl wt_63 wf_1_5 wl_63_5 (by decide +kernel) wt_66 (by decide) (by decide +kernel) gi14 (fun q => absurd q (by decide)) (by decide) ⟨by omega, by omega⟩ (((congrFun (g13.2.2.1 66 (by decide) (by decide) (by decide)) (-1)).trans (((congrFun (g7.2.2.1 66 (by decide) (by decide) (by decide)) (-1)).trans (l66))))) (fun _ => ⟨Or.inr (by decide), Or.inl (nN_ge _)⟩) ⟨(Or.inr ⟨wy_pr rfl, mS_no rfl⟩), trivial, trivial, trivial, trivial⟩ trivial (fun Z18 g19 gi20 => ?_)
    have rm21 := rmR_gr rm15 g19 (by decide +kernel) (len := (S 64 (-1))) (((congrFun (g13.2.2.1 66 (by decide) (by decide) (by decide)) (-1)).trans (((congrFun (g7.2.2.1 66 (by decide) (by decide) (by decide)) (-1)).trans (l66))))) ⟨by omega, by omega⟩ ⟨fun q => by first | omega | exact absurd q (by decide), by show _ ≤ (100000000 : Int); omega⟩
    refine wa_aload_n (n := 0) rfl ?_
    refine wa_aload_n (n := 0) rfl ?_
    refine wb_gf4 63 rfl (wy_pr rfl) wt_63 wf_1_6 (v := 67) wl_63_6 ?_
    refine wa_aload_n (n := 0) rfl ?_
    refine wb_gfi 63 rfl (wy_pr rfl) wt_63 wf_1_7 (v := (S 63 7)) (((congrFun (g19.2.2.1 63 (by decide) (by decide) (by decide)) 7).trans (((congrFun (g13.2.2.1 63 (by decide) (by decide) (by decide)) 7).trans ((congrFun (g7.2.2.1 63 (by decide) (by decide) (by decide)) 7)))))) (fun r22 => ?_)
    refine wa_iconst ?_
    refine wa_imul ?_
    refine wa_fall ⟨_, rfl⟩ ?_
    refine wa_cs (M2 := fun _ => False) rfl at_JA_copyOf_2 ⟨_, rfl⟩ rfl rfl ⟨(Or.inr ⟨wy_pr rfl, fun q => q⟩), trivial, trivial, trivial, trivial⟩ ⟨(Or.inr ⟨wy_pr rfl, fun q => q⟩), trivial⟩ (fun _ _ q => False.elim q) (cp_I (S := Z18) (a := 67) (n := ((S 63 7) * 2)) (len := (S 64 (-1))) (wy_pr rfl) wt_67 (((congrFun (g19.2.2.1 67 (by decide) (by decide) (by decide)) (-1)).trans (((congrFun (g13.2.2.1 67 (by decide) (by decide) (by decide)) (-1)).trans (((congrFun (g7.2.2.1 67 (by decide) (by decide) (by decide)) (-1)).trans (l67))))))) ⟨by omega, by omega, by omega⟩) (fun oq23 Sq23 _ q23 => ?_)
    rcases q23 with ⟨rfl, rfl⟩
    show wJ _ _ _ _ _ _ _ _ _ _
    refine wg_pf (S := Z18) (len := (S 64 (-1))) 0 63 67 rfl rfl rfl wt_63 wf_1_6 wl_63_6 (by decide +kernel) wt_67 (by decide) (by decide +kernel) gi20 (fun q => absurd q (by decide)) (by decide) ⟨by omega, by omega⟩ (((congrFun (g19.2.2.1 67 (by decide) (by decide) (by decide)) (-1)).trans (((congrFun (g13.2.2.1 67 (by decide) (by decide) (by decide)) (-1)).trans (((congrFun (g7.2.2.1 67 (by decide) (by decide) (by decide)) (-1)).trans (l67))))))) (fun _ => ⟨Or.inr (by decide), Or.inl (nN_ge _)⟩) ⟨(Or.inr ⟨wy_pr rfl, mS_no rfl⟩), trivial, trivial, trivial, trivial⟩ trivial (fun Z24 g25 gi26 => ?_)
    have rm27 := rmR_gr rm21 g25 (by decide +kernel) (len := (S 64 (-1))) (((congrFun (g19.2.2.1 67 (by decide) (by decide) (by decide)) (-1)).trans (((congrFun (g13.2.2.1 67 (by decide) (by decide) (by decide)) (-1)).trans (((congrFun (g7.2.2.1 67 (by decide) (by decide) (by decide)) (-1)).trans (l67))))))) ⟨by omega, by omega⟩ ⟨fun q => by first | omega | exact absurd q (by decide), by show _ ≤ (100000000 : Int); omega⟩
    refine wa_fall ⟨_, rfl⟩ ?_
    have zz : ∀ (j : Nat) (i : Int), j < 4000000 → j ≠ wG → j ≠ 64 → j ≠ 65 → j ≠ 66 → j ≠ 67 → Z24 j i = S j i := fun j i j0 j1 j2 j3 j4 j5 => (congrFun (g25.2.2.1 j (by omega) j0 j1) i).trans ((congrFun (g19.2.2.1 j (by omega) j0 j1) i).trans ((congrFun (g13.2.2.1 j (by omega) j0 j1) i).trans ((congrFun (g7.2.2.1 j (by omega) j0 j1) i).trans (rfl))))
    have y64 : ∀ i : Int, 0 ≤ i → i < (S 63 7) → Z24 64 i = S 64 i := by
      intro i i0 i1
      have f0 : Z24 64 i = Z18 64 i := congrFun (g25.2.2.1 64 (by decide) (by decide) (by decide)) i
      have f1 : Z18 64 i = Z12 64 i := congrFun (g19.2.2.1 64 (by decide) (by decide) (by decide)) i
      have f2 : Z12 64 i = Z6 64 i := congrFun (g13.2.2.1 64 (by decide) (by decide) (by decide)) i
      have e3 : S 64 (-1) = S 64 (-1) := rfl
      have f3 : Z6 64 i = S 64 i := g7.2.1 i i0 (by rw [e3]; omega)
      rw [f0, f1, f2, f3]
    have n64 : Z24 64 (-1) = (S 63 7) * 2 := (((congrFun (g25.2.2.1 64 (by decide) (by decide) (by decide)) (-1)).trans (((congrFun (g19.2.2.1 64 (by decide) (by decide) (by decide)) (-1)).trans (((congrFun (g13.2.2.1 64 (by decide) (by decide) (by decide)) (-1)).trans (g7.1)))))))
    have y65 : ∀ i : Int, 0 ≤ i → i < (S 63 7) → Z24 65 i = S 65 i := by
      intro i i0 i1
      have f0 : Z24 65 i = Z18 65 i := congrFun (g25.2.2.1 65 (by decide) (by decide) (by decide)) i
      have f1 : Z18 65 i = Z12 65 i := congrFun (g19.2.2.1 65 (by decide) (by decide) (by decide)) i
      have e2 : Z6 65 (-1) = S 65 (-1) := ((congrFun (g7.2.2.1 65 (by decide) (by decide) (by decide)) (-1)))
      have f2 : Z12 65 i = Z6 65 i := g13.2.1 i i0 (by rw [e2]; omega)
      have f3 : Z6 65 i = S 65 i := congrFun (g7.2.2.1 65 (by decide) (by decide) (by decide)) i
      rw [f0, f1, f2, f3]
    have n65 : Z24 65 (-1) = (S 63 7) * 2 := (((congrFun (g25.2.2.1 65 (by decide) (by decide) (by decide)) (-1)).trans (((congrFun (g19.2.2.1 65 (by decide) (by decide) (by decide)) (-1)).trans (g13.1)))))
    have y66 : ∀ i : Int, 0 ≤ i → i < (S 63 7) → Z24 66 i = S 66 i := by
      intro i i0 i1
      have f0 : Z24 66 i = Z18 66 i := congrFun (g25.2.2.1 66 (by decide) (by decide) (by decide)) i
      have e1 : Z12 66 (-1) = S 66 (-1) := (((congrFun (g13.2.2.1 66 (by decide) (by decide) (by decide)) (-1))).trans ((congrFun (g7.2.2.1 66 (by decide) (by decide) (by decide)) (-1))))
      have f1 : Z18 66 i = Z12 66 i := g19.2.1 i i0 (by rw [e1]; omega)
      have f2 : Z12 66 i = Z6 66 i := congrFun (g13.2.2.1 66 (by decide) (by decide) (by decide)) i
      have f3 : Z6 66 i = S 66 i := congrFun (g7.2.2.1 66 (by decide) (by decide) (by decide)) i
      rw [f0, f1, f2, f3]
    have n66 : Z24 66 (-1) = (S 63 7) * 2 := (((congrFun (g25.2.2.1 66 (by decide) (by decide) (by decide)) (-1)).trans (g19.1)))
    have y67 : ∀ i : Int, 0 ≤ i → i < (S 63 7) → Z24 67 i = S 67 i := by
      intro i i0 i1
      have e0 : Z18 67 (-1) = S 67 (-1) := (((congrFun (g19.2.2.1 67 (by decide) (by decide) (by decide)) (-1))).trans (((congrFun (g13.2.2.1 67 (by decide) (by decide) (by decide)) (-1))).trans ((congrFun (g7.2.2.1 67 (by decide) (by decide) (by decide)) (-1)))))
      have f0 : Z24 67 i = Z18 67 i := g25.2.1 i i0 (by rw [e0]; omega)
      have f1 : Z18 67 i = Z12 67 i := congrFun (g19.2.2.1 67 (by decide) (by decide) (by decide)) i
      have f2 : Z12 67 i = Z6 67 i := congrFun (g13.2.2.1 67 (by decide) (by decide) (by decide)) i
      have f3 : Z6 67 i = S 67 i := congrFun (g7.2.2.1 67 (by decide) (by decide) (by decide)) i
      rw [f0, f1, f2, f3]
    have n67 : Z24 67 (-1) = (S 63 7) * 2 := (g25.1)
    have e3 : Z24 63 7 = (S 63 7) := zz 63 7 (by decide) (by decide) (by decide) (by decide) (by decide) (by decide)
    have e11 : Z24 63 11 = (S 63 11) := zz 63 11 (by decide) (by decide) (by decide) (by decide) (by decide) (by decide)
    have e24 : Z24 24 (S 63 11) = S 24 (S 63 11) := zz 24 _ (by decide) (by decide) (by decide) (by decide) (by decide) (by decide)
    have zC : w_CL Z24 := fun y hy => (zz y.1 (-1) (by have := wz_lt y hy; omega) (by have := wz_lt y hy; unfold wG; omega) (by have := wz_nt y hy; omega) (by have := wz_nt y hy; omega) (by have := wz_nt y hy; omega) (by have := wz_nt y hy; omega)).trans (hC y hy)
    refine wJ_mono (nt_1 (S := Z24) zC gi26 ho ha hb (by rw [e11]; exact hu) (by rw [e11, e24]; exact h24) ⟨by omega, by omega, n65.trans n64.symm, n66.trans n64.symm, n67.trans n64.symm⟩ (by omega)) (fun o Z hz => ?_)
    obtain ⟨a0, ⟨a1, a1b⟩, a2, a3, a4, ⟨a5, a6, a6b, a7, a8⟩, a9, a10⟩ := hz
    rw [e3] at a0 a1 a2 a3 a7 a8
    rw [e11] at a1b a2 a4
    rw [e24] at a1b
    rw [n64] at a8
    refine ⟨a0, ⟨a1, a1b⟩, a2, fun i i0 i1 => ?_, fun j i j0 j1 j2 j3 j4 j5 j6 j7 => (a4 j i j0 j1 j2 j3 j4 j5 j6 j7).trans (zz j i j0 j1 j2 j3 j4 j5), ⟨a5, a6, a6b, a7, Or.inr ⟨by omega, by omega⟩⟩, a9, rmR_tr rm27 a10⟩
    obtain ⟨b1, b2, b3, b4⟩ := a3 i i0 i1
    exact ⟨b1.trans (y64 i i0 i1), b2.trans (y65 i i0 i1), b3.trans (y66 i i0 i1), b4.trans (y67 i i0 i1)⟩
end Way
