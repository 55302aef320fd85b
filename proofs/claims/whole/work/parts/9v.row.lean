/-! PART 9v: Row.add. -/
section W9v
variable {xs : List (Nat × List Int32)} {M : Nat → Prop} {d : Nat} {A B C S Z : wS} {Q : wO → wS → Prop}
/-- one more value in the row r -/
def ra_ag (r a b : Nat) (S Z : wS) (k v : Int) : Prop := Z r 2 = S r 2 + 1 ∧ (Z a (S r 2) = k ∧ Z b (S r 2) = v) ∧ (∀ i : Int, 0 ≤ i → i < S r 2 → Z a i = S a i ∧ Z b i = S b i) ∧ (∀ (j : Nat) (i : Int), j < 4000000 → j ≠ wG → j ≠ a → j ≠ b → (j ≠ r ∨ i ≠ 2) → Z j i = S j i) ∧ (Z b (-1) = Z a (-1) ∧ S r 2 + 1 ≤ Z a (-1) ∧ (Z a (-1) = S a (-1) ∨ (S r 2 = S a (-1) ∧ Z a (-1) = 2 * S r 2))) ∧ gI Z ∧ rmR S Z
/-- a row of values -/
def rw_L (r a b : Nat) (S : wS) : Prop := (0 ≤ S r 2 ∧ S r 2 ≤ S a (-1)) ∧ S b (-1) = S a (-1) ∧ 16 ≤ S a (-1) ∧ S a (-1) ≤ 8388608
/-- a row of values of static fields -/
def rw_S (r a b : Nat) (S : wS) : Prop := (0 ≤ S r 2 ∧ S r 2 ≤ S a (-1)) ∧ S b (-1) = S a (-1) ∧ 16 ≤ S a (-1) ∧ S a (-1) ≤ 2047
theorem ra1_116 {k v : Int} (hI : gI S) (hk : -128 ≤ k ∧ k ≤ 127) (hv : -9223372036854775808 ≤ v ∧ v ≤ 9223372036854775807) (h0 : 0 ≤ (S 116 2) ∧ (S 116 2) < S 117 (-1) ∧ S 118 (-1) = S 117 (-1)) (h9 : (S 116 2) ≤ 2147483000) : wJ (pe_GA xs) wY0 (mS [117, 118]) (d + 3) t_XV_add ((pe_at t_XV_add.bl 1).getD (0, [])).2 [(0, (2, 116)), (1, (0, k)), (2, (1, v))] [] S (fun o Z => o = .inl none ∧ ra_ag 116 117 118 S Z k v) := by
  have hR := rmR_rfl S
  have lb := h0.2.2
  refine wa_aload_n (n := 0) rfl ?_
  refine wb_gf4 116 rfl (wy_pr rfl) wt_116 wf_7_0 (v := 117) wl_116_0 ?_
  refine wa_aload_n (n := 0) rfl ?_
  refine wb_gfi 116 rfl (wy_pr rfl) wt_116 wf_7_2 (v := (S 116 2)) rfl (fun r1 => ?_)
  refine wa_iload_n (n := 1) rfl ?_
  refine wb_i2b_r (wb_i2b_id ⟨(by omega), (by omega)⟩) ?_
  refine wb_bast 117 rfl (wy_pr rfl) wt_117 (n := (S 117 (-1))) rfl (by omega) (by omega) ⟨(by omega), (by omega)⟩ ?_
  refine wa_aload_n (n := 0) rfl ?_
  refine wb_gf4 116 rfl (wy_pr rfl) wt_116 wf_7_1 (v := 118) wl_116_1 ?_
  refine wa_aload_n (n := 0) rfl ?_
  refine wb_gfi 116 rfl (wy_pr rfl) wt_116 wf_7_2 (v := (S 116 2)) (w_up_slot (by decide)) (fun r2 => ?_)
  refine wa_lload_n (n := 2) rfl ?_
  refine wb_last 118 rfl (wy_pr rfl) wt_118 (n := (S 117 (-1))) ((w_up_slot (by decide)).trans (lb)) (by omega) (by omega) ⟨(by omega), (by omega)⟩ ?_
  refine wa_aload_n (n := 0) rfl ?_
  refine wa_dup (by decide) ?_
  refine wb_gfi 116 rfl (wy_pr rfl) wt_116 wf_7_2 (v := (S 116 2)) ((w_up_slot (by decide)).trans (w_up_slot (by decide))) (fun r3 => ?_)
  refine wa_iconst ?_
  refine wa_iadd ?_
  refine wb_pfi 116 rfl (wy_pr rfl) wt_116 wf_7_2 (n := 2) rfl ⟨(by omega), (by omega)⟩ ?_
  refine wa_return rfl ?_
  refine ⟨rfl, (w_up_same _ _ _ _), ⟨((w_up_slot (by decide)).trans ((w_up_slot (by decide)).trans (w_up_same _ _ _ _))), ((w_up_slot (by decide)).trans (w_up_same _ _ _ _))⟩, fun i i0 i1 => ⟨((w_up_slot (by decide)).trans ((w_up_slot (by decide)).trans (w_up_at (by omega)))), ((w_up_slot (by decide)).trans ((w_up_at (by omega)).trans (w_up_slot (by decide))))⟩, fun j i j0 j1 j2 j3 j5 => ?_, ?_, (gI_up (gI_up (gI_up hI (by omega) (by omega) (by omega)) (by omega) (by omega) (by omega)) (by omega) (by omega) (by omega)), (rmR_up (rmR_up (rmR_up hR (by omega) (by decide)) (by omega) (by decide)) (by omega) (by decide))⟩
  · exact (w_up_no (by omega)).trans ((w_up_no (by omega)).trans ((w_up_no (by omega)).trans (rfl)))
  · have ma : (w_up (w_up (w_up S 117 (S 116 2) k) 118 (S 116 2) v) 116 2 ((S 116 2) + 1)) 117 (-1) = S 117 (-1) := ((w_up_slot (by decide)).trans ((w_up_slot (by decide)).trans (w_up_at (by omega))))
    have mb : (w_up (w_up (w_up S 117 (S 116 2) k) 118 (S 116 2) v) 116 2 ((S 116 2) + 1)) 118 (-1) = S 117 (-1) := ((w_up_slot (by decide)).trans ((w_up_at (by omega)).trans ((w_up_slot (by decide)).trans (lb))))
    exact ⟨mb.trans ma.symm, by rw [ma]; omega, Or.inl ma⟩
theorem ra_116 {k v : Int} (hI : gI S) (hk : -128 ≤ k ∧ k ≤ 127) (hv : -9223372036854775808 ≤ v ∧ v ≤ 9223372036854775807) (h0 : rw_S 116 117 118 S) : wJ (pe_GA xs) wY0 (mS [117, 118]) (d + 3) t_XV_add ((pe_at t_XV_add.bl 0).getD (0, [])).2 [(0, (2, 116)), (1, (0, k)), (2, (1, v))] [] S (fun o Z => o = .inl none ∧ ra_ag 116 117 118 S Z k v) := by
  have hR := rmR_rfl S
  obtain ⟨h1, lb, h4, h5⟩ := h0
  refine wa_aload_n (n := 0) rfl ?_
  refine wb_gfi 116 rfl (wy_pr rfl) wt_116 wf_7_2 (v := (S 116 2)) rfl (fun r1 => ?_)
  refine wa_aload_n (n := 0) rfl ?_
  refine wb_gf4 116 rfl (wy_pr rfl) wt_116 wf_7_0 (v := 117) wl_116_0 ?_
  refine wb_alen 117 rfl (wy_pr rfl) (by rw [wt_117]; rfl) (v := (S 117 (-1))) rfl (fun r2 => ?_)
  refine wa_icmpne (w_rg0 (by omega) (by omega)) (w_rg0 (by omega) (by omega)) ⟨_, rfl⟩ (fun c3 => ?_) (fun c3 => ?_)
  · skip
    exact ra1_116 hI hk hv ⟨by omega, by omega, lb⟩ (by omega)
  · skip
    refine wa_aload_n (n := 0) rfl ?_
    refine wa_aload_n (n := 0) rfl ?_
    refine wb_gf4 116 rfl (wy_pr rfl) wt_116 wf_7_0 (v := 117) wl_116_0 ?_
    refine wa_aload_n (n := 0) rfl ?_
    refine wb_gfi 116 rfl (wy_pr rfl) wt_116 wf_7_2 (v := (S 116 2)) rfl (fun r4 => ?_)
    refine wa_iconst ?_
    refine wa_imul ?_
    refine wa_cs (M2 := fun _ => False) rfl at_JA_copyOf ⟨_, rfl⟩ rfl rfl ⟨(Or.inr ⟨wy_pr rfl, fun q => q⟩), trivial, trivial, trivial⟩ ⟨(Or.inr ⟨wy_pr rfl, fun q => q⟩), trivial⟩ (fun _ _ q => False.elim q) (cp_B (S := S) (a := 117) (n := ((S 116 2) * 2)) (len := (S 117 (-1))) (wy_pr rfl) wt_117 rfl ⟨by omega, by omega, by omega⟩) (fun oq5 Sq5 _ q5 => ?_)
    rcases q5 with ⟨rfl, rfl⟩
    show wJ _ _ _ _ _ _ _ _ _ _
    refine wg_pf (S := S) (len := (S 117 (-1))) 2 116 117 rfl rfl rfl wt_116 wf_7_0 wl_116_0 (by decide +kernel) wt_117 (by decide) (by decide +kernel) hI (fun q => absurd q (by decide)) (by decide) ⟨by omega, by omega⟩ rfl (fun _ => ⟨Or.inr (by decide), Or.inl (nN_ge _)⟩) ⟨(Or.inr ⟨wy_pr rfl, mS_no rfl⟩), trivial, trivial, trivial⟩ trivial (fun Z6 g7 gi8 => ?_)
    have rm9 := rmR_gr hR g7 (by decide +kernel) (len := (S 117 (-1))) rfl ⟨by omega, by omega⟩ ⟨fun q => by first | omega | exact absurd q (by decide), by show _ ≤ (100000000 : Int); omega⟩
    refine wa_aload_n (n := 0) rfl ?_
    refine wa_aload_n (n := 0) rfl ?_
    refine wb_gf4 116 rfl (wy_pr rfl) wt_116 wf_7_1 (v := 118) wl_116_1 ?_
    refine wa_aload_n (n := 0) rfl ?_
    refine wb_gfi 116 rfl (wy_pr rfl) wt_116 wf_7_2 (v := (S 116 2)) ((congrFun (g7.2.2.1 116 (by decide) (by decide) (by decide)) 2)) (fun r10 => ?_)
    refine wa_iconst ?_
    refine wa_imul ?_
    refine wa_cs (M2 := fun _ => False) rfl at_JA_copyOf_3 ⟨_, rfl⟩ rfl rfl ⟨(Or.inr ⟨wy_pr rfl, fun q => q⟩), trivial, trivial, trivial⟩ ⟨(Or.inr ⟨wy_pr rfl, fun q => q⟩), trivial⟩ (fun _ _ q => False.elim q) (cp_J (S := Z6) (a := 118) (n := ((S 116 2) * 2)) (len := (S 117 (-1))) (wy_pr rfl) wt_118 (((congrFun (g7.2.2.1 118 (by decide) (by decide) (by decide)) (-1)).trans (lb))) ⟨by omega, by omega, by omega⟩) (fun oq11 Sq11 _ q11 => ?_)
    rcases q11 with ⟨rfl, rfl⟩
    show wJ _ _ _ _ _ _ _ _ _ _
    refine wg_pf (S := Z6) (len := (S 117 (-1))) 1 116 118 rfl rfl rfl wt_116 wf_7_1 wl_116_1 (by decide +kernel) wt_118 (by decide) (by decide +kernel) gi8 (fun q => absurd q (by decide)) (by decide) ⟨by omega, by omega⟩ (((congrFun (g7.2.2.1 118 (by decide) (by decide) (by decide)) (-1)).trans (lb))) (fun _ => ⟨Or.inr (by decide), Or.inl (nN_ge _)⟩) ⟨(Or.inr ⟨wy_pr rfl, mS_no rfl⟩), trivial, trivial, trivial⟩ trivial (fun Z12 g13 gi14 => ?_)
    have rm15 := rmR_gr rm9 g13 (by decide +kernel) (len := (S 117 (-1))) (((congrFun (g7.2.2.1 118 (by decide) (by decide) (by decide)) (-1)).trans (lb))) ⟨by omega, by omega⟩ ⟨fun q => by first | omega | exact absurd q (by decide), by show _ ≤ (100000000 : Int); omega⟩
    refine wa_fall ⟨_, rfl⟩ ?_
    have zz : ∀ (j : Nat) (i : Int), j < 4000000 → j ≠ wG → j ≠ 117 → j ≠ 118 → Z12 j i = S j i := fun j i j0 j1 j2 j3 => (congrFun (g13.2.2.1 j (by omega) j0 j1) i).trans ((congrFun (g7.2.2.1 j (by omega) j0 j1) i).trans (rfl))
    have y117 : ∀ i : Int, 0 ≤ i → i < (S 116 2) → Z12 117 i = S 117 i := by
      intro i i0 i1
      have f0 : Z12 117 i = Z6 117 i := congrFun (g13.2.2.1 117 (by decide) (by decide) (by decide)) i
      have e1 : S 117 (-1) = S 117 (-1) := rfl
      have f1 : Z6 117 i = S 117 i := g7.2.1 i i0 (by rw [e1]; omega)
      rw [f0, f1]
    have n117 : Z12 117 (-1) = (S 116 2) * 2 := (((congrFun (g13.2.2.1 117 (by decide) (by decide) (by decide)) (-1)).trans (g7.1)))
    have y118 : ∀ i : Int, 0 ≤ i → i < (S 116 2) → Z12 118 i = S 118 i := by
      intro i i0 i1
      have e0 : Z6 118 (-1) = S 118 (-1) := ((congrFun (g7.2.2.1 118 (by decide) (by decide) (by decide)) (-1)))
      have f0 : Z12 118 i = Z6 118 i := g13.2.1 i i0 (by rw [e0]; omega)
      have f1 : Z6 118 i = S 118 i := congrFun (g7.2.2.1 118 (by decide) (by decide) (by decide)) i
      rw [f0, f1]
    have n118 : Z12 118 (-1) = (S 116 2) * 2 := (g13.1)
    have e3 : Z12 116 2 = (S 116 2) := zz 116 2 (by decide) (by decide) (by decide) (by decide)
    refine wJ_mono (ra1_116 (S := Z12) gi14 hk hv ⟨by omega, by omega, n118.trans n117.symm⟩ (by omega)) (fun o Z hz => ⟨hz.1, ?_⟩)
    obtain ⟨-, a1, a2, a3, a4, ⟨a5, a7, a8⟩, a9, a10⟩ := hz
    rw [e3] at a1 a2 a3 a7 a8
    rw [n117] at a8
    refine ⟨a1, a2, fun i i0 i1 => ?_, fun j i j0 j1 j2 j3 j5 => (a4 j i j0 j1 j2 j3 j5).trans (zz j i j0 j1 j2 j3), ⟨a5, a7, Or.inr ⟨by omega, by omega⟩⟩, a9, rmR_tr rm15 a10⟩
    obtain ⟨b1, b2⟩ := a3 i i0 i1
    exact ⟨b1.trans (y117 i i0 i1), b2.trans (y118 i i0 i1)⟩
theorem ra1_140 {k v : Int} (hI : gI S) (hk : -128 ≤ k ∧ k ≤ 127) (hv : -9223372036854775808 ≤ v ∧ v ≤ 9223372036854775807) (h0 : 0 ≤ (S 140 2) ∧ (S 140 2) < S 141 (-1) ∧ S 142 (-1) = S 141 (-1)) (h9 : (S 140 2) ≤ 2147483000) : wJ (pe_GA xs) wY0 (mS [141, 142]) (d + 3) t_XV_add ((pe_at t_XV_add.bl 1).getD (0, [])).2 [(0, (2, 140)), (1, (0, k)), (2, (1, v))] [] S (fun o Z => o = .inl none ∧ ra_ag 140 141 142 S Z k v) := by
  have hR := rmR_rfl S
  have lb := h0.2.2
  refine wa_aload_n (n := 0) rfl ?_
  refine wb_gf4 140 rfl (wy_pr rfl) wt_140 wf_7_0 (v := 141) wl_140_0 ?_
  refine wa_aload_n (n := 0) rfl ?_
  refine wb_gfi 140 rfl (wy_pr rfl) wt_140 wf_7_2 (v := (S 140 2)) rfl (fun r1 => ?_)
  refine wa_iload_n (n := 1) rfl ?_
  refine wb_i2b_r (wb_i2b_id ⟨(by omega), (by omega)⟩) ?_
  refine wb_bast 141 rfl (wy_pr rfl) wt_141 (n := (S 141 (-1))) rfl (by omega) (by omega) ⟨(by omega), (by omega)⟩ ?_
  refine wa_aload_n (n := 0) rfl ?_
  refine wb_gf4 140 rfl (wy_pr rfl) wt_140 wf_7_1 (v := 142) wl_140_1 ?_
  refine wa_aload_n (n := 0) rfl ?_
  refine wb_gfi 140 rfl (wy_pr rfl) wt_140 wf_7_2 (v := (S 140 2)) (w_up_slot (by decide)) (fun r2 => ?_)
  refine wa_lload_n (n := 2) rfl ?_
  refine wb_last 142 rfl (wy_pr rfl) wt_142 (n := (S 141 (-1))) ((w_up_slot (by decide)).trans (lb)) (by omega) (by omega) ⟨(by omega), (by omega)⟩ ?_
  refine wa_aload_n (n := 0) rfl ?_
  refine wa_dup (by decide) ?_
  refine wb_gfi 140 rfl (wy_pr rfl) wt_140 wf_7_2 (v := (S 140 2)) ((w_up_slot (by decide)).trans (w_up_slot (by decide))) (fun r3 => ?_)
  refine wa_iconst ?_
  refine wa_iadd ?_
  refine wb_pfi 140 rfl (wy_pr rfl) wt_140 wf_7_2 (n := 2) rfl ⟨(by omega), (by omega)⟩ ?_
  refine wa_return rfl ?_
  refine ⟨rfl, (w_up_same _ _ _ _), ⟨((w_up_slot (by decide)).trans ((w_up_slot (by decide)).trans (w_up_same _ _ _ _))), ((w_up_slot (by decide)).trans (w_up_same _ _ _ _))⟩, fun i i0 i1 => ⟨((w_up_slot (by decide)).trans ((w_up_slot (by decide)).trans (w_up_at (by omega)))), ((w_up_slot (by decide)).trans ((w_up_at (by omega)).trans (w_up_slot (by decide))))⟩, fun j i j0 j1 j2 j3 j5 => ?_, ?_, (gI_up (gI_up (gI_up hI (by omega) (by omega) (by omega)) (by omega) (by omega) (by omega)) (by omega) (by omega) (by omega)), (rmR_up (rmR_up (rmR_up hR (by omega) (by decide)) (by omega) (by decide)) (by omega) (by decide))⟩
  · exact (w_up_no (by omega)).trans ((w_up_no (by omega)).trans ((w_up_no (by omega)).trans (rfl)))
  · have ma : (w_up (w_up (w_up S 141 (S 140 2) k) 142 (S 140 2) v) 140 2 ((S 140 2) + 1)) 141 (-1) = S 141 (-1) := ((w_up_slot (by decide)).trans ((w_up_slot (by decide)).trans (w_up_at (by omega))))
    have mb : (w_up (w_up (w_up S 141 (S 140 2) k) 142 (S 140 2) v) 140 2 ((S 140 2) + 1)) 142 (-1) = S 141 (-1) := ((w_up_slot (by decide)).trans ((w_up_at (by omega)).trans ((w_up_slot (by decide)).trans (lb))))
    exact ⟨mb.trans ma.symm, by rw [ma]; omega, Or.inl ma⟩
theorem ra_140 {k v : Int} (hI : gI S) (hk : -128 ≤ k ∧ k ≤ 127) (hv : -9223372036854775808 ≤ v ∧ v ≤ 9223372036854775807) (h0 : rw_L 140 141 142 S) : wJ (pe_GA xs) wY0 (mS [141, 142]) (d + 3) t_XV_add ((pe_at t_XV_add.bl 0).getD (0, [])).2 [(0, (2, 140)), (1, (0, k)), (2, (1, v))] [] S (fun o Z => o = .inl none ∧ ra_ag 140 141 142 S Z k v) := by
  have hR := rmR_rfl S
  obtain ⟨h1, lb, h4, h5⟩ := h0
  refine wa_aload_n (n := 0) rfl ?_
  refine wb_gfi 140 rfl (wy_pr rfl) wt_140 wf_7_2 (v := (S 140 2)) rfl (fun r1 => ?_)
  refine wa_aload_n (n := 0) rfl ?_
  refine wb_gf4 140 rfl (wy_pr rfl) wt_140 wf_7_0 (v := 141) wl_140_0 ?_
  refine wb_alen 141 rfl (wy_pr rfl) (by rw [wt_141]; rfl) (v := (S 141 (-1))) rfl (fun r2 => ?_)
  refine wa_icmpne (w_rg0 (by omega) (by omega)) (w_rg0 (by omega) (by omega)) ⟨_, rfl⟩ (fun c3 => ?_) (fun c3 => ?_)
  · skip
    exact ra1_140 hI hk hv ⟨by omega, by omega, lb⟩ (by omega)
  · skip
    refine wa_aload_n (n := 0) rfl ?_
    refine wa_aload_n (n := 0) rfl ?_
    refine wb_gf4 140 rfl (wy_pr rfl) wt_140 wf_7_0 (v := 141) wl_140_0 ?_
    refine wa_aload_n (n := 0) rfl ?_
    refine wb_gfi 140 rfl (wy_pr rfl) wt_140 wf_7_2 (v := (S 140 2)) rfl (fun r4 => ?_)
    refine wa_iconst ?_
    refine wa_imul ?_
    refine wa_cs (M2 := fun _ => False) rfl at_JA_copyOf ⟨_, rfl⟩ rfl rfl ⟨(Or.inr ⟨wy_pr rfl, fun q => q⟩), trivial, trivial, trivial⟩ ⟨(Or.inr ⟨wy_pr rfl, fun q => q⟩), trivial⟩ (fun _ _ q => False.elim q) (cp_B (S := S) (a := 141) (n := ((S 140 2) * 2)) (len := (S 141 (-1))) (wy_pr rfl) wt_141 rfl ⟨by omega, by omega, by omega⟩) (fun oq5 Sq5 _ q5 => ?_)
    rcases q5 with ⟨rfl, rfl⟩
    show wJ _ _ _ _ _ _ _ _ _ _
    refine wg_pf (S := S) (len := (S 141 (-1))) 2 140 141 rfl rfl rfl wt_140 wf_7_0 wl_140_0 (by decide +kernel) wt_141 (by decide) (by decide +kernel) hI (fun q => absurd q (by decide)) (by decide) ⟨by omega, by omega⟩ rfl (fun _ => ⟨Or.inr (by decide), Or.inl (nN_ge _)⟩) ⟨(Or.inr ⟨wy_pr rfl, mS_no rfl⟩), trivial, trivial, trivial⟩ trivial (fun Z6 g7 gi8 => ?_)
    have rm9 := rmR_gr hR g7 (by decide +kernel) (len := (S 141 (-1))) rfl ⟨by omega, by omega⟩ ⟨fun q => by first | omega | exact absurd q (by decide), by show _ ≤ (100000000 : Int); omega⟩
    refine wa_aload_n (n := 0) rfl ?_
    refine wa_aload_n (n := 0) rfl ?_
    refine wb_gf4 140 rfl (wy_pr rfl) wt_140 wf_7_1 (v := 142) wl_140_1 ?_
    refine wa_aload_n (n := 0) rfl ?_
    refine wb_gfi 140 rfl (wy_pr rfl) wt_140 wf_7_2 (v := (S 140 2)) ((congrFun (g7.2.2.1 140 (by decide) (by decide) (by decide)) 2)) (fun r10 => ?_)
    refine wa_iconst ?_
    refine wa_imul ?_
    refine wa_cs (M2 := fun _ => False) rfl at_JA_copyOf_3 ⟨_, rfl⟩ rfl rfl ⟨(Or.inr ⟨wy_pr rfl, fun q => q⟩), trivial, trivial, trivial⟩ ⟨(Or.inr ⟨wy_pr rfl, fun q => q⟩), trivial⟩ (fun _ _ q => False.elim q) (cp_J (S := Z6) (a := 142) (n := ((S 140 2) * 2)) (len := (S 141 (-1))) (wy_pr rfl) wt_142 (((congrFun (g7.2.2.1 142 (by decide) (by decide) (by decide)) (-1)).trans (lb))) ⟨by omega, by omega, by omega⟩) (fun oq11 Sq11 _ q11 => ?_)
    rcases q11 with ⟨rfl, rfl⟩
    show wJ _ _ _ _ _ _ _ _ _ _
    refine wg_pf (S := Z6) (len := (S 141 (-1))) 1 140 142 rfl rfl rfl wt_140 wf_7_1 wl_140_1 (by decide +kernel) wt_142 (by decide) (by decide +kernel) gi8 (fun q => absurd q (by decide)) (by decide) ⟨by omega, by omega⟩ (((congrFun (g7.2.2.1 142 (by decide) (by decide) (by decide)) (-1)).trans (lb))) (fun _ => ⟨Or.inr (by decide), Or.inl (nN_ge _)⟩) ⟨(Or.inr ⟨wy_pr rfl, mS_no rfl⟩), trivial, trivial, trivial⟩ trivial (fun Z12 g13 gi14 => ?_)
    have rm15 := rmR_gr rm9 g13 (by decide +kernel) (len := (S 141 (-1))) (((congrFun (g7.2.2.1 142 (by decide) (by decide) (by decide)) (-1)).trans (lb))) ⟨by omega, by omega⟩ ⟨fun q => by first | omega | exact absurd q (by decide), by show _ ≤ (100000000 : Int); omega⟩
    refine wa_fall ⟨_, rfl⟩ ?_
    have zz : ∀ (j : Nat) (i : Int), j < 4000000 → j ≠ wG → j ≠ 141 → j ≠ 142 → Z12 j i = S j i := fun j i j0 j1 j2 j3 => (congrFun (g13.2.2.1 j (by omega) j0 j1) i).trans ((congrFun (g7.2.2.1 j (by omega) j0 j1) i).trans (rfl))
    have y141 : ∀ i : Int, 0 ≤ i → i < (S 140 2) → Z12 141 i = S 141 i := by
      intro i i0 i1
      have f0 : Z12 141 i = Z6 141 i := congrFun (g13.2.2.1 141 (by decide) (by decide) (by decide)) i
      have e1 : S 141 (-1) = S 141 (-1) := rfl
      have f1 : Z6 141 i = S 141 i := g7.2.1 i i0 (by rw [e1]; omega)
      rw [f0, f1]
    have n141 : Z12 141 (-1) = (S 140 2) * 2 := (((congrFun (g13.2.2.1 141 (by decide) (by decide) (by decide)) (-1)).trans (g7.1)))
    have y142 : ∀ i : Int, 0 ≤ i → i < (S 140 2) → Z12 142 i = S 142 i := by
      intro i i0 i1
      have e0 : Z6 142 (-1) = S 142 (-1) := ((congrFun (g7.2.2.1 142 (by decide) (by decide) (by decide)) (-1)))
      have f0 : Z12 142 i = Z6 142 i := g13.2.1 i i0 (by rw [e0]; omega)
      have f1 : Z6 142 i = S 142 i := congrFun (g7.2.2.1 142 (by decide) (by decide) (by decide)) i
      rw [f0, f1]
    have n142 : Z12 142 (-1) = (S 140 2) * 2 := (g13.1)
    have e3 : Z12 140 2 = (S 140 2) := zz 140 2 (by decide) (by decide) (by decide) (by decide)
    refine wJ_mono (ra1_140 (S := Z12) gi14 hk hv ⟨by omega, by omega, n142.trans n141.symm⟩ (by omega)) (fun o Z hz => ⟨hz.1, ?_⟩)
    obtain ⟨-, a1, a2, a3, a4, ⟨a5, a7, a8⟩, a9, a10⟩ := hz
    rw [e3] at a1 a2 a3 a7 a8
    rw [n141] at a8
    refine ⟨a1, a2, fun i i0 i1 => ?_, fun j i j0 j1 j2 j3 j5 => (a4 j i j0 j1 j2 j3 j5).trans (zz j i j0 j1 j2 j3), ⟨a5, a7, Or.inr ⟨by omega, by omega⟩⟩, a9, rmR_tr rm15 a10⟩
    obtain ⟨b1, b2⟩ := a3 i i0 i1
    exact ⟨b1.trans (y141 i i0 i1), b2.trans (y142 i i0 i1)⟩
theorem ra1_153 {k v : Int} (hI : gI S) (hk : -128 ≤ k ∧ k ≤ 127) (hv : -9223372036854775808 ≤ v ∧ v ≤ 9223372036854775807) (h0 : 0 ≤ (S 153 2) ∧ (S 153 2) < S 154 (-1) ∧ S 155 (-1) = S 154 (-1)) (h9 : (S 153 2) ≤ 2147483000) : wJ (pe_GA xs) wY0 (mS [154, 155]) (d + 3) t_XV_add ((pe_at t_XV_add.bl 1).getD (0, [])).2 [(0, (2, 153)), (1, (0, k)), (2, (1, v))] [] S (fun o Z => o = .inl none ∧ ra_ag 153 154 155 S Z k v) := by
  have hR := rmR_rfl S
  have lb := h0.2.2
  refine wa_aload_n (n := 0) rfl ?_
  refine wb_gf4 153 rfl (wy_pr rfl) wt_153 wf_7_0 (v := 154) wl_153_0 ?_
  refine wa_aload_n (n := 0) rfl ?_
  refine wb_gfi 153 rfl (wy_pr rfl) wt_153 wf_7_2 (v := (S 153 2)) rfl (fun r1 => ?_)
  refine wa_iload_n (n := 1) rfl ?_
  refine wb_i2b_r (wb_i2b_id ⟨(by omega), (by omega)⟩) ?_
  refine wb_bast 154 rfl (wy_pr rfl) wt_154 (n := (S 154 (-1))) rfl (by omega) (by omega) ⟨(by omega), (by omega)⟩ ?_
  refine wa_aload_n (n := 0) rfl ?_
  refine wb_gf4 153 rfl (wy_pr rfl) wt_153 wf_7_1 (v := 155) wl_153_1 ?_
  refine wa_aload_n (n := 0) rfl ?_
  refine wb_gfi 153 rfl (wy_pr rfl) wt_153 wf_7_2 (v := (S 153 2)) (w_up_slot (by decide)) (fun r2 => ?_)
  refine wa_lload_n (n := 2) rfl ?_
  refine wb_last 155 rfl (wy_pr rfl) wt_155 (n := (S 154 (-1))) ((w_up_slot (by decide)).trans (lb)) (by omega) (by omega) ⟨(by omega), (by omega)⟩ ?_
  refine wa_aload_n (n := 0) rfl ?_
  refine wa_dup (by decide) ?_
  refine wb_gfi 153 rfl (wy_pr rfl) wt_153 wf_7_2 (v := (S 153 2)) ((w_up_slot (by decide)).trans (w_up_slot (by decide))) (fun r3 => ?_)
  refine wa_iconst ?_
  refine wa_iadd ?_
  refine wb_pfi 153 rfl (wy_pr rfl) wt_153 wf_7_2 (n := 2) rfl ⟨(by omega), (by omega)⟩ ?_
  refine wa_return rfl ?_
  refine ⟨rfl, (w_up_same _ _ _ _), ⟨((w_up_slot (by decide)).trans ((w_up_slot (by decide)).trans (w_up_same _ _ _ _))), ((w_up_slot (by decide)).trans (w_up_same _ _ _ _))⟩, fun i i0 i1 => ⟨((w_up_slot (by decide)).trans ((w_up_slot (by decide)).trans (w_up_at (by omega)))), ((w_up_slot (by decide)).trans ((w_up_at (by omega)).trans (w_up_slot (by decide))))⟩, fun j i j0 j1 j2 j3 j5 => ?_, ?_, (gI_up (gI_up (gI_up hI (by omega) (by omega) (by omega)) (by omega) (by omega) (by omega)) (by omega) (by omega) (by omega)), (rmR_up (rmR_up (rmR_up hR (by omega) (by decide)) (by omega) (by decide)) (by omega) (by decide))⟩
  · exact (w_up_no (by omega)).trans ((w_up_no (by omega)).trans ((w_up_no (by omega)).trans (rfl)))
  · have ma : (w_up (w_up (w_up S 154 (S 153 2) k) 155 (S 153 2) v) 153 2 ((S 153 2) + 1)) 154 (-1) = S 154 (-1) := ((w_up_slot (by decide)).trans ((w_up_slot (by decide)).trans (w_up_at (by omega))))
    have mb : (w_up (w_up (w_up S 154 (S 153 2) k) 155 (S 153 2) v) 153 2 ((S 153 2) + 1)) 155 (-1) = S 154 (-1) := ((w_up_slot (by decide)).trans ((w_up_at (by omega)).trans ((w_up_slot (by decide)).trans (lb))))
    exact ⟨mb.trans ma.symm, by rw [ma]; omega, Or.inl ma⟩
theorem ra_153 {k v : Int} (hI : gI S) (hk : -128 ≤ k ∧ k ≤ 127) (hv : -9223372036854775808 ≤ v ∧ v ≤ 9223372036854775807) (h0 : rw_L 153 154 155 S) : wJ (pe_GA xs) wY0 (mS [154, 155]) (d + 3) t_XV_add ((pe_at t_XV_add.bl 0).getD (0, [])).2 [(0, (2, 153)), (1, (0, k)), (2, (1, v))] [] S (fun o Z => o = .inl none ∧ ra_ag 153 154 155 S Z k v) := by
  have hR := rmR_rfl S
  obtain ⟨h1, lb, h4, h5⟩ := h0
  refine wa_aload_n (n := 0) rfl ?_
  refine wb_gfi 153 rfl (wy_pr rfl) wt_153 wf_7_2 (v := (S 153 2)) rfl (fun r1 => ?_)
  refine wa_aload_n (n := 0) rfl ?_
  refine wb_gf4 153 rfl (wy_pr rfl) wt_153 wf_7_0 (v := 154) wl_153_0 ?_
  refine wb_alen 154 rfl (wy_pr rfl) (by rw [wt_154]; rfl) (v := (S 154 (-1))) rfl (fun r2 => ?_)
  refine wa_icmpne (w_rg0 (by omega) (by omega)) (w_rg0 (by omega) (by omega)) ⟨_, rfl⟩ (fun c3 => ?_) (fun c3 => ?_)
  · skip
    exact ra1_153 hI hk hv ⟨by omega, by omega, lb⟩ (by omega)
  · skip
    refine wa_aload_n (n := 0) rfl ?_
    refine wa_aload_n (n := 0) rfl ?_
    refine wb_gf4 153 rfl (wy_pr rfl) wt_153 wf_7_0 (v := 154) wl_153_0 ?_
    refine wa_aload_n (n := 0) rfl ?_
    refine wb_gfi 153 rfl (wy_pr rfl) wt_153 wf_7_2 (v := (S 153 2)) rfl (fun r4 => ?_)
    refine wa_iconst ?_
    refine wa_imul ?_
    refine wa_cs (M2 := fun _ => False) rfl at_JA_copyOf ⟨_, rfl⟩ rfl rfl ⟨(Or.inr ⟨wy_pr rfl, fun q => q⟩), trivial, trivial, trivial⟩ ⟨(Or.inr ⟨wy_pr rfl, fun q => q⟩), trivial⟩ (fun _ _ q => False.elim q) (cp_B (S := S) (a := 154) (n := ((S 153 2) * 2)) (len := (S 154 (-1))) (wy_pr rfl) wt_154 rfl ⟨by omega, by omega, by omega⟩) (fun oq5 Sq5 _ q5 => ?_)
    rcases q5 with ⟨rfl, rfl⟩
    show wJ _ _ _ _ _ _ _ _ _ _
    refine wg_pf (S := S) (len := (S 154 (-1))) 2 153 154 rfl rfl rfl wt_153 wf_7_0 wl_153_0 (by decide +kernel) wt_154 (by decide) (by decide +kernel) hI (fun q => absurd q (by decide)) (by decide) ⟨by omega, by omega⟩ rfl (fun _ => ⟨Or.inr (by decide), Or.inl (nN_ge _)⟩) ⟨(Or.inr ⟨wy_pr rfl, mS_no rfl⟩), trivial, trivial, trivial⟩ trivial (fun Z6 g7 gi8 => ?_)
    have rm9 := rmR_gr hR g7 (by decide +kernel) (len := (S 154 (-1))) rfl ⟨by omega, by omega⟩ ⟨fun q => by first | omega | exact absurd q (by decide), by show _ ≤ (100000000 : Int); omega⟩
    refine wa_aload_n (n := 0) rfl ?_
    refine wa_aload_n (n := 0) rfl ?_
    refine wb_gf4 153 rfl (wy_pr rfl) wt_153 wf_7_1 (v := 155) wl_153_1 ?_
    refine wa_aload_n (n := 0) rfl ?_
    refine wb_gfi 153 rfl (wy_pr rfl) wt_153 wf_7_2 (v := (S 153 2)) ((congrFun (g7.2.2.1 153 (by decide) (by decide) (by decide)) 2)) (fun r10 => ?_)
    refine wa_iconst ?_
    refine wa_imul ?_
    refine wa_cs (M2 := fun _ => False) rfl at_JA_copyOf_3 ⟨_, rfl⟩ rfl rfl ⟨(Or.inr ⟨wy_pr rfl, fun q => q⟩), trivial, trivial, trivial⟩ ⟨(Or.inr ⟨wy_pr rfl, fun q => q⟩), trivial⟩ (fun _ _ q => False.elim q) (cp_J (S := Z6) (a := 155) (n := ((S 153 2) * 2)) (len := (S 154 (-1))) (wy_pr rfl) wt_155 (((congrFun (g7.2.2.1 155 (by decide) (by decide) (by decide)) (-1)).trans (lb))) ⟨by omega, by omega, by omega⟩) (fun oq11 Sq11 _ q11 => ?_)
    rcases q11 with ⟨rfl, rfl⟩
    show wJ _ _ _ _ _ _ _ _ _ _
    refine wg_pf (S := Z6) (len := (S 154 (-1))) 1 153 155 rfl rfl rfl wt_153 wf_7_1 wl_153_1 (by decide +kernel) wt_155 (by decide) (by decide +kernel) gi8 (fun q => absurd q (by decide)) (by decide) ⟨by omega, by omega⟩ (((congrFun (g7.2.2.1 155 (by decide) (by decide) (by decide)) (-1)).trans (lb))) (fun _ => ⟨Or.inr (by decide), Or.inl (nN_ge _)⟩) ⟨(Or.inr ⟨wy_pr rfl, mS_no rfl⟩), trivial, trivial, trivial⟩ trivial (fun Z12 g13 gi14 => ?_)
    have rm15 := rmR_gr rm9 g13 (by decide +kernel) (len := (S 154 (-1))) (((congrFun (g7.2.2.1 155 (by decide) (by decide) (by decide)) (-1)).trans (lb))) ⟨by omega, by omega⟩ ⟨fun q => by first | omega | exact absurd q (by decide), by show _ ≤ (100000000 : Int); omega⟩
    refine wa_fall ⟨_, rfl⟩ ?_
    have zz : ∀ (j : Nat) (i : Int), j < 4000000 → j ≠ wG → j ≠ 154 → j ≠ 155 → Z12 j i = S j i := fun j i j0 j1 j2 j3 => (congrFun (g13.2.2.1 j (by omega) j0 j1) i).trans ((congrFun (g7.2.2.1 j (by omega) j0 j1) i).trans (rfl))
    have y154 : ∀ i : Int, 0 ≤ i → i < (S 153 2) → Z12 154 i = S 154 i := by
      intro i i0 i1
      have f0 : Z12 154 i = Z6 154 i := congrFun (g13.2.2.1 154 (by decide) (by decide) (by decide)) i
      have e1 : S 154 (-1) = S 154 (-1) := rfl
      have f1 : Z6 154 i = S 154 i := g7.2.1 i i0 (by rw [e1]; omega)
      rw [f0, f1]
    have n154 : Z12 154 (-1) = (S 153 2) * 2 := (((congrFun (g13.2.2.1 154 (by decide) (by decide) (by decide)) (-1)).trans (g7.1)))
    have y155 : ∀ i : Int, 0 ≤ i → i < (S 153 2) → Z12 155 i = S 155 i := by
      intro i i0 i1
      have e0 : Z6 155 (-1) = S 155 (-1) := ((congrFun (g7.2.2.1 155 (by decide) (by decide) (by decide)) (-1)))
      have f0 : Z12 155 i = Z6 155 i := g13.2.1 i i0 (by rw [e0]; omega)
      have f1 : Z6 155 i = S 155 i := congrFun (g7.2.2.1 155 (by decide) (by decide) (by decide)) i
      rw [f0, f1]
    have n155 : Z12 155 (-1) = (S 153 2) * 2 := (g13.1)
    have e3 : Z12 153 2 = (S 153 2) := zz 153 2 (by decide) (by decide) (by decide) (by decide)
    refine wJ_mono (ra1_153 (S := Z12) gi14 hk hv ⟨by omega, by omega, n155.trans n154.symm⟩ (by omega)) (fun o Z hz => ⟨hz.1, ?_⟩)
    obtain ⟨-, a1, a2, a3, a4, ⟨a5, a7, a8⟩, a9, a10⟩ := hz
    rw [e3] at a1 a2 a3 a7 a8
    rw [n154] at a8
    refine ⟨a1, a2, fun i i0 i1 => ?_, fun j i j0 j1 j2 j3 j5 => (a4 j i j0 j1 j2 j3 j5).trans (zz j i j0 j1 j2 j3), ⟨a5, a7, Or.inr ⟨by omega, by omega⟩⟩, a9, rmR_tr rm15 a10⟩
    obtain ⟨b1, b2⟩ := a3 i i0 i1
    exact ⟨b1.trans (y154 i i0 i1), b2.trans (y155 i i0 i1)⟩
theorem ra1_205 {k v : Int} (hI : gI S) (hk : -128 ≤ k ∧ k ≤ 127) (hv : -9223372036854775808 ≤ v ∧ v ≤ 9223372036854775807) (h0 : 0 ≤ (S 205 2) ∧ (S 205 2) < S 206 (-1) ∧ S 207 (-1) = S 206 (-1)) (h9 : (S 205 2) ≤ 2147483000) : wJ (pe_GA xs) wY0 (mS [206, 207]) (d + 3) t_XV_add ((pe_at t_XV_add.bl 1).getD (0, [])).2 [(0, (2, 205)), (1, (0, k)), (2, (1, v))] [] S (fun o Z => o = .inl none ∧ ra_ag 205 206 207 S Z k v) := by
  have hR := rmR_rfl S
  have lb := h0.2.2
  refine wa_aload_n (n := 0) rfl ?_
  refine wb_gf4 205 rfl (wy_pr rfl) wt_205 wf_7_0 (v := 206) wl_205_0 ?_
  refine wa_aload_n (n := 0) rfl ?_
  refine wb_gfi 205 rfl (wy_pr rfl) wt_205 wf_7_2 (v := (S 205 2)) rfl (fun r1 => ?_)
  refine wa_iload_n (n := 1) rfl ?_
  refine wb_i2b_r (wb_i2b_id ⟨(by omega), (by omega)⟩) ?_
  refine wb_bast 206 rfl (wy_pr rfl) wt_206 (n := (S 206 (-1))) rfl (by omega) (by omega) ⟨(by omega), (by omega)⟩ ?_
  refine wa_aload_n (n := 0) rfl ?_
  refine wb_gf4 205 rfl (wy_pr rfl) wt_205 wf_7_1 (v := 207) wl_205_1 ?_
  refine wa_aload_n (n := 0) rfl ?_
  refine wb_gfi 205 rfl (wy_pr rfl) wt_205 wf_7_2 (v := (S 205 2)) (w_up_slot (by decide)) (fun r2 => ?_)
  refine wa_lload_n (n := 2) rfl ?_
  refine wb_last 207 rfl (wy_pr rfl) wt_207 (n := (S 206 (-1))) ((w_up_slot (by decide)).trans (lb)) (by omega) (by omega) ⟨(by omega), (by omega)⟩ ?_
  refine wa_aload_n (n := 0) rfl ?_
  refine wa_dup (by decide) ?_
  refine wb_gfi 205 rfl (wy_pr rfl) wt_205 wf_7_2 (v := (S 205 2)) ((w_up_slot (by decide)).trans (w_up_slot (by decide))) (fun r3 => ?_)
  refine wa_iconst ?_
  refine wa_iadd ?_
  refine wb_pfi 205 rfl (wy_pr rfl) wt_205 wf_7_2 (n := 2) rfl ⟨(by omega), (by omega)⟩ ?_
  refine wa_return rfl ?_
  refine ⟨rfl, (w_up_same _ _ _ _), ⟨((w_up_slot (by decide)).trans ((w_up_slot (by decide)).trans (w_up_same _ _ _ _))), ((w_up_slot (by decide)).trans (w_up_same _ _ _ _))⟩, fun i i0 i1 => ⟨((w_up_slot (by decide)).trans ((w_up_slot (by decide)).trans (w_up_at (by omega)))), ((w_up_slot (by decide)).trans ((w_up_at (by omega)).trans (w_up_slot (by decide))))⟩, fun j i j0 j1 j2 j3 j5 => ?_, ?_, (gI_up (gI_up (gI_up hI (by omega) (by omega) (by omega)) (by omega) (by omega) (by omega)) (by omega) (by omega) (by omega)), (rmR_up (rmR_up (rmR_up hR (by omega) (by decide)) (by omega) (by decide)) (by omega) (by decide))⟩
  · exact (w_up_no (by omega)).trans ((w_up_no (by omega)).trans ((w_up_no (by omega)).trans (rfl)))
  · have ma : (w_up (w_up (w_up S 206 (S 205 2) k) 207 (S 205 2) v) 205 2 ((S 205 2) + 1)) 206 (-1) = S 206 (-1) := ((w_up_slot (by decide)).trans ((w_up_slot (by decide)).trans (w_up_at (by omega))))
    have mb : (w_up (w_up (w_up S 206 (S 205 2) k) 207 (S 205 2) v) 205 2 ((S 205 2) + 1)) 207 (-1) = S 206 (-1) := ((w_up_slot (by decide)).trans ((w_up_at (by omega)).trans ((w_up_slot (by decide)).trans (lb))))
    exact ⟨mb.trans ma.symm, by rw [ma]; omega, Or.inl ma⟩
theorem ra_205 {k v : Int} (hI : gI S) (hk : -128 ≤ k ∧ k ≤ 127) (hv : -9223372036854775808 ≤ v ∧ v ≤ 9223372036854775807) (h0 : rw_S 205 206 207 S) : wJ (pe_GA xs) wY0 (mS [206, 207]) (d + 3) t_XV_add ((pe_at t_XV_add.bl 0).getD (0, [])).2 [(0, (2, 205)), (1, (0, k)), (2, (1, v))] [] S (fun o Z => o = .inl none ∧ ra_ag 205 206 207 S Z k v) := by
  have hR := rmR_rfl S
  obtain ⟨h1, lb, h4, h5⟩ := h0
  refine wa_aload_n (n := 0) rfl ?_
  refine wb_gfi 205 rfl (wy_pr rfl) wt_205 wf_7_2 (v := (S 205 2)) rfl (fun r1 => ?_)
  refine wa_aload_n (n := 0) rfl ?_
  refine wb_gf4 205 rfl (wy_pr rfl) wt_205 wf_7_0 (v := 206) wl_205_0 ?_
  refine wb_alen 206 rfl (wy_pr rfl) (by rw [wt_206]; rfl) (v := (S 206 (-1))) rfl (fun r2 => ?_)
  refine wa_icmpne (w_rg0 (by omega) (by omega)) (w_rg0 (by omega) (by omega)) ⟨_, rfl⟩ (fun c3 => ?_) (fun c3 => ?_)
  · skip
    exact ra1_205 hI hk hv ⟨by omega, by omega, lb⟩ (by omega)
  · skip
    refine wa_aload_n (n := 0) rfl ?_
    refine wa_aload_n (n := 0) rfl ?_
    refine wb_gf4 205 rfl (wy_pr rfl) wt_205 wf_7_0 (v := 206) wl_205_0 ?_
    refine wa_aload_n (n := 0) rfl ?_
    refine wb_gfi 205 rfl (wy_pr rfl) wt_205 wf_7_2 (v := (S 205 2)) rfl (fun r4 => ?_)
    refine wa_iconst ?_
    refine wa_imul ?_
    refine wa_cs (M2 := fun _ => False) rfl at_JA_copyOf ⟨_, rfl⟩ rfl rfl ⟨(Or.inr ⟨wy_pr rfl, fun q => q⟩), trivial, trivial, trivial⟩ ⟨(Or.inr ⟨wy_pr rfl, fun q => q⟩), trivial⟩ (fun _ _ q => False.elim q) (cp_B (S := S) (a := 206) (n := ((S 205 2) * 2)) (len := (S 206 (-1))) (wy_pr rfl) wt_206 rfl ⟨by omega, by omega, by omega⟩) (fun oq5 Sq5 _ q5 => ?_)
    rcases q5 with ⟨rfl, rfl⟩
    show wJ _ _ _ _ _ _ _ _ _ _
    refine wg_pf (S := S) (len := (S 206 (-1))) 2 205 206 rfl rfl rfl wt_205 wf_7_0 wl_205_0 (by decide +kernel) wt_206 (by decide) (by decide +kernel) hI (fun q => absurd q (by decide)) (by decide) ⟨by omega, by omega⟩ rfl (fun _ => ⟨Or.inr (by decide), Or.inl (nN_ge _)⟩) ⟨(Or.inr ⟨wy_pr rfl, mS_no rfl⟩), trivial, trivial, trivial⟩ trivial (fun Z6 g7 gi8 => ?_)
    have rm9 := rmR_gr hR g7 (by decide +kernel) (len := (S 206 (-1))) rfl ⟨by omega, by omega⟩ ⟨fun q => by first | omega | exact absurd q (by decide), by show _ ≤ (100000000 : Int); omega⟩
    refine wa_aload_n (n := 0) rfl ?_
    refine wa_aload_n (n := 0) rfl ?_
    refine wb_gf4 205 rfl (wy_pr rfl) wt_205 wf_7_1 (v := 207) wl_205_1 ?_
    refine wa_aload_n (n := 0) rfl ?_
    refine wb_gfi 205 rfl (wy_pr rfl) wt_205 wf_7_2 (v := (S 205 2)) ((congrFun (g7.2.2.1 205 (by decide) (by decide) (by decide)) 2)) (fun r10 => ?_)
    refine wa_iconst ?_
    refine wa_imul ?_
    refine wa_cs (M2 := fun _ => False) rfl at_JA_copyOf_3 ⟨_, rfl⟩ rfl rfl ⟨(Or.inr ⟨wy_pr rfl, fun q => q⟩), trivial, trivial, trivial⟩ ⟨(Or.inr ⟨wy_pr rfl, fun q => q⟩), trivial⟩ (fun _ _ q => False.elim q) (cp_J (S := Z6) (a := 207) (n := ((S 205 2) * 2)) (len := (S 206 (-1))) (wy_pr rfl) wt_207 (((congrFun (g7.2.2.1 207 (by decide) (by decide) (by decide)) (-1)).trans (lb))) ⟨by omega, by omega, by omega⟩) (fun oq11 Sq11 _ q11 => ?_)
    rcases q11 with ⟨rfl, rfl⟩
    show wJ _ _ _ _ _ _ _ _ _ _
    refine wg_pf (S := Z6) (len := (S 206 (-1))) 1 205 207 rfl rfl rfl wt_205 wf_7_1 wl_205_1 (by decide +kernel) wt_207 (by decide) (by decide +kernel) gi8 (fun q => absurd q (by decide)) (by decide) ⟨by omega, by omega⟩ (((congrFun (g7.2.2.1 207 (by decide) (by decide) (by decide)) (-1)).trans (lb))) (fun _ => ⟨Or.inr (by decide), Or.inl (nN_ge _)⟩) ⟨(Or.inr ⟨wy_pr rfl, mS_no rfl⟩), trivial, trivial, trivial⟩ trivial (fun Z12 g13 gi14 => ?_)
    have rm15 := rmR_gr rm9 g13 (by decide +kernel) (len := (S 206 (-1))) (((congrFun (g7.2.2.1 207 (by decide) (by decide) (by decide)) (-1)).trans (lb))) ⟨by omega, by omega⟩ ⟨fun q => by first | omega | exact absurd q (by decide), by show _ ≤ (100000000 : Int); omega⟩
    refine wa_fall ⟨_, rfl⟩ ?_
    have zz : ∀ (j : Nat) (i : Int), j < 4000000 → j ≠ wG → j ≠ 206 → j ≠ 207 → Z12 j i = S j i := fun j i j0 j1 j2 j3 => (congrFun (g13.2.2.1 j (by omega) j0 j1) i).trans ((congrFun (g7.2.2.1 j (by omega) j0 j1) i).trans (rfl))
    have y206 : ∀ i : Int, 0 ≤ i → i < (S 205 2) → Z12 206 i = S 206 i := by
      intro i i0 i1
      have f0 : Z12 206 i = Z6 206 i := congrFun (g13.2.2.1 206 (by decide) (by decide) (by decide)) i
      have e1 : S 206 (-1) = S 206 (-1) := rfl
      have f1 : Z6 206 i = S 206 i := g7.2.1 i i0 (by rw [e1]; omega)
      rw [f0, f1]
    have n206 : Z12 206 (-1) = (S 205 2) * 2 := (((congrFun (g13.2.2.1 206 (by decide) (by decide) (by decide)) (-1)).trans (g7.1)))
    have y207 : ∀ i : Int, 0 ≤ i → i < (S 205 2) → Z12 207 i = S 207 i := by
      intro i i0 i1
      have e0 : Z6 207 (-1) = S 207 (-1) := ((congrFun (g7.2.2.1 207 (by decide) (by decide) (by decide)) (-1)))
      have f0 : Z12 207 i = Z6 207 i := g13.2.1 i i0 (by rw [e0]; omega)
      have f1 : Z6 207 i = S 207 i := congrFun (g7.2.2.1 207 (by decide) (by decide) (by decide)) i
      rw [f0, f1]
    have n207 : Z12 207 (-1) = (S 205 2) * 2 := (g13.1)
    have e3 : Z12 205 2 = (S 205 2) := zz 205 2 (by decide) (by decide) (by decide) (by decide)
    refine wJ_mono (ra1_205 (S := Z12) gi14 hk hv ⟨by omega, by omega, n207.trans n206.symm⟩ (by omega)) (fun o Z hz => ⟨hz.1, ?_⟩)
    obtain ⟨-, a1, a2, a3, a4, ⟨a5, a7, a8⟩, a9, a10⟩ := hz
    rw [e3] at a1 a2 a3 a7 a8
    rw [n206] at a8
    refine ⟨a1, a2, fun i i0 i1 => ?_, fun j i j0 j1 j2 j3 j5 => (a4 j i j0 j1 j2 j3 j5).trans (zz j i j0 j1 j2 j3), ⟨a5, a7, Or.inr ⟨by omega, by omega⟩⟩, a9, rmR_tr rm15 a10⟩
    obtain ⟨b1, b2⟩ := a3 i i0 i1
    exact ⟨b1.trans (y206 i i0 i1), b2.trans (y207 i i0 i1)⟩
theorem ra1_216 {k v : Int} (hI : gI S) (hk : -128 ≤ k ∧ k ≤ 127) (hv : -9223372036854775808 ≤ v ∧ v ≤ 9223372036854775807) (h0 : 0 ≤ (S 216 2) ∧ (S 216 2) < S 217 (-1) ∧ S 218 (-1) = S 217 (-1)) (h9 : (S 216 2) ≤ 2147483000) : wJ (pe_GA xs) wY0 (mS [217, 218]) (d + 3) t_XV_add ((pe_at t_XV_add.bl 1).getD (0, [])).2 [(0, (2, 216)), (1, (0, k)), (2, (1, v))] [] S (fun o Z => o = .inl none ∧ ra_ag 216 217 218 S Z k v) := by
  have hR := rmR_rfl S
  have lb := h0.2.2
  refine wa_aload_n (n := 0) rfl ?_
  refine wb_gf4 216 rfl (wy_pr rfl) wt_216 wf_7_0 (v := 217) wl_216_0 ?_
  refine wa_aload_n (n := 0) rfl ?_
  refine wb_gfi 216 rfl (wy_pr rfl) wt_216 wf_7_2 (v := (S 216 2)) rfl (fun r1 => ?_)
  refine wa_iload_n (n := 1) rfl ?_
  refine wb_i2b_r (wb_i2b_id ⟨(by omega), (by omega)⟩) ?_
  refine wb_bast 217 rfl (wy_pr rfl) wt_217 (n := (S 217 (-1))) rfl (by omega) (by omega) ⟨(by omega), (by omega)⟩ ?_
  refine wa_aload_n (n := 0) rfl ?_
  refine wb_gf4 216 rfl (wy_pr rfl) wt_216 wf_7_1 (v := 218) wl_216_1 ?_
  refine wa_aload_n (n := 0) rfl ?_
  refine wb_gfi 216 rfl (wy_pr rfl) wt_216 wf_7_2 (v := (S 216 2)) (w_up_slot (by decide)) (fun r2 => ?_)
  refine wa_lload_n (n := 2) rfl ?_
  refine wb_last 218 rfl (wy_pr rfl) wt_218 (n := (S 217 (-1))) ((w_up_slot (by decide)).trans (lb)) (by omega) (by omega) ⟨(by omega), (by omega)⟩ ?_
  refine wa_aload_n (n := 0) rfl ?_
  refine wa_dup (by decide) ?_
  refine wb_gfi 216 rfl (wy_pr rfl) wt_216 wf_7_2 (v := (S 216 2)) ((w_up_slot (by decide)).trans (w_up_slot (by decide))) (fun r3 => ?_)
  refine wa_iconst ?_
  refine wa_iadd ?_
  refine wb_pfi 216 rfl (wy_pr rfl) wt_216 wf_7_2 (n := 2) rfl ⟨(by omega), (by omega)⟩ ?_
  refine wa_return rfl ?_
  refine ⟨rfl, (w_up_same _ _ _ _), ⟨((w_up_slot (by decide)).trans ((w_up_slot (by decide)).trans (w_up_same _ _ _ _))), ((w_up_slot (by decide)).trans (w_up_same _ _ _ _))⟩, fun i i0 i1 => ⟨((w_up_slot (by decide)).trans ((w_up_slot (by decide)).trans (w_up_at (by omega)))), ((w_up_slot (by decide)).trans ((w_up_at (by omega)).trans (w_up_slot (by decide))))⟩, fun j i j0 j1 j2 j3 j5 => ?_, ?_, (gI_up (gI_up (gI_up hI (by omega) (by omega) (by omega)) (by omega) (by omega) (by omega)) (by omega) (by omega) (by omega)), (rmR_up (rmR_up (rmR_up hR (by omega) (by decide)) (by omega) (by decide)) (by omega) (by decide))⟩
  · exact (w_up_no (by omega)).trans ((w_up_no (by omega)).trans ((w_up_no (by omega)).trans (rfl)))
  · have ma : (w_up (w_up (w_up S 217 (S 216 2) k) 218 (S 216 2) v) 216 2 ((S 216 2) + 1)) 217 (-1) = S 217 (-1) := ((w_up_slot (by decide)).trans ((w_up_slot (by decide)).trans (w_up_at (by omega))))
    have mb : (w_up (w_up (w_up S 217 (S 216 2) k) 218 (S 216 2) v) 216 2 ((S 216 2) + 1)) 218 (-1) = S 217 (-1) := ((w_up_slot (by decide)).trans ((w_up_at (by omega)).trans ((w_up_slot (by decide)).trans (lb))))
    exact ⟨mb.trans ma.symm, by rw [ma]; omega, Or.inl ma⟩
theorem ra_216 {k v : Int} (hI : gI S) (hk : -128 ≤ k ∧ k ≤ 127) (hv : -9223372036854775808 ≤ v ∧ v ≤ 9223372036854775807) (h0 : rw_L 216 217 218 S) : wJ (pe_GA xs) wY0 (mS [217, 218]) (d + 3) t_XV_add ((pe_at t_XV_add.bl 0).getD (0, [])).2 [(0, (2, 216)), (1, (0, k)), (2, (1, v))] [] S (fun o Z => o = .inl none ∧ ra_ag 216 217 218 S Z k v) := by
  have hR := rmR_rfl S
  obtain ⟨h1, lb, h4, h5⟩ := h0
  refine wa_aload_n (n := 0) rfl ?_
  refine wb_gfi 216 rfl (wy_pr rfl) wt_216 wf_7_2 (v := (S 216 2)) rfl (fun r1 => ?_)
  refine wa_aload_n (n := 0) rfl ?_
  refine wb_gf4 216 rfl (wy_pr rfl) wt_216 wf_7_0 (v := 217) wl_216_0 ?_
  refine wb_alen 217 rfl (wy_pr rfl) (by rw [wt_217]; rfl) (v := (S 217 (-1))) rfl (fun r2 => ?_)
  refine wa_icmpne (w_rg0 (by omega) (by omega)) (w_rg0 (by omega) (by omega)) ⟨_, rfl⟩ (fun c3 => ?_) (fun c3 => ?_)
  · skip
    exact ra1_216 hI hk hv ⟨by omega, by omega, lb⟩ (by omega)
  · skip
    refine wa_aload_n (n := 0) rfl ?_
    refine wa_aload_n (n := 0) rfl ?_
    refine wb_gf4 216 rfl (wy_pr rfl) wt_216 wf_7_0 (v := 217) wl_216_0 ?_
    refine wa_aload_n (n := 0) rfl ?_
    refine wb_gfi 216 rfl (wy_pr rfl) wt_216 wf_7_2 (v := (S 216 2)) rfl (fun r4 => ?_)
    refine wa_iconst ?_
    refine wa_imul ?_
    refine wa_cs (M2 := fun _ => False) rfl at_JA_copyOf ⟨_, rfl⟩ rfl rfl ⟨(Or.inr ⟨wy_pr rfl, fun q => q⟩), trivial, trivial, trivial⟩ ⟨(Or.inr ⟨wy_pr rfl, fun q => q⟩), trivial⟩ (fun _ _ q => False.elim q) (cp_B (S := S) (a := 217) (n := ((S 216 2) * 2)) (len := (S 217 (-1))) (wy_pr rfl) wt_217 rfl ⟨by omega, by omega, by omega⟩) (fun oq5 Sq5 _ q5 => ?_)
    rcases q5 with ⟨rfl, rfl⟩
    show wJ _ _ _ _ _ _ _ _ _ _
    refine wg_pf (S := S) (len := (S 217 (-1))) 2 216 217 rfl rfl rfl wt_216 wf_7_0 wl_216_0 (by decide +kernel) wt_217 (by decide) (by decide +kernel) hI (fun q => absurd q (by decide)) (by decide) ⟨by omega, by omega⟩ rfl (fun _ => ⟨Or.inr (by decide), Or.inl (nN_ge _)⟩) ⟨(Or.inr ⟨wy_pr rfl, mS_no rfl⟩), trivial, trivial, trivial⟩ trivial (fun Z6 g7 gi8 => ?_)
    have rm9 := rmR_gr hR g7 (by decide +kernel) (len := (S 217 (-1))) rfl ⟨by omega, by omega⟩ ⟨fun q => by first | omega | exact absurd q (by decide), by show _ ≤ (100000000 : Int); omega⟩
    refine wa_aload_n (n := 0) rfl ?_
    refine wa_aload_n (n := 0) rfl ?_
    refine wb_gf4 216 rfl (wy_pr rfl) wt_216 wf_7_1 (v := 218) wl_216_1 ?_
    refine wa_aload_n (n := 0) rfl ?_
    refine wb_gfi 216 rfl (wy_pr rfl) wt_216 wf_7_2 (v := (S 216 2)) ((congrFun (g7.2.2.1 216 (by decide) (by decide) (by decide)) 2)) (fun r10 => ?_)
    refine wa_iconst ?_
    refine wa_imul ?_
    refine wa_cs (M2 := fun _ => False) rfl at_JA_copyOf_3 ⟨_, rfl⟩ rfl rfl ⟨(Or.inr ⟨wy_pr rfl, fun q => q⟩), trivial, trivial, trivial⟩ ⟨(Or.inr ⟨wy_pr rfl, fun q => q⟩), trivial⟩ (fun _ _ q => False.elim q) (cp_J (S := Z6) (a := 218) (n := ((S 216 2) * 2)) (len := (S 217 (-1))) (wy_pr rfl) wt_218 (((congrFun (g7.2.2.1 218 (by decide) (by decide) (by decide)) (-1)).trans (lb))) ⟨by omega, by omega, by omega⟩) (fun oq11 Sq11 _ q11 => ?_)
    rcases q11 with ⟨rfl, rfl⟩
    show wJ _ _ _ _ _ _ _ _ _ _
    refine wg_pf (S := Z6) (len := (S 217 (-1))) 1 216 218 rfl rfl rfl wt_216 wf_7_1 wl_216_1 (by decide +kernel) wt_218 (by decide) (by decide +kernel) gi8 (fun q => absurd q (by decide)) (by decide) ⟨by omega, by omega⟩ (((congrFun (g7.2.2.1 218 (by decide) (by decide) (by decide)) (-1)).trans (lb))) (fun _ => ⟨Or.inr (by decide), Or.inl (nN_ge _)⟩) ⟨(Or.inr ⟨wy_pr rfl, mS_no rfl⟩), trivial, trivial, trivial⟩ trivial (fun Z12 g13 gi14 => ?_)
    have rm15 := rmR_gr rm9 g13 (by decide +kernel) (len := (S 217 (-1))) (((congrFun (g7.2.2.1 218 (by decide) (by decide) (by decide)) (-1)).trans (lb))) ⟨by omega, by omega⟩ ⟨fun q => by first | omega | exact absurd q (by decide), by show _ ≤ (100000000 : Int); omega⟩
    refine wa_fall ⟨_, rfl⟩ ?_
    have zz : ∀ (j : Nat) (i : Int), j < 4000000 → j ≠ wG → j ≠ 217 → j ≠ 218 → Z12 j i = S j i := fun j i j0 j1 j2 j3 => (congrFun (g13.2.2.1 j (by omega) j0 j1) i).trans ((congrFun (g7.2.2.1 j (by omega) j0 j1) i).trans (rfl))
    have y217 : ∀ i : Int, 0 ≤ i → i < (S 216 2) → Z12 217 i = S 217 i := by
      intro i i0 i1
      have f0 : Z12 217 i = Z6 217 i := congrFun (g13.2.2.1 217 (by decide) (by decide) (by decide)) i
      have e1 : S 217 (-1) = S 217 (-1) := rfl
      have f1 : Z6 217 i = S 217 i := g7.2.1 i i0 (by rw [e1]; omega)
      rw [f0, f1]
    have n217 : Z12 217 (-1) = (S 216 2) * 2 := (((congrFun (g13.2.2.1 217 (by decide) (by decide) (by decide)) (-1)).trans (g7.1)))
    have y218 : ∀ i : Int, 0 ≤ i → i < (S 216 2) → Z12 218 i = S 218 i := by
      intro i i0 i1
      have e0 : Z6 218 (-1) = S 218 (-1) := ((congrFun (g7.2.2.1 218 (by decide) (by decide) (by decide)) (-1)))
      have f0 : Z12 218 i = Z6 218 i := g13.2.1 i i0 (by rw [e0]; omega)
      have f1 : Z6 218 i = S 218 i := congrFun (g7.2.2.1 218 (by decide) (by decide) (by decide)) i
      rw [f0, f1]
    have n218 : Z12 218 (-1) = (S 216 2) * 2 := (g13.1)
    have e3 : Z12 216 2 = (S 216 2) := zz 216 2 (by decide) (by decide) (by decide) (by decide)
    refine wJ_mono (ra1_216 (S := Z12) gi14 hk hv ⟨by omega, by omega, n218.trans n217.symm⟩ (by omega)) (fun o Z hz => ⟨hz.1, ?_⟩)
    obtain ⟨-, a1, a2, a3, a4, ⟨a5, a7, a8⟩, a9, a10⟩ := hz
    rw [e3] at a1 a2 a3 a7 a8
    rw [n217] at a8
    refine ⟨a1, a2, fun i i0 i1 => ?_, fun j i j0 j1 j2 j3 j5 => (a4 j i j0 j1 j2 j3 j5).trans (zz j i j0 j1 j2 j3), ⟨a5, a7, Or.inr ⟨by omega, by omega⟩⟩, a9, rmR_tr rm15 a10⟩
    obtain ⟨b1, b2⟩ := a3 i i0 i1
    exact ⟨b1.trans (y217 i i0 i1), b2.trans (y218 i i0 i1)⟩
theorem ra1_227 {k v : Int} (hI : gI S) (hk : -128 ≤ k ∧ k ≤ 127) (hv : -9223372036854775808 ≤ v ∧ v ≤ 9223372036854775807) (h0 : 0 ≤ (S 227 2) ∧ (S 227 2) < S 228 (-1) ∧ S 229 (-1) = S 228 (-1)) (h9 : (S 227 2) ≤ 2147483000) : wJ (pe_GA xs) wY0 (mS [228, 229]) (d + 3) t_XV_add ((pe_at t_XV_add.bl 1).getD (0, [])).2 [(0, (2, 227)), (1, (0, k)), (2, (1, v))] [] S (fun o Z => o = .inl none ∧ ra_ag 227 228 229 S Z k v) := by
  have hR := rmR_rfl S
  have lb := h0.2.2
  refine wa_aload_n (n := 0) rfl ?_
  refine wb_gf4 227 rfl (wy_pr rfl) wt_227 wf_7_0 (v := 228) wl_227_0 ?_
  refine wa_aload_n (n := 0) rfl ?_
  refine wb_gfi 227 rfl (wy_pr rfl) wt_227 wf_7_2 (v := (S 227 2)) rfl (fun r1 => ?_)
  refine wa_iload_n (n := 1) rfl ?_
  refine wb_i2b_r (wb_i2b_id ⟨(by omega), (by omega)⟩) ?_
  refine wb_bast 228 rfl (wy_pr rfl) wt_228 (n := (S 228 (-1))) rfl (by omega) (by omega) ⟨(by omega), (by omega)⟩ ?_
  refine wa_aload_n (n := 0) rfl ?_
  refine wb_gf4 227 rfl (wy_pr rfl) wt_227 wf_7_1 (v := 229) wl_227_1 ?_
  refine wa_aload_n (n := 0) rfl ?_
  refine wb_gfi 227 rfl (wy_pr rfl) wt_227 wf_7_2 (v := (S 227 2)) (w_up_slot (by decide)) (fun r2 => ?_)
  refine wa_lload_n (n := 2) rfl ?_
  refine wb_last 229 rfl (wy_pr rfl) wt_229 (n := (S 228 (-1))) ((w_up_slot (by decide)).trans (lb)) (by omega) (by omega) ⟨(by omega), (by omega)⟩ ?_
  refine wa_aload_n (n := 0) rfl ?_
  refine wa_dup (by decide) ?_
  refine wb_gfi 227 rfl (wy_pr rfl) wt_227 wf_7_2 (v := (S 227 2)) ((w_up_slot (by decide)).trans (w_up_slot (by decide))) (fun r3 => ?_)
  refine wa_iconst ?_
  refine wa_iadd ?_
  refine wb_pfi 227 rfl (wy_pr rfl) wt_227 wf_7_2 (n := 2) rfl ⟨(by omega), (by omega)⟩ ?_
  refine wa_return rfl ?_
  refine ⟨rfl, (w_up_same _ _ _ _), ⟨((w_up_slot (by decide)).trans ((w_up_slot (by decide)).trans (w_up_same _ _ _ _))), ((w_up_slot (by decide)).trans (w_up_same _ _ _ _))⟩, fun i i0 i1 => ⟨((w_up_slot (by decide)).trans ((w_up_slot (by decide)).trans (w_up_at (by omega)))), ((w_up_slot (by decide)).trans ((w_up_at (by omega)).trans (w_up_slot (by decide))))⟩, fun j i j0 j1 j2 j3 j5 => ?_, ?_, (gI_up (gI_up (gI_up hI (by omega) (by omega) (by omega)) (by omega) (by omega) (by omega)) (by omega) (by omega) (by omega)), (rmR_up (rmR_up (rmR_up hR (by omega) (by decide)) (by omega) (by decide)) (by omega) (by decide))⟩
  · exact (w_up_no (by omega)).trans ((w_up_no (by omega)).trans ((w_up_no (by omega)).trans (rfl)))
  · have ma : (w_up (w_up (w_up S 228 (S 227 2) k) 229 (S 227 2) v) 227 2 ((S 227 2) + 1)) 228 (-1) = S 228 (-1) := ((w_up_slot (by decide)).trans ((w_up_slot (by decide)).trans (w_up_at (by omega))))
    have mb : (w_up (w_up (w_up S 228 (S 227 2) k) 229 (S 227 2) v) 227 2 ((S 227 2) + 1)) 229 (-1) = S 228 (-1) := ((w_up_slot (by decide)).trans ((w_up_at (by omega)).trans ((w_up_slot (by decide)).trans (lb))))
    exact ⟨mb.trans ma.symm, by rw [ma]; omega, Or.inl ma⟩
theorem ra_227 {k v : Int} (hI : gI S) (hk : -128 ≤ k ∧ k ≤ 127) (hv : -9223372036854775808 ≤ v ∧ v ≤ 9223372036854775807) (h0 : rw_L 227 228 229 S) : wJ (pe_GA xs) wY0 (mS [228, 229]) (d + 3) t_XV_add ((pe_at t_XV_add.bl 0).getD (0, [])).2 [(0, (2, 227)), (1, (0, k)), (2, (1, v))] [] S (fun o Z => o = .inl none ∧ ra_ag 227 228 229 S Z k v) := by
  have hR := rmR_rfl S
  obtain ⟨h1, lb, h4, h5⟩ := h0
  refine wa_aload_n (n := 0) rfl ?_
  refine wb_gfi 227 rfl (wy_pr rfl) wt_227 wf_7_2 (v := (S 227 2)) rfl (fun r1 => ?_)
  refine wa_aload_n (n := 0) rfl ?_
  refine wb_gf4 227 rfl (wy_pr rfl) wt_227 wf_7_0 (v := 228) wl_227_0 ?_
  refine wb_alen 228 rfl (wy_pr rfl) (by rw [wt_228]; rfl) (v := (S 228 (-1))) rfl (fun r2 => ?_)
  refine wa_icmpne (w_rg0 (by omega) (by omega)) (w_rg0 (by omega) (by omega)) ⟨_, rfl⟩ (fun c3 => ?_) (fun c3 => ?_)
  · skip
    exact ra1_227 hI hk hv ⟨by omega, by omega, lb⟩ (by omega)
  · skip
    refine wa_aload_n (n := 0) rfl ?_
    refine wa_aload_n (n := 0) rfl ?_
    refine wb_gf4 227 rfl (wy_pr rfl) wt_227 wf_7_0 (v := 228) wl_227_0 ?_
    refine wa_aload_n (n := 0) rfl ?_
    refine wb_gfi 227 rfl (wy_pr rfl) wt_227 wf_7_2 (v := (S 227 2)) rfl (fun r4 => ?_)
    refine wa_iconst ?_
    refine wa_imul ?_
    refine wa_cs (M2 := fun _ => False) rfl at_JA_copyOf ⟨_, rfl⟩ rfl rfl ⟨(Or.inr ⟨wy_pr rfl, fun q => q⟩), trivial, trivial, trivial⟩ ⟨(Or.inr ⟨wy_pr rfl, fun q => q⟩), trivial⟩ (fun _ _ q => False.elim q) (cp_B (S := S) (a := 228) (n := ((S 227 2) * 2)) (len := (S 228 (-1))) (wy_pr rfl) wt_228 rfl ⟨by omega, by omega, by omega⟩) (fun oq5 Sq5 _ q5 => ?_)
    rcases q5 with ⟨rfl, rfl⟩
    show wJ _ _ _ _ _ _ _ _ _ _
    refine wg_pf (S := S) (len := (S 228 (-1))) 2 227 228 rfl rfl rfl wt_227 wf_7_0 wl_227_0 (by decide +kernel) wt_228 (by decide) (by decide +kernel) hI (fun q => absurd q (by decide)) (by decide) ⟨by omega, by omega⟩ rfl (fun _ => ⟨Or.inr (by decide), Or.inl (nN_ge _)⟩) ⟨(Or.inr ⟨wy_pr rfl, mS_no rfl⟩), trivial, trivial, trivial⟩ trivial (fun Z6 g7 gi8 => ?_)
    have rm9 := rmR_gr hR g7 (by decide +kernel) (len := (S 228 (-1))) rfl ⟨by omega, by omega⟩ ⟨fun q => by first | omega | exact absurd q (by decide), by show _ ≤ (100000000 : Int); omega⟩
    refine wa_aload_n (n := 0) rfl ?_
    refine wa_aload_n (n := 0) rfl ?_
    refine wb_gf4 227 rfl (wy_pr rfl) wt_227 wf_7_1 (v := 229) wl_227_1 ?_
    refine wa_aload_n (n := 0) rfl ?_
    refine wb_gfi 227 rfl (wy_pr rfl) wt_227 wf_7_2 (v := (S 227 2)) ((congrFun (g7.2.2.1 227 (by decide) (by decide) (by decide)) 2)) (fun r10 => ?_)
    refine wa_iconst ?_
    refine wa_imul ?_
    refine wa_cs (M2 := fun _ => False) rfl at_JA_copyOf_3 ⟨_, rfl⟩ rfl rfl ⟨(Or.inr ⟨wy_pr rfl, fun q => q⟩), trivial, trivial, trivial⟩ ⟨(Or.inr ⟨wy_pr rfl, fun q => q⟩), trivial⟩ (fun _ _ q => False.elim q) (cp_J (S := Z6) (a := 229) (n := ((S 227 2) * 2)) (len := (S 228 (-1))) (wy_pr rfl) wt_229 (((congrFun (g7.2.2.1 229 (by decide) (by decide) (by decide)) (-1)).trans (lb))) ⟨by omega, by omega, by omega⟩) (fun oq11 Sq11 _ q11 => ?_)
    rcases q11 with ⟨rfl, rfl⟩
    show wJ _ _ _ _ _ _ _ _ _ _
    refine wg_pf (S := Z6) (len := (S 228 (-1))) 1 227 229 rfl rfl rfl wt_227 wf_7_1 wl_227_1 (by decide +kernel) wt_229 (by decide) (by decide +kernel) gi8 (fun q => absurd q (by decide)) (by decide) ⟨by omega, by omega⟩ (((congrFun (g7.2.2.1 229 (by decide) (by decide) (by decide)) (-1)).trans (lb))) (fun _ => ⟨Or.inr (by decide), Or.inl (nN_ge _)⟩) ⟨(Or.inr ⟨wy_pr rfl, mS_no rfl⟩), trivial, trivial, trivial⟩ trivial (fun Z12 g13 gi14 => ?_)
    have rm15 := rmR_gr rm9 g13 (by decide +kernel) (len := (S 228 (-1))) (((congrFun (g7.2.2.1 229 (by decide) (by decide) (by decide)) (-1)).trans (lb))) ⟨by omega, by omega⟩ ⟨fun q => by first | omega | exact absurd q (by decide), by show _ ≤ (100000000 : Int); omega⟩
    refine wa_fall ⟨_, rfl⟩ ?_
    have zz : ∀ (j : Nat) (i : Int), j < 4000000 → j ≠ wG → j ≠ 228 → j ≠ 229 → Z12 j i = S j i := fun j i j0 j1 j2 j3 => (congrFun (g13.2.2.1 j (by omega) j0 j1) i).trans ((congrFun (g7.2.2.1 j (by omega) j0 j1) i).trans (rfl))
    have y228 : ∀ i : Int, 0 ≤ i → i < (S 227 2) → Z12 228 i = S 228 i := by
      intro i i0 i1
      have f0 : Z12 228 i = Z6 228 i := congrFun (g13.2.2.1 228 (by decide) (by decide) (by decide)) i
      have e1 : S 228 (-1) = S 228 (-1) := rfl
      have f1 : Z6 228 i = S 228 i := g7.2.1 i i0 (by rw [e1]; omega)
      rw [f0, f1]
    have n228 : Z12 228 (-1) = (S 227 2) * 2 := (((congrFun (g13.2.2.1 228 (by decide) (by decide) (by decide)) (-1)).trans (g7.1)))
    have y229 : ∀ i : Int, 0 ≤ i → i < (S 227 2) → Z12 229 i = S 229 i := by
      intro i i0 i1
      have e0 : Z6 229 (-1) = S 229 (-1) := ((congrFun (g7.2.2.1 229 (by decide) (by decide) (by decide)) (-1)))
      have f0 : Z12 229 i = Z6 229 i := g13.2.1 i i0 (by rw [e0]; omega)
      have f1 : Z6 229 i = S 229 i := congrFun (g7.2.2.1 229 (by decide) (by decide) (by decide)) i
      rw [f0, f1]
    have n229 : Z12 229 (-1) = (S 227 2) * 2 := (g13.1)
    have e3 : Z12 227 2 = (S 227 2) := zz 227 2 (by decide) (by decide) (by decide) (by decide)
    refine wJ_mono (ra1_227 (S := Z12) gi14 hk hv ⟨by omega, by omega, n229.trans n228.symm⟩ (by omega)) (fun o Z hz => ⟨hz.1, ?_⟩)
    obtain ⟨-, a1, a2, a3, a4, ⟨a5, a7, a8⟩, a9, a10⟩ := hz
    rw [e3] at a1 a2 a3 a7 a8
    rw [n228] at a8
    refine ⟨a1, a2, fun i i0 i1 => ?_, fun j i j0 j1 j2 j3 j5 => (a4 j i j0 j1 j2 j3 j5).trans (zz j i j0 j1 j2 j3), ⟨a5, a7, Or.inr ⟨by omega, by omega⟩⟩, a9, rmR_tr rm15 a10⟩
    obtain ⟨b1, b2⟩ := a3 i i0 i1
    exact ⟨b1.trans (y228 i i0 i1), b2.trans (y229 i i0 i1)⟩
end W9v
