/-! PART hm: the class: Words.append with the host's pool as source; answerName, answer of a text. -/
section Whm
variable {xs : List (Nat × List Int32)} {M : Nat → Prop} {d : Nat} {S Z A : wS} {T : Int → Int} {cs : List hCR} {ms : List hMR} {os : Int → List Int} {Q : wO → wS → Prop}
theorem ap_2_75 {a0 n : Int} (hI : gI S) (h0 : 0 ≤ S 2 1 ∧ S 2 1 ≤ S 3 (-1) ∧ 1024 ≤ S 3 (-1) ∧ S 3 (-1) ≤ 16777216) (hn : 0 ≤ n ∧ n ≤ 1024) (ha : 0 ≤ a0 ∧ a0 + n ≤ S 75 (-1)) : wJ (pe_GA xs) wY0 (mS [3]) (d + 3) t_XW_append ((pe_at t_XW_append.bl 0).getD (0, [])).2 [(0, (2, 2)), (1, (2, 75)), (2, (0, a0)), (3, (0, n))] [] S (fun o Z => o = .inl (some (0, S 2 1)) ∧ ap_ag S Z 2 75 a0 n) := by
  have hR := rmR_rfl S
  refine wa_aload_n (n := 0) rfl ?_
  refine wb_gfi 2 rfl (wy_pr rfl) wt_2 wf_9_1 (v := (S 2 1)) rfl (fun r1 => ?_)
  refine wa_iload_n (n := 3) rfl ?_
  refine wa_iadd ?_
  refine wa_aload_n (n := 0) rfl ?_
  refine wb_gf4 2 rfl (wy_pr rfl) wt_2 wf_9_0 (v := 3) wl_2_0 ?_
  refine wb_alen 3 rfl (wy_pr rfl) (by rw [wt_3]; rfl) (v := (S 3 (-1))) rfl (fun r2 => ?_)
  refine wa_icmple (w_rg0 (by omega) (by omega)) (w_rg0 (by omega) (by omega)) ⟨_, rfl⟩ (fun c3 => ?_) (fun c3 => ?_)
  · skip
    refine wa_aload_n (n := 1) rfl ?_
    refine wa_iload_n (n := 2) rfl ?_
    refine wa_aload_n (n := 0) rfl ?_
    refine wb_gf4 2 rfl (wy_pr rfl) wt_2 wf_9_0 (v := 3) wl_2_0 ?_
    refine wa_aload_n (n := 0) rfl ?_
    refine wb_gfi 2 rfl (wy_pr rfl) wt_2 wf_9_1 (v := (S 2 1)) rfl (fun r4 => ?_)
    refine wa_iload_n (n := 3) rfl ?_
    refine wb_acB (S := S) 75 3 rfl rfl (wy_pr rfl) (wy_pr rfl) wt_75 wt_3 hI hR (by decide) (by omega) (by omega) (by omega) (by have e : S 75 (-1) = (S 75 (-1)) := rfl; omega) (by have e : S 3 (-1) = (S 3 (-1)) := rfl; omega) (by omega) rfl (fun Z5 g6 gi7 rm8 => ?_)
    refine wa_aload_n (n := 0) rfl ?_
    refine wa_dup (by decide) ?_
    refine wb_gfi 2 rfl (wy_pr rfl) wt_2 wf_9_1 (v := (S 2 1)) ((g6.1 2 1 (Or.inl (by decide)))) (fun r9 => ?_)
    refine wa_iload_n (n := 3) rfl ?_
    refine wa_iadd ?_
    refine wb_pfi 2 rfl (wy_pr rfl) wt_2 wf_9_1 (n := 1) rfl ⟨(by omega), (by omega)⟩ ?_
    refine wa_aload_n (n := 0) rfl ?_
    refine wb_gfi 2 rfl (wy_pr rfl) wt_2 wf_9_1 (v := ((S 2 1) + n)) (w_up_same _ _ _ _) (fun r10 => ?_)
    refine wa_iload_n (n := 3) rfl ?_
    refine wa_isub ?_
    refine wa_ireturn rfl ?_
    have e0 : ∀ (j : Nat) (i : Int), (j ≠ 3 ∨ i < S 2 1 ∨ S 2 1 + n ≤ i) → Z5 j i = S j i := g6.1
    refine ⟨congrArg (fun z => Sum.inl (some (0, z))) (by omega), w_up_same _ _ _ _, fun i i0 i1 => (w_up_slot (by first | decide | omega)).trans (e0 3 i (by omega)), fun i i0 i1 => (w_up_slot (by first | decide | omega)).trans (g6.2 i i0 i1), fun j i j0 j1 j2 j3 => (w_up_no (by omega)).trans (e0 j i (by omega)), ?_, gI_up gi7 (by omega) (by omega) (by omega), rmR_up rm8 (by omega) (by first | decide | omega)⟩
    have e1 : (w_up Z5 2 1 (S 2 1 + n)) 3 (-1) = S 3 (-1) := (w_up_slot (by first | decide | omega)).trans (e0 3 (-1) (by omega))
    show S 2 1 + n ≤ (w_up Z5 2 1 (S 2 1 + n)) 3 (-1) ∧ S 3 (-1) ≤ (w_up Z5 2 1 (S 2 1 + n)) 3 (-1) ∧ ((w_up Z5 2 1 (S 2 1 + n)) 3 (-1) = S 3 (-1) ∨ (w_up Z5 2 1 (S 2 1 + n)) 3 (-1) ≤ 2 * (S 2 1 + n))
    rw [e1]; omega
  · skip
    refine wa_aload_n (n := 0) rfl ?_
    refine wa_aload_n (n := 0) rfl ?_
    refine wb_gf4 2 rfl (wy_pr rfl) wt_2 wf_9_0 (v := 3) wl_2_0 ?_
    refine wa_aload_n (n := 0) rfl ?_
    refine wb_gfi 2 rfl (wy_pr rfl) wt_2 wf_9_1 (v := (S 2 1)) rfl (fun r11 => ?_)
    refine wa_iload_n (n := 3) rfl ?_
    refine wa_iadd ?_
    refine wa_aload_n (n := 0) rfl ?_
    refine wb_gf4 2 rfl (wy_pr rfl) wt_2 wf_9_0 (v := 3) wl_2_0 ?_
    refine wb_alen 3 rfl (wy_pr rfl) (by rw [wt_3]; rfl) (v := (S 3 (-1))) rfl (fun r12 => ?_)
    refine wa_iconst ?_
    refine wa_imul ?_
    refine wa_cs (M2 := fun _ => False) rfl at_JM_max ⟨_, rfl⟩ rfl rfl ⟨(Or.inr ⟨wy_pr rfl, fun q => q⟩), (Or.inr ⟨wy_pr rfl, fun q => q⟩), trivial, trivial, trivial⟩ ⟨(Or.inr ⟨wy_pr rfl, fun q => q⟩), (Or.inr ⟨wy_pr rfl, fun q => q⟩), trivial⟩ (fun _ _ q => False.elim q) (mx_ok (S := S) ⟨by omega, by omega⟩ ⟨by omega, by omega⟩) (fun oq14 Sq14 hp15 q14 => ?_)
    rcases q14 with ⟨rfl, rfl⟩
    show wJ _ _ _ _ _ _ _ _ _ _
    generalize hvv13 : (if ((S 2 1) + n) ≥ ((S 3 (-1)) * 2) then ((S 2 1) + n) else ((S 3 (-1)) * 2)) = v13
    have hwv13 : ((S 2 1) + n) ≤ v13 ∧ ((S 3 (-1)) * 2) ≤ v13 ∧ (v13 = ((S 2 1) + n) ∨ v13 = ((S 3 (-1)) * 2)) := by subst hvv13; split <;> omega
    refine wa_cs (M2 := fun _ => False) rfl at_JA_copyOf ⟨_, rfl⟩ rfl rfl ⟨(Or.inr ⟨wy_pr rfl, fun q => q⟩), (Or.inr ⟨wy_pr rfl, fun q => q⟩), trivial, trivial, trivial⟩ ⟨(Or.inr ⟨wy_pr rfl, fun q => q⟩), trivial⟩ (fun _ _ q => False.elim q) (cp_B (S := S) (a := 3) (n := v13) (len := (S 3 (-1))) (wy_pr rfl) wt_3 rfl ⟨by omega, by omega, by omega⟩) (fun oq16 Sq16 _ q16 => ?_)
    rcases q16 with ⟨rfl, rfl⟩
    show wJ _ _ _ _ _ _ _ _ _ _
    refine wg_pf (S := S) (len := (S 3 (-1))) 2 2 3 rfl rfl rfl wt_2 wf_9_0 wl_2_0 (by decide +kernel) wt_3 (by first | decide | omega) (by decide +kernel) hI (fun q => absurd q (by first | decide | omega)) (by first | decide | omega) ⟨by omega, by omega⟩ rfl (fun _ => ⟨Or.inr (by first | decide | omega), Or.inl (nN_ge _)⟩) ⟨(Or.inr ⟨wy_pr rfl, mS_no rfl⟩), (Or.inr ⟨wy_pr rfl, mS_no rfl⟩), trivial, trivial, trivial⟩ trivial (fun Z17 g18 gi19 => ?_)
    have rm20 := rmR_gr hR g18 (by decide +kernel) (len := (S 3 (-1))) rfl ⟨by omega, by omega⟩ ⟨fun q => by first | omega | exact absurd q (by decide), by show _ ≤ (100000000 : Int); omega⟩
    refine wa_fall ⟨_, rfl⟩ ?_
    refine wa_aload_n (n := 1) rfl ?_
    refine wa_iload_n (n := 2) rfl ?_
    refine wa_aload_n (n := 0) rfl ?_
    refine wb_gf4 2 rfl (wy_pr rfl) wt_2 wf_9_0 (v := 3) wl_2_0 ?_
    refine wa_aload_n (n := 0) rfl ?_
    refine wb_gfi 2 rfl (wy_pr rfl) wt_2 wf_9_1 (v := (S 2 1)) ((congrFun (g18.2.2.1 2 (by decide) (by decide) (by decide)) 1)) (fun r21 => ?_)
    refine wa_iload_n (n := 3) rfl ?_
    refine wb_acB (S := Z17) 75 3 rfl rfl (wy_pr rfl) (wy_pr rfl) wt_75 wt_3 gi19 rm20 (by decide) (by omega) (by omega) (by omega) (by have e : Z17 75 (-1) = (S 75 (-1)) := ((congrFun (g18.2.2.1 75 (by decide) (by decide) (by decide)) (-1))); omega) (by have e : Z17 3 (-1) = v13 := (g18.1); omega) (by omega) rfl (fun Z22 g23 gi24 rm25 => ?_)
    refine wa_aload_n (n := 0) rfl ?_
    refine wa_dup (by decide) ?_
    refine wb_gfi 2 rfl (wy_pr rfl) wt_2 wf_9_1 (v := (S 2 1)) (((g23.1 2 1 (Or.inl (by decide))).trans ((congrFun (g18.2.2.1 2 (by decide) (by decide) (by decide)) 1)))) (fun r26 => ?_)
    refine wa_iload_n (n := 3) rfl ?_
    refine wa_iadd ?_
    refine wb_pfi 2 rfl (wy_pr rfl) wt_2 wf_9_1 (n := 1) rfl ⟨(by omega), (by omega)⟩ ?_
    refine wa_aload_n (n := 0) rfl ?_
    refine wb_gfi 2 rfl (wy_pr rfl) wt_2 wf_9_1 (v := ((S 2 1) + n)) (w_up_same _ _ _ _) (fun r27 => ?_)
    refine wa_iload_n (n := 3) rfl ?_
    refine wa_isub ?_
    refine wa_ireturn rfl ?_
    have e0 : ∀ (j : Nat) (i : Int), (j ≠ 3 ∨ i < S 2 1 ∨ S 2 1 + n ≤ i) → Z22 j i = Z17 j i := g23.1
    have zz : ∀ (j : Nat) (i : Int), j < 4000000 → j ≠ wG → j ≠ 3 → Z17 j i = S j i := fun j i j1 j2 j3 => congrFun (g18.2.2.1 j j3 j1 j2) i
    have zl : Z17 3 (-1) = v13 := g18.1
    refine ⟨congrArg (fun z => Sum.inl (some (0, z))) (by omega), w_up_same _ _ _ _, fun i i0 i1 => (w_up_slot (by first | decide | omega)).trans ((e0 3 i (by omega)).trans (g18.2.1 i i0 (by omega))), fun i i0 i1 => (w_up_slot (by first | decide | omega)).trans ((g23.2 i i0 i1).trans (zz 75 _ (by first | decide | omega) (by first | decide | omega) (by first | decide | omega))), fun j i j0 j1 j2 j3 => (w_up_no (by omega)).trans ((e0 j i (by omega)).trans (zz j i j0 j1 j2)), ?_, gI_up gi24 (by omega) (by omega) (by omega), rmR_up rm25 (by omega) (by first | decide | omega)⟩
    have e1 : (w_up Z22 2 1 (S 2 1 + n)) 3 (-1) = v13 := (w_up_slot (by first | decide | omega)).trans ((e0 3 (-1) (by omega)).trans zl)
    show S 2 1 + n ≤ (w_up Z22 2 1 (S 2 1 + n)) 3 (-1) ∧ S 3 (-1) ≤ (w_up Z22 2 1 (S 2 1 + n)) 3 (-1) ∧ ((w_up Z22 2 1 (S 2 1 + n)) 3 (-1) = S 3 (-1) ∨ (w_up Z22 2 1 (S 2 1 + n)) 3 (-1) ≤ 2 * (S 2 1 + n))
    rw [e1]; omega
theorem ap_2_164 {a0 n : Int} (hI : gI S) (h0 : 0 ≤ S 2 1 ∧ S 2 1 ≤ S 3 (-1) ∧ 1024 ≤ S 3 (-1) ∧ S 3 (-1) ≤ 16777216) (hn : 0 ≤ n ∧ n ≤ 1024) (ha : 0 ≤ a0 ∧ a0 + n ≤ S 164 (-1)) : wJ (pe_GA xs) wY0 (mS [3]) (d + 3) t_XW_append ((pe_at t_XW_append.bl 0).getD (0, [])).2 [(0, (2, 2)), (1, (2, 164)), (2, (0, a0)), (3, (0, n))] [] S (fun o Z => o = .inl (some (0, S 2 1)) ∧ ap_ag S Z 2 164 a0 n) := by
  have hR := rmR_rfl S
  refine wa_aload_n (n := 0) rfl ?_
  refine wb_gfi 2 rfl (wy_pr rfl) wt_2 wf_9_1 (v := (S 2 1)) rfl (fun r1 => ?_)
  refine wa_iload_n (n := 3) rfl ?_
  refine wa_iadd ?_
  refine wa_aload_n (n := 0) rfl ?_
  refine wb_gf4 2 rfl (wy_pr rfl) wt_2 wf_9_0 (v := 3) wl_2_0 ?_
  refine wb_alen 3 rfl (wy_pr rfl) (by rw [wt_3]; rfl) (v := (S 3 (-1))) rfl (fun r2 => ?_)
  refine wa_icmple (w_rg0 (by omega) (by omega)) (w_rg0 (by omega) (by omega)) ⟨_, rfl⟩ (fun c3 => ?_) (fun c3 => ?_)
  · skip
    refine wa_aload_n (n := 1) rfl ?_
    refine wa_iload_n (n := 2) rfl ?_
    refine wa_aload_n (n := 0) rfl ?_
    refine wb_gf4 2 rfl (wy_pr rfl) wt_2 wf_9_0 (v := 3) wl_2_0 ?_
    refine wa_aload_n (n := 0) rfl ?_
    refine wb_gfi 2 rfl (wy_pr rfl) wt_2 wf_9_1 (v := (S 2 1)) rfl (fun r4 => ?_)
    refine wa_iload_n (n := 3) rfl ?_
    refine wb_acB (S := S) 164 3 rfl rfl (wy_pr rfl) (wy_pr rfl) wt_164 wt_3 hI hR (by decide) (by omega) (by omega) (by omega) (by have e : S 164 (-1) = (S 164 (-1)) := rfl; omega) (by have e : S 3 (-1) = (S 3 (-1)) := rfl; omega) (by omega) rfl (fun Z5 g6 gi7 rm8 => ?_)
    refine wa_aload_n (n := 0) rfl ?_
    refine wa_dup (by decide) ?_
    refine wb_gfi 2 rfl (wy_pr rfl) wt_2 wf_9_1 (v := (S 2 1)) ((g6.1 2 1 (Or.inl (by decide)))) (fun r9 => ?_)
    refine wa_iload_n (n := 3) rfl ?_
    refine wa_iadd ?_
    refine wb_pfi 2 rfl (wy_pr rfl) wt_2 wf_9_1 (n := 1) rfl ⟨(by omega), (by omega)⟩ ?_
    refine wa_aload_n (n := 0) rfl ?_
    refine wb_gfi 2 rfl (wy_pr rfl) wt_2 wf_9_1 (v := ((S 2 1) + n)) (w_up_same _ _ _ _) (fun r10 => ?_)
    refine wa_iload_n (n := 3) rfl ?_
    refine wa_isub ?_
    refine wa_ireturn rfl ?_
    have e0 : ∀ (j : Nat) (i : Int), (j ≠ 3 ∨ i < S 2 1 ∨ S 2 1 + n ≤ i) → Z5 j i = S j i := g6.1
    refine ⟨congrArg (fun z => Sum.inl (some (0, z))) (by omega), w_up_same _ _ _ _, fun i i0 i1 => (w_up_slot (by first | decide | omega)).trans (e0 3 i (by omega)), fun i i0 i1 => (w_up_slot (by first | decide | omega)).trans (g6.2 i i0 i1), fun j i j0 j1 j2 j3 => (w_up_no (by omega)).trans (e0 j i (by omega)), ?_, gI_up gi7 (by omega) (by omega) (by omega), rmR_up rm8 (by omega) (by first | decide | omega)⟩
    have e1 : (w_up Z5 2 1 (S 2 1 + n)) 3 (-1) = S 3 (-1) := (w_up_slot (by first | decide | omega)).trans (e0 3 (-1) (by omega))
    show S 2 1 + n ≤ (w_up Z5 2 1 (S 2 1 + n)) 3 (-1) ∧ S 3 (-1) ≤ (w_up Z5 2 1 (S 2 1 + n)) 3 (-1) ∧ ((w_up Z5 2 1 (S 2 1 + n)) 3 (-1) = S 3 (-1) ∨ (w_up Z5 2 1 (S 2 1 + n)) 3 (-1) ≤ 2 * (S 2 1 + n))
    rw [e1]; omega
  · skip
    refine wa_aload_n (n := 0) rfl ?_
    refine wa_aload_n (n := 0) rfl ?_
    refine wb_gf4 2 rfl (wy_pr rfl) wt_2 wf_9_0 (v := 3) wl_2_0 ?_
    refine wa_aload_n (n := 0) rfl ?_
    refine wb_gfi 2 rfl (wy_pr rfl) wt_2 wf_9_1 (v := (S 2 1)) rfl (fun r11 => ?_)
    refine wa_iload_n (n := 3) rfl ?_
    refine wa_iadd ?_
    refine wa_aload_n (n := 0) rfl ?_
    refine wb_gf4 2 rfl (wy_pr rfl) wt_2 wf_9_0 (v := 3) wl_2_0 ?_
    refine wb_alen 3 rfl (wy_pr rfl) (by rw [wt_3]; rfl) (v := (S 3 (-1))) rfl (fun r12 => ?_)
    refine wa_iconst ?_
    refine wa_imul ?_
    refine wa_cs (M2 := fun _ => False) rfl at_JM_max ⟨_, rfl⟩ rfl rfl ⟨(Or.inr ⟨wy_pr rfl, fun q => q⟩), (Or.inr ⟨wy_pr rfl, fun q => q⟩), trivial, trivial, trivial⟩ ⟨(Or.inr ⟨wy_pr rfl, fun q => q⟩), (Or.inr ⟨wy_pr rfl, fun q => q⟩), trivial⟩ (fun _ _ q => False.elim q) (mx_ok (S := S) ⟨by omega, by omega⟩ ⟨by omega, by omega⟩) (fun oq14 Sq14 hp15 q14 => ?_)
    rcases q14 with ⟨rfl, rfl⟩
    show wJ _ _ _ _ _ _ _ _ _ _
    generalize hvv13 : (if ((S 2 1) + n) ≥ ((S 3 (-1)) * 2) then ((S 2 1) + n) else ((S 3 (-1)) * 2)) = v13
    have hwv13 : ((S 2 1) + n) ≤ v13 ∧ ((S 3 (-1)) * 2) ≤ v13 ∧ (v13 = ((S 2 1) + n) ∨ v13 = ((S 3 (-1)) * 2)) := by subst hvv13; split <;> omega
    refine wa_cs (M2 := fun _ => False) rfl at_JA_copyOf ⟨_, rfl⟩ rfl rfl ⟨(Or.inr ⟨wy_pr rfl, fun q => q⟩), (Or.inr ⟨wy_pr rfl, fun q => q⟩), trivial, trivial, trivial⟩ ⟨(Or.inr ⟨wy_pr rfl, fun q => q⟩), trivial⟩ (fun _ _ q => False.elim q) (cp_B (S := S) (a := 3) (n := v13) (len := (S 3 (-1))) (wy_pr rfl) wt_3 rfl ⟨by omega, by omega, by omega⟩) (fun oq16 Sq16 _ q16 => ?_)
    rcases q16 with ⟨rfl, rfl⟩
    show wJ _ _ _ _ _ _ _ _ _ _
    refine wg_pf (S := S) (len := (S 3 (-1))) 2 2 3 rfl rfl rfl wt_2 wf_9_0 wl_2_0 (by decide +kernel) wt_3 (by first | decide | omega) (by decide +kernel) hI (fun q => absurd q (by first | decide | omega)) (by first | decide | omega) ⟨by omega, by omega⟩ rfl (fun _ => ⟨Or.inr (by first | decide | omega), Or.inl (nN_ge _)⟩) ⟨(Or.inr ⟨wy_pr rfl, mS_no rfl⟩), (Or.inr ⟨wy_pr rfl, mS_no rfl⟩), trivial, trivial, trivial⟩ trivial (fun Z17 g18 gi19 => ?_)
    have rm20 := rmR_gr hR g18 (by decide +kernel) (len := (S 3 (-1))) rfl ⟨by omega, by omega⟩ ⟨fun q => by first | omega | exact absurd q (by decide), by show _ ≤ (100000000 : Int); omega⟩
    refine wa_fall ⟨_, rfl⟩ ?_
    refine wa_aload_n (n := 1) rfl ?_
    refine wa_iload_n (n := 2) rfl ?_
    refine wa_aload_n (n := 0) rfl ?_
    refine wb_gf4 2 rfl (wy_pr rfl) wt_2 wf_9_0 (v := 3) wl_2_0 ?_
    refine wa_aload_n (n := 0) rfl ?_
    refine wb_gfi 2 rfl (wy_pr rfl) wt_2 wf_9_1 (v := (S 2 1)) ((congrFun (g18.2.2.1 2 (by decide) (by decide) (by decide)) 1)) (fun r21 => ?_)
    refine wa_iload_n (n := 3) rfl ?_
    refine wb_acB (S := Z17) 164 3 rfl rfl (wy_pr rfl) (wy_pr rfl) wt_164 wt_3 gi19 rm20 (by decide) (by omega) (by omega) (by omega) (by have e : Z17 164 (-1) = (S 164 (-1)) := ((congrFun (g18.2.2.1 164 (by decide) (by decide) (by decide)) (-1))); omega) (by have e : Z17 3 (-1) = v13 := (g18.1); omega) (by omega) rfl (fun Z22 g23 gi24 rm25 => ?_)
    refine wa_aload_n (n := 0) rfl ?_
    refine wa_dup (by decide) ?_
    refine wb_gfi 2 rfl (wy_pr rfl) wt_2 wf_9_1 (v := (S 2 1)) (((g23.1 2 1 (Or.inl (by decide))).trans ((congrFun (g18.2.2.1 2 (by decide) (by decide) (by decide)) 1)))) (fun r26 => ?_)
    refine wa_iload_n (n := 3) rfl ?_
    refine wa_iadd ?_
    refine wb_pfi 2 rfl (wy_pr rfl) wt_2 wf_9_1 (n := 1) rfl ⟨(by omega), (by omega)⟩ ?_
    refine wa_aload_n (n := 0) rfl ?_
    refine wb_gfi 2 rfl (wy_pr rfl) wt_2 wf_9_1 (v := ((S 2 1) + n)) (w_up_same _ _ _ _) (fun r27 => ?_)
    refine wa_iload_n (n := 3) rfl ?_
    refine wa_isub ?_
    refine wa_ireturn rfl ?_
    have e0 : ∀ (j : Nat) (i : Int), (j ≠ 3 ∨ i < S 2 1 ∨ S 2 1 + n ≤ i) → Z22 j i = Z17 j i := g23.1
    have zz : ∀ (j : Nat) (i : Int), j < 4000000 → j ≠ wG → j ≠ 3 → Z17 j i = S j i := fun j i j1 j2 j3 => congrFun (g18.2.2.1 j j3 j1 j2) i
    have zl : Z17 3 (-1) = v13 := g18.1
    refine ⟨congrArg (fun z => Sum.inl (some (0, z))) (by omega), w_up_same _ _ _ _, fun i i0 i1 => (w_up_slot (by first | decide | omega)).trans ((e0 3 i (by omega)).trans (g18.2.1 i i0 (by omega))), fun i i0 i1 => (w_up_slot (by first | decide | omega)).trans ((g23.2 i i0 i1).trans (zz 164 _ (by first | decide | omega) (by first | decide | omega) (by first | decide | omega))), fun j i j0 j1 j2 j3 => (w_up_no (by omega)).trans ((e0 j i (by omega)).trans (zz j i j0 j1 j2)), ?_, gI_up gi24 (by omega) (by omega) (by omega), rmR_up rm25 (by omega) (by first | decide | omega)⟩
    have e1 : (w_up Z22 2 1 (S 2 1 + n)) 3 (-1) = v13 := (w_up_slot (by first | decide | omega)).trans ((e0 3 (-1) (by omega)).trans zl)
    show S 2 1 + n ≤ (w_up Z22 2 1 (S 2 1 + n)) 3 (-1) ∧ S 3 (-1) ≤ (w_up Z22 2 1 (S 2 1 + n)) 3 (-1) ∧ ((w_up Z22 2 1 (S 2 1 + n)) 3 (-1) = S 3 (-1) ∨ (w_up Z22 2 1 (S 2 1 + n)) 3 (-1) ≤ 2 * (S 2 1 + n))
    rw [e1]; omega
/-- a text that is a host's name has been made -/
def anN (b : Nat) (a0 n u2 u3 : Int) (S Z : wS) : Prop := ∃ A : wS, ap_ag (w_up (w_up (w_up S 150 2 (u2 + 1)) 150 3 (u3 + n)) 158 16 3) A 2 b a0 n ∧ w_up A 158 17 (S 2 1 * 4294967296 + n) = Z
theorem anm_73 {wd a0 n u2 u3 : Int} (hC : w_CL S) (hI : gI S) (h72 : S 72 1 = 73) (hwl : S 77 (-1) = S 76 (-1)) (hwd : 0 ≤ wd ∧ wd < S 76 (-1)) (hsz : S 77 wd = n) (hst : S 76 wd = a0) (hn : 0 ≤ n ∧ n ≤ 60) (ha : 0 ≤ a0 ∧ a0 + n ≤ S 75 (-1)) (h0 : 0 ≤ S 2 1 ∧ S 2 1 ≤ S 3 (-1) ∧ 1024 ≤ S 3 (-1) ∧ S 3 (-1) ≤ 16777216) (hu2 : S 150 2 = u2) (hu3 : S 150 3 = u3) (hu2r : 0 ≤ u2 ∧ u2 < 12000) (hu3r : 0 ≤ u3 ∧ u3 + n ≤ 200000) : wJ (pe_GA xs) wY0 (mS [3]) (d + 4) t_XL_answerName ((pe_at t_XL_answerName.bl 0).getD (0, [])).2 [(0, (2, 158)), (1, (0, wd))] [] S (fun o Z => o = .inl none ∧ anN 75 a0 n u2 u3 S Z) := by
  have hR := rmR_rfl S
  refine wa_aload_n (n := 0) rfl ?_
  refine wb_gf4 158 rfl (wy_pr rfl) wt_158 wf_5_0 (v := 72) wl_158_0 ?_
  refine wb_gf5 72 rfl (wy_pr rfl) wt_72 wf_2_1 (v := 73) (h72) (fun r1 => ?_)
  refine wb_gf4 73 rfl (wy_pr rfl) wt_73 wf_3_0 (v := 74) wl_73_0 ?_
  refine wa_astore_n (n := 2) rfl ?_
  refine wa_aload_n (n := 2) rfl ?_
  refine wb_gf4 74 rfl (wy_pr rfl) wt_74 wf_9_3 (v := 77) wl_74_3 ?_
  refine wa_iload_n (n := 1) rfl ?_
  refine wb_iald 77 rfl (wy_pr rfl) wt_77 (n := (S 76 (-1))) (hwl) (by omega) (by omega) (v := n) (hsz) (fun r2 => ?_)
  refine wa_istore_n (n := 3) rfl ?_
  refine wa_aload_n (n := 0) rfl ?_
  refine wb_gf4 158 rfl (wy_pr rfl) wt_158 wf_5_0 (v := 72) wl_158_0 ?_
  refine wa_iload_n (n := 3) rfl ?_
  refine wa_cv 72 rfl (wy_pr rfl) wt_72 (M2 := fun _ => False) rfl at_XH_useText ⟨_, rfl⟩ rfl rfl ⟨trivial, (Or.inr ⟨wy_pr rfl, fun q => q⟩), (Or.inr ⟨wy_pr rfl, fun q => q⟩), trivial, trivial⟩ trivial (fun _ _ q => False.elim q) ?_ (fun _ _ _ q => q)
  refine wa_aload_n (n := 0) rfl ?_
  refine wb_gf4 72 rfl (wy_pr rfl) wt_72 wf_2_10 (v := 150) wl_72_10 ?_
  refine wa_iconst ?_
  refine wa_dup2 (by decide) (by decide) ?_
  refine wb_iald 150 rfl (wy_pr rfl) wt_150 (n := 6) ((cl_150 hC)) (by omega) (by omega) (v := u2) (hu2) (fun r3 => ?_)
  refine wa_iconst ?_
  refine wa_iadd ?_
  refine wb_iast 150 rfl (wy_pr rfl) wt_150 (n := 6) ((cl_150 hC)) (by omega) (by omega) ⟨(by omega), (by omega)⟩ ?_
  refine wa_aload_n (n := 0) rfl ?_
  refine wb_gf4 72 rfl (wy_pr rfl) wt_72 wf_2_10 (v := 150) wl_72_10 ?_
  refine wa_iconst ?_
  refine wa_dup2 (by decide) (by decide) ?_
  refine wb_iald 150 rfl (wy_pr rfl) wt_150 (n := 6) ((w_up_at (by decide)).trans ((cl_150 hC))) (by omega) (by omega) (v := u3) ((w_up_at (by decide)).trans (hu3)) (fun r4 => ?_)
  refine wa_iload_n (n := 1) rfl ?_
  refine wa_iadd ?_
  refine wb_iast 150 rfl (wy_pr rfl) wt_150 (n := 6) ((w_up_at (by decide)).trans ((cl_150 hC))) (by omega) (by omega) ⟨(by omega), (by omega)⟩ ?_
  refine wa_return rfl ?_
  show wJ _ _ _ _ _ _ _ _ _ _
  refine wa_aload_n (n := 0) rfl ?_
  refine wa_iconst ?_
  refine wb_pfi 158 rfl (wy_pr rfl) wt_158 wf_5_16 (n := 16) rfl ⟨(by omega), (by omega)⟩ ?_
  refine wa_aload_n (n := 0) rfl ?_
  refine wa_aload_n (n := 0) rfl ?_
  refine wb_gf4 158 rfl (wy_pr rfl) wt_158 wf_5_0 (v := 72) wl_158_0 ?_
  refine wb_gf4 72 rfl (wy_pr rfl) wt_72 wf_2_0 (v := 2) wl_72_0 ?_
  refine wa_aload_n (n := 2) rfl ?_
  refine wb_gf4 74 rfl (wy_pr rfl) wt_74 wf_9_0 (v := 75) wl_74_0 ?_
  refine wa_aload_n (n := 2) rfl ?_
  refine wb_gf4 74 rfl (wy_pr rfl) wt_74 wf_9_2 (v := 76) wl_74_2 ?_
  refine wa_iload_n (n := 1) rfl ?_
  refine wb_iald 76 rfl (wy_pr rfl) wt_76 (n := (S 76 (-1))) ((w_up_slot (by decide)).trans ((w_up_slot (by decide)).trans ((w_up_slot (by decide)).trans (rfl)))) (by omega) (by omega) (v := a0) ((w_up_slot (by decide)).trans ((w_up_slot (by decide)).trans ((w_up_slot (by decide)).trans (hst)))) (fun r5 => ?_)
  refine wa_iload_n (n := 3) rfl ?_
  have f1 : (w_up (w_up (w_up S 150 2 (u2 + 1)) 150 3 (u3 + n)) 158 16 3) 2 1 = S 2 1 := ((w_up_slot (by first | decide | omega)).trans ((w_up_slot (by first | decide | omega)).trans (w_up_slot (by first | decide | omega))))
  have f2 : (w_up (w_up (w_up S 150 2 (u2 + 1)) 150 3 (u3 + n)) 158 16 3) 3 (-1) = S 3 (-1) := ((w_up_slot (by first | decide | omega)).trans ((w_up_slot (by first | decide | omega)).trans (w_up_slot (by first | decide | omega))))
  have f3 : (w_up (w_up (w_up S 150 2 (u2 + 1)) 150 3 (u3 + n)) 158 16 3) 75 (-1) = S 75 (-1) := ((w_up_slot (by first | decide | omega)).trans ((w_up_slot (by first | decide | omega)).trans (w_up_slot (by first | decide | omega))))
  have hrA : ∀ Za, ap_ag (w_up (w_up (w_up S 150 2 (u2 + 1)) 150 3 (u3 + n)) 158 16 3) Za 2 75 a0 n → rmR S Za := fun Za hz => rmR_tr (rmR_up (rmR_up (rmR_up hR (by omega) (by first | decide | omega)) (by omega) (by first | decide | omega)) (by omega) (by first | decide | omega)) hz.2.2.2.2.2.2
  refine wa_cv 2 rfl (wy_pr rfl) wt_2 (M2 := mS [3]) rfl at_XW_append ⟨_, rfl⟩ rfl rfl ⟨trivial, (Or.inr ⟨wy_pr rfl, mS_no rfl⟩), (Or.inr ⟨wy_pr rfl, mS_no rfl⟩), trivial, trivial⟩ ⟨(Or.inr ⟨wy_pr rfl, mS_no rfl⟩), trivial⟩ (fun _ _ q => mS_sub (by decide) q) (wJ_mono (ap_2_75 (S := (w_up (w_up (w_up S 150 2 (u2 + 1)) 150 3 (u3 + n)) 158 16 3)) (a0 := a0) (n := n) (gI_up (gI_up (gI_up hI (by omega) (by omega) (by omega)) (by omega) (by omega) (by omega)) (by omega) (by omega) (by omega)) (by rw [f1, f2]; exact h0) ⟨by omega, by omega⟩ ⟨ha.1, by rw [f3]; exact ha.2⟩) (fun o Z hz => (⟨by rw [← f1]; exact hz.1, hz.2⟩ : o = .inl (some (0, S 2 1)) ∧ ap_ag (w_up (w_up (w_up S 150 2 (u2 + 1)) 150 3 (u3 + n)) 158 16 3) Z 2 75 a0 n))) (fun oq6 Sq6 hp7 q6 => ?_)
  rcases q6 with ⟨rfl, hap⟩
  show wJ _ _ _ _ _ _ _ _ _ _
  refine wa_iload_n (n := 3) rfl ?_
  refine wa_cs (M2 := fun _ => False) rfl at_X_slice ⟨_, rfl⟩ rfl rfl ⟨trivial, (Or.inr ⟨wy_pr rfl, fun q => q⟩), (Or.inr ⟨wy_pr rfl, fun q => q⟩), trivial, trivial⟩ ⟨(Or.inr ⟨wy_pr rfl, fun q => q⟩), trivial⟩ (fun _ _ q => False.elim q) ?_ (fun _ _ _ q => q)
  refine wa_iload_n (n := 0) rfl ?_
  refine wa_i2l (w_rg0 (by omega) (by omega)) ?_
  refine wa_bipush (w_rg2 (by omega) (by omega)) ?_
  refine wa_lshl ?_
  refine wa_iload_n (n := 1) rfl ?_
  refine wa_i2l (w_rg0 (by omega) (by omega)) ?_
  refine wa_lor ?_
  refine wa_lreturn rfl ?_
  show wJ _ _ _ _ _ _ _ _ _ _
  rw [sl_mk ⟨by omega, by omega⟩ ⟨by omega, by omega⟩]
  refine wb_pfl 158 rfl (wy_pr rfl) wt_158 wf_5_17 (n := 17) rfl ⟨(by omega), (by omega)⟩ ?_
  refine wa_return rfl ?_
  exact ⟨rfl, _, hap, rfl⟩
theorem anx_73 {m wd a0 n u2 u3 : Int} (hC : w_CL S) (hI : gI S) (h72 : S 72 1 = 73) (hwl : S 77 (-1) = S 76 (-1)) (hwd : 0 ≤ wd ∧ wd < S 76 (-1)) (hsz : S 77 wd = n) (hst : S 76 wd = a0) (hn : 0 ≤ n ∧ n ≤ 60) (ha : 0 ≤ a0 ∧ a0 + n ≤ S 75 (-1)) (h0 : 0 ≤ S 2 1 ∧ S 2 1 ≤ S 3 (-1) ∧ 1024 ≤ S 3 (-1) ∧ S 3 (-1) ≤ 16777216) (hu2 : S 150 2 = u2) (hu3 : S 150 3 = u3) (hu2r : 0 ≤ u2 ∧ u2 < 12000) (hu3r : 0 ≤ u3 ∧ u3 + n ≤ 200000) (hm : 0 ≤ m ∧ m < 400) (hmt : S 100 m = 7) (hmw : S 111 m = wd) : wJ (pe_GA xs) wY0 (mS [3]) (d + 5) t_XL_answer ((pe_at t_XL_answer.bl 0).getD (0, [])).2 [(0, (2, 158)), (1, (0, m))] [] S (fun o Z => o = .inl none ∧ anN 75 a0 n u2 u3 S Z) := by
  have hR := rmR_rfl S
  refine wa_aload_n (n := 0) rfl ?_
  refine wb_gf4 158 rfl (wy_pr rfl) wt_158 wf_5_0 (v := 72) wl_158_0 ?_
  refine wb_gf5 72 rfl (wy_pr rfl) wt_72 wf_2_1 (v := 73) (h72) (fun r1 => ?_)
  refine wb_gf4 73 rfl (wy_pr rfl) wt_73 wf_3_3 (v := 96) wl_73_3 ?_
  refine wa_iconst ?_
  refine wb_aald5 96 3 rfl rfl (wy_pr rfl) wt_96 (by rw [show _ = _ from ((cl_96 hC))]; omega) wl_96_3 ?_
  refine wa_iload_n (n := 1) rfl ?_
  refine wb_iald 100 rfl (wy_pr rfl) wt_100 (n := 400) ((cl_100 hC)) (by omega) (by omega) (v := 7) (hmt) (fun r2 => ?_)
  refine wa_istore_n (n := 2) rfl ?_
  refine wa_iload_n (n := 2) rfl ?_
  refine wa_bipush (w_rg2 (by omega) (by omega)) ?_
  refine wa_icmpne (w_rg0 (by omega) (by omega)) (w_rg0 (by omega) (by omega)) ⟨_, rfl⟩ (fun c3 => ?_) (fun c3 => ?_)
  · skip
    exact absurd c3 (by omega)
  · skip
    refine wa_aload_n (n := 0) rfl ?_
    refine wa_aload_n (n := 0) rfl ?_
    refine wb_gf4 158 rfl (wy_pr rfl) wt_158 wf_5_0 (v := 72) wl_158_0 ?_
    refine wb_gf5 72 rfl (wy_pr rfl) wt_72 wf_2_1 (v := 73) (h72) (fun r4 => ?_)
    refine wb_gf4 73 rfl (wy_pr rfl) wt_73 wf_3_3 (v := 96) wl_73_3 ?_
    refine wa_bipush (w_rg2 (by omega) (by omega)) ?_
    refine wb_aald5 96 14 rfl rfl (wy_pr rfl) wt_96 (by rw [show _ = _ from ((cl_96 hC))]; omega) wl_96_14 ?_
    refine wa_iload_n (n := 1) rfl ?_
    refine wb_iald 111 rfl (wy_pr rfl) wt_111 (n := 400) ((cl_111 hC)) (by omega) (by omega) (v := wd) (hmw) (fun r5 => ?_)
    refine wa_cv 158 rfl (wy_pr rfl) wt_158 (M2 := mS [3]) rfl at_XL_answerName ⟨_, rfl⟩ rfl rfl ⟨trivial, (Or.inr ⟨wy_pr rfl, mS_no rfl⟩), trivial, trivial⟩ trivial (fun _ _ q => mS_sub (by decide) q) (anm_73 hC hI h72 hwl hwd hsz hst hn ha h0 hu2 hu3 hu2r hu3r) (fun oq6 Sq6 hp7 q6 => ?_)
    rcases q6 with ⟨rfl, hap⟩
    show wJ _ _ _ _ _ _ _ _ _ _
    refine wa_goto ⟨_, rfl⟩ ?_
    refine wa_return rfl ?_
    exact ⟨rfl, hap⟩
theorem anm_162 {wd a0 n u2 u3 : Int} (hC : w_CL S) (hI : gI S) (h72 : S 72 1 = 162) (hwl : S 166 (-1) = S 165 (-1)) (hwd : 0 ≤ wd ∧ wd < S 165 (-1)) (hsz : S 166 wd = n) (hst : S 165 wd = a0) (hn : 0 ≤ n ∧ n ≤ 60) (ha : 0 ≤ a0 ∧ a0 + n ≤ S 164 (-1)) (h0 : 0 ≤ S 2 1 ∧ S 2 1 ≤ S 3 (-1) ∧ 1024 ≤ S 3 (-1) ∧ S 3 (-1) ≤ 16777216) (hu2 : S 150 2 = u2) (hu3 : S 150 3 = u3) (hu2r : 0 ≤ u2 ∧ u2 < 12000) (hu3r : 0 ≤ u3 ∧ u3 + n ≤ 200000) : wJ (pe_GA xs) wY0 (mS [3]) (d + 4) t_XL_answerName ((pe_at t_XL_answerName.bl 0).getD (0, [])).2 [(0, (2, 158)), (1, (0, wd))] [] S (fun o Z => o = .inl none ∧ anN 164 a0 n u2 u3 S Z) := by
  have hR := rmR_rfl S
  refine wa_aload_n (n := 0) rfl ?_
  refine wb_gf4 158 rfl (wy_pr rfl) wt_158 wf_5_0 (v := 72) wl_158_0 ?_
  refine wb_gf5 72 rfl (wy_pr rfl) wt_72 wf_2_1 (v := 162) (h72) (fun r1 => ?_)
  refine wb_gf4 162 rfl (wy_pr rfl) wt_162 wf_3_0 (v := 163) wl_162_0 ?_
  refine wa_astore_n (n := 2) rfl ?_
  refine wa_aload_n (n := 2) rfl ?_
  refine wb_gf4 163 rfl (wy_pr rfl) wt_163 wf_9_3 (v := 166) wl_163_3 ?_
  refine wa_iload_n (n := 1) rfl ?_
  refine wb_iald 166 rfl (wy_pr rfl) wt_166 (n := (S 165 (-1))) (hwl) (by omega) (by omega) (v := n) (hsz) (fun r2 => ?_)
  refine wa_istore_n (n := 3) rfl ?_
  refine wa_aload_n (n := 0) rfl ?_
  refine wb_gf4 158 rfl (wy_pr rfl) wt_158 wf_5_0 (v := 72) wl_158_0 ?_
  refine wa_iload_n (n := 3) rfl ?_
  refine wa_cv 72 rfl (wy_pr rfl) wt_72 (M2 := fun _ => False) rfl at_XH_useText ⟨_, rfl⟩ rfl rfl ⟨trivial, (Or.inr ⟨wy_pr rfl, fun q => q⟩), (Or.inr ⟨wy_pr rfl, fun q => q⟩), trivial, trivial⟩ trivial (fun _ _ q => False.elim q) ?_ (fun _ _ _ q => q)
  refine wa_aload_n (n := 0) rfl ?_
  refine wb_gf4 72 rfl (wy_pr rfl) wt_72 wf_2_10 (v := 150) wl_72_10 ?_
  refine wa_iconst ?_
  refine wa_dup2 (by decide) (by decide) ?_
  refine wb_iald 150 rfl (wy_pr rfl) wt_150 (n := 6) ((cl_150 hC)) (by omega) (by omega) (v := u2) (hu2) (fun r3 => ?_)
  refine wa_iconst ?_
  refine wa_iadd ?_
  refine wb_iast 150 rfl (wy_pr rfl) wt_150 (n := 6) ((cl_150 hC)) (by omega) (by omega) ⟨(by omega), (by omega)⟩ ?_
  refine wa_aload_n (n := 0) rfl ?_
  refine wb_gf4 72 rfl (wy_pr rfl) wt_72 wf_2_10 (v := 150) wl_72_10 ?_
  refine wa_iconst ?_
  refine wa_dup2 (by decide) (by decide) ?_
  refine wb_iald 150 rfl (wy_pr rfl) wt_150 (n := 6) ((w_up_at (by decide)).trans ((cl_150 hC))) (by omega) (by omega) (v := u3) ((w_up_at (by decide)).trans (hu3)) (fun r4 => ?_)
  refine wa_iload_n (n := 1) rfl ?_
  refine wa_iadd ?_
  refine wb_iast 150 rfl (wy_pr rfl) wt_150 (n := 6) ((w_up_at (by decide)).trans ((cl_150 hC))) (by omega) (by omega) ⟨(by omega), (by omega)⟩ ?_
  refine wa_return rfl ?_
  show wJ _ _ _ _ _ _ _ _ _ _
  refine wa_aload_n (n := 0) rfl ?_
  refine wa_iconst ?_
  refine wb_pfi 158 rfl (wy_pr rfl) wt_158 wf_5_16 (n := 16) rfl ⟨(by omega), (by omega)⟩ ?_
  refine wa_aload_n (n := 0) rfl ?_
  refine wa_aload_n (n := 0) rfl ?_
  refine wb_gf4 158 rfl (wy_pr rfl) wt_158 wf_5_0 (v := 72) wl_158_0 ?_
  refine wb_gf4 72 rfl (wy_pr rfl) wt_72 wf_2_0 (v := 2) wl_72_0 ?_
  refine wa_aload_n (n := 2) rfl ?_
  refine wb_gf4 163 rfl (wy_pr rfl) wt_163 wf_9_0 (v := 164) wl_163_0 ?_
  refine wa_aload_n (n := 2) rfl ?_
  refine wb_gf4 163 rfl (wy_pr rfl) wt_163 wf_9_2 (v := 165) wl_163_2 ?_
  refine wa_iload_n (n := 1) rfl ?_
  refine wb_iald 165 rfl (wy_pr rfl) wt_165 (n := (S 165 (-1))) ((w_up_slot (by decide)).trans ((w_up_slot (by decide)).trans ((w_up_slot (by decide)).trans (rfl)))) (by omega) (by omega) (v := a0) ((w_up_slot (by decide)).trans ((w_up_slot (by decide)).trans ((w_up_slot (by decide)).trans (hst)))) (fun r5 => ?_)
  refine wa_iload_n (n := 3) rfl ?_
  have f1 : (w_up (w_up (w_up S 150 2 (u2 + 1)) 150 3 (u3 + n)) 158 16 3) 2 1 = S 2 1 := ((w_up_slot (by first | decide | omega)).trans ((w_up_slot (by first | decide | omega)).trans (w_up_slot (by first | decide | omega))))
  have f2 : (w_up (w_up (w_up S 150 2 (u2 + 1)) 150 3 (u3 + n)) 158 16 3) 3 (-1) = S 3 (-1) := ((w_up_slot (by first | decide | omega)).trans ((w_up_slot (by first | decide | omega)).trans (w_up_slot (by first | decide | omega))))
  have f3 : (w_up (w_up (w_up S 150 2 (u2 + 1)) 150 3 (u3 + n)) 158 16 3) 164 (-1) = S 164 (-1) := ((w_up_slot (by first | decide | omega)).trans ((w_up_slot (by first | decide | omega)).trans (w_up_slot (by first | decide | omega))))
  have hrA : ∀ Za, ap_ag (w_up (w_up (w_up S 150 2 (u2 + 1)) 150 3 (u3 + n)) 158 16 3) Za 2 164 a0 n → rmR S Za := fun Za hz => rmR_tr (rmR_up (rmR_up (rmR_up hR (by omega) (by first | decide | omega)) (by omega) (by first | decide | omega)) (by omega) (by first | decide | omega)) hz.2.2.2.2.2.2
  refine wa_cv 2 rfl (wy_pr rfl) wt_2 (M2 := mS [3]) rfl at_XW_append ⟨_, rfl⟩ rfl rfl ⟨trivial, (Or.inr ⟨wy_pr rfl, mS_no rfl⟩), (Or.inr ⟨wy_pr rfl, mS_no rfl⟩), trivial, trivial⟩ ⟨(Or.inr ⟨wy_pr rfl, mS_no rfl⟩), trivial⟩ (fun _ _ q => mS_sub (by decide) q) (wJ_mono (ap_2_164 (S := (w_up (w_up (w_up S 150 2 (u2 + 1)) 150 3 (u3 + n)) 158 16 3)) (a0 := a0) (n := n) (gI_up (gI_up (gI_up hI (by omega) (by omega) (by omega)) (by omega) (by omega) (by omega)) (by omega) (by omega) (by omega)) (by rw [f1, f2]; exact h0) ⟨by omega, by omega⟩ ⟨ha.1, by rw [f3]; exact ha.2⟩) (fun o Z hz => (⟨by rw [← f1]; exact hz.1, hz.2⟩ : o = .inl (some (0, S 2 1)) ∧ ap_ag (w_up (w_up (w_up S 150 2 (u2 + 1)) 150 3 (u3 + n)) 158 16 3) Z 2 164 a0 n))) (fun oq6 Sq6 hp7 q6 => ?_)
  rcases q6 with ⟨rfl, hap⟩
  show wJ _ _ _ _ _ _ _ _ _ _
  refine wa_iload_n (n := 3) rfl ?_
  refine wa_cs (M2 := fun _ => False) rfl at_X_slice ⟨_, rfl⟩ rfl rfl ⟨trivial, (Or.inr ⟨wy_pr rfl, fun q => q⟩), (Or.inr ⟨wy_pr rfl, fun q => q⟩), trivial, trivial⟩ ⟨(Or.inr ⟨wy_pr rfl, fun q => q⟩), trivial⟩ (fun _ _ q => False.elim q) ?_ (fun _ _ _ q => q)
  refine wa_iload_n (n := 0) rfl ?_
  refine wa_i2l (w_rg0 (by omega) (by omega)) ?_
  refine wa_bipush (w_rg2 (by omega) (by omega)) ?_
  refine wa_lshl ?_
  refine wa_iload_n (n := 1) rfl ?_
  refine wa_i2l (w_rg0 (by omega) (by omega)) ?_
  refine wa_lor ?_
  refine wa_lreturn rfl ?_
  show wJ _ _ _ _ _ _ _ _ _ _
  rw [sl_mk ⟨by omega, by omega⟩ ⟨by omega, by omega⟩]
  refine wb_pfl 158 rfl (wy_pr rfl) wt_158 wf_5_17 (n := 17) rfl ⟨(by omega), (by omega)⟩ ?_
  refine wa_return rfl ?_
  exact ⟨rfl, _, hap, rfl⟩
theorem anx_162 {m wd a0 n u2 u3 : Int} (hC : w_CL S) (hI : gI S) (h72 : S 72 1 = 162) (hwl : S 166 (-1) = S 165 (-1)) (hwd : 0 ≤ wd ∧ wd < S 165 (-1)) (hsz : S 166 wd = n) (hst : S 165 wd = a0) (hn : 0 ≤ n ∧ n ≤ 60) (ha : 0 ≤ a0 ∧ a0 + n ≤ S 164 (-1)) (h0 : 0 ≤ S 2 1 ∧ S 2 1 ≤ S 3 (-1) ∧ 1024 ≤ S 3 (-1) ∧ S 3 (-1) ≤ 16777216) (hu2 : S 150 2 = u2) (hu3 : S 150 3 = u3) (hu2r : 0 ≤ u2 ∧ u2 < 12000) (hu3r : 0 ≤ u3 ∧ u3 + n ≤ 200000) (hm : 0 ≤ m ∧ m < 400) (hmt : S 189 m = 7) (hmw : S 200 m = wd) : wJ (pe_GA xs) wY0 (mS [3]) (d + 5) t_XL_answer ((pe_at t_XL_answer.bl 0).getD (0, [])).2 [(0, (2, 158)), (1, (0, m))] [] S (fun o Z => o = .inl none ∧ anN 164 a0 n u2 u3 S Z) := by
  have hR := rmR_rfl S
  refine wa_aload_n (n := 0) rfl ?_
  refine wb_gf4 158 rfl (wy_pr rfl) wt_158 wf_5_0 (v := 72) wl_158_0 ?_
  refine wb_gf5 72 rfl (wy_pr rfl) wt_72 wf_2_1 (v := 162) (h72) (fun r1 => ?_)
  refine wb_gf4 162 rfl (wy_pr rfl) wt_162 wf_3_3 (v := 185) wl_162_3 ?_
  refine wa_iconst ?_
  refine wb_aald5 185 3 rfl rfl (wy_pr rfl) wt_185 (by rw [show _ = _ from ((cl_185 hC))]; omega) wl_185_3 ?_
  refine wa_iload_n (n := 1) rfl ?_
  refine wb_iald 189 rfl (wy_pr rfl) wt_189 (n := 400) ((cl_189 hC)) (by omega) (by omega) (v := 7) (hmt) (fun r2 => ?_)
  refine wa_istore_n (n := 2) rfl ?_
  refine wa_iload_n (n := 2) rfl ?_
  refine wa_bipush (w_rg2 (by omega) (by omega)) ?_
  refine wa_icmpne (w_rg0 (by omega) (by omega)) (w_rg0 (by omega) (by omega)) ⟨_, rfl⟩ (fun c3 => ?_) (fun c3 => ?_)
  · skip
    exact absurd c3 (by omega)
  · skip
    refine wa_aload_n (n := 0) rfl ?_
    refine wa_aload_n (n := 0) rfl ?_
    refine wb_gf4 158 rfl (wy_pr rfl) wt_158 wf_5_0 (v := 72) wl_158_0 ?_
    refine wb_gf5 72 rfl (wy_pr rfl) wt_72 wf_2_1 (v := 162) (h72) (fun r4 => ?_)
    refine wb_gf4 162 rfl (wy_pr rfl) wt_162 wf_3_3 (v := 185) wl_162_3 ?_
    refine wa_bipush (w_rg2 (by omega) (by omega)) ?_
    refine wb_aald5 185 14 rfl rfl (wy_pr rfl) wt_185 (by rw [show _ = _ from ((cl_185 hC))]; omega) wl_185_14 ?_
    refine wa_iload_n (n := 1) rfl ?_
    refine wb_iald 200 rfl (wy_pr rfl) wt_200 (n := 400) ((cl_200 hC)) (by omega) (by omega) (v := wd) (hmw) (fun r5 => ?_)
    refine wa_cv 158 rfl (wy_pr rfl) wt_158 (M2 := mS [3]) rfl at_XL_answerName ⟨_, rfl⟩ rfl rfl ⟨trivial, (Or.inr ⟨wy_pr rfl, mS_no rfl⟩), trivial, trivial⟩ trivial (fun _ _ q => mS_sub (by decide) q) (anm_162 hC hI h72 hwl hwd hsz hst hn ha h0 hu2 hu3 hu2r hu3r) (fun oq6 Sq6 hp7 q6 => ?_)
    rcases q6 with ⟨rfl, hap⟩
    show wJ _ _ _ _ _ _ _ _ _ _
    refine wa_goto ⟨_, rfl⟩ ?_
    refine wa_return rfl ?_
    exact ⟨rfl, hap⟩
end Whm
