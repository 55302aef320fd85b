/-! PART ap: Words.nameFor, textFor, mark, of the words of the language. -/
section Wap
variable {xs : List (Nat × List Int32)} {M : Nat → Prop} {d : Nat} {A B C S Z : wS} {Q : wO → wS → Prop}
/-- the word k has got the next number (rows no, nm; count at f) -/
def nf_ag (no nm : Nat) (f k : Int) (S Z : wS) : Prop := (Z no k = S 2 f ∧ Z nm (S 2 f) = k ∧ Z 2 f = S 2 f + 1) ∧ (∀ i : Int, 0 ≤ i → i < S 2 f → Z nm i = S nm i) ∧ ((Z nm (-1) = S nm (-1) ∧ S 2 f < S nm (-1)) ∨ (S 2 f = S nm (-1) ∧ Z nm (-1) = S nm (-1) * 2)) ∧ (∀ (j : Nat) (i : Int), j < 4000000 → j ≠ wG → j ≠ nm → (j ≠ no ∨ i ≠ k) → (j ≠ 2 ∨ i ≠ f) → Z j i = S j i) ∧ gI Z ∧ rmR S Z
theorem nf_mk {no nm : Nat} {f k : Int} {Z1 : wS} (hd : no ≠ nm ∧ no ≠ 2 ∧ nm ≠ 2 ∧ no ≠ wG ∧ nm ≠ wG ∧ no < 237 ∧ nm < 237 ∧ no ≠ 14 ∧ nm ≠ 14) (hf : 0 ≤ f ∧ 0 ≤ k ∧ 0 ≤ S 2 f) (hn : ∀ i : Int, 0 ≤ i → i < S 2 f → Z1 nm i = S nm i) (hl : (Z1 nm (-1) = S nm (-1) ∧ S 2 f < S nm (-1)) ∨ (S 2 f = S nm (-1) ∧ Z1 nm (-1) = S nm (-1) * 2)) (hfr : ∀ (j : Nat) (i : Int), j < 4000000 → j ≠ wG → j ≠ nm → Z1 j i = S j i) (hI : gI Z1) (hr : rmR S Z1) : nf_ag no nm f k S (w_up (w_up (w_up Z1 nm (S 2 f) k) no k (S 2 f)) 2 f (S 2 f + 1)) := by
  obtain ⟨d1, d2, d3, d4, d5, d6, d7, d8, d9⟩ := hd
  obtain ⟨f1, f2, f3⟩ := hf
  refine ⟨⟨?_, ?_, w_up_same _ _ _ _⟩, fun i i0 i1 => ?_, ?_, fun j i j0 j1 j2 j3 j4 => ?_, ?_, ?_⟩
  · rw [w_up_slot d2, w_up_same]
  · rw [w_up_slot d3, w_up_slot (fun q => d1 q.symm), w_up_same]
  · rw [w_up_slot d3, w_up_slot (fun q => d1 q.symm), w_up_at (by omega)]; exact hn i i0 i1
  · rw [w_up_slot d3, w_up_slot (fun q => d1 q.symm), w_up_at (by omega)]; exact hl
  · rw [w_up_no (by omega), w_up_no (by omega), w_up_slot j2]; exact hfr j i j0 j1 j2
  · exact gI_up (gI_up (gI_up hI f3 (Or.inl (by omega)) (Or.inl (Or.inl d9))) f2 (Or.inl (by omega)) (Or.inl (Or.inl d8))) f1 (Or.inl (by decide)) (Or.inl (Or.inl (by decide)))
  · exact rmR_up (rmR_up (rmR_up hr f3 d5) f2 d4) f1 (by decide)
theorem nf_2 {k : Int} (hI : gI S) (hL : wd_L S 2 1024) (hV : wv_L S 2) (hk : 0 ≤ k ∧ k < S 2 7 ∧ S 2 7 ≤ S 4 (-1)) : wJ (pe_GA xs) wY0 (mS [9]) (d + 2) t_XW_nameFor ((pe_at t_XW_nameFor.bl 0).getD (0, [])).2 [(0, (2, 2)), (1, (0, k))] [] S (fun o Z => (((S 7 k ≠ -1 ∨ 4000 ≤ S 2 10) ∧ S = Z ∧ o = .inl (some (0, S 7 k))) ∨ ((S 7 k = -1 ∧ S 2 10 < 4000) ∧ nf_ag 7 9 10 k S Z ∧ o = .inl (some (0, S 2 10))))) := by
  have hrm := rmR_rfl S
  obtain ⟨l1, l2, l3, l4, l5, l6, l7, l8, l9⟩ := hL
  have l4 : S 7 (-1) = S 4 (-1) := l4
  have l5 : S 8 (-1) = S 4 (-1) := l5
  have l8 : S 4 (-1) ≤ 2147483647 := l8
  obtain ⟨v1, v2, v3, v4, v5, v6, v7, v8⟩ := hV
  have v3 : S 2 10 ≤ S 9 (-1) := v3
  have v4 : S 2 12 ≤ S 10 (-1) := v4
  have v5 : 64 ≤ S 9 (-1) ∧ S 9 (-1) ≤ 8192 := v5
  have v6 : 64 ≤ S 10 (-1) ∧ S 10 (-1) ≤ 8192 := v6
  have v1 : 0 ≤ S 2 10 := v1.1
  have v2 : 0 ≤ S 2 12 := v2.1
  refine wa_aload_n (n := 0) rfl ?_
  refine wb_gf4 2 rfl (wy_pr rfl) wt_2 wf_9_5 (v := 7) wl_2_5 ?_
  refine wa_iload_n (n := 1) rfl ?_
  refine wb_iald 7 rfl (wy_pr rfl) wt_7 (n := (S 7 (-1))) rfl (by omega) (by omega) (v := (S 7 k)) rfl (fun r1 => ?_)
  refine wa_iconst ?_
  refine wa_icmpne (w_rg0 (by omega) (by omega)) (w_rg0 (by omega) (by omega)) ⟨_, rfl⟩ (fun c2 => ?_) (fun c2 => ?_)
  · skip
    refine wa_aload_n (n := 0) rfl ?_
    refine wb_gf4 2 rfl (wy_pr rfl) wt_2 wf_9_5 (v := 7) wl_2_5 ?_
    refine wa_iload_n (n := 1) rfl ?_
    refine wb_iald 7 rfl (wy_pr rfl) wt_7 (n := (S 7 (-1))) rfl (by omega) (by omega) (v := (S 7 k)) rfl (fun r3 => ?_)
    refine wa_ireturn rfl ?_
    exact Or.inl ⟨by omega, rfl, rfl⟩
  · skip
    refine wa_aload_n (n := 0) rfl ?_
    refine wb_gfi 2 rfl (wy_pr rfl) wt_2 wf_9_10 (v := (S 2 10)) rfl (fun r4 => ?_)
    refine wa_sipush (by omega) ?_
    refine wa_icmpge (w_rg0 (by omega) (by omega)) (w_rg0 (by omega) (by omega)) ⟨_, rfl⟩ (fun c5 => ?_) (fun c5 => ?_)
    · skip
      refine wa_aload_n (n := 0) rfl ?_
      refine wb_gf4 2 rfl (wy_pr rfl) wt_2 wf_9_5 (v := 7) wl_2_5 ?_
      refine wa_iload_n (n := 1) rfl ?_
      refine wb_iald 7 rfl (wy_pr rfl) wt_7 (n := (S 7 (-1))) rfl (by omega) (by omega) (v := (S 7 k)) rfl (fun r6 => ?_)
      refine wa_ireturn rfl ?_
      exact Or.inl ⟨by omega, rfl, rfl⟩
    · skip
      refine wa_aload_n (n := 0) rfl ?_
      refine wb_gfi 2 rfl (wy_pr rfl) wt_2 wf_9_10 (v := (S 2 10)) rfl (fun r7 => ?_)
      refine wa_aload_n (n := 0) rfl ?_
      refine wb_gf4 2 rfl (wy_pr rfl) wt_2 wf_9_9 (v := 9) wl_2_9 ?_
      refine wb_alen 9 rfl (wy_pr rfl) (by rw [wt_9]; rfl) (v := (S 9 (-1))) rfl (fun r8 => ?_)
      refine wa_icmpne (w_rg0 (by omega) (by omega)) (w_rg0 (by omega) (by omega)) ⟨_, rfl⟩ (fun c9 => ?_) (fun c9 => ?_)
      · skip
        refine wa_aload_n (n := 0) rfl ?_
        refine wb_gf4 2 rfl (wy_pr rfl) wt_2 wf_9_9 (v := 9) wl_2_9 ?_
        refine wa_aload_n (n := 0) rfl ?_
        refine wb_gfi 2 rfl (wy_pr rfl) wt_2 wf_9_10 (v := (S 2 10)) rfl (fun r10 => ?_)
        refine wa_iload_n (n := 1) rfl ?_
        refine wb_iast 9 rfl (wy_pr rfl) wt_9 (n := (S 9 (-1))) rfl (by omega) (by omega) ⟨(by omega), (by omega)⟩ ?_
        refine wa_aload_n (n := 0) rfl ?_
        refine wb_gf4 2 rfl (wy_pr rfl) wt_2 wf_9_5 (v := 7) wl_2_5 ?_
        refine wa_iload_n (n := 1) rfl ?_
        refine wa_aload_n (n := 0) rfl ?_
        refine wb_gfi 2 rfl (wy_pr rfl) wt_2 wf_9_10 (v := (S 2 10)) (w_up_slot (by decide)) (fun r11 => ?_)
        refine wb_iast 7 rfl (wy_pr rfl) wt_7 (n := (S 7 (-1))) (w_up_slot (by decide)) (by omega) (by omega) ⟨(by omega), (by omega)⟩ ?_
        refine wa_aload_n (n := 0) rfl ?_
        refine wa_dup (by decide) ?_
        refine wb_gfi 2 rfl (wy_pr rfl) wt_2 wf_9_10 (v := (S 2 10)) ((w_up_slot (by decide)).trans (w_up_slot (by decide))) (fun r12 => ?_)
        refine wa_iconst ?_
        refine wa_iadd ?_
        refine wb_pfi 2 rfl (wy_pr rfl) wt_2 wf_9_10 (n := 10) rfl ⟨(by omega), (by omega)⟩ ?_
        refine wa_fall ⟨_, rfl⟩ ?_
        refine wa_aload_n (n := 0) rfl ?_
        refine wb_gf4 2 rfl (wy_pr rfl) wt_2 wf_9_5 (v := 7) wl_2_5 ?_
        refine wa_iload_n (n := 1) rfl ?_
        refine wb_iald 7 rfl (wy_pr rfl) wt_7 (n := (S 7 (-1))) ((w_up_slot (by decide)).trans ((w_up_at (by omega)).trans (w_up_slot (by decide)))) (by omega) (by omega) (v := (S 2 10)) ((w_up_slot (by decide)).trans (w_up_same _ _ _ _)) (fun r13 => ?_)
        refine wa_ireturn rfl ?_
        exact Or.inr ⟨by omega, nf_mk (by decide) (by omega) (fun _ _ _ => rfl) (Or.inl ⟨rfl, by omega⟩) (fun _ _ _ _ _ => rfl) hI hrm, rfl⟩
      · skip
        refine wa_aload_n (n := 0) rfl ?_
        refine wa_aload_n (n := 0) rfl ?_
        refine wb_gf4 2 rfl (wy_pr rfl) wt_2 wf_9_9 (v := 9) wl_2_9 ?_
        refine wa_aload_n (n := 0) rfl ?_
        refine wb_gfi 2 rfl (wy_pr rfl) wt_2 wf_9_10 (v := (S 2 10)) rfl (fun r14 => ?_)
        refine wa_iconst ?_
        refine wa_imul ?_
        refine wa_cs (M2 := fun _ => False) rfl at_JA_copyOf_2 ⟨_, rfl⟩ rfl rfl ⟨(Or.inr ⟨wy_pr rfl, fun q => q⟩), trivial, trivial⟩ ⟨(Or.inr ⟨wy_pr rfl, fun q => q⟩), trivial⟩ (fun _ _ q => False.elim q) (cp_I (S := S) (a := 9) (n := ((S 2 10) * 2)) (len := (S 9 (-1))) (wy_pr rfl) wt_9 rfl ⟨by omega, by omega, by omega⟩) (fun oq15 Sq15 _ q15 => ?_)
        rcases q15 with ⟨rfl, rfl⟩
        show wJ _ _ _ _ _ _ _ _ _ _
        refine wg_pf (S := S) (len := (S 9 (-1))) 0 2 9 rfl rfl rfl wt_2 wf_9_9 wl_2_9 (by decide +kernel) wt_9 (by decide) (by decide +kernel) hI (fun q => absurd q (by decide)) (by decide) ⟨by omega, by omega⟩ rfl (fun _ => ⟨Or.inr (by decide), Or.inl (nN_ge _)⟩) ⟨(Or.inr ⟨wy_pr rfl, mS_no rfl⟩), trivial, trivial⟩ trivial (fun Z16 g17 gi18 => ?_)
        have rm19 := rmR_gr hrm g17 (by decide +kernel) (len := (S 9 (-1))) rfl ⟨by omega, by omega⟩ ⟨fun q => by first | omega | exact absurd q (by decide), by show _ ≤ (100000000 : Int); omega⟩
        refine wa_fall ⟨_, rfl⟩ ?_
        refine wa_aload_n (n := 0) rfl ?_
        refine wb_gf4 2 rfl (wy_pr rfl) wt_2 wf_9_9 (v := 9) wl_2_9 ?_
        refine wa_aload_n (n := 0) rfl ?_
        refine wb_gfi 2 rfl (wy_pr rfl) wt_2 wf_9_10 (v := (S 2 10)) ((congrFun (g17.2.2.1 2 (by decide) (by decide) (by decide)) 10)) (fun r20 => ?_)
        refine wa_iload_n (n := 1) rfl ?_
        refine wb_iast 9 rfl (wy_pr rfl) wt_9 (n := ((S 2 10) * 2)) (g17.1) (by omega) (by omega) ⟨(by omega), (by omega)⟩ ?_
        refine wa_aload_n (n := 0) rfl ?_
        refine wb_gf4 2 rfl (wy_pr rfl) wt_2 wf_9_5 (v := 7) wl_2_5 ?_
        refine wa_iload_n (n := 1) rfl ?_
        refine wa_aload_n (n := 0) rfl ?_
        refine wb_gfi 2 rfl (wy_pr rfl) wt_2 wf_9_10 (v := (S 2 10)) ((w_up_slot (by decide)).trans ((congrFun (g17.2.2.1 2 (by decide) (by decide) (by decide)) 10))) (fun r21 => ?_)
        refine wb_iast 7 rfl (wy_pr rfl) wt_7 (n := (S 7 (-1))) ((w_up_slot (by decide)).trans ((congrFun (g17.2.2.1 7 (by decide) (by decide) (by decide)) (-1)))) (by omega) (by omega) ⟨(by omega), (by omega)⟩ ?_
        refine wa_aload_n (n := 0) rfl ?_
        refine wa_dup (by decide) ?_
        refine wb_gfi 2 rfl (wy_pr rfl) wt_2 wf_9_10 (v := (S 2 10)) ((w_up_slot (by decide)).trans ((w_up_slot (by decide)).trans ((congrFun (g17.2.2.1 2 (by decide) (by decide) (by decide)) 10)))) (fun r22 => ?_)
        refine wa_iconst ?_
        refine wa_iadd ?_
        refine wb_pfi 2 rfl (wy_pr rfl) wt_2 wf_9_10 (n := 10) rfl ⟨(by omega), (by omega)⟩ ?_
        refine wa_fall ⟨_, rfl⟩ ?_
        refine wa_aload_n (n := 0) rfl ?_
        refine wb_gf4 2 rfl (wy_pr rfl) wt_2 wf_9_5 (v := 7) wl_2_5 ?_
        refine wa_iload_n (n := 1) rfl ?_
        refine wb_iald 7 rfl (wy_pr rfl) wt_7 (n := (S 7 (-1))) ((w_up_slot (by decide)).trans ((w_up_at (by omega)).trans ((w_up_slot (by decide)).trans ((congrFun (g17.2.2.1 7 (by decide) (by decide) (by decide)) (-1)))))) (by omega) (by omega) (v := (S 2 10)) ((w_up_slot (by decide)).trans (w_up_same _ _ _ _)) (fun r23 => ?_)
        refine wa_ireturn rfl ?_
        exact Or.inr ⟨by omega, nf_mk (by decide) (by omega) (fun i i0 i1 => g17.2.1 i i0 (by omega)) (Or.inr ⟨by omega, by rw [g17.1]; omega⟩) (fun j i j0 j1 j2 => congrFun (g17.2.2.1 j j2 j0 j1) i) gi18 rm19, rfl⟩
theorem tf_2 {k : Int} (hI : gI S) (hL : wd_L S 2 1024) (hV : wv_L S 2) (hk : 0 ≤ k ∧ k < S 2 7 ∧ S 2 7 ≤ S 4 (-1)) : wJ (pe_GA xs) wY0 (mS [10]) (d + 2) t_XW_textFor ((pe_at t_XW_textFor.bl 0).getD (0, [])).2 [(0, (2, 2)), (1, (0, k))] [] S (fun o Z => (((S 8 k ≠ -1 ∨ 4000 ≤ S 2 12) ∧ S = Z ∧ o = .inl (some (0, S 8 k))) ∨ ((S 8 k = -1 ∧ S 2 12 < 4000) ∧ nf_ag 8 10 12 k S Z ∧ o = .inl (some (0, S 2 12))))) := by
  have hrm := rmR_rfl S
  obtain ⟨l1, l2, l3, l4, l5, l6, l7, l8, l9⟩ := hL
  have l4 : S 7 (-1) = S 4 (-1) := l4
  have l5 : S 8 (-1) = S 4 (-1) := l5
  have l8 : S 4 (-1) ≤ 2147483647 := l8
  obtain ⟨v1, v2, v3, v4, v5, v6, v7, v8⟩ := hV
  have v3 : S 2 10 ≤ S 9 (-1) := v3
  have v4 : S 2 12 ≤ S 10 (-1) := v4
  have v5 : 64 ≤ S 9 (-1) ∧ S 9 (-1) ≤ 8192 := v5
  have v6 : 64 ≤ S 10 (-1) ∧ S 10 (-1) ≤ 8192 := v6
  have v1 : 0 ≤ S 2 10 := v1.1
  have v2 : 0 ≤ S 2 12 := v2.1
  refine wa_aload_n (n := 0) rfl ?_
  refine wb_gf4 2 rfl (wy_pr rfl) wt_2 wf_9_6 (v := 8) wl_2_6 ?_
  refine wa_iload_n (n := 1) rfl ?_
  refine wb_iald 8 rfl (wy_pr rfl) wt_8 (n := (S 8 (-1))) rfl (by omega) (by omega) (v := (S 8 k)) rfl (fun r1 => ?_)
  refine wa_iconst ?_
  refine wa_icmpne (w_rg0 (by omega) (by omega)) (w_rg0 (by omega) (by omega)) ⟨_, rfl⟩ (fun c2 => ?_) (fun c2 => ?_)
  · skip
    refine wa_aload_n (n := 0) rfl ?_
    refine wb_gf4 2 rfl (wy_pr rfl) wt_2 wf_9_6 (v := 8) wl_2_6 ?_
    refine wa_iload_n (n := 1) rfl ?_
    refine wb_iald 8 rfl (wy_pr rfl) wt_8 (n := (S 8 (-1))) rfl (by omega) (by omega) (v := (S 8 k)) rfl (fun r3 => ?_)
    refine wa_ireturn rfl ?_
    exact Or.inl ⟨by omega, rfl, rfl⟩
  · skip
    refine wa_aload_n (n := 0) rfl ?_
    refine wb_gfi 2 rfl (wy_pr rfl) wt_2 wf_9_12 (v := (S 2 12)) rfl (fun r4 => ?_)
    refine wa_sipush (by omega) ?_
    refine wa_icmpge (w_rg0 (by omega) (by omega)) (w_rg0 (by omega) (by omega)) ⟨_, rfl⟩ (fun c5 => ?_) (fun c5 => ?_)
    · skip
      refine wa_aload_n (n := 0) rfl ?_
      refine wb_gf4 2 rfl (wy_pr rfl) wt_2 wf_9_6 (v := 8) wl_2_6 ?_
      refine wa_iload_n (n := 1) rfl ?_
      refine wb_iald 8 rfl (wy_pr rfl) wt_8 (n := (S 8 (-1))) rfl (by omega) (by omega) (v := (S 8 k)) rfl (fun r6 => ?_)
      refine wa_ireturn rfl ?_
      exact Or.inl ⟨by omega, rfl, rfl⟩
    · skip
      refine wa_aload_n (n := 0) rfl ?_
      refine wb_gfi 2 rfl (wy_pr rfl) wt_2 wf_9_12 (v := (S 2 12)) rfl (fun r7 => ?_)
      refine wa_aload_n (n := 0) rfl ?_
      refine wb_gf4 2 rfl (wy_pr rfl) wt_2 wf_9_11 (v := 10) wl_2_11 ?_
      refine wb_alen 10 rfl (wy_pr rfl) (by rw [wt_10]; rfl) (v := (S 10 (-1))) rfl (fun r8 => ?_)
      refine wa_icmpne (w_rg0 (by omega) (by omega)) (w_rg0 (by omega) (by omega)) ⟨_, rfl⟩ (fun c9 => ?_) (fun c9 => ?_)
      · skip
        refine wa_aload_n (n := 0) rfl ?_
        refine wb_gf4 2 rfl (wy_pr rfl) wt_2 wf_9_11 (v := 10) wl_2_11 ?_
        refine wa_aload_n (n := 0) rfl ?_
        refine wb_gfi 2 rfl (wy_pr rfl) wt_2 wf_9_12 (v := (S 2 12)) rfl (fun r10 => ?_)
        refine wa_iload_n (n := 1) rfl ?_
        refine wb_iast 10 rfl (wy_pr rfl) wt_10 (n := (S 10 (-1))) rfl (by omega) (by omega) ⟨(by omega), (by omega)⟩ ?_
        refine wa_aload_n (n := 0) rfl ?_
        refine wb_gf4 2 rfl (wy_pr rfl) wt_2 wf_9_6 (v := 8) wl_2_6 ?_
        refine wa_iload_n (n := 1) rfl ?_
        refine wa_aload_n (n := 0) rfl ?_
        refine wb_gfi 2 rfl (wy_pr rfl) wt_2 wf_9_12 (v := (S 2 12)) (w_up_slot (by decide)) (fun r11 => ?_)
        refine wb_iast 8 rfl (wy_pr rfl) wt_8 (n := (S 8 (-1))) (w_up_slot (by decide)) (by omega) (by omega) ⟨(by omega), (by omega)⟩ ?_
        refine wa_aload_n (n := 0) rfl ?_
        refine wa_dup (by decide) ?_
        refine wb_gfi 2 rfl (wy_pr rfl) wt_2 wf_9_12 (v := (S 2 12)) ((w_up_slot (by decide)).trans (w_up_slot (by decide))) (fun r12 => ?_)
        refine wa_iconst ?_
        refine wa_iadd ?_
        refine wb_pfi 2 rfl (wy_pr rfl) wt_2 wf_9_12 (n := 12) rfl ⟨(by omega), (by omega)⟩ ?_
        refine wa_fall ⟨_, rfl⟩ ?_
        refine wa_aload_n (n := 0) rfl ?_
        refine wb_gf4 2 rfl (wy_pr rfl) wt_2 wf_9_6 (v := 8) wl_2_6 ?_
        refine wa_iload_n (n := 1) rfl ?_
        refine wb_iald 8 rfl (wy_pr rfl) wt_8 (n := (S 8 (-1))) ((w_up_slot (by decide)).trans ((w_up_at (by omega)).trans (w_up_slot (by decide)))) (by omega) (by omega) (v := (S 2 12)) ((w_up_slot (by decide)).trans (w_up_same _ _ _ _)) (fun r13 => ?_)
        refine wa_ireturn rfl ?_
        exact Or.inr ⟨by omega, nf_mk (by decide) (by omega) (fun _ _ _ => rfl) (Or.inl ⟨rfl, by omega⟩) (fun _ _ _ _ _ => rfl) hI hrm, rfl⟩
      · skip
        refine wa_aload_n (n := 0) rfl ?_
        refine wa_aload_n (n := 0) rfl ?_
        refine wb_gf4 2 rfl (wy_pr rfl) wt_2 wf_9_11 (v := 10) wl_2_11 ?_
        refine wa_aload_n (n := 0) rfl ?_
        refine wb_gfi 2 rfl (wy_pr rfl) wt_2 wf_9_12 (v := (S 2 12)) rfl (fun r14 => ?_)
        refine wa_iconst ?_
        refine wa_imul ?_
        refine wa_cs (M2 := fun _ => False) rfl at_JA_copyOf_2 ⟨_, rfl⟩ rfl rfl ⟨(Or.inr ⟨wy_pr rfl, fun q => q⟩), trivial, trivial⟩ ⟨(Or.inr ⟨wy_pr rfl, fun q => q⟩), trivial⟩ (fun _ _ q => False.elim q) (cp_I (S := S) (a := 10) (n := ((S 2 12) * 2)) (len := (S 10 (-1))) (wy_pr rfl) wt_10 rfl ⟨by omega, by omega, by omega⟩) (fun oq15 Sq15 _ q15 => ?_)
        rcases q15 with ⟨rfl, rfl⟩
        show wJ _ _ _ _ _ _ _ _ _ _
        refine wg_pf (S := S) (len := (S 10 (-1))) 0 2 10 rfl rfl rfl wt_2 wf_9_11 wl_2_11 (by decide +kernel) wt_10 (by decide) (by decide +kernel) hI (fun q => absurd q (by decide)) (by decide) ⟨by omega, by omega⟩ rfl (fun _ => ⟨Or.inr (by decide), Or.inl (nN_ge _)⟩) ⟨(Or.inr ⟨wy_pr rfl, mS_no rfl⟩), trivial, trivial⟩ trivial (fun Z16 g17 gi18 => ?_)
        have rm19 := rmR_gr hrm g17 (by decide +kernel) (len := (S 10 (-1))) rfl ⟨by omega, by omega⟩ ⟨fun q => by first | omega | exact absurd q (by decide), by show _ ≤ (100000000 : Int); omega⟩
        refine wa_fall ⟨_, rfl⟩ ?_
        refine wa_aload_n (n := 0) rfl ?_
        refine wb_gf4 2 rfl (wy_pr rfl) wt_2 wf_9_11 (v := 10) wl_2_11 ?_
        refine wa_aload_n (n := 0) rfl ?_
        refine wb_gfi 2 rfl (wy_pr rfl) wt_2 wf_9_12 (v := (S 2 12)) ((congrFun (g17.2.2.1 2 (by decide) (by decide) (by decide)) 12)) (fun r20 => ?_)
        refine wa_iload_n (n := 1) rfl ?_
        refine wb_iast 10 rfl (wy_pr rfl) wt_10 (n := ((S 2 12) * 2)) (g17.1) (by omega) (by omega) ⟨(by omega), (by omega)⟩ ?_
        refine wa_aload_n (n := 0) rfl ?_
        refine wb_gf4 2 rfl (wy_pr rfl) wt_2 wf_9_6 (v := 8) wl_2_6 ?_
        refine wa_iload_n (n := 1) rfl ?_
        refine wa_aload_n (n := 0) rfl ?_
        refine wb_gfi 2 rfl (wy_pr rfl) wt_2 wf_9_12 (v := (S 2 12)) ((w_up_slot (by decide)).trans ((congrFun (g17.2.2.1 2 (by decide) (by decide) (by decide)) 12))) (fun r21 => ?_)
        refine wb_iast 8 rfl (wy_pr rfl) wt_8 (n := (S 8 (-1))) ((w_up_slot (by decide)).trans ((congrFun (g17.2.2.1 8 (by decide) (by decide) (by decide)) (-1)))) (by omega) (by omega) ⟨(by omega), (by omega)⟩ ?_
        refine wa_aload_n (n := 0) rfl ?_
        refine wa_dup (by decide) ?_
        refine wb_gfi 2 rfl (wy_pr rfl) wt_2 wf_9_12 (v := (S 2 12)) ((w_up_slot (by decide)).trans ((w_up_slot (by decide)).trans ((congrFun (g17.2.2.1 2 (by decide) (by decide) (by decide)) 12)))) (fun r22 => ?_)
        refine wa_iconst ?_
        refine wa_iadd ?_
        refine wb_pfi 2 rfl (wy_pr rfl) wt_2 wf_9_12 (n := 12) rfl ⟨(by omega), (by omega)⟩ ?_
        refine wa_fall ⟨_, rfl⟩ ?_
        refine wa_aload_n (n := 0) rfl ?_
        refine wb_gf4 2 rfl (wy_pr rfl) wt_2 wf_9_6 (v := 8) wl_2_6 ?_
        refine wa_iload_n (n := 1) rfl ?_
        refine wb_iald 8 rfl (wy_pr rfl) wt_8 (n := (S 8 (-1))) ((w_up_slot (by decide)).trans ((w_up_at (by omega)).trans ((w_up_slot (by decide)).trans ((congrFun (g17.2.2.1 8 (by decide) (by decide) (by decide)) (-1)))))) (by omega) (by omega) (v := (S 2 12)) ((w_up_slot (by decide)).trans (w_up_same _ _ _ _)) (fun r23 => ?_)
        refine wa_ireturn rfl ?_
        exact Or.inr ⟨by omega, nf_mk (by decide) (by omega) (fun i i0 i1 => g17.2.1 i i0 (by omega)) (Or.inr ⟨by omega, by rw [g17.1]; omega⟩) (fun j i j0 j1 j2 => congrFun (g17.2.2.1 j j2 j0 j1) i) gi18 rm19, rfl⟩
theorem mk_2 (hC : w_CL S) : wJ (pe_GA xs) wY0 M d t_XW_mark ((pe_at t_XW_mark.bl 0).getD (0, [])).2 [(0, (2, 2))] [] S (fun o Z => o = .inl none ∧ w_up (w_up (w_up (w_up S 11 0 (S 2 1)) 11 1 (S 2 7)) 11 2 (S 2 10)) 11 3 (S 2 12) = Z) := by
  refine wa_aload_n (n := 0) rfl ?_
  refine wb_gf4 2 rfl (wy_pr rfl) wt_2 wf_9_13 (v := 11) wl_2_13 ?_
  refine wa_iconst ?_
  refine wa_aload_n (n := 0) rfl ?_
  refine wb_gfi 2 rfl (wy_pr rfl) wt_2 wf_9_1 (v := (S 2 1)) rfl (fun r1 => ?_)
  refine wb_iast 11 rfl (wy_pr rfl) wt_11 (n := 4) ((cl_11 hC)) (by omega) (by omega) ⟨(by omega), (by omega)⟩ ?_
  refine wa_aload_n (n := 0) rfl ?_
  refine wb_gf4 2 rfl (wy_pr rfl) wt_2 wf_9_13 (v := 11) wl_2_13 ?_
  refine wa_iconst ?_
  refine wa_aload_n (n := 0) rfl ?_
  refine wb_gfi 2 rfl (wy_pr rfl) wt_2 wf_9_7 (v := (S 2 7)) (w_up_slot (by decide)) (fun r2 => ?_)
  refine wb_iast 11 rfl (wy_pr rfl) wt_11 (n := 4) ((w_up_at (by decide)).trans ((cl_11 hC))) (by omega) (by omega) ⟨(by omega), (by omega)⟩ ?_
  refine wa_aload_n (n := 0) rfl ?_
  refine wb_gf4 2 rfl (wy_pr rfl) wt_2 wf_9_13 (v := 11) wl_2_13 ?_
  refine wa_iconst ?_
  refine wa_aload_n (n := 0) rfl ?_
  refine wb_gfi 2 rfl (wy_pr rfl) wt_2 wf_9_10 (v := (S 2 10)) ((w_up_slot (by decide)).trans (w_up_slot (by decide))) (fun r3 => ?_)
  refine wb_iast 11 rfl (wy_pr rfl) wt_11 (n := 4) ((w_up_at (by decide)).trans ((w_up_at (by decide)).trans ((cl_11 hC)))) (by omega) (by omega) ⟨(by omega), (by omega)⟩ ?_
  refine wa_aload_n (n := 0) rfl ?_
  refine wb_gf4 2 rfl (wy_pr rfl) wt_2 wf_9_13 (v := 11) wl_2_13 ?_
  refine wa_iconst ?_
  refine wa_aload_n (n := 0) rfl ?_
  refine wb_gfi 2 rfl (wy_pr rfl) wt_2 wf_9_12 (v := (S 2 12)) ((w_up_slot (by decide)).trans ((w_up_slot (by decide)).trans (w_up_slot (by decide)))) (fun r4 => ?_)
  refine wb_iast 11 rfl (wy_pr rfl) wt_11 (n := 4) ((w_up_at (by decide)).trans ((w_up_at (by decide)).trans ((w_up_at (by decide)).trans ((cl_11 hC))))) (by omega) (by omega) ⟨(by omega), (by omega)⟩ ?_
  refine wa_return rfl ?_
  exact ⟨rfl, rfl⟩
end Wap
