/-! PART hw: the reference: answersByType by numbers. -/
section Whw
variable {xs : List (Nat × List Int32)} {M : Nat → Prop} {d : Nat} {S Z A : wS} {T : Int → Int} {n : Int} {cs : List hCR} {ms : List hMR} {os : Int → List Int} {Q : wO → wS → Prop}
theorem ral_241 {m ty r : Int} {es : List (Int × Int)} (hM : w_ML S) (h13 : S 237 13 = 241) (h73 : S 237 173 = r) (h76 : S 237 176 = (es.length : Int)) (hr : 0 ≤ r ∧ r + 1 + (es.length : Int) ≤ 4200) (hes : ∀ i : Nat, i < es.length → S 363 (r + 1 + (i : Int)) = (es.getD i (0, 0)).1 ∧ S 364 (r + 1 + (i : Int)) = (es.getD i (0, 0)).2) (hek : ∀ i : Nat, i < es.length → 0 ≤ (es.getD i (0, 0)).1 ∧ (es.getD i (0, 0)).1 ≤ 8) (htr : 1 ≤ ty ∧ ty ≤ 6) : ∀ (f i : Nat) (sm : Int), i + f = es.length → wJ (pe_GA xs) wY0 M (d + 1) t_M_answersByType ((pe_at t_M_answersByType.bl 1).getD (0, [])).2 [(0, (2, 237)), (1, (0, m)), (2, (0, ty)), (3, (1, sm)), (5, (0, (i : Int)))] [] S (fun o Z => o = .inl none ∧ w_up (w_up S 237 110 (anK ty)) 237 111 (anB ty (anS sm (es.drop i))) = Z) := by
  intro f
  induction f with
  | zero =>
    intro i sm hi
    rw [List.drop_of_length_le (by omega)]
    have hb0 := land_1 sm
    have hl0 := wb_l2i_rg sm
    have hw0 := w64_rg sm
    refine wa_iload (n := 5) rfl ?_
    refine wa_aload_n (n := 0) rfl ?_
    refine wb_gfi 237 rfl (wy_pr rfl) wt_237 wf_15_176 (v := (es.length : Int)) (h76) (fun r1 => ?_)
    refine wa_icmpge (w_rg0 (by omega) (by omega)) (w_rg0 (by omega) (by omega)) ⟨_, rfl⟩ (fun c2 => ?_) (fun c2 => ?_)
    · skip
      refine wa_iload_n (n := 2) rfl ?_
      refine wa_ifne (w_rg0 (by omega) (by omega)) ⟨_, rfl⟩ (fun c3 => ?_) (fun c3 => ?_)
      · skip
        refine wa_iload_n (n := 2) rfl ?_
        refine wa_iconst ?_
        refine wa_icmpeq (w_rg0 (by omega) (by omega)) (w_rg0 (by omega) (by omega)) ⟨_, rfl⟩ (fun c4 => ?_) (fun c4 => ?_)
        · skip
          refine wa_aload_n (n := 0) rfl ?_
          refine wa_iconst ?_
          refine wa_lload_n (n := 3) rfl ?_
          refine wa_l2i ?_
          refine wa_i2l (w_rg0 (by omega) (by omega)) ?_
          refine wa_cv 237 rfl (wy_pr rfl) wt_237 (M2 := fun _ => False) rfl at_M_is ⟨_, rfl⟩ rfl rfl ⟨(Or.inr ⟨wy_pr rfl, fun q => q⟩), trivial, trivial, trivial, trivial, trivial⟩ trivial (fun _ _ q => False.elim q) ?_ (fun _ _ _ q => q)
          refine wa_aload_n (n := 0) rfl ?_
          refine wa_iload_n (n := 1) rfl ?_
          refine wb_pfi 237 rfl (wy_pr rfl) wt_237 wf_15_110 (n := 110) rfl ⟨(by omega), (by omega)⟩ ?_
          refine wa_aload_n (n := 0) rfl ?_
          refine wa_lload_n (n := 2) rfl ?_
          refine wb_pfl 237 rfl (wy_pr rfl) wt_237 wf_15_111 (n := 111) rfl ⟨(by omega), (by omega)⟩ ?_
          refine wa_return rfl ?_
          show wJ _ _ _ _ _ _ _ _ _ _
          refine wa_goto ⟨_, rfl⟩ ?_
          refine wa_return rfl ?_
          have ek : anK ty = 2 := by unfold anK; first | exact if_pos (by omega) | exact if_neg (by omega)
          have eb : anB ty (anS sm []) = (wb_l2i sm) := by show anB ty sm = _; unfold anB; first | exact if_pos (by omega) | (rw [if_neg (by omega)]; first | exact if_pos (by omega) | exact if_neg (by omega))
          rw [ek, eb]
          exact ⟨rfl, rfl⟩
        · skip
          refine wa_iload_n (n := 2) rfl ?_
          refine wa_iconst ?_
          refine wa_icmpne (w_rg0 (by omega) (by omega)) (w_rg0 (by omega) (by omega)) ⟨_, rfl⟩ (fun c5 => ?_) (fun c5 => ?_)
          · skip
            refine wa_iload_n (n := 2) rfl ?_
            refine wa_iconst ?_
            refine wa_icmpeq (w_rg0 (by omega) (by omega)) (w_rg0 (by omega) (by omega)) ⟨_, rfl⟩ (fun c6 => ?_) (fun c6 => ?_)
            · skip
              refine wa_aload_n (n := 0) rfl ?_
              refine wa_iconst ?_
              refine wa_lload_n (n := 3) rfl ?_
              refine wJ_n1 (w64_o _) ?_
              refine wa_cv 237 rfl (wy_pr rfl) wt_237 (M2 := fun _ => False) rfl at_M_is ⟨_, rfl⟩ rfl rfl ⟨(Or.inr ⟨wy_pr rfl, fun q => q⟩), trivial, trivial, trivial, trivial, trivial⟩ trivial (fun _ _ q => False.elim q) ?_ (fun _ _ _ q => q)
              refine wa_aload_n (n := 0) rfl ?_
              refine wa_iload_n (n := 1) rfl ?_
              refine wb_pfi 237 rfl (wy_pr rfl) wt_237 wf_15_110 (n := 110) rfl ⟨(by omega), (by omega)⟩ ?_
              refine wa_aload_n (n := 0) rfl ?_
              refine wa_lload_n (n := 2) rfl ?_
              refine wb_pfl 237 rfl (wy_pr rfl) wt_237 wf_15_111 (n := 111) rfl ⟨(by omega), (by omega)⟩ ?_
              refine wa_return rfl ?_
              show wJ _ _ _ _ _ _ _ _ _ _
              refine wa_goto ⟨_, rfl⟩ ?_
              refine wa_return rfl ?_
              have ek : anK ty = 2 := by unfold anK; first | exact if_pos (by omega) | exact if_neg (by omega)
              have eb : anB ty (anS sm []) = (w64 sm) := by show anB ty sm = _; unfold anB; first | exact if_pos (by omega) | (rw [if_neg (by omega)]; first | exact if_pos (by omega) | exact if_neg (by omega))
              rw [ek, eb]
              exact ⟨rfl, rfl⟩
            · skip
              refine wa_iload_n (n := 2) rfl ?_
              refine wa_iconst ?_
              refine wa_icmpne (w_rg0 (by omega) (by omega)) (w_rg0 (by omega) (by omega)) ⟨_, rfl⟩ (fun c7 => ?_) (fun c7 => ?_)
              · skip
                refine wa_iload_n (n := 2) rfl ?_
                refine wa_iconst ?_
                refine wa_icmpeq (w_rg0 (by omega) (by omega)) (w_rg0 (by omega) (by omega)) ⟨_, rfl⟩ (fun c8 => ?_) (fun c8 => ?_)
                · skip
                  refine wa_aload_n (n := 0) rfl ?_
                  refine wa_iconst ?_
                  refine wa_lload_n (n := 3) rfl ?_
                  refine wb_lconst (m := 1) rfl ?_
                  refine wa_land ?_
                  refine wa_cv 237 rfl (wy_pr rfl) wt_237 (M2 := fun _ => False) rfl at_M_is ⟨_, rfl⟩ rfl rfl ⟨(Or.inr ⟨wy_pr rfl, fun q => q⟩), trivial, trivial, trivial, trivial, trivial⟩ trivial (fun _ _ q => False.elim q) ?_ (fun _ _ _ q => q)
                  refine wa_aload_n (n := 0) rfl ?_
                  refine wa_iload_n (n := 1) rfl ?_
                  refine wb_pfi 237 rfl (wy_pr rfl) wt_237 wf_15_110 (n := 110) rfl ⟨(by omega), (by omega)⟩ ?_
                  refine wa_aload_n (n := 0) rfl ?_
                  refine wa_lload_n (n := 2) rfl ?_
                  refine wb_pfl 237 rfl (wy_pr rfl) wt_237 wf_15_111 (n := 111) rfl ⟨(by omega), (by omega)⟩ ?_
                  refine wa_return rfl ?_
                  show wJ _ _ _ _ _ _ _ _ _ _
                  refine wa_goto ⟨_, rfl⟩ ?_
                  refine wa_return rfl ?_
                  have ek : anK ty = 1 := by unfold anK; first | exact if_pos (by omega) | exact if_neg (by omega)
                  have eb : anB ty (anS sm []) = (wb_land sm 1) := by show anB ty sm = _; unfold anB; first | exact if_pos (by omega) | (rw [if_neg (by omega)]; first | exact if_pos (by omega) | exact if_neg (by omega))
                  rw [ek, eb]
                  exact ⟨rfl, rfl⟩
                · skip
                  refine wa_iload_n (n := 2) rfl ?_
                  refine wa_bipush (w_rg2 (by omega) (by omega)) ?_
                  refine wa_icmpne (w_rg0 (by omega) (by omega)) (w_rg0 (by omega) (by omega)) ⟨_, rfl⟩ (fun c9 => ?_) (fun c9 => ?_)
                  · skip
                    exact absurd c9 (by omega)
                  · skip
                    refine wa_fall ⟨_, rfl⟩ ?_
                    refine wa_aload_n (n := 0) rfl ?_
                    refine wa_iconst ?_
                    refine wa_lload_n (n := 3) rfl ?_
                    refine wb_lconst (m := 1) rfl ?_
                    refine wa_land ?_
                    refine wa_cv 237 rfl (wy_pr rfl) wt_237 (M2 := fun _ => False) rfl at_M_is ⟨_, rfl⟩ rfl rfl ⟨(Or.inr ⟨wy_pr rfl, fun q => q⟩), trivial, trivial, trivial, trivial, trivial⟩ trivial (fun _ _ q => False.elim q) ?_ (fun _ _ _ q => q)
                    refine wa_aload_n (n := 0) rfl ?_
                    refine wa_iload_n (n := 1) rfl ?_
                    refine wb_pfi 237 rfl (wy_pr rfl) wt_237 wf_15_110 (n := 110) rfl ⟨(by omega), (by omega)⟩ ?_
                    refine wa_aload_n (n := 0) rfl ?_
                    refine wa_lload_n (n := 2) rfl ?_
                    refine wb_pfl 237 rfl (wy_pr rfl) wt_237 wf_15_111 (n := 111) rfl ⟨(by omega), (by omega)⟩ ?_
                    refine wa_return rfl ?_
                    show wJ _ _ _ _ _ _ _ _ _ _
                    refine wa_goto ⟨_, rfl⟩ ?_
                    refine wa_return rfl ?_
                    have ek : anK ty = 1 := by unfold anK; first | exact if_pos (by omega) | exact if_neg (by omega)
                    have eb : anB ty (anS sm []) = (wb_land sm 1) := by show anB ty sm = _; unfold anB; first | exact if_pos (by omega) | (rw [if_neg (by omega)]; first | exact if_pos (by omega) | exact if_neg (by omega))
                    rw [ek, eb]
                    exact ⟨rfl, rfl⟩
              · skip
                refine wa_fall ⟨_, rfl⟩ ?_
                refine wa_aload_n (n := 0) rfl ?_
                refine wa_iconst ?_
                refine wa_lload_n (n := 3) rfl ?_
                refine wJ_n1 (w64_o _) ?_
                refine wa_cv 237 rfl (wy_pr rfl) wt_237 (M2 := fun _ => False) rfl at_M_is ⟨_, rfl⟩ rfl rfl ⟨(Or.inr ⟨wy_pr rfl, fun q => q⟩), trivial, trivial, trivial, trivial, trivial⟩ trivial (fun _ _ q => False.elim q) ?_ (fun _ _ _ q => q)
                refine wa_aload_n (n := 0) rfl ?_
                refine wa_iload_n (n := 1) rfl ?_
                refine wb_pfi 237 rfl (wy_pr rfl) wt_237 wf_15_110 (n := 110) rfl ⟨(by omega), (by omega)⟩ ?_
                refine wa_aload_n (n := 0) rfl ?_
                refine wa_lload_n (n := 2) rfl ?_
                refine wb_pfl 237 rfl (wy_pr rfl) wt_237 wf_15_111 (n := 111) rfl ⟨(by omega), (by omega)⟩ ?_
                refine wa_return rfl ?_
                show wJ _ _ _ _ _ _ _ _ _ _
                refine wa_goto ⟨_, rfl⟩ ?_
                refine wa_return rfl ?_
                have ek : anK ty = 2 := by unfold anK; first | exact if_pos (by omega) | exact if_neg (by omega)
                have eb : anB ty (anS sm []) = (w64 sm) := by show anB ty sm = _; unfold anB; first | exact if_pos (by omega) | (rw [if_neg (by omega)]; first | exact if_pos (by omega) | exact if_neg (by omega))
                rw [ek, eb]
                exact ⟨rfl, rfl⟩
          · skip
            refine wa_fall ⟨_, rfl⟩ ?_
            refine wa_aload_n (n := 0) rfl ?_
            refine wa_iconst ?_
            refine wa_lload_n (n := 3) rfl ?_
            refine wa_l2i ?_
            refine wa_i2l (w_rg0 (by omega) (by omega)) ?_
            refine wa_cv 237 rfl (wy_pr rfl) wt_237 (M2 := fun _ => False) rfl at_M_is ⟨_, rfl⟩ rfl rfl ⟨(Or.inr ⟨wy_pr rfl, fun q => q⟩), trivial, trivial, trivial, trivial, trivial⟩ trivial (fun _ _ q => False.elim q) ?_ (fun _ _ _ q => q)
            refine wa_aload_n (n := 0) rfl ?_
            refine wa_iload_n (n := 1) rfl ?_
            refine wb_pfi 237 rfl (wy_pr rfl) wt_237 wf_15_110 (n := 110) rfl ⟨(by omega), (by omega)⟩ ?_
            refine wa_aload_n (n := 0) rfl ?_
            refine wa_lload_n (n := 2) rfl ?_
            refine wb_pfl 237 rfl (wy_pr rfl) wt_237 wf_15_111 (n := 111) rfl ⟨(by omega), (by omega)⟩ ?_
            refine wa_return rfl ?_
            show wJ _ _ _ _ _ _ _ _ _ _
            refine wa_goto ⟨_, rfl⟩ ?_
            refine wa_return rfl ?_
            have ek : anK ty = 2 := by unfold anK; first | exact if_pos (by omega) | exact if_neg (by omega)
            have eb : anB ty (anS sm []) = (wb_l2i sm) := by show anB ty sm = _; unfold anB; first | exact if_pos (by omega) | (rw [if_neg (by omega)]; first | exact if_pos (by omega) | exact if_neg (by omega))
            rw [ek, eb]
            exact ⟨rfl, rfl⟩
      · skip
        exact absurd c3 (by omega)
    · skip
      exfalso; omega
  | succ f ih =>
    intro i sm hi
    have hil : i < es.length := by omega
    have he := hes i hil
    have hk := hek i hil
    have he1 : S 363 (r + 1 + (i : Int)) = (es.getD i (0, 0)).1 := he.1
    have he2 : S 364 (r + 1 + (i : Int)) = (es.getD i (0, 0)).2 := he.2
    have hdr : es.drop i = es.getD i (0, 0) :: es.drop (i + 1) := by rw [List.drop_eq_getElem_cons hil, List.getD_eq_getElem?_getD, List.getElem?_eq_getElem hil]; rfl
    rw [hdr]
    refine wa_iload (n := 5) rfl ?_
    refine wa_aload_n (n := 0) rfl ?_
    refine wb_gfi 237 rfl (wy_pr rfl) wt_237 wf_15_176 (v := (es.length : Int)) (h76) (fun r51 => ?_)
    refine wa_icmpge (w_rg0 (by omega) (by omega)) (w_rg0 (by omega) (by omega)) ⟨_, rfl⟩ (fun c52 => ?_) (fun c52 => ?_)
    · skip
      exfalso; omega
    · skip
      refine wa_lload_n (n := 3) rfl ?_
      refine wa_aload_n (n := 0) rfl ?_
      refine wb_gf4 237 rfl (wy_pr rfl) wt_237 wf_15_138 (v := 363) wl_237_138 ?_
      refine wa_aload_n (n := 0) rfl ?_
      refine wb_gfi 237 rfl (wy_pr rfl) wt_237 wf_15_173 (v := r) (h73) (fun r53 => ?_)
      refine wa_iconst ?_
      refine wa_iadd ?_
      refine wa_iload (n := 5) rfl ?_
      refine wa_iadd ?_
      refine wb_iald 363 rfl (wy_pr rfl) wt_363 (n := 4200) ((ml_363 hM)) (by omega) (by omega) (v := (es.getD i (0, 0)).1) (he1) (fun r54 => ?_)
      refine wa_iconst ?_
      refine wa_icmpne (w_rg0 (by omega) (by omega)) (w_rg0 (by omega) (by omega)) ⟨_, rfl⟩ (fun c55 => ?_) (fun c55 => ?_)
      · skip
        refine wb_lconst (m := 0) rfl ?_
        refine wa_fall ⟨_, rfl⟩ ?_
        refine wa_ladd ?_
        refine wa_lstore_n (n := 3) rfl ?_
        refine wa_iinc rfl rfl ?_
        refine wa_goto ⟨_, rfl⟩ ?_
        have ea : anS sm (es.getD i (0, 0) :: es.drop (i + 1)) = anS (sm + 0) (es.drop (i + 1)) := by show anS (sm + (if (es.getD i (0, 0)).1 = 2 then (es.getD i (0, 0)).2 else 0)) (es.drop (i + 1)) = _; first | rw [if_pos (by omega)] | rw [if_neg (by omega)]
        rw [ea]
        exact wJ_S (ih (i + 1) (sm + 0) (by omega)) ⟨rfl, rfl, rfl, rfl, rfl, trivial⟩
      · skip
        refine wa_aload_n (n := 0) rfl ?_
        refine wb_gf4 237 rfl (wy_pr rfl) wt_237 wf_15_139 (v := 364) wl_237_139 ?_
        refine wa_aload_n (n := 0) rfl ?_
        refine wb_gfi 237 rfl (wy_pr rfl) wt_237 wf_15_173 (v := r) (h73) (fun r56 => ?_)
        refine wa_iconst ?_
        refine wa_iadd ?_
        refine wa_iload (n := 5) rfl ?_
        refine wa_iadd ?_
        refine wb_lald 364 rfl (wy_pr rfl) wt_364 (n := 4200) ((ml_364 hM)) (by omega) (by omega) (v := (es.getD i (0, 0)).2) (he2) (fun r57 => ?_)
        refine wa_goto ⟨_, rfl⟩ ?_
        refine wa_ladd ?_
        refine wa_lstore_n (n := 3) rfl ?_
        refine wa_iinc rfl rfl ?_
        refine wa_goto ⟨_, rfl⟩ ?_
        have ea : anS sm (es.getD i (0, 0) :: es.drop (i + 1)) = anS (sm + (es.getD i (0, 0)).2) (es.drop (i + 1)) := by show anS (sm + (if (es.getD i (0, 0)).1 = 2 then (es.getD i (0, 0)).2 else 0)) (es.drop (i + 1)) = _; first | rw [if_pos (by omega)] | rw [if_neg (by omega)]
        rw [ea]
        exact wJ_S (ih (i + 1) (sm + (es.getD i (0, 0)).2) (by omega)) ⟨rfl, rfl, rfl, rfl, rfl, trivial⟩
theorem ral_261 {m ty r : Int} {es : List (Int × Int)} (hM : w_ML S) (h13 : S 237 13 = 261) (h73 : S 237 173 = r) (h76 : S 237 176 = (es.length : Int)) (hr : 0 ≤ r ∧ r + 1 + (es.length : Int) ≤ 4200) (hes : ∀ i : Nat, i < es.length → S 363 (r + 1 + (i : Int)) = (es.getD i (0, 0)).1 ∧ S 364 (r + 1 + (i : Int)) = (es.getD i (0, 0)).2) (hek : ∀ i : Nat, i < es.length → 0 ≤ (es.getD i (0, 0)).1 ∧ (es.getD i (0, 0)).1 ≤ 8) (htr : 1 ≤ ty ∧ ty ≤ 6) : ∀ (f i : Nat) (sm : Int), i + f = es.length → wJ (pe_GA xs) wY0 M (d + 1) t_M_answersByType ((pe_at t_M_answersByType.bl 1).getD (0, [])).2 [(0, (2, 237)), (1, (0, m)), (2, (0, ty)), (3, (1, sm)), (5, (0, (i : Int)))] [] S (fun o Z => o = .inl none ∧ w_up (w_up S 237 110 (anK ty)) 237 111 (anB ty (anS sm (es.drop i))) = Z) := by
  intro f
  induction f with
  | zero =>
    intro i sm hi
    rw [List.drop_of_length_le (by omega)]
    have hb0 := land_1 sm
    have hl0 := wb_l2i_rg sm
    have hw0 := w64_rg sm
    refine wa_iload (n := 5) rfl ?_
    refine wa_aload_n (n := 0) rfl ?_
    refine wb_gfi 237 rfl (wy_pr rfl) wt_237 wf_15_176 (v := (es.length : Int)) (h76) (fun r1 => ?_)
    refine wa_icmpge (w_rg0 (by omega) (by omega)) (w_rg0 (by omega) (by omega)) ⟨_, rfl⟩ (fun c2 => ?_) (fun c2 => ?_)
    · skip
      refine wa_iload_n (n := 2) rfl ?_
      refine wa_ifne (w_rg0 (by omega) (by omega)) ⟨_, rfl⟩ (fun c3 => ?_) (fun c3 => ?_)
      · skip
        refine wa_iload_n (n := 2) rfl ?_
        refine wa_iconst ?_
        refine wa_icmpeq (w_rg0 (by omega) (by omega)) (w_rg0 (by omega) (by omega)) ⟨_, rfl⟩ (fun c4 => ?_) (fun c4 => ?_)
        · skip
          refine wa_aload_n (n := 0) rfl ?_
          refine wa_iconst ?_
          refine wa_lload_n (n := 3) rfl ?_
          refine wa_l2i ?_
          refine wa_i2l (w_rg0 (by omega) (by omega)) ?_
          refine wa_cv 237 rfl (wy_pr rfl) wt_237 (M2 := fun _ => False) rfl at_M_is ⟨_, rfl⟩ rfl rfl ⟨(Or.inr ⟨wy_pr rfl, fun q => q⟩), trivial, trivial, trivial, trivial, trivial⟩ trivial (fun _ _ q => False.elim q) ?_ (fun _ _ _ q => q)
          refine wa_aload_n (n := 0) rfl ?_
          refine wa_iload_n (n := 1) rfl ?_
          refine wb_pfi 237 rfl (wy_pr rfl) wt_237 wf_15_110 (n := 110) rfl ⟨(by omega), (by omega)⟩ ?_
          refine wa_aload_n (n := 0) rfl ?_
          refine wa_lload_n (n := 2) rfl ?_
          refine wb_pfl 237 rfl (wy_pr rfl) wt_237 wf_15_111 (n := 111) rfl ⟨(by omega), (by omega)⟩ ?_
          refine wa_return rfl ?_
          show wJ _ _ _ _ _ _ _ _ _ _
          refine wa_goto ⟨_, rfl⟩ ?_
          refine wa_return rfl ?_
          have ek : anK ty = 2 := by unfold anK; first | exact if_pos (by omega) | exact if_neg (by omega)
          have eb : anB ty (anS sm []) = (wb_l2i sm) := by show anB ty sm = _; unfold anB; first | exact if_pos (by omega) | (rw [if_neg (by omega)]; first | exact if_pos (by omega) | exact if_neg (by omega))
          rw [ek, eb]
          exact ⟨rfl, rfl⟩
        · skip
          refine wa_iload_n (n := 2) rfl ?_
          refine wa_iconst ?_
          refine wa_icmpne (w_rg0 (by omega) (by omega)) (w_rg0 (by omega) (by omega)) ⟨_, rfl⟩ (fun c5 => ?_) (fun c5 => ?_)
          · skip
            refine wa_iload_n (n := 2) rfl ?_
            refine wa_iconst ?_
            refine wa_icmpeq (w_rg0 (by omega) (by omega)) (w_rg0 (by omega) (by omega)) ⟨_, rfl⟩ (fun c6 => ?_) (fun c6 => ?_)
            · skip
              refine wa_aload_n (n := 0) rfl ?_
              refine wa_iconst ?_
              refine wa_lload_n (n := 3) rfl ?_
              refine wJ_n1 (w64_o _) ?_
              refine wa_cv 237 rfl (wy_pr rfl) wt_237 (M2 := fun _ => False) rfl at_M_is ⟨_, rfl⟩ rfl rfl ⟨(Or.inr ⟨wy_pr rfl, fun q => q⟩), trivial, trivial, trivial, trivial, trivial⟩ trivial (fun _ _ q => False.elim q) ?_ (fun _ _ _ q => q)
              refine wa_aload_n (n := 0) rfl ?_
              refine wa_iload_n (n := 1) rfl ?_
              refine wb_pfi 237 rfl (wy_pr rfl) wt_237 wf_15_110 (n := 110) rfl ⟨(by omega), (by omega)⟩ ?_
              refine wa_aload_n (n := 0) rfl ?_
              refine wa_lload_n (n := 2) rfl ?_
              refine wb_pfl 237 rfl (wy_pr rfl) wt_237 wf_15_111 (n := 111) rfl ⟨(by omega), (by omega)⟩ ?_
              refine wa_return rfl ?_
              show wJ _ _ _ _ _ _ _ _ _ _
              refine wa_goto ⟨_, rfl⟩ ?_
              refine wa_return rfl ?_
              have ek : anK ty = 2 := by unfold anK; first | exact if_pos (by omega) | exact if_neg (by omega)
              have eb : anB ty (anS sm []) = (w64 sm) := by show anB ty sm = _; unfold anB; first | exact if_pos (by omega) | (rw [if_neg (by omega)]; first | exact if_pos (by omega) | exact if_neg (by omega))
              rw [ek, eb]
              exact ⟨rfl, rfl⟩
            · skip
              refine wa_iload_n (n := 2) rfl ?_
              refine wa_iconst ?_
              refine wa_icmpne (w_rg0 (by omega) (by omega)) (w_rg0 (by omega) (by omega)) ⟨_, rfl⟩ (fun c7 => ?_) (fun c7 => ?_)
              · skip
                refine wa_iload_n (n := 2) rfl ?_
                refine wa_iconst ?_
                refine wa_icmpeq (w_rg0 (by omega) (by omega)) (w_rg0 (by omega) (by omega)) ⟨_, rfl⟩ (fun c8 => ?_) (fun c8 => ?_)
                · skip
                  refine wa_aload_n (n := 0) rfl ?_
                  refine wa_iconst ?_
                  refine wa_lload_n (n := 3) rfl ?_
                  refine wb_lconst (m := 1) rfl ?_
                  refine wa_land ?_
                  refine wa_cv 237 rfl (wy_pr rfl) wt_237 (M2 := fun _ => False) rfl at_M_is ⟨_, rfl⟩ rfl rfl ⟨(Or.inr ⟨wy_pr rfl, fun q => q⟩), trivial, trivial, trivial, trivial, trivial⟩ trivial (fun _ _ q => False.elim q) ?_ (fun _ _ _ q => q)
                  refine wa_aload_n (n := 0) rfl ?_
                  refine wa_iload_n (n := 1) rfl ?_
                  refine wb_pfi 237 rfl (wy_pr rfl) wt_237 wf_15_110 (n := 110) rfl ⟨(by omega), (by omega)⟩ ?_
                  refine wa_aload_n (n := 0) rfl ?_
                  refine wa_lload_n (n := 2) rfl ?_
                  refine wb_pfl 237 rfl (wy_pr rfl) wt_237 wf_15_111 (n := 111) rfl ⟨(by omega), (by omega)⟩ ?_
                  refine wa_return rfl ?_
                  show wJ _ _ _ _ _ _ _ _ _ _
                  refine wa_goto ⟨_, rfl⟩ ?_
                  refine wa_return rfl ?_
                  have ek : anK ty = 1 := by unfold anK; first | exact if_pos (by omega) | exact if_neg (by omega)
                  have eb : anB ty (anS sm []) = (wb_land sm 1) := by show anB ty sm = _; unfold anB; first | exact if_pos (by omega) | (rw [if_neg (by omega)]; first | exact if_pos (by omega) | exact if_neg (by omega))
                  rw [ek, eb]
                  exact ⟨rfl, rfl⟩
                · skip
                  refine wa_iload_n (n := 2) rfl ?_
                  refine wa_bipush (w_rg2 (by omega) (by omega)) ?_
                  refine wa_icmpne (w_rg0 (by omega) (by omega)) (w_rg0 (by omega) (by omega)) ⟨_, rfl⟩ (fun c9 => ?_) (fun c9 => ?_)
                  · skip
                    exact absurd c9 (by omega)
                  · skip
                    refine wa_fall ⟨_, rfl⟩ ?_
                    refine wa_aload_n (n := 0) rfl ?_
                    refine wa_iconst ?_
                    refine wa_lload_n (n := 3) rfl ?_
                    refine wb_lconst (m := 1) rfl ?_
                    refine wa_land ?_
                    refine wa_cv 237 rfl (wy_pr rfl) wt_237 (M2 := fun _ => False) rfl at_M_is ⟨_, rfl⟩ rfl rfl ⟨(Or.inr ⟨wy_pr rfl, fun q => q⟩), trivial, trivial, trivial, trivial, trivial⟩ trivial (fun _ _ q => False.elim q) ?_ (fun _ _ _ q => q)
                    refine wa_aload_n (n := 0) rfl ?_
                    refine wa_iload_n (n := 1) rfl ?_
                    refine wb_pfi 237 rfl (wy_pr rfl) wt_237 wf_15_110 (n := 110) rfl ⟨(by omega), (by omega)⟩ ?_
                    refine wa_aload_n (n := 0) rfl ?_
                    refine wa_lload_n (n := 2) rfl ?_
                    refine wb_pfl 237 rfl (wy_pr rfl) wt_237 wf_15_111 (n := 111) rfl ⟨(by omega), (by omega)⟩ ?_
                    refine wa_return rfl ?_
                    show wJ _ _ _ _ _ _ _ _ _ _
                    refine wa_goto ⟨_, rfl⟩ ?_
                    refine wa_return rfl ?_
                    have ek : anK ty = 1 := by unfold anK; first | exact if_pos (by omega) | exact if_neg (by omega)
                    have eb : anB ty (anS sm []) = (wb_land sm 1) := by show anB ty sm = _; unfold anB; first | exact if_pos (by omega) | (rw [if_neg (by omega)]; first | exact if_pos (by omega) | exact if_neg (by omega))
                    rw [ek, eb]
                    exact ⟨rfl, rfl⟩
              · skip
                refine wa_fall ⟨_, rfl⟩ ?_
                refine wa_aload_n (n := 0) rfl ?_
                refine wa_iconst ?_
                refine wa_lload_n (n := 3) rfl ?_
                refine wJ_n1 (w64_o _) ?_
                refine wa_cv 237 rfl (wy_pr rfl) wt_237 (M2 := fun _ => False) rfl at_M_is ⟨_, rfl⟩ rfl rfl ⟨(Or.inr ⟨wy_pr rfl, fun q => q⟩), trivial, trivial, trivial, trivial, trivial⟩ trivial (fun _ _ q => False.elim q) ?_ (fun _ _ _ q => q)
                refine wa_aload_n (n := 0) rfl ?_
                refine wa_iload_n (n := 1) rfl ?_
                refine wb_pfi 237 rfl (wy_pr rfl) wt_237 wf_15_110 (n := 110) rfl ⟨(by omega), (by omega)⟩ ?_
                refine wa_aload_n (n := 0) rfl ?_
                refine wa_lload_n (n := 2) rfl ?_
                refine wb_pfl 237 rfl (wy_pr rfl) wt_237 wf_15_111 (n := 111) rfl ⟨(by omega), (by omega)⟩ ?_
                refine wa_return rfl ?_
                show wJ _ _ _ _ _ _ _ _ _ _
                refine wa_goto ⟨_, rfl⟩ ?_
                refine wa_return rfl ?_
                have ek : anK ty = 2 := by unfold anK; first | exact if_pos (by omega) | exact if_neg (by omega)
                have eb : anB ty (anS sm []) = (w64 sm) := by show anB ty sm = _; unfold anB; first | exact if_pos (by omega) | (rw [if_neg (by omega)]; first | exact if_pos (by omega) | exact if_neg (by omega))
                rw [ek, eb]
                exact ⟨rfl, rfl⟩
          · skip
            refine wa_fall ⟨_, rfl⟩ ?_
            refine wa_aload_n (n := 0) rfl ?_
            refine wa_iconst ?_
            refine wa_lload_n (n := 3) rfl ?_
            refine wa_l2i ?_
            refine wa_i2l (w_rg0 (by omega) (by omega)) ?_
            refine wa_cv 237 rfl (wy_pr rfl) wt_237 (M2 := fun _ => False) rfl at_M_is ⟨_, rfl⟩ rfl rfl ⟨(Or.inr ⟨wy_pr rfl, fun q => q⟩), trivial, trivial, trivial, trivial, trivial⟩ trivial (fun _ _ q => False.elim q) ?_ (fun _ _ _ q => q)
            refine wa_aload_n (n := 0) rfl ?_
            refine wa_iload_n (n := 1) rfl ?_
            refine wb_pfi 237 rfl (wy_pr rfl) wt_237 wf_15_110 (n := 110) rfl ⟨(by omega), (by omega)⟩ ?_
            refine wa_aload_n (n := 0) rfl ?_
            refine wa_lload_n (n := 2) rfl ?_
            refine wb_pfl 237 rfl (wy_pr rfl) wt_237 wf_15_111 (n := 111) rfl ⟨(by omega), (by omega)⟩ ?_
            refine wa_return rfl ?_
            show wJ _ _ _ _ _ _ _ _ _ _
            refine wa_goto ⟨_, rfl⟩ ?_
            refine wa_return rfl ?_
            have ek : anK ty = 2 := by unfold anK; first | exact if_pos (by omega) | exact if_neg (by omega)
            have eb : anB ty (anS sm []) = (wb_l2i sm) := by show anB ty sm = _; unfold anB; first | exact if_pos (by omega) | (rw [if_neg (by omega)]; first | exact if_pos (by omega) | exact if_neg (by omega))
            rw [ek, eb]
            exact ⟨rfl, rfl⟩
      · skip
        exact absurd c3 (by omega)
    · skip
      exfalso; omega
  | succ f ih =>
    intro i sm hi
    have hil : i < es.length := by omega
    have he := hes i hil
    have hk := hek i hil
    have he1 : S 363 (r + 1 + (i : Int)) = (es.getD i (0, 0)).1 := he.1
    have he2 : S 364 (r + 1 + (i : Int)) = (es.getD i (0, 0)).2 := he.2
    have hdr : es.drop i = es.getD i (0, 0) :: es.drop (i + 1) := by rw [List.drop_eq_getElem_cons hil, List.getD_eq_getElem?_getD, List.getElem?_eq_getElem hil]; rfl
    rw [hdr]
    refine wa_iload (n := 5) rfl ?_
    refine wa_aload_n (n := 0) rfl ?_
    refine wb_gfi 237 rfl (wy_pr rfl) wt_237 wf_15_176 (v := (es.length : Int)) (h76) (fun r51 => ?_)
    refine wa_icmpge (w_rg0 (by omega) (by omega)) (w_rg0 (by omega) (by omega)) ⟨_, rfl⟩ (fun c52 => ?_) (fun c52 => ?_)
    · skip
      exfalso; omega
    · skip
      refine wa_lload_n (n := 3) rfl ?_
      refine wa_aload_n (n := 0) rfl ?_
      refine wb_gf4 237 rfl (wy_pr rfl) wt_237 wf_15_138 (v := 363) wl_237_138 ?_
      refine wa_aload_n (n := 0) rfl ?_
      refine wb_gfi 237 rfl (wy_pr rfl) wt_237 wf_15_173 (v := r) (h73) (fun r53 => ?_)
      refine wa_iconst ?_
      refine wa_iadd ?_
      refine wa_iload (n := 5) rfl ?_
      refine wa_iadd ?_
      refine wb_iald 363 rfl (wy_pr rfl) wt_363 (n := 4200) ((ml_363 hM)) (by omega) (by omega) (v := (es.getD i (0, 0)).1) (he1) (fun r54 => ?_)
      refine wa_iconst ?_
      refine wa_icmpne (w_rg0 (by omega) (by omega)) (w_rg0 (by omega) (by omega)) ⟨_, rfl⟩ (fun c55 => ?_) (fun c55 => ?_)
      · skip
        refine wb_lconst (m := 0) rfl ?_
        refine wa_fall ⟨_, rfl⟩ ?_
        refine wa_ladd ?_
        refine wa_lstore_n (n := 3) rfl ?_
        refine wa_iinc rfl rfl ?_
        refine wa_goto ⟨_, rfl⟩ ?_
        have ea : anS sm (es.getD i (0, 0) :: es.drop (i + 1)) = anS (sm + 0) (es.drop (i + 1)) := by show anS (sm + (if (es.getD i (0, 0)).1 = 2 then (es.getD i (0, 0)).2 else 0)) (es.drop (i + 1)) = _; first | rw [if_pos (by omega)] | rw [if_neg (by omega)]
        rw [ea]
        exact wJ_S (ih (i + 1) (sm + 0) (by omega)) ⟨rfl, rfl, rfl, rfl, rfl, trivial⟩
      · skip
        refine wa_aload_n (n := 0) rfl ?_
        refine wb_gf4 237 rfl (wy_pr rfl) wt_237 wf_15_139 (v := 364) wl_237_139 ?_
        refine wa_aload_n (n := 0) rfl ?_
        refine wb_gfi 237 rfl (wy_pr rfl) wt_237 wf_15_173 (v := r) (h73) (fun r56 => ?_)
        refine wa_iconst ?_
        refine wa_iadd ?_
        refine wa_iload (n := 5) rfl ?_
        refine wa_iadd ?_
        refine wb_lald 364 rfl (wy_pr rfl) wt_364 (n := 4200) ((ml_364 hM)) (by omega) (by omega) (v := (es.getD i (0, 0)).2) (he2) (fun r57 => ?_)
        refine wa_goto ⟨_, rfl⟩ ?_
        refine wa_ladd ?_
        refine wa_lstore_n (n := 3) rfl ?_
        refine wa_iinc rfl rfl ?_
        refine wa_goto ⟨_, rfl⟩ ?_
        have ea : anS sm (es.getD i (0, 0) :: es.drop (i + 1)) = anS (sm + (es.getD i (0, 0)).2) (es.drop (i + 1)) := by show anS (sm + (if (es.getD i (0, 0)).1 = 2 then (es.getD i (0, 0)).2 else 0)) (es.drop (i + 1)) = _; first | rw [if_pos (by omega)] | rw [if_neg (by omega)]
        rw [ea]
        exact wJ_S (ih (i + 1) (sm + (es.getD i (0, 0)).2) (by omega)) ⟨rfl, rfl, rfl, rfl, rfl, trivial⟩
end Whw
