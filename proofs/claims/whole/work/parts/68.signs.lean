/-! PART 68: the reference's lexer: signs. -/
section W68
variable {xs : List (Nat × List Int32)} {M : Nat → Prop} {d : Nat} {S : wS} {Q : wO → wS → Prop}
def lx_one (c : Int) : Prop := c = 40 ∨ c = 41 ∨ c = 123 ∨ c = 125 ∨ c = 91 ∨ c = 93 ∨ c = 44 ∨ c = 59 ∨ c = 46 ∨ c = 58 ∨ c = 61 ∨ c = 60 ∨ c = 62 ∨ c = 43 ∨ c = 45 ∨ c = 42 ∨ c = 47 ∨ c = 37 ∨ c = 33
/-- what the signs c, d, e (of a host's text: h is 1) are: the token, the sign, its length -/
def sg_n2 (c d : Int) : Prop := ¬ (d = 61 ∧ (c = 61 ∨ c = 33 ∨ c = 60 ∨ c = 62)) ∧ ¬ (c = 38 ∧ d = 38) ∧ ¬ (c = 124 ∧ d = 124)
def sg_two (c d : Int) : Prop := (d = 61 ∧ (c = 61 ∨ c = 33 ∨ c = 60 ∨ c = 62)) ∨ (c = 38 ∧ d = 38) ∨ (c = 124 ∧ d = 124)
def sg_n3 (c d e h : Int) : Prop := ¬ (c = 46 ∧ d = 46 ∧ e = 46 ∧ h ≠ 0)
def lx_sg (c d e h tk sg ln : Int) : Prop := (tk = 4 ∧ ln = 2 ∧ ((d = 61 ∧ c = 61 ∧ sg = 256) ∨ (d = 61 ∧ c = 33 ∧ sg = 257) ∨ (d = 61 ∧ c = 60 ∧ sg = 258) ∨ (d = 61 ∧ c = 62 ∧ sg = 259) ∨ (c = 38 ∧ d = 38 ∧ sg = 260) ∨ (c = 124 ∧ d = 124 ∧ sg = 261))) ∨ (tk = 4 ∧ ln = 3 ∧ sg = 262 ∧ c = 46 ∧ d = 46 ∧ e = 46 ∧ h ≠ 0) ∨ (ln = 1 ∧ sg = c ∧ sg_n2 c d ∧ sg_n3 c d e h ∧ ((tk = 4 ∧ lx_one c) ∨ (tk = 5 ∧ ¬ lx_one c)))
theorem sg_13 {c d0 t p : Int} (hM0 : w_ML S) (hn : 0 ≤ S 237 4 ∧ S 237 4 ≤ 65536) (hc : -128 ≤ c ∧ c ≤ 127) (hd : -128 ≤ d0 ∧ d0 ≤ 127) (ht : 0 ≤ t ∧ t ≤ S 237 4) {Z : wS} (n1 : sg_n2 c d0) (n2 : sg_n3 c d0 (lx_at (S 239) (S 237 4) (t + 2)) (S 237 5)) (hag : lx_ag S Z) (h8 : Z 237 8 = t) (h7 : Z 237 7 = p) : wJ (pe_GA xs) wY0 M (d + 1) t_M_signs ((pe_at t_M_signs.bl 13).getD (0, [])).2 [(0, (2, 237)), (1, (0, c))] [] Z (fun o S2 => o = .inl none ∧ lx_ag S S2 ∧ S2 237 7 = p ∧ ∃ tk sg ln : Int, lx_sg c d0 (lx_at (S 239) (S 237 4) (t + 2)) (S 237 5) tk sg ln ∧ S2 237 6 = tk ∧ S2 237 9 = sg ∧ S2 237 8 = t + ln) := by
  refine wa_iload_n (n := 1) rfl ?_
  refine wa_bipush (w_rg2 (by omega) (by omega)) ?_
  refine wa_icmpeq (w_rg0 (by omega) (by omega)) (w_rg0 (by omega) (by omega)) ⟨_, rfl⟩ (fun c1 => ?_) (fun c1 => ?_)
  · skip
    refine wa_iconst ?_
    refine wa_goto ⟨_, rfl⟩ ?_
    refine wa_istore (n := 4) rfl ?_
    refine wa_aload_n (n := 0) rfl ?_
    refine wa_iload_n (n := 1) rfl ?_
    refine wb_pfi 237 rfl (wy_pr rfl) wt_237 wf_15_9 (n := 9) rfl ⟨(by omega), (by omega)⟩ ?_
    refine wa_aload_n (n := 0) rfl ?_
    refine wa_iload (n := 4) rfl ?_
    refine wa_ifeq (w_rg0 (by omega) (by omega)) ⟨_, rfl⟩ (fun c2 => ?_) (fun c2 => ?_)
    · skip
      exact absurd c2 (by omega)
    · skip
      refine wa_iconst ?_
      refine wa_goto ⟨_, rfl⟩ ?_
      refine wb_pfi 237 rfl (wy_pr rfl) wt_237 wf_15_6 (n := 6) rfl ⟨(by omega), (by omega)⟩ ?_
      refine wa_aload_n (n := 0) rfl ?_
      refine wa_dup (by decide) ?_
      refine wb_gfi 237 rfl (wy_pr rfl) wt_237 wf_15_8 (v := t) ((w_up_at (by decide)).trans ((w_up_at (by decide)).trans (h8))) (fun r3 => ?_)
      refine wa_iconst ?_
      refine wa_iadd ?_
      refine wb_pfi 237 rfl (wy_pr rfl) wt_237 wf_15_8 (n := 8) rfl ⟨(by omega), (by omega)⟩ ?_
      refine wa_fall ⟨_, rfl⟩ ?_
      refine wa_return rfl ?_
      refine ⟨rfl, (lx_ag_up (lx_ag_up (lx_ag_up hag (by omega)) (by omega)) (by omega)), ((w_up_at (by decide)).trans ((w_up_at (by decide)).trans ((w_up_at (by decide)).trans (h7)))), 4, c, 1, ?_, ((w_up_at (by decide)).trans (w_up_same _ _ _ _)), ((w_up_at (by decide)).trans ((w_up_at (by decide)).trans (w_up_same _ _ _ _))), (w_up_same _ _ _ _)⟩
      exact Or.inr (Or.inr ⟨rfl, rfl, n1, n2, Or.inl ⟨rfl, by unfold lx_one; omega⟩⟩)
  · skip
    refine wa_iload_n (n := 1) rfl ?_
    refine wa_bipush (w_rg2 (by omega) (by omega)) ?_
    refine wa_icmpeq (w_rg0 (by omega) (by omega)) (w_rg0 (by omega) (by omega)) ⟨_, rfl⟩ (fun c4 => ?_) (fun c4 => ?_)
    · skip
      refine wa_iconst ?_
      refine wa_goto ⟨_, rfl⟩ ?_
      refine wa_istore (n := 4) rfl ?_
      refine wa_aload_n (n := 0) rfl ?_
      refine wa_iload_n (n := 1) rfl ?_
      refine wb_pfi 237 rfl (wy_pr rfl) wt_237 wf_15_9 (n := 9) rfl ⟨(by omega), (by omega)⟩ ?_
      refine wa_aload_n (n := 0) rfl ?_
      refine wa_iload (n := 4) rfl ?_
      refine wa_ifeq (w_rg0 (by omega) (by omega)) ⟨_, rfl⟩ (fun c5 => ?_) (fun c5 => ?_)
      · skip
        exact absurd c5 (by omega)
      · skip
        refine wa_iconst ?_
        refine wa_goto ⟨_, rfl⟩ ?_
        refine wb_pfi 237 rfl (wy_pr rfl) wt_237 wf_15_6 (n := 6) rfl ⟨(by omega), (by omega)⟩ ?_
        refine wa_aload_n (n := 0) rfl ?_
        refine wa_dup (by decide) ?_
        refine wb_gfi 237 rfl (wy_pr rfl) wt_237 wf_15_8 (v := t) ((w_up_at (by decide)).trans ((w_up_at (by decide)).trans (h8))) (fun r6 => ?_)
        refine wa_iconst ?_
        refine wa_iadd ?_
        refine wb_pfi 237 rfl (wy_pr rfl) wt_237 wf_15_8 (n := 8) rfl ⟨(by omega), (by omega)⟩ ?_
        refine wa_fall ⟨_, rfl⟩ ?_
        refine wa_return rfl ?_
        refine ⟨rfl, (lx_ag_up (lx_ag_up (lx_ag_up hag (by omega)) (by omega)) (by omega)), ((w_up_at (by decide)).trans ((w_up_at (by decide)).trans ((w_up_at (by decide)).trans (h7)))), 4, c, 1, ?_, ((w_up_at (by decide)).trans (w_up_same _ _ _ _)), ((w_up_at (by decide)).trans ((w_up_at (by decide)).trans (w_up_same _ _ _ _))), (w_up_same _ _ _ _)⟩
        exact Or.inr (Or.inr ⟨rfl, rfl, n1, n2, Or.inl ⟨rfl, by unfold lx_one; omega⟩⟩)
    · skip
      refine wa_iload_n (n := 1) rfl ?_
      refine wa_bipush (w_rg2 (by omega) (by omega)) ?_
      refine wa_icmpeq (w_rg0 (by omega) (by omega)) (w_rg0 (by omega) (by omega)) ⟨_, rfl⟩ (fun c7 => ?_) (fun c7 => ?_)
      · skip
        refine wa_iconst ?_
        refine wa_goto ⟨_, rfl⟩ ?_
        refine wa_istore (n := 4) rfl ?_
        refine wa_aload_n (n := 0) rfl ?_
        refine wa_iload_n (n := 1) rfl ?_
        refine wb_pfi 237 rfl (wy_pr rfl) wt_237 wf_15_9 (n := 9) rfl ⟨(by omega), (by omega)⟩ ?_
        refine wa_aload_n (n := 0) rfl ?_
        refine wa_iload (n := 4) rfl ?_
        refine wa_ifeq (w_rg0 (by omega) (by omega)) ⟨_, rfl⟩ (fun c8 => ?_) (fun c8 => ?_)
        · skip
          exact absurd c8 (by omega)
        · skip
          refine wa_iconst ?_
          refine wa_goto ⟨_, rfl⟩ ?_
          refine wb_pfi 237 rfl (wy_pr rfl) wt_237 wf_15_6 (n := 6) rfl ⟨(by omega), (by omega)⟩ ?_
          refine wa_aload_n (n := 0) rfl ?_
          refine wa_dup (by decide) ?_
          refine wb_gfi 237 rfl (wy_pr rfl) wt_237 wf_15_8 (v := t) ((w_up_at (by decide)).trans ((w_up_at (by decide)).trans (h8))) (fun r9 => ?_)
          refine wa_iconst ?_
          refine wa_iadd ?_
          refine wb_pfi 237 rfl (wy_pr rfl) wt_237 wf_15_8 (n := 8) rfl ⟨(by omega), (by omega)⟩ ?_
          refine wa_fall ⟨_, rfl⟩ ?_
          refine wa_return rfl ?_
          refine ⟨rfl, (lx_ag_up (lx_ag_up (lx_ag_up hag (by omega)) (by omega)) (by omega)), ((w_up_at (by decide)).trans ((w_up_at (by decide)).trans ((w_up_at (by decide)).trans (h7)))), 4, c, 1, ?_, ((w_up_at (by decide)).trans (w_up_same _ _ _ _)), ((w_up_at (by decide)).trans ((w_up_at (by decide)).trans (w_up_same _ _ _ _))), (w_up_same _ _ _ _)⟩
          exact Or.inr (Or.inr ⟨rfl, rfl, n1, n2, Or.inl ⟨rfl, by unfold lx_one; omega⟩⟩)
      · skip
        refine wa_iload_n (n := 1) rfl ?_
        refine wa_bipush (w_rg2 (by omega) (by omega)) ?_
        refine wa_icmpeq (w_rg0 (by omega) (by omega)) (w_rg0 (by omega) (by omega)) ⟨_, rfl⟩ (fun c10 => ?_) (fun c10 => ?_)
        · skip
          refine wa_iconst ?_
          refine wa_goto ⟨_, rfl⟩ ?_
          refine wa_istore (n := 4) rfl ?_
          refine wa_aload_n (n := 0) rfl ?_
          refine wa_iload_n (n := 1) rfl ?_
          refine wb_pfi 237 rfl (wy_pr rfl) wt_237 wf_15_9 (n := 9) rfl ⟨(by omega), (by omega)⟩ ?_
          refine wa_aload_n (n := 0) rfl ?_
          refine wa_iload (n := 4) rfl ?_
          refine wa_ifeq (w_rg0 (by omega) (by omega)) ⟨_, rfl⟩ (fun c11 => ?_) (fun c11 => ?_)
          · skip
            exact absurd c11 (by omega)
          · skip
            refine wa_iconst ?_
            refine wa_goto ⟨_, rfl⟩ ?_
            refine wb_pfi 237 rfl (wy_pr rfl) wt_237 wf_15_6 (n := 6) rfl ⟨(by omega), (by omega)⟩ ?_
            refine wa_aload_n (n := 0) rfl ?_
            refine wa_dup (by decide) ?_
            refine wb_gfi 237 rfl (wy_pr rfl) wt_237 wf_15_8 (v := t) ((w_up_at (by decide)).trans ((w_up_at (by decide)).trans (h8))) (fun r12 => ?_)
            refine wa_iconst ?_
            refine wa_iadd ?_
            refine wb_pfi 237 rfl (wy_pr rfl) wt_237 wf_15_8 (n := 8) rfl ⟨(by omega), (by omega)⟩ ?_
            refine wa_fall ⟨_, rfl⟩ ?_
            refine wa_return rfl ?_
            refine ⟨rfl, (lx_ag_up (lx_ag_up (lx_ag_up hag (by omega)) (by omega)) (by omega)), ((w_up_at (by decide)).trans ((w_up_at (by decide)).trans ((w_up_at (by decide)).trans (h7)))), 4, c, 1, ?_, ((w_up_at (by decide)).trans (w_up_same _ _ _ _)), ((w_up_at (by decide)).trans ((w_up_at (by decide)).trans (w_up_same _ _ _ _))), (w_up_same _ _ _ _)⟩
            exact Or.inr (Or.inr ⟨rfl, rfl, n1, n2, Or.inl ⟨rfl, by unfold lx_one; omega⟩⟩)
        · skip
          refine wa_iload_n (n := 1) rfl ?_
          refine wa_bipush (w_rg2 (by omega) (by omega)) ?_
          refine wa_icmpeq (w_rg0 (by omega) (by omega)) (w_rg0 (by omega) (by omega)) ⟨_, rfl⟩ (fun c13 => ?_) (fun c13 => ?_)
          · skip
            refine wa_iconst ?_
            refine wa_goto ⟨_, rfl⟩ ?_
            refine wa_istore (n := 4) rfl ?_
            refine wa_aload_n (n := 0) rfl ?_
            refine wa_iload_n (n := 1) rfl ?_
            refine wb_pfi 237 rfl (wy_pr rfl) wt_237 wf_15_9 (n := 9) rfl ⟨(by omega), (by omega)⟩ ?_
            refine wa_aload_n (n := 0) rfl ?_
            refine wa_iload (n := 4) rfl ?_
            refine wa_ifeq (w_rg0 (by omega) (by omega)) ⟨_, rfl⟩ (fun c14 => ?_) (fun c14 => ?_)
            · skip
              exact absurd c14 (by omega)
            · skip
              refine wa_iconst ?_
              refine wa_goto ⟨_, rfl⟩ ?_
              refine wb_pfi 237 rfl (wy_pr rfl) wt_237 wf_15_6 (n := 6) rfl ⟨(by omega), (by omega)⟩ ?_
              refine wa_aload_n (n := 0) rfl ?_
              refine wa_dup (by decide) ?_
              refine wb_gfi 237 rfl (wy_pr rfl) wt_237 wf_15_8 (v := t) ((w_up_at (by decide)).trans ((w_up_at (by decide)).trans (h8))) (fun r15 => ?_)
              refine wa_iconst ?_
              refine wa_iadd ?_
              refine wb_pfi 237 rfl (wy_pr rfl) wt_237 wf_15_8 (n := 8) rfl ⟨(by omega), (by omega)⟩ ?_
              refine wa_fall ⟨_, rfl⟩ ?_
              refine wa_return rfl ?_
              refine ⟨rfl, (lx_ag_up (lx_ag_up (lx_ag_up hag (by omega)) (by omega)) (by omega)), ((w_up_at (by decide)).trans ((w_up_at (by decide)).trans ((w_up_at (by decide)).trans (h7)))), 4, c, 1, ?_, ((w_up_at (by decide)).trans (w_up_same _ _ _ _)), ((w_up_at (by decide)).trans ((w_up_at (by decide)).trans (w_up_same _ _ _ _))), (w_up_same _ _ _ _)⟩
              exact Or.inr (Or.inr ⟨rfl, rfl, n1, n2, Or.inl ⟨rfl, by unfold lx_one; omega⟩⟩)
          · skip
            refine wa_iload_n (n := 1) rfl ?_
            refine wa_bipush (w_rg2 (by omega) (by omega)) ?_
            refine wa_icmpeq (w_rg0 (by omega) (by omega)) (w_rg0 (by omega) (by omega)) ⟨_, rfl⟩ (fun c16 => ?_) (fun c16 => ?_)
            · skip
              refine wa_iconst ?_
              refine wa_goto ⟨_, rfl⟩ ?_
              refine wa_istore (n := 4) rfl ?_
              refine wa_aload_n (n := 0) rfl ?_
              refine wa_iload_n (n := 1) rfl ?_
              refine wb_pfi 237 rfl (wy_pr rfl) wt_237 wf_15_9 (n := 9) rfl ⟨(by omega), (by omega)⟩ ?_
              refine wa_aload_n (n := 0) rfl ?_
              refine wa_iload (n := 4) rfl ?_
              refine wa_ifeq (w_rg0 (by omega) (by omega)) ⟨_, rfl⟩ (fun c17 => ?_) (fun c17 => ?_)
              · skip
                exact absurd c17 (by omega)
              · skip
                refine wa_iconst ?_
                refine wa_goto ⟨_, rfl⟩ ?_
                refine wb_pfi 237 rfl (wy_pr rfl) wt_237 wf_15_6 (n := 6) rfl ⟨(by omega), (by omega)⟩ ?_
                refine wa_aload_n (n := 0) rfl ?_
                refine wa_dup (by decide) ?_
                refine wb_gfi 237 rfl (wy_pr rfl) wt_237 wf_15_8 (v := t) ((w_up_at (by decide)).trans ((w_up_at (by decide)).trans (h8))) (fun r18 => ?_)
                refine wa_iconst ?_
                refine wa_iadd ?_
                refine wb_pfi 237 rfl (wy_pr rfl) wt_237 wf_15_8 (n := 8) rfl ⟨(by omega), (by omega)⟩ ?_
                refine wa_fall ⟨_, rfl⟩ ?_
                refine wa_return rfl ?_
                refine ⟨rfl, (lx_ag_up (lx_ag_up (lx_ag_up hag (by omega)) (by omega)) (by omega)), ((w_up_at (by decide)).trans ((w_up_at (by decide)).trans ((w_up_at (by decide)).trans (h7)))), 4, c, 1, ?_, ((w_up_at (by decide)).trans (w_up_same _ _ _ _)), ((w_up_at (by decide)).trans ((w_up_at (by decide)).trans (w_up_same _ _ _ _))), (w_up_same _ _ _ _)⟩
                exact Or.inr (Or.inr ⟨rfl, rfl, n1, n2, Or.inl ⟨rfl, by unfold lx_one; omega⟩⟩)
            · skip
              refine wa_iload_n (n := 1) rfl ?_
              refine wa_bipush (w_rg2 (by omega) (by omega)) ?_
              refine wa_icmpeq (w_rg0 (by omega) (by omega)) (w_rg0 (by omega) (by omega)) ⟨_, rfl⟩ (fun c19 => ?_) (fun c19 => ?_)
              · skip
                refine wa_iconst ?_
                refine wa_goto ⟨_, rfl⟩ ?_
                refine wa_istore (n := 4) rfl ?_
                refine wa_aload_n (n := 0) rfl ?_
                refine wa_iload_n (n := 1) rfl ?_
                refine wb_pfi 237 rfl (wy_pr rfl) wt_237 wf_15_9 (n := 9) rfl ⟨(by omega), (by omega)⟩ ?_
                refine wa_aload_n (n := 0) rfl ?_
                refine wa_iload (n := 4) rfl ?_
                refine wa_ifeq (w_rg0 (by omega) (by omega)) ⟨_, rfl⟩ (fun c20 => ?_) (fun c20 => ?_)
                · skip
                  exact absurd c20 (by omega)
                · skip
                  refine wa_iconst ?_
                  refine wa_goto ⟨_, rfl⟩ ?_
                  refine wb_pfi 237 rfl (wy_pr rfl) wt_237 wf_15_6 (n := 6) rfl ⟨(by omega), (by omega)⟩ ?_
                  refine wa_aload_n (n := 0) rfl ?_
                  refine wa_dup (by decide) ?_
                  refine wb_gfi 237 rfl (wy_pr rfl) wt_237 wf_15_8 (v := t) ((w_up_at (by decide)).trans ((w_up_at (by decide)).trans (h8))) (fun r21 => ?_)
                  refine wa_iconst ?_
                  refine wa_iadd ?_
                  refine wb_pfi 237 rfl (wy_pr rfl) wt_237 wf_15_8 (n := 8) rfl ⟨(by omega), (by omega)⟩ ?_
                  refine wa_fall ⟨_, rfl⟩ ?_
                  refine wa_return rfl ?_
                  refine ⟨rfl, (lx_ag_up (lx_ag_up (lx_ag_up hag (by omega)) (by omega)) (by omega)), ((w_up_at (by decide)).trans ((w_up_at (by decide)).trans ((w_up_at (by decide)).trans (h7)))), 4, c, 1, ?_, ((w_up_at (by decide)).trans (w_up_same _ _ _ _)), ((w_up_at (by decide)).trans ((w_up_at (by decide)).trans (w_up_same _ _ _ _))), (w_up_same _ _ _ _)⟩
                  exact Or.inr (Or.inr ⟨rfl, rfl, n1, n2, Or.inl ⟨rfl, by unfold lx_one; omega⟩⟩)
              · skip
                refine wa_iload_n (n := 1) rfl ?_
                refine wa_bipush (w_rg2 (by omega) (by omega)) ?_
                refine wa_icmpeq (w_rg0 (by omega) (by omega)) (w_rg0 (by omega) (by omega)) ⟨_, rfl⟩ (fun c22 => ?_) (fun c22 => ?_)
                · skip
                  refine wa_iconst ?_
                  refine wa_goto ⟨_, rfl⟩ ?_
                  refine wa_istore (n := 4) rfl ?_
                  refine wa_aload_n (n := 0) rfl ?_
                  refine wa_iload_n (n := 1) rfl ?_
                  refine wb_pfi 237 rfl (wy_pr rfl) wt_237 wf_15_9 (n := 9) rfl ⟨(by omega), (by omega)⟩ ?_
                  refine wa_aload_n (n := 0) rfl ?_
                  refine wa_iload (n := 4) rfl ?_
                  refine wa_ifeq (w_rg0 (by omega) (by omega)) ⟨_, rfl⟩ (fun c23 => ?_) (fun c23 => ?_)
                  · skip
                    exact absurd c23 (by omega)
                  · skip
                    refine wa_iconst ?_
                    refine wa_goto ⟨_, rfl⟩ ?_
                    refine wb_pfi 237 rfl (wy_pr rfl) wt_237 wf_15_6 (n := 6) rfl ⟨(by omega), (by omega)⟩ ?_
                    refine wa_aload_n (n := 0) rfl ?_
                    refine wa_dup (by decide) ?_
                    refine wb_gfi 237 rfl (wy_pr rfl) wt_237 wf_15_8 (v := t) ((w_up_at (by decide)).trans ((w_up_at (by decide)).trans (h8))) (fun r24 => ?_)
                    refine wa_iconst ?_
                    refine wa_iadd ?_
                    refine wb_pfi 237 rfl (wy_pr rfl) wt_237 wf_15_8 (n := 8) rfl ⟨(by omega), (by omega)⟩ ?_
                    refine wa_fall ⟨_, rfl⟩ ?_
                    refine wa_return rfl ?_
                    refine ⟨rfl, (lx_ag_up (lx_ag_up (lx_ag_up hag (by omega)) (by omega)) (by omega)), ((w_up_at (by decide)).trans ((w_up_at (by decide)).trans ((w_up_at (by decide)).trans (h7)))), 4, c, 1, ?_, ((w_up_at (by decide)).trans (w_up_same _ _ _ _)), ((w_up_at (by decide)).trans ((w_up_at (by decide)).trans (w_up_same _ _ _ _))), (w_up_same _ _ _ _)⟩
                    exact Or.inr (Or.inr ⟨rfl, rfl, n1, n2, Or.inl ⟨rfl, by unfold lx_one; omega⟩⟩)
                · skip
                  refine wa_iload_n (n := 1) rfl ?_
                  refine wa_bipush (w_rg2 (by omega) (by omega)) ?_
                  refine wa_icmpeq (w_rg0 (by omega) (by omega)) (w_rg0 (by omega) (by omega)) ⟨_, rfl⟩ (fun c25 => ?_) (fun c25 => ?_)
                  · skip
                    refine wa_iconst ?_
                    refine wa_goto ⟨_, rfl⟩ ?_
                    refine wa_istore (n := 4) rfl ?_
                    refine wa_aload_n (n := 0) rfl ?_
                    refine wa_iload_n (n := 1) rfl ?_
                    refine wb_pfi 237 rfl (wy_pr rfl) wt_237 wf_15_9 (n := 9) rfl ⟨(by omega), (by omega)⟩ ?_
                    refine wa_aload_n (n := 0) rfl ?_
                    refine wa_iload (n := 4) rfl ?_
                    refine wa_ifeq (w_rg0 (by omega) (by omega)) ⟨_, rfl⟩ (fun c26 => ?_) (fun c26 => ?_)
                    · skip
                      exact absurd c26 (by omega)
                    · skip
                      refine wa_iconst ?_
                      refine wa_goto ⟨_, rfl⟩ ?_
                      refine wb_pfi 237 rfl (wy_pr rfl) wt_237 wf_15_6 (n := 6) rfl ⟨(by omega), (by omega)⟩ ?_
                      refine wa_aload_n (n := 0) rfl ?_
                      refine wa_dup (by decide) ?_
                      refine wb_gfi 237 rfl (wy_pr rfl) wt_237 wf_15_8 (v := t) ((w_up_at (by decide)).trans ((w_up_at (by decide)).trans (h8))) (fun r27 => ?_)
                      refine wa_iconst ?_
                      refine wa_iadd ?_
                      refine wb_pfi 237 rfl (wy_pr rfl) wt_237 wf_15_8 (n := 8) rfl ⟨(by omega), (by omega)⟩ ?_
                      refine wa_fall ⟨_, rfl⟩ ?_
                      refine wa_return rfl ?_
                      refine ⟨rfl, (lx_ag_up (lx_ag_up (lx_ag_up hag (by omega)) (by omega)) (by omega)), ((w_up_at (by decide)).trans ((w_up_at (by decide)).trans ((w_up_at (by decide)).trans (h7)))), 4, c, 1, ?_, ((w_up_at (by decide)).trans (w_up_same _ _ _ _)), ((w_up_at (by decide)).trans ((w_up_at (by decide)).trans (w_up_same _ _ _ _))), (w_up_same _ _ _ _)⟩
                      exact Or.inr (Or.inr ⟨rfl, rfl, n1, n2, Or.inl ⟨rfl, by unfold lx_one; omega⟩⟩)
                  · skip
                    refine wa_iload_n (n := 1) rfl ?_
                    refine wa_bipush (w_rg2 (by omega) (by omega)) ?_
                    refine wa_icmpeq (w_rg0 (by omega) (by omega)) (w_rg0 (by omega) (by omega)) ⟨_, rfl⟩ (fun c28 => ?_) (fun c28 => ?_)
                    · skip
                      refine wa_iconst ?_
                      refine wa_goto ⟨_, rfl⟩ ?_
                      refine wa_istore (n := 4) rfl ?_
                      refine wa_aload_n (n := 0) rfl ?_
                      refine wa_iload_n (n := 1) rfl ?_
                      refine wb_pfi 237 rfl (wy_pr rfl) wt_237 wf_15_9 (n := 9) rfl ⟨(by omega), (by omega)⟩ ?_
                      refine wa_aload_n (n := 0) rfl ?_
                      refine wa_iload (n := 4) rfl ?_
                      refine wa_ifeq (w_rg0 (by omega) (by omega)) ⟨_, rfl⟩ (fun c29 => ?_) (fun c29 => ?_)
                      · skip
                        exact absurd c29 (by omega)
                      · skip
                        refine wa_iconst ?_
                        refine wa_goto ⟨_, rfl⟩ ?_
                        refine wb_pfi 237 rfl (wy_pr rfl) wt_237 wf_15_6 (n := 6) rfl ⟨(by omega), (by omega)⟩ ?_
                        refine wa_aload_n (n := 0) rfl ?_
                        refine wa_dup (by decide) ?_
                        refine wb_gfi 237 rfl (wy_pr rfl) wt_237 wf_15_8 (v := t) ((w_up_at (by decide)).trans ((w_up_at (by decide)).trans (h8))) (fun r30 => ?_)
                        refine wa_iconst ?_
                        refine wa_iadd ?_
                        refine wb_pfi 237 rfl (wy_pr rfl) wt_237 wf_15_8 (n := 8) rfl ⟨(by omega), (by omega)⟩ ?_
                        refine wa_fall ⟨_, rfl⟩ ?_
                        refine wa_return rfl ?_
                        refine ⟨rfl, (lx_ag_up (lx_ag_up (lx_ag_up hag (by omega)) (by omega)) (by omega)), ((w_up_at (by decide)).trans ((w_up_at (by decide)).trans ((w_up_at (by decide)).trans (h7)))), 4, c, 1, ?_, ((w_up_at (by decide)).trans (w_up_same _ _ _ _)), ((w_up_at (by decide)).trans ((w_up_at (by decide)).trans (w_up_same _ _ _ _))), (w_up_same _ _ _ _)⟩
                        exact Or.inr (Or.inr ⟨rfl, rfl, n1, n2, Or.inl ⟨rfl, by unfold lx_one; omega⟩⟩)
                    · skip
                      refine wa_iload_n (n := 1) rfl ?_
                      refine wa_bipush (w_rg2 (by omega) (by omega)) ?_
                      refine wa_icmpeq (w_rg0 (by omega) (by omega)) (w_rg0 (by omega) (by omega)) ⟨_, rfl⟩ (fun c31 => ?_) (fun c31 => ?_)
                      · skip
                        refine wa_iconst ?_
                        refine wa_goto ⟨_, rfl⟩ ?_
                        refine wa_istore (n := 4) rfl ?_
                        refine wa_aload_n (n := 0) rfl ?_
                        refine wa_iload_n (n := 1) rfl ?_
                        refine wb_pfi 237 rfl (wy_pr rfl) wt_237 wf_15_9 (n := 9) rfl ⟨(by omega), (by omega)⟩ ?_
                        refine wa_aload_n (n := 0) rfl ?_
                        refine wa_iload (n := 4) rfl ?_
                        refine wa_ifeq (w_rg0 (by omega) (by omega)) ⟨_, rfl⟩ (fun c32 => ?_) (fun c32 => ?_)
                        · skip
                          exact absurd c32 (by omega)
                        · skip
                          refine wa_iconst ?_
                          refine wa_goto ⟨_, rfl⟩ ?_
                          refine wb_pfi 237 rfl (wy_pr rfl) wt_237 wf_15_6 (n := 6) rfl ⟨(by omega), (by omega)⟩ ?_
                          refine wa_aload_n (n := 0) rfl ?_
                          refine wa_dup (by decide) ?_
                          refine wb_gfi 237 rfl (wy_pr rfl) wt_237 wf_15_8 (v := t) ((w_up_at (by decide)).trans ((w_up_at (by decide)).trans (h8))) (fun r33 => ?_)
                          refine wa_iconst ?_
                          refine wa_iadd ?_
                          refine wb_pfi 237 rfl (wy_pr rfl) wt_237 wf_15_8 (n := 8) rfl ⟨(by omega), (by omega)⟩ ?_
                          refine wa_fall ⟨_, rfl⟩ ?_
                          refine wa_return rfl ?_
                          refine ⟨rfl, (lx_ag_up (lx_ag_up (lx_ag_up hag (by omega)) (by omega)) (by omega)), ((w_up_at (by decide)).trans ((w_up_at (by decide)).trans ((w_up_at (by decide)).trans (h7)))), 4, c, 1, ?_, ((w_up_at (by decide)).trans (w_up_same _ _ _ _)), ((w_up_at (by decide)).trans ((w_up_at (by decide)).trans (w_up_same _ _ _ _))), (w_up_same _ _ _ _)⟩
                          exact Or.inr (Or.inr ⟨rfl, rfl, n1, n2, Or.inl ⟨rfl, by unfold lx_one; omega⟩⟩)
                      · skip
                        refine wa_iload_n (n := 1) rfl ?_
                        refine wa_bipush (w_rg2 (by omega) (by omega)) ?_
                        refine wa_icmpeq (w_rg0 (by omega) (by omega)) (w_rg0 (by omega) (by omega)) ⟨_, rfl⟩ (fun c34 => ?_) (fun c34 => ?_)
                        · skip
                          refine wa_iconst ?_
                          refine wa_goto ⟨_, rfl⟩ ?_
                          refine wa_istore (n := 4) rfl ?_
                          refine wa_aload_n (n := 0) rfl ?_
                          refine wa_iload_n (n := 1) rfl ?_
                          refine wb_pfi 237 rfl (wy_pr rfl) wt_237 wf_15_9 (n := 9) rfl ⟨(by omega), (by omega)⟩ ?_
                          refine wa_aload_n (n := 0) rfl ?_
                          refine wa_iload (n := 4) rfl ?_
                          refine wa_ifeq (w_rg0 (by omega) (by omega)) ⟨_, rfl⟩ (fun c35 => ?_) (fun c35 => ?_)
                          · skip
                            exact absurd c35 (by omega)
                          · skip
                            refine wa_iconst ?_
                            refine wa_goto ⟨_, rfl⟩ ?_
                            refine wb_pfi 237 rfl (wy_pr rfl) wt_237 wf_15_6 (n := 6) rfl ⟨(by omega), (by omega)⟩ ?_
                            refine wa_aload_n (n := 0) rfl ?_
                            refine wa_dup (by decide) ?_
                            refine wb_gfi 237 rfl (wy_pr rfl) wt_237 wf_15_8 (v := t) ((w_up_at (by decide)).trans ((w_up_at (by decide)).trans (h8))) (fun r36 => ?_)
                            refine wa_iconst ?_
                            refine wa_iadd ?_
                            refine wb_pfi 237 rfl (wy_pr rfl) wt_237 wf_15_8 (n := 8) rfl ⟨(by omega), (by omega)⟩ ?_
                            refine wa_fall ⟨_, rfl⟩ ?_
                            refine wa_return rfl ?_
                            refine ⟨rfl, (lx_ag_up (lx_ag_up (lx_ag_up hag (by omega)) (by omega)) (by omega)), ((w_up_at (by decide)).trans ((w_up_at (by decide)).trans ((w_up_at (by decide)).trans (h7)))), 4, c, 1, ?_, ((w_up_at (by decide)).trans (w_up_same _ _ _ _)), ((w_up_at (by decide)).trans ((w_up_at (by decide)).trans (w_up_same _ _ _ _))), (w_up_same _ _ _ _)⟩
                            exact Or.inr (Or.inr ⟨rfl, rfl, n1, n2, Or.inl ⟨rfl, by unfold lx_one; omega⟩⟩)
                        · skip
                          refine wa_iload_n (n := 1) rfl ?_
                          refine wa_bipush (w_rg2 (by omega) (by omega)) ?_
                          refine wa_icmpeq (w_rg0 (by omega) (by omega)) (w_rg0 (by omega) (by omega)) ⟨_, rfl⟩ (fun c37 => ?_) (fun c37 => ?_)
                          · skip
                            refine wa_iconst ?_
                            refine wa_goto ⟨_, rfl⟩ ?_
                            refine wa_istore (n := 4) rfl ?_
                            refine wa_aload_n (n := 0) rfl ?_
                            refine wa_iload_n (n := 1) rfl ?_
                            refine wb_pfi 237 rfl (wy_pr rfl) wt_237 wf_15_9 (n := 9) rfl ⟨(by omega), (by omega)⟩ ?_
                            refine wa_aload_n (n := 0) rfl ?_
                            refine wa_iload (n := 4) rfl ?_
                            refine wa_ifeq (w_rg0 (by omega) (by omega)) ⟨_, rfl⟩ (fun c38 => ?_) (fun c38 => ?_)
                            · skip
                              exact absurd c38 (by omega)
                            · skip
                              refine wa_iconst ?_
                              refine wa_goto ⟨_, rfl⟩ ?_
                              refine wb_pfi 237 rfl (wy_pr rfl) wt_237 wf_15_6 (n := 6) rfl ⟨(by omega), (by omega)⟩ ?_
                              refine wa_aload_n (n := 0) rfl ?_
                              refine wa_dup (by decide) ?_
                              refine wb_gfi 237 rfl (wy_pr rfl) wt_237 wf_15_8 (v := t) ((w_up_at (by decide)).trans ((w_up_at (by decide)).trans (h8))) (fun r39 => ?_)
                              refine wa_iconst ?_
                              refine wa_iadd ?_
                              refine wb_pfi 237 rfl (wy_pr rfl) wt_237 wf_15_8 (n := 8) rfl ⟨(by omega), (by omega)⟩ ?_
                              refine wa_fall ⟨_, rfl⟩ ?_
                              refine wa_return rfl ?_
                              refine ⟨rfl, (lx_ag_up (lx_ag_up (lx_ag_up hag (by omega)) (by omega)) (by omega)), ((w_up_at (by decide)).trans ((w_up_at (by decide)).trans ((w_up_at (by decide)).trans (h7)))), 4, c, 1, ?_, ((w_up_at (by decide)).trans (w_up_same _ _ _ _)), ((w_up_at (by decide)).trans ((w_up_at (by decide)).trans (w_up_same _ _ _ _))), (w_up_same _ _ _ _)⟩
                              exact Or.inr (Or.inr ⟨rfl, rfl, n1, n2, Or.inl ⟨rfl, by unfold lx_one; omega⟩⟩)
                          · skip
                            refine wa_iload_n (n := 1) rfl ?_
                            refine wa_fall ⟨_, rfl⟩ ?_
                            refine wa_bipush (w_rg2 (by omega) (by omega)) ?_
                            refine wa_icmpeq (w_rg0 (by omega) (by omega)) (w_rg0 (by omega) (by omega)) ⟨_, rfl⟩ (fun c40 => ?_) (fun c40 => ?_)
                            · skip
                              refine wa_iconst ?_
                              refine wa_goto ⟨_, rfl⟩ ?_
                              refine wa_istore (n := 4) rfl ?_
                              refine wa_aload_n (n := 0) rfl ?_
                              refine wa_iload_n (n := 1) rfl ?_
                              refine wb_pfi 237 rfl (wy_pr rfl) wt_237 wf_15_9 (n := 9) rfl ⟨(by omega), (by omega)⟩ ?_
                              refine wa_aload_n (n := 0) rfl ?_
                              refine wa_iload (n := 4) rfl ?_
                              refine wa_ifeq (w_rg0 (by omega) (by omega)) ⟨_, rfl⟩ (fun c41 => ?_) (fun c41 => ?_)
                              · skip
                                exact absurd c41 (by omega)
                              · skip
                                refine wa_iconst ?_
                                refine wa_goto ⟨_, rfl⟩ ?_
                                refine wb_pfi 237 rfl (wy_pr rfl) wt_237 wf_15_6 (n := 6) rfl ⟨(by omega), (by omega)⟩ ?_
                                refine wa_aload_n (n := 0) rfl ?_
                                refine wa_dup (by decide) ?_
                                refine wb_gfi 237 rfl (wy_pr rfl) wt_237 wf_15_8 (v := t) ((w_up_at (by decide)).trans ((w_up_at (by decide)).trans (h8))) (fun r42 => ?_)
                                refine wa_iconst ?_
                                refine wa_iadd ?_
                                refine wb_pfi 237 rfl (wy_pr rfl) wt_237 wf_15_8 (n := 8) rfl ⟨(by omega), (by omega)⟩ ?_
                                refine wa_fall ⟨_, rfl⟩ ?_
                                refine wa_return rfl ?_
                                refine ⟨rfl, (lx_ag_up (lx_ag_up (lx_ag_up hag (by omega)) (by omega)) (by omega)), ((w_up_at (by decide)).trans ((w_up_at (by decide)).trans ((w_up_at (by decide)).trans (h7)))), 4, c, 1, ?_, ((w_up_at (by decide)).trans (w_up_same _ _ _ _)), ((w_up_at (by decide)).trans ((w_up_at (by decide)).trans (w_up_same _ _ _ _))), (w_up_same _ _ _ _)⟩
                                exact Or.inr (Or.inr ⟨rfl, rfl, n1, n2, Or.inl ⟨rfl, by unfold lx_one; omega⟩⟩)
                            · skip
                              refine wa_iload_n (n := 1) rfl ?_
                              refine wa_bipush (w_rg2 (by omega) (by omega)) ?_
                              refine wa_icmpeq (w_rg0 (by omega) (by omega)) (w_rg0 (by omega) (by omega)) ⟨_, rfl⟩ (fun c43 => ?_) (fun c43 => ?_)
                              · skip
                                refine wa_iconst ?_
                                refine wa_goto ⟨_, rfl⟩ ?_
                                refine wa_istore (n := 4) rfl ?_
                                refine wa_aload_n (n := 0) rfl ?_
                                refine wa_iload_n (n := 1) rfl ?_
                                refine wb_pfi 237 rfl (wy_pr rfl) wt_237 wf_15_9 (n := 9) rfl ⟨(by omega), (by omega)⟩ ?_
                                refine wa_aload_n (n := 0) rfl ?_
                                refine wa_iload (n := 4) rfl ?_
                                refine wa_ifeq (w_rg0 (by omega) (by omega)) ⟨_, rfl⟩ (fun c44 => ?_) (fun c44 => ?_)
                                · skip
                                  exact absurd c44 (by omega)
                                · skip
                                  refine wa_iconst ?_
                                  refine wa_goto ⟨_, rfl⟩ ?_
                                  refine wb_pfi 237 rfl (wy_pr rfl) wt_237 wf_15_6 (n := 6) rfl ⟨(by omega), (by omega)⟩ ?_
                                  refine wa_aload_n (n := 0) rfl ?_
                                  refine wa_dup (by decide) ?_
                                  refine wb_gfi 237 rfl (wy_pr rfl) wt_237 wf_15_8 (v := t) ((w_up_at (by decide)).trans ((w_up_at (by decide)).trans (h8))) (fun r45 => ?_)
                                  refine wa_iconst ?_
                                  refine wa_iadd ?_
                                  refine wb_pfi 237 rfl (wy_pr rfl) wt_237 wf_15_8 (n := 8) rfl ⟨(by omega), (by omega)⟩ ?_
                                  refine wa_fall ⟨_, rfl⟩ ?_
                                  refine wa_return rfl ?_
                                  refine ⟨rfl, (lx_ag_up (lx_ag_up (lx_ag_up hag (by omega)) (by omega)) (by omega)), ((w_up_at (by decide)).trans ((w_up_at (by decide)).trans ((w_up_at (by decide)).trans (h7)))), 4, c, 1, ?_, ((w_up_at (by decide)).trans (w_up_same _ _ _ _)), ((w_up_at (by decide)).trans ((w_up_at (by decide)).trans (w_up_same _ _ _ _))), (w_up_same _ _ _ _)⟩
                                  exact Or.inr (Or.inr ⟨rfl, rfl, n1, n2, Or.inl ⟨rfl, by unfold lx_one; omega⟩⟩)
                              · skip
                                refine wa_iload_n (n := 1) rfl ?_
                                refine wa_bipush (w_rg2 (by omega) (by omega)) ?_
                                refine wa_icmpeq (w_rg0 (by omega) (by omega)) (w_rg0 (by omega) (by omega)) ⟨_, rfl⟩ (fun c46 => ?_) (fun c46 => ?_)
                                · skip
                                  refine wa_iconst ?_
                                  refine wa_goto ⟨_, rfl⟩ ?_
                                  refine wa_istore (n := 4) rfl ?_
                                  refine wa_aload_n (n := 0) rfl ?_
                                  refine wa_iload_n (n := 1) rfl ?_
                                  refine wb_pfi 237 rfl (wy_pr rfl) wt_237 wf_15_9 (n := 9) rfl ⟨(by omega), (by omega)⟩ ?_
                                  refine wa_aload_n (n := 0) rfl ?_
                                  refine wa_iload (n := 4) rfl ?_
                                  refine wa_ifeq (w_rg0 (by omega) (by omega)) ⟨_, rfl⟩ (fun c47 => ?_) (fun c47 => ?_)
                                  · skip
                                    exact absurd c47 (by omega)
                                  · skip
                                    refine wa_iconst ?_
                                    refine wa_goto ⟨_, rfl⟩ ?_
                                    refine wb_pfi 237 rfl (wy_pr rfl) wt_237 wf_15_6 (n := 6) rfl ⟨(by omega), (by omega)⟩ ?_
                                    refine wa_aload_n (n := 0) rfl ?_
                                    refine wa_dup (by decide) ?_
                                    refine wb_gfi 237 rfl (wy_pr rfl) wt_237 wf_15_8 (v := t) ((w_up_at (by decide)).trans ((w_up_at (by decide)).trans (h8))) (fun r48 => ?_)
                                    refine wa_iconst ?_
                                    refine wa_iadd ?_
                                    refine wb_pfi 237 rfl (wy_pr rfl) wt_237 wf_15_8 (n := 8) rfl ⟨(by omega), (by omega)⟩ ?_
                                    refine wa_fall ⟨_, rfl⟩ ?_
                                    refine wa_return rfl ?_
                                    refine ⟨rfl, (lx_ag_up (lx_ag_up (lx_ag_up hag (by omega)) (by omega)) (by omega)), ((w_up_at (by decide)).trans ((w_up_at (by decide)).trans ((w_up_at (by decide)).trans (h7)))), 4, c, 1, ?_, ((w_up_at (by decide)).trans (w_up_same _ _ _ _)), ((w_up_at (by decide)).trans ((w_up_at (by decide)).trans (w_up_same _ _ _ _))), (w_up_same _ _ _ _)⟩
                                    exact Or.inr (Or.inr ⟨rfl, rfl, n1, n2, Or.inl ⟨rfl, by unfold lx_one; omega⟩⟩)
                                · skip
                                  refine wa_iload_n (n := 1) rfl ?_
                                  refine wa_bipush (w_rg2 (by omega) (by omega)) ?_
                                  refine wa_icmpeq (w_rg0 (by omega) (by omega)) (w_rg0 (by omega) (by omega)) ⟨_, rfl⟩ (fun c49 => ?_) (fun c49 => ?_)
                                  · skip
                                    refine wa_iconst ?_
                                    refine wa_goto ⟨_, rfl⟩ ?_
                                    refine wa_istore (n := 4) rfl ?_
                                    refine wa_aload_n (n := 0) rfl ?_
                                    refine wa_iload_n (n := 1) rfl ?_
                                    refine wb_pfi 237 rfl (wy_pr rfl) wt_237 wf_15_9 (n := 9) rfl ⟨(by omega), (by omega)⟩ ?_
                                    refine wa_aload_n (n := 0) rfl ?_
                                    refine wa_iload (n := 4) rfl ?_
                                    refine wa_ifeq (w_rg0 (by omega) (by omega)) ⟨_, rfl⟩ (fun c50 => ?_) (fun c50 => ?_)
                                    · skip
                                      exact absurd c50 (by omega)
                                    · skip
                                      refine wa_iconst ?_
                                      refine wa_goto ⟨_, rfl⟩ ?_
                                      refine wb_pfi 237 rfl (wy_pr rfl) wt_237 wf_15_6 (n := 6) rfl ⟨(by omega), (by omega)⟩ ?_
                                      refine wa_aload_n (n := 0) rfl ?_
                                      refine wa_dup (by decide) ?_
                                      refine wb_gfi 237 rfl (wy_pr rfl) wt_237 wf_15_8 (v := t) ((w_up_at (by decide)).trans ((w_up_at (by decide)).trans (h8))) (fun r51 => ?_)
                                      refine wa_iconst ?_
                                      refine wa_iadd ?_
                                      refine wb_pfi 237 rfl (wy_pr rfl) wt_237 wf_15_8 (n := 8) rfl ⟨(by omega), (by omega)⟩ ?_
                                      refine wa_fall ⟨_, rfl⟩ ?_
                                      refine wa_return rfl ?_
                                      refine ⟨rfl, (lx_ag_up (lx_ag_up (lx_ag_up hag (by omega)) (by omega)) (by omega)), ((w_up_at (by decide)).trans ((w_up_at (by decide)).trans ((w_up_at (by decide)).trans (h7)))), 4, c, 1, ?_, ((w_up_at (by decide)).trans (w_up_same _ _ _ _)), ((w_up_at (by decide)).trans ((w_up_at (by decide)).trans (w_up_same _ _ _ _))), (w_up_same _ _ _ _)⟩
                                      exact Or.inr (Or.inr ⟨rfl, rfl, n1, n2, Or.inl ⟨rfl, by unfold lx_one; omega⟩⟩)
                                  · skip
                                    refine wa_iload_n (n := 1) rfl ?_
                                    refine wa_bipush (w_rg2 (by omega) (by omega)) ?_
                                    refine wa_icmpeq (w_rg0 (by omega) (by omega)) (w_rg0 (by omega) (by omega)) ⟨_, rfl⟩ (fun c52 => ?_) (fun c52 => ?_)
                                    · skip
                                      refine wa_iconst ?_
                                      refine wa_goto ⟨_, rfl⟩ ?_
                                      refine wa_istore (n := 4) rfl ?_
                                      refine wa_aload_n (n := 0) rfl ?_
                                      refine wa_iload_n (n := 1) rfl ?_
                                      refine wb_pfi 237 rfl (wy_pr rfl) wt_237 wf_15_9 (n := 9) rfl ⟨(by omega), (by omega)⟩ ?_
                                      refine wa_aload_n (n := 0) rfl ?_
                                      refine wa_iload (n := 4) rfl ?_
                                      refine wa_ifeq (w_rg0 (by omega) (by omega)) ⟨_, rfl⟩ (fun c53 => ?_) (fun c53 => ?_)
                                      · skip
                                        exact absurd c53 (by omega)
                                      · skip
                                        refine wa_iconst ?_
                                        refine wa_goto ⟨_, rfl⟩ ?_
                                        refine wb_pfi 237 rfl (wy_pr rfl) wt_237 wf_15_6 (n := 6) rfl ⟨(by omega), (by omega)⟩ ?_
                                        refine wa_aload_n (n := 0) rfl ?_
                                        refine wa_dup (by decide) ?_
                                        refine wb_gfi 237 rfl (wy_pr rfl) wt_237 wf_15_8 (v := t) ((w_up_at (by decide)).trans ((w_up_at (by decide)).trans (h8))) (fun r54 => ?_)
                                        refine wa_iconst ?_
                                        refine wa_iadd ?_
                                        refine wb_pfi 237 rfl (wy_pr rfl) wt_237 wf_15_8 (n := 8) rfl ⟨(by omega), (by omega)⟩ ?_
                                        refine wa_fall ⟨_, rfl⟩ ?_
                                        refine wa_return rfl ?_
                                        refine ⟨rfl, (lx_ag_up (lx_ag_up (lx_ag_up hag (by omega)) (by omega)) (by omega)), ((w_up_at (by decide)).trans ((w_up_at (by decide)).trans ((w_up_at (by decide)).trans (h7)))), 4, c, 1, ?_, ((w_up_at (by decide)).trans (w_up_same _ _ _ _)), ((w_up_at (by decide)).trans ((w_up_at (by decide)).trans (w_up_same _ _ _ _))), (w_up_same _ _ _ _)⟩
                                        exact Or.inr (Or.inr ⟨rfl, rfl, n1, n2, Or.inl ⟨rfl, by unfold lx_one; omega⟩⟩)
                                    · skip
                                      refine wa_iload_n (n := 1) rfl ?_
                                      refine wa_bipush (w_rg2 (by omega) (by omega)) ?_
                                      refine wa_icmpne (w_rg0 (by omega) (by omega)) (w_rg0 (by omega) (by omega)) ⟨_, rfl⟩ (fun c55 => ?_) (fun c55 => ?_)
                                      · skip
                                        refine wa_iconst ?_
                                        refine wa_fall ⟨_, rfl⟩ ?_
                                        refine wa_istore (n := 4) rfl ?_
                                        refine wa_aload_n (n := 0) rfl ?_
                                        refine wa_iload_n (n := 1) rfl ?_
                                        refine wb_pfi 237 rfl (wy_pr rfl) wt_237 wf_15_9 (n := 9) rfl ⟨(by omega), (by omega)⟩ ?_
                                        refine wa_aload_n (n := 0) rfl ?_
                                        refine wa_iload (n := 4) rfl ?_
                                        refine wa_ifeq (w_rg0 (by omega) (by omega)) ⟨_, rfl⟩ (fun c56 => ?_) (fun c56 => ?_)
                                        · skip
                                          refine wa_iconst ?_
                                          refine wa_fall ⟨_, rfl⟩ ?_
                                          refine wb_pfi 237 rfl (wy_pr rfl) wt_237 wf_15_6 (n := 6) rfl ⟨(by omega), (by omega)⟩ ?_
                                          refine wa_aload_n (n := 0) rfl ?_
                                          refine wa_dup (by decide) ?_
                                          refine wb_gfi 237 rfl (wy_pr rfl) wt_237 wf_15_8 (v := t) ((w_up_at (by decide)).trans ((w_up_at (by decide)).trans (h8))) (fun r57 => ?_)
                                          refine wa_iconst ?_
                                          refine wa_iadd ?_
                                          refine wb_pfi 237 rfl (wy_pr rfl) wt_237 wf_15_8 (n := 8) rfl ⟨(by omega), (by omega)⟩ ?_
                                          refine wa_fall ⟨_, rfl⟩ ?_
                                          refine wa_return rfl ?_
                                          refine ⟨rfl, (lx_ag_up (lx_ag_up (lx_ag_up hag (by omega)) (by omega)) (by omega)), ((w_up_at (by decide)).trans ((w_up_at (by decide)).trans ((w_up_at (by decide)).trans (h7)))), 5, c, 1, ?_, ((w_up_at (by decide)).trans (w_up_same _ _ _ _)), ((w_up_at (by decide)).trans ((w_up_at (by decide)).trans (w_up_same _ _ _ _))), (w_up_same _ _ _ _)⟩
                                          exact Or.inr (Or.inr ⟨rfl, rfl, n1, n2, Or.inr ⟨rfl, by unfold lx_one; omega⟩⟩)
                                        · skip
                                          exact absurd c56 (by omega)
                                      · skip
                                        refine wa_fall ⟨_, rfl⟩ ?_
                                        refine wa_iconst ?_
                                        refine wa_goto ⟨_, rfl⟩ ?_
                                        refine wa_istore (n := 4) rfl ?_
                                        refine wa_aload_n (n := 0) rfl ?_
                                        refine wa_iload_n (n := 1) rfl ?_
                                        refine wb_pfi 237 rfl (wy_pr rfl) wt_237 wf_15_9 (n := 9) rfl ⟨(by omega), (by omega)⟩ ?_
                                        refine wa_aload_n (n := 0) rfl ?_
                                        refine wa_iload (n := 4) rfl ?_
                                        refine wa_ifeq (w_rg0 (by omega) (by omega)) ⟨_, rfl⟩ (fun c58 => ?_) (fun c58 => ?_)
                                        · skip
                                          exact absurd c58 (by omega)
                                        · skip
                                          refine wa_iconst ?_
                                          refine wa_goto ⟨_, rfl⟩ ?_
                                          refine wb_pfi 237 rfl (wy_pr rfl) wt_237 wf_15_6 (n := 6) rfl ⟨(by omega), (by omega)⟩ ?_
                                          refine wa_aload_n (n := 0) rfl ?_
                                          refine wa_dup (by decide) ?_
                                          refine wb_gfi 237 rfl (wy_pr rfl) wt_237 wf_15_8 (v := t) ((w_up_at (by decide)).trans ((w_up_at (by decide)).trans (h8))) (fun r59 => ?_)
                                          refine wa_iconst ?_
                                          refine wa_iadd ?_
                                          refine wb_pfi 237 rfl (wy_pr rfl) wt_237 wf_15_8 (n := 8) rfl ⟨(by omega), (by omega)⟩ ?_
                                          refine wa_fall ⟨_, rfl⟩ ?_
                                          refine wa_return rfl ?_
                                          refine ⟨rfl, (lx_ag_up (lx_ag_up (lx_ag_up hag (by omega)) (by omega)) (by omega)), ((w_up_at (by decide)).trans ((w_up_at (by decide)).trans ((w_up_at (by decide)).trans (h7)))), 4, c, 1, ?_, ((w_up_at (by decide)).trans (w_up_same _ _ _ _)), ((w_up_at (by decide)).trans ((w_up_at (by decide)).trans (w_up_same _ _ _ _))), (w_up_same _ _ _ _)⟩
                                          exact Or.inr (Or.inr ⟨rfl, rfl, n1, n2, Or.inl ⟨rfl, by unfold lx_one; omega⟩⟩)
theorem sg_5a {c d0 t p : Int} (hM0 : w_ML S) (hn : 0 ≤ S 237 4 ∧ S 237 4 ≤ 65536) (hc : -128 ≤ c ∧ c ≤ 127) (hd : -128 ≤ d0 ∧ d0 ≤ 127) (ht : 0 ≤ t ∧ t ≤ S 237 4) {Z : wS} (h2 : sg_two c d0) (hag : lx_ag S Z) (h8 : Z 237 8 = t) (h7 : Z 237 7 = p) (h6 : Z 237 6 = 4) : wJ (pe_GA xs) wY0 M (d + 1) t_M_signs ((pe_at t_M_signs.bl 5).getD (0, [])).2 [(0, (2, 237)), (1, (0, c)), (2, (0, d0))] [(0, 1)] Z (fun o S2 => o = .inl none ∧ lx_ag S S2 ∧ S2 237 7 = p ∧ ∃ tk sg ln : Int, lx_sg c d0 (lx_at (S 239) (S 237 4) (t + 2)) (S 237 5) tk sg ln ∧ S2 237 6 = tk ∧ S2 237 9 = sg ∧ S2 237 8 = t + ln) := by
  refine wa_istore_n (n := 3) rfl ?_
  refine wa_iload_n (n := 3) rfl ?_
  refine wa_ifeq (w_rg0 (by omega) (by omega)) ⟨_, rfl⟩ (fun c1 => ?_) (fun c1 => ?_)
  · skip
    exact absurd c1 (by omega)
  · skip
    refine wa_aload_n (n := 0) rfl ?_
    refine wa_iload_n (n := 1) rfl ?_
    refine wa_bipush (w_rg2 (by omega) (by omega)) ?_
    refine wa_icmpne (w_rg0 (by omega) (by omega)) (w_rg0 (by omega) (by omega)) ⟨_, rfl⟩ (fun c2 => ?_) (fun c2 => ?_)
    · skip
      refine wa_iload_n (n := 1) rfl ?_
      refine wa_bipush (w_rg2 (by omega) (by omega)) ?_
      refine wa_icmpne (w_rg0 (by omega) (by omega)) (w_rg0 (by omega) (by omega)) ⟨_, rfl⟩ (fun c3 => ?_) (fun c3 => ?_)
      · skip
        refine wa_iload_n (n := 1) rfl ?_
        refine wa_bipush (w_rg2 (by omega) (by omega)) ?_
        refine wa_icmpne (w_rg0 (by omega) (by omega)) (w_rg0 (by omega) (by omega)) ⟨_, rfl⟩ (fun c4 => ?_) (fun c4 => ?_)
        · skip
          refine wa_iload_n (n := 1) rfl ?_
          refine wa_bipush (w_rg2 (by omega) (by omega)) ?_
          refine wa_icmpne (w_rg0 (by omega) (by omega)) (w_rg0 (by omega) (by omega)) ⟨_, rfl⟩ (fun c5 => ?_) (fun c5 => ?_)
          · skip
            refine wa_iload_n (n := 1) rfl ?_
            refine wa_bipush (w_rg2 (by omega) (by omega)) ?_
            refine wa_icmpne (w_rg0 (by omega) (by omega)) (w_rg0 (by omega) (by omega)) ⟨_, rfl⟩ (fun c6 => ?_) (fun c6 => ?_)
            · skip
              refine wa_sipush (by omega) ?_
              refine wa_fall ⟨_, rfl⟩ ?_
              refine wb_pfi 237 rfl (wy_pr rfl) wt_237 wf_15_9 (n := 9) rfl ⟨(by omega), (by omega)⟩ ?_
              refine wa_aload_n (n := 0) rfl ?_
              refine wa_dup (by decide) ?_
              refine wb_gfi 237 rfl (wy_pr rfl) wt_237 wf_15_8 (v := t) ((w_up_at (by decide)).trans (h8)) (fun r7 => ?_)
              refine wa_iconst ?_
              refine wa_iadd ?_
              refine wb_pfi 237 rfl (wy_pr rfl) wt_237 wf_15_8 (n := 8) rfl ⟨(by omega), (by omega)⟩ ?_
              refine wa_goto ⟨_, rfl⟩ ?_
              refine wa_return rfl ?_
              refine ⟨rfl, (lx_ag_up (lx_ag_up hag (by omega)) (by omega)), ((w_up_at (by decide)).trans ((w_up_at (by decide)).trans (h7))), 4, 261, 2, ?_, ((w_up_at (by decide)).trans ((w_up_at (by decide)).trans (h6))), ((w_up_at (by decide)).trans (w_up_same _ _ _ _)), (w_up_same _ _ _ _)⟩
              have hcd : c = 124 ∧ d0 = 124 := by
                rcases h2 with ⟨q1, q2 | q2 | q2 | q2⟩ | ⟨q1, q2⟩ | ⟨q1, q2⟩
                all_goals first | exact ⟨q1, q2⟩ | exact absurd q2 (by omega) | exact absurd q1 (by omega)
              exact Or.inl ⟨rfl, rfl, Or.inr (Or.inr (Or.inr (Or.inr (Or.inr (⟨hcd.1, hcd.2, rfl⟩)))))⟩
            · skip
              refine wa_sipush (by omega) ?_
              refine wa_goto ⟨_, rfl⟩ ?_
              refine wb_pfi 237 rfl (wy_pr rfl) wt_237 wf_15_9 (n := 9) rfl ⟨(by omega), (by omega)⟩ ?_
              refine wa_aload_n (n := 0) rfl ?_
              refine wa_dup (by decide) ?_
              refine wb_gfi 237 rfl (wy_pr rfl) wt_237 wf_15_8 (v := t) ((w_up_at (by decide)).trans (h8)) (fun r8 => ?_)
              refine wa_iconst ?_
              refine wa_iadd ?_
              refine wb_pfi 237 rfl (wy_pr rfl) wt_237 wf_15_8 (n := 8) rfl ⟨(by omega), (by omega)⟩ ?_
              refine wa_goto ⟨_, rfl⟩ ?_
              refine wa_return rfl ?_
              refine ⟨rfl, (lx_ag_up (lx_ag_up hag (by omega)) (by omega)), ((w_up_at (by decide)).trans ((w_up_at (by decide)).trans (h7))), 4, 260, 2, ?_, ((w_up_at (by decide)).trans ((w_up_at (by decide)).trans (h6))), ((w_up_at (by decide)).trans (w_up_same _ _ _ _)), (w_up_same _ _ _ _)⟩
              have hcd : c = 38 ∧ d0 = 38 := by
                rcases h2 with ⟨q1, q2 | q2 | q2 | q2⟩ | ⟨q1, q2⟩ | ⟨q1, q2⟩
                all_goals first | exact ⟨q1, q2⟩ | exact absurd q2 (by omega) | exact absurd q1 (by omega)
              exact Or.inl ⟨rfl, rfl, Or.inr (Or.inr (Or.inr (Or.inr (Or.inl ⟨hcd.1, hcd.2, rfl⟩))))⟩
          · skip
            refine wa_sipush (by omega) ?_
            refine wa_goto ⟨_, rfl⟩ ?_
            refine wb_pfi 237 rfl (wy_pr rfl) wt_237 wf_15_9 (n := 9) rfl ⟨(by omega), (by omega)⟩ ?_
            refine wa_aload_n (n := 0) rfl ?_
            refine wa_dup (by decide) ?_
            refine wb_gfi 237 rfl (wy_pr rfl) wt_237 wf_15_8 (v := t) ((w_up_at (by decide)).trans (h8)) (fun r9 => ?_)
            refine wa_iconst ?_
            refine wa_iadd ?_
            refine wb_pfi 237 rfl (wy_pr rfl) wt_237 wf_15_8 (n := 8) rfl ⟨(by omega), (by omega)⟩ ?_
            refine wa_goto ⟨_, rfl⟩ ?_
            refine wa_return rfl ?_
            refine ⟨rfl, (lx_ag_up (lx_ag_up hag (by omega)) (by omega)), ((w_up_at (by decide)).trans ((w_up_at (by decide)).trans (h7))), 4, 259, 2, ?_, ((w_up_at (by decide)).trans ((w_up_at (by decide)).trans (h6))), ((w_up_at (by decide)).trans (w_up_same _ _ _ _)), (w_up_same _ _ _ _)⟩
            have hcd : d0 = 61 ∧ c = 62 := by
              rcases h2 with ⟨q1, q2 | q2 | q2 | q2⟩ | ⟨q1, q2⟩ | ⟨q1, q2⟩
              all_goals first | exact ⟨q1, q2⟩ | exact absurd q2 (by omega) | exact absurd q1 (by omega)
            exact Or.inl ⟨rfl, rfl, Or.inr (Or.inr (Or.inr (Or.inl ⟨hcd.1, hcd.2, rfl⟩)))⟩
        · skip
          refine wa_sipush (by omega) ?_
          refine wa_goto ⟨_, rfl⟩ ?_
          refine wb_pfi 237 rfl (wy_pr rfl) wt_237 wf_15_9 (n := 9) rfl ⟨(by omega), (by omega)⟩ ?_
          refine wa_aload_n (n := 0) rfl ?_
          refine wa_dup (by decide) ?_
          refine wb_gfi 237 rfl (wy_pr rfl) wt_237 wf_15_8 (v := t) ((w_up_at (by decide)).trans (h8)) (fun r10 => ?_)
          refine wa_iconst ?_
          refine wa_iadd ?_
          refine wb_pfi 237 rfl (wy_pr rfl) wt_237 wf_15_8 (n := 8) rfl ⟨(by omega), (by omega)⟩ ?_
          refine wa_goto ⟨_, rfl⟩ ?_
          refine wa_return rfl ?_
          refine ⟨rfl, (lx_ag_up (lx_ag_up hag (by omega)) (by omega)), ((w_up_at (by decide)).trans ((w_up_at (by decide)).trans (h7))), 4, 258, 2, ?_, ((w_up_at (by decide)).trans ((w_up_at (by decide)).trans (h6))), ((w_up_at (by decide)).trans (w_up_same _ _ _ _)), (w_up_same _ _ _ _)⟩
          have hcd : d0 = 61 ∧ c = 60 := by
            rcases h2 with ⟨q1, q2 | q2 | q2 | q2⟩ | ⟨q1, q2⟩ | ⟨q1, q2⟩
            all_goals first | exact ⟨q1, q2⟩ | exact absurd q2 (by omega) | exact absurd q1 (by omega)
          exact Or.inl ⟨rfl, rfl, Or.inr (Or.inr (Or.inl ⟨hcd.1, hcd.2, rfl⟩))⟩
      · skip
        refine wa_sipush (by omega) ?_
        refine wa_goto ⟨_, rfl⟩ ?_
        refine wb_pfi 237 rfl (wy_pr rfl) wt_237 wf_15_9 (n := 9) rfl ⟨(by omega), (by omega)⟩ ?_
        refine wa_aload_n (n := 0) rfl ?_
        refine wa_dup (by decide) ?_
        refine wb_gfi 237 rfl (wy_pr rfl) wt_237 wf_15_8 (v := t) ((w_up_at (by decide)).trans (h8)) (fun r11 => ?_)
        refine wa_iconst ?_
        refine wa_iadd ?_
        refine wb_pfi 237 rfl (wy_pr rfl) wt_237 wf_15_8 (n := 8) rfl ⟨(by omega), (by omega)⟩ ?_
        refine wa_goto ⟨_, rfl⟩ ?_
        refine wa_return rfl ?_
        refine ⟨rfl, (lx_ag_up (lx_ag_up hag (by omega)) (by omega)), ((w_up_at (by decide)).trans ((w_up_at (by decide)).trans (h7))), 4, 257, 2, ?_, ((w_up_at (by decide)).trans ((w_up_at (by decide)).trans (h6))), ((w_up_at (by decide)).trans (w_up_same _ _ _ _)), (w_up_same _ _ _ _)⟩
        have hcd : d0 = 61 ∧ c = 33 := by
          rcases h2 with ⟨q1, q2 | q2 | q2 | q2⟩ | ⟨q1, q2⟩ | ⟨q1, q2⟩
          all_goals first | exact ⟨q1, q2⟩ | exact absurd q2 (by omega) | exact absurd q1 (by omega)
        exact Or.inl ⟨rfl, rfl, Or.inr (Or.inl ⟨hcd.1, hcd.2, rfl⟩)⟩
    · skip
      refine wa_sipush (by omega) ?_
      refine wa_goto ⟨_, rfl⟩ ?_
      refine wb_pfi 237 rfl (wy_pr rfl) wt_237 wf_15_9 (n := 9) rfl ⟨(by omega), (by omega)⟩ ?_
      refine wa_aload_n (n := 0) rfl ?_
      refine wa_dup (by decide) ?_
      refine wb_gfi 237 rfl (wy_pr rfl) wt_237 wf_15_8 (v := t) ((w_up_at (by decide)).trans (h8)) (fun r12 => ?_)
      refine wa_iconst ?_
      refine wa_iadd ?_
      refine wb_pfi 237 rfl (wy_pr rfl) wt_237 wf_15_8 (n := 8) rfl ⟨(by omega), (by omega)⟩ ?_
      refine wa_goto ⟨_, rfl⟩ ?_
      refine wa_return rfl ?_
      refine ⟨rfl, (lx_ag_up (lx_ag_up hag (by omega)) (by omega)), ((w_up_at (by decide)).trans ((w_up_at (by decide)).trans (h7))), 4, 256, 2, ?_, ((w_up_at (by decide)).trans ((w_up_at (by decide)).trans (h6))), ((w_up_at (by decide)).trans (w_up_same _ _ _ _)), (w_up_same _ _ _ _)⟩
      have hcd : d0 = 61 ∧ c = 61 := by
        rcases h2 with ⟨q1, q2 | q2 | q2 | q2⟩ | ⟨q1, q2⟩ | ⟨q1, q2⟩
        all_goals first | exact ⟨q1, q2⟩ | exact absurd q2 (by omega) | exact absurd q1 (by omega)
      exact Or.inl ⟨rfl, rfl, Or.inl ⟨hcd.1, hcd.2, rfl⟩⟩
theorem sg_5b {c d0 t p : Int} (hM0 : w_ML S) (hn : 0 ≤ S 237 4 ∧ S 237 4 ≤ 65536) (hc : -128 ≤ c ∧ c ≤ 127) (hd : -128 ≤ d0 ∧ d0 ≤ 127) (ht : 0 ≤ t ∧ t ≤ S 237 4) {Z : wS} (h2 : sg_n2 c d0) (hag : lx_ag S Z) (h8 : Z 237 8 = t) (h7 : Z 237 7 = p) (h6 : Z 237 6 = 4) : wJ (pe_GA xs) wY0 M (d + 1) t_M_signs ((pe_at t_M_signs.bl 5).getD (0, [])).2 [(0, (2, 237)), (1, (0, c)), (2, (0, d0))] [(0, 0)] Z (fun o S2 => o = .inl none ∧ lx_ag S S2 ∧ S2 237 7 = p ∧ ∃ tk sg ln : Int, lx_sg c d0 (lx_at (S 239) (S 237 4) (t + 2)) (S 237 5) tk sg ln ∧ S2 237 6 = tk ∧ S2 237 9 = sg ∧ S2 237 8 = t + ln) := by
  refine wa_istore_n (n := 3) rfl ?_
  refine wa_iload_n (n := 3) rfl ?_
  refine wa_ifeq (w_rg0 (by omega) (by omega)) ⟨_, rfl⟩ (fun c1 => ?_) (fun c1 => ?_)
  · skip
    refine wa_iload_n (n := 1) rfl ?_
    refine wa_bipush (w_rg2 (by omega) (by omega)) ?_
    refine wa_icmpne (w_rg0 (by omega) (by omega)) (w_rg0 (by omega) (by omega)) ⟨_, rfl⟩ (fun c2 => ?_) (fun c2 => ?_)
    · skip
      exact wJ_S (sg_13 hM0 hn hc hd ht h2 (by unfold sg_n3; omega) hag (h8) (h7)) ⟨rfl, rfl, trivial⟩
    · skip
      refine wa_iload_n (n := 2) rfl ?_
      refine wa_bipush (w_rg2 (by omega) (by omega)) ?_
      refine wa_icmpne (w_rg0 (by omega) (by omega)) (w_rg0 (by omega) (by omega)) ⟨_, rfl⟩ (fun c3 => ?_) (fun c3 => ?_)
      · skip
        exact wJ_S (sg_13 hM0 hn hc hd ht h2 (by unfold sg_n3; omega) hag (h8) (h7)) ⟨rfl, rfl, trivial⟩
      · skip
        refine wa_aload_n (n := 0) rfl ?_
        refine wa_aload_n (n := 0) rfl ?_
        refine wb_gfi 237 rfl (wy_pr rfl) wt_237 wf_15_8 (v := t) (h8) (fun r4 => ?_)
        refine wa_iconst ?_
        refine wa_iadd ?_
        refine wa_cv 237 rfl (wy_pr rfl) wt_237 (M2 := fun _ => False) rfl at_M_at ⟨_, rfl⟩ rfl rfl ⟨trivial, (Or.inr ⟨wy_pr rfl, fun q => q⟩), trivial, trivial, trivial⟩ trivial (fun _ _ q => False.elim q) (lx_at_ok hM0 hag ⟨by omega, by omega⟩ hn) (fun oq6 Sq6 hp7 q6 => ?_)
        rcases q6 with ⟨rfl, rfl, ga5⟩
        show wJ _ _ _ _ _ _ _ _ _ _
        refine wa_bipush (w_rg2 (by omega) (by omega)) ?_
        refine wa_icmpne (w_rg0 (by omega) (by omega)) (w_rg0 (by omega) (by omega)) ⟨_, rfl⟩ (fun c8 => ?_) (fun c8 => ?_)
        · skip
          exact wJ_S (sg_13 hM0 hn hc hd ht h2 (by unfold sg_n3; omega) hag (h8) (h7)) ⟨rfl, rfl, trivial⟩
        · skip
          refine wa_aload_n (n := 0) rfl ?_
          refine wb_gfz 237 rfl (wy_pr rfl) wt_237 wf_15_5 (v := (S 237 5)) ((hag 237 5 (by omega) (by omega))) (fun r9 => ?_)
          refine wa_ifeq (w_rg0 (by omega) (by omega)) ⟨_, rfl⟩ (fun c10 => ?_) (fun c10 => ?_)
          · skip
            exact wJ_S (sg_13 hM0 hn hc hd ht h2 (by unfold sg_n3; omega) hag (h8) (h7)) ⟨rfl, rfl, trivial⟩
          · skip
            refine wa_aload_n (n := 0) rfl ?_
            refine wa_sipush (by omega) ?_
            refine wb_pfi 237 rfl (wy_pr rfl) wt_237 wf_15_9 (n := 9) rfl ⟨(by omega), (by omega)⟩ ?_
            refine wa_aload_n (n := 0) rfl ?_
            refine wa_dup (by decide) ?_
            refine wb_gfi 237 rfl (wy_pr rfl) wt_237 wf_15_8 (v := t) ((w_up_at (by decide)).trans (h8)) (fun r11 => ?_)
            refine wa_iconst ?_
            refine wa_iadd ?_
            refine wb_pfi 237 rfl (wy_pr rfl) wt_237 wf_15_8 (n := 8) rfl ⟨(by omega), (by omega)⟩ ?_
            refine wa_goto ⟨_, rfl⟩ ?_
            refine wa_return rfl ?_
            refine ⟨rfl, (lx_ag_up (lx_ag_up hag (by omega)) (by omega)), ((w_up_at (by decide)).trans ((w_up_at (by decide)).trans (h7))), 4, 262, 3, ?_, ((w_up_at (by decide)).trans ((w_up_at (by decide)).trans (h6))), ((w_up_at (by decide)).trans (w_up_same _ _ _ _)), (w_up_same _ _ _ _)⟩
            exact Or.inr (Or.inl ⟨rfl, rfl, rfl, by omega, by omega, by omega, by omega⟩)
  · skip
    exact absurd c1 (by omega)
theorem sg_ok2 {c d0 t p : Int} (hM0 : w_ML S) (hn : 0 ≤ S 237 4 ∧ S 237 4 ≤ 65536) (hc : -128 ≤ c ∧ c ≤ 127) (hd : -128 ≤ d0 ∧ d0 ≤ 127) (ht : 0 ≤ t ∧ t ≤ S 237 4) {Z : wS} (hag : lx_ag S Z) (h8 : Z 237 8 = t) (h7 : Z 237 7 = p) : wJ (pe_GA xs) wY0 M (d + 1) t_M_signs ((pe_at t_M_signs.bl 0).getD (0, [])).2 [(0, (2, 237)), (1, (0, c)), (2, (0, d0))] [] Z (fun o S2 => o = .inl none ∧ lx_ag S S2 ∧ S2 237 7 = p ∧ ∃ tk sg ln : Int, lx_sg c d0 (lx_at (S 239) (S 237 4) (t + 2)) (S 237 5) tk sg ln ∧ S2 237 6 = tk ∧ S2 237 9 = sg ∧ S2 237 8 = t + ln) := by
  refine wa_aload_n (n := 0) rfl ?_
  refine wa_iconst ?_
  refine wb_pfi 237 rfl (wy_pr rfl) wt_237 wf_15_6 (n := 6) rfl ⟨(by omega), (by omega)⟩ ?_
  refine wa_iload_n (n := 2) rfl ?_
  refine wa_bipush (w_rg2 (by omega) (by omega)) ?_
  refine wa_icmpne (w_rg0 (by omega) (by omega)) (w_rg0 (by omega) (by omega)) ⟨_, rfl⟩ (fun c1 => ?_) (fun c1 => ?_)
  · skip
    refine wa_iload_n (n := 1) rfl ?_
    refine wa_bipush (w_rg2 (by omega) (by omega)) ?_
    refine wa_icmpne (w_rg0 (by omega) (by omega)) (w_rg0 (by omega) (by omega)) ⟨_, rfl⟩ (fun c2 => ?_) (fun c2 => ?_)
    · skip
      refine wa_iload_n (n := 1) rfl ?_
      refine wa_bipush (w_rg2 (by omega) (by omega)) ?_
      refine wa_icmpne (w_rg0 (by omega) (by omega)) (w_rg0 (by omega) (by omega)) ⟨_, rfl⟩ (fun c3 => ?_) (fun c3 => ?_)
      · skip
        refine wa_iconst ?_
        refine wa_fall ⟨_, rfl⟩ ?_
        exact wJ_S (sg_5b hM0 hn hc hd ht (by unfold sg_n2; omega) (lx_ag_up hag (by omega)) ((w_up_at (by decide)).trans h8) ((w_up_at (by decide)).trans h7) (w_up_same _ _ _ _)) ⟨rfl, rfl, rfl, trivial⟩
      · skip
        refine wa_iload_n (n := 2) rfl ?_
        refine wa_bipush (w_rg2 (by omega) (by omega)) ?_
        refine wa_icmpne (w_rg0 (by omega) (by omega)) (w_rg0 (by omega) (by omega)) ⟨_, rfl⟩ (fun c4 => ?_) (fun c4 => ?_)
        · skip
          refine wa_iconst ?_
          refine wa_fall ⟨_, rfl⟩ ?_
          exact wJ_S (sg_5b hM0 hn hc hd ht (by unfold sg_n2; omega) (lx_ag_up hag (by omega)) ((w_up_at (by decide)).trans h8) ((w_up_at (by decide)).trans h7) (w_up_same _ _ _ _)) ⟨rfl, rfl, rfl, trivial⟩
        · skip
          refine wa_fall ⟨_, rfl⟩ ?_
          refine wa_iconst ?_
          refine wa_goto ⟨_, rfl⟩ ?_
          exact wJ_S (sg_5a hM0 hn hc hd ht (by unfold sg_two; omega) (lx_ag_up hag (by omega)) ((w_up_at (by decide)).trans h8) ((w_up_at (by decide)).trans h7) (w_up_same _ _ _ _)) ⟨rfl, rfl, rfl, trivial⟩
    · skip
      refine wa_iload_n (n := 2) rfl ?_
      refine wa_bipush (w_rg2 (by omega) (by omega)) ?_
      refine wa_icmpeq (w_rg0 (by omega) (by omega)) (w_rg0 (by omega) (by omega)) ⟨_, rfl⟩ (fun c5 => ?_) (fun c5 => ?_)
      · skip
        refine wa_iconst ?_
        refine wa_goto ⟨_, rfl⟩ ?_
        exact wJ_S (sg_5a hM0 hn hc hd ht (by unfold sg_two; omega) (lx_ag_up hag (by omega)) ((w_up_at (by decide)).trans h8) ((w_up_at (by decide)).trans h7) (w_up_same _ _ _ _)) ⟨rfl, rfl, rfl, trivial⟩
      · skip
        refine wa_fall ⟨_, rfl⟩ ?_
        refine wa_iload_n (n := 1) rfl ?_
        refine wa_bipush (w_rg2 (by omega) (by omega)) ?_
        refine wa_icmpne (w_rg0 (by omega) (by omega)) (w_rg0 (by omega) (by omega)) ⟨_, rfl⟩ (fun c6 => ?_) (fun c6 => ?_)
        · skip
          refine wa_iconst ?_
          refine wa_fall ⟨_, rfl⟩ ?_
          exact wJ_S (sg_5b hM0 hn hc hd ht (by unfold sg_n2; omega) (lx_ag_up hag (by omega)) ((w_up_at (by decide)).trans h8) ((w_up_at (by decide)).trans h7) (w_up_same _ _ _ _)) ⟨rfl, rfl, rfl, trivial⟩
        · skip
          exact absurd c6 (by omega)
  · skip
    refine wa_iload_n (n := 1) rfl ?_
    refine wa_bipush (w_rg2 (by omega) (by omega)) ?_
    refine wa_icmpeq (w_rg0 (by omega) (by omega)) (w_rg0 (by omega) (by omega)) ⟨_, rfl⟩ (fun c7 => ?_) (fun c7 => ?_)
    · skip
      refine wa_iconst ?_
      refine wa_goto ⟨_, rfl⟩ ?_
      exact wJ_S (sg_5a hM0 hn hc hd ht (by unfold sg_two; omega) (lx_ag_up hag (by omega)) ((w_up_at (by decide)).trans h8) ((w_up_at (by decide)).trans h7) (w_up_same _ _ _ _)) ⟨rfl, rfl, rfl, trivial⟩
    · skip
      refine wa_iload_n (n := 1) rfl ?_
      refine wa_bipush (w_rg2 (by omega) (by omega)) ?_
      refine wa_icmpeq (w_rg0 (by omega) (by omega)) (w_rg0 (by omega) (by omega)) ⟨_, rfl⟩ (fun c8 => ?_) (fun c8 => ?_)
      · skip
        refine wa_iconst ?_
        refine wa_goto ⟨_, rfl⟩ ?_
        exact wJ_S (sg_5a hM0 hn hc hd ht (by unfold sg_two; omega) (lx_ag_up hag (by omega)) ((w_up_at (by decide)).trans h8) ((w_up_at (by decide)).trans h7) (w_up_same _ _ _ _)) ⟨rfl, rfl, rfl, trivial⟩
      · skip
        refine wa_iload_n (n := 1) rfl ?_
        refine wa_bipush (w_rg2 (by omega) (by omega)) ?_
        refine wa_icmpeq (w_rg0 (by omega) (by omega)) (w_rg0 (by omega) (by omega)) ⟨_, rfl⟩ (fun c9 => ?_) (fun c9 => ?_)
        · skip
          refine wa_iconst ?_
          refine wa_goto ⟨_, rfl⟩ ?_
          exact wJ_S (sg_5a hM0 hn hc hd ht (by unfold sg_two; omega) (lx_ag_up hag (by omega)) ((w_up_at (by decide)).trans h8) ((w_up_at (by decide)).trans h7) (w_up_same _ _ _ _)) ⟨rfl, rfl, rfl, trivial⟩
        · skip
          refine wa_iload_n (n := 1) rfl ?_
          refine wa_bipush (w_rg2 (by omega) (by omega)) ?_
          refine wa_icmpeq (w_rg0 (by omega) (by omega)) (w_rg0 (by omega) (by omega)) ⟨_, rfl⟩ (fun c10 => ?_) (fun c10 => ?_)
          · skip
            refine wa_iconst ?_
            refine wa_goto ⟨_, rfl⟩ ?_
            exact wJ_S (sg_5a hM0 hn hc hd ht (by unfold sg_two; omega) (lx_ag_up hag (by omega)) ((w_up_at (by decide)).trans h8) ((w_up_at (by decide)).trans h7) (w_up_same _ _ _ _)) ⟨rfl, rfl, rfl, trivial⟩
          · skip
            refine wa_fall ⟨_, rfl⟩ ?_
            refine wa_iload_n (n := 1) rfl ?_
            refine wa_bipush (w_rg2 (by omega) (by omega)) ?_
            refine wa_icmpne (w_rg0 (by omega) (by omega)) (w_rg0 (by omega) (by omega)) ⟨_, rfl⟩ (fun c11 => ?_) (fun c11 => ?_)
            · skip
              refine wa_iload_n (n := 1) rfl ?_
              refine wa_bipush (w_rg2 (by omega) (by omega)) ?_
              refine wa_icmpne (w_rg0 (by omega) (by omega)) (w_rg0 (by omega) (by omega)) ⟨_, rfl⟩ (fun c12 => ?_) (fun c12 => ?_)
              · skip
                refine wa_iconst ?_
                refine wa_fall ⟨_, rfl⟩ ?_
                exact wJ_S (sg_5b hM0 hn hc hd ht (by unfold sg_n2; omega) (lx_ag_up hag (by omega)) ((w_up_at (by decide)).trans h8) ((w_up_at (by decide)).trans h7) (w_up_same _ _ _ _)) ⟨rfl, rfl, rfl, trivial⟩
              · skip
                refine wa_iload_n (n := 2) rfl ?_
                refine wa_bipush (w_rg2 (by omega) (by omega)) ?_
                refine wa_icmpne (w_rg0 (by omega) (by omega)) (w_rg0 (by omega) (by omega)) ⟨_, rfl⟩ (fun c13 => ?_) (fun c13 => ?_)
                · skip
                  refine wa_iconst ?_
                  refine wa_fall ⟨_, rfl⟩ ?_
                  exact wJ_S (sg_5b hM0 hn hc hd ht (by unfold sg_n2; omega) (lx_ag_up hag (by omega)) ((w_up_at (by decide)).trans h8) ((w_up_at (by decide)).trans h7) (w_up_same _ _ _ _)) ⟨rfl, rfl, rfl, trivial⟩
                · skip
                  exact absurd c13 (by omega)
            · skip
              refine wa_iload_n (n := 2) rfl ?_
              refine wa_bipush (w_rg2 (by omega) (by omega)) ?_
              refine wa_icmpeq (w_rg0 (by omega) (by omega)) (w_rg0 (by omega) (by omega)) ⟨_, rfl⟩ (fun c14 => ?_) (fun c14 => ?_)
              · skip
                exact absurd c14 (by omega)
              · skip
                refine wa_fall ⟨_, rfl⟩ ?_
                refine wa_iload_n (n := 1) rfl ?_
                refine wa_bipush (w_rg2 (by omega) (by omega)) ?_
                refine wa_icmpne (w_rg0 (by omega) (by omega)) (w_rg0 (by omega) (by omega)) ⟨_, rfl⟩ (fun c15 => ?_) (fun c15 => ?_)
                · skip
                  refine wa_iconst ?_
                  refine wa_fall ⟨_, rfl⟩ ?_
                  exact wJ_S (sg_5b hM0 hn hc hd ht (by unfold sg_n2; omega) (lx_ag_up hag (by omega)) ((w_up_at (by decide)).trans h8) ((w_up_at (by decide)).trans h7) (w_up_same _ _ _ _)) ⟨rfl, rfl, rfl, trivial⟩
                · skip
                  exact absurd c15 (by omega)
end W68
