/-! PART nf: calls that may throw, as the law makes them: result; sign. -/
section Wnf0
variable {Sb : wS} {xs : List (Nat × List Int32)} {M : Nat → Prop} {d : Nat} {S Z : wS} {K0 K1 : aK} {v : aV} {k b wh t i : Int}
theorem msgq (hM : w_ML S) (k0 : rTk 0 S K0) (k1 : rTk 1 S K1) (h19 : S 237 19 ≤ 4000) (h102 : S 237 102 ≤ 12000) (hfr : ∀ x : Int, ((0 ≤ x ∧ x < S 237 19) ∨ (4000 ≤ x ∧ x < 4000 + S 237 102)) → 0 ≤ S 284 x ∧ 0 ≤ S 285 x ∧ S 284 x + S 285 x ≤ 269632) (ht : -2147483648 ≤ t ∧ t ≤ 2147483647) (hi : -2147483648 ≤ i ∧ i ≤ 2147483647) (hrk : ∀ t : Int, 0 ≤ t → t ≤ 1 → -2147483648 ≤ S 361 t ∧ S 361 t ≤ 2147483647) : wJ (pe_GA xs) wY0 M (d + 1) t_M_sign ((pe_at t_M_sign.bl 0).getD (0, [])).2 [(0, (2, 237)), (1, (0, t)), (2, (0, i))] [] S (fun o Z => w_up S 237 0 0 = Z ∧ o = .inl (some (0, if 0 ≤ t ∧ t < 2 then sgW (tkq K0 K1 t) i else -1))) := by
  rcases (show t = 0 ∨ t = 1 ∨ (t < 0 ∨ 1 < t) by omega) with e | e | e
  · subst e
    have hst : S 357 0 = K0.2.2.2.1 := k0.2.2.2.1
    have hrk1 := hrk 0 (by omega) (by omega)
    have hval := k0.2.2.2.2
    refine wa_aload_n (n := 0) rfl ?_
    refine wa_iconst ?_
    refine wb_pfi 237 rfl (wy_pr rfl) wt_237 wf_15_0 (n := 0) rfl ⟨(by omega), (by omega)⟩ ?_
    refine wa_iload_n (n := 1) rfl ?_
    refine wa_i2l (w_rg0 (by omega) (by omega)) ?_
    refine wa_lconst ?_
    refine wa_lconst ?_
    refine wa_cs (M2 := fun _ => False) rfl at_M_in ⟨_, rfl⟩ rfl rfl ⟨(Or.inr ⟨wy_pr rfl, fun q => q⟩), trivial, trivial, trivial⟩ trivial (fun _ _ q => False.elim q) (in_ok (S := (w_up S 237 0 0)) (a := 0) (lo := 0) (hi := 1) ⟨by omega, by omega⟩ ⟨by omega, by omega⟩ ⟨by omega, by omega⟩) (fun oq2 Sq2 hp3 q2 => ?_)
    rcases q2 with ⟨rfl, ⟨rfl, hin1⟩ | ⟨rfl, hin1⟩⟩
    · skip
      show wJ _ _ _ _ _ _ _ _ _ _
      refine wa_ifeq (w_rg0 (by omega) (by omega)) ⟨_, rfl⟩ (fun c4 => ?_) (fun c4 => ?_)
      · skip
        exact absurd c4 (by omega)
      · skip
        refine wa_aload_n (n := 0) rfl ?_
        refine wb_gf4 237 rfl (wy_pr rfl) wt_237 wf_15_132 (v := 357) wl_237_132 ?_
        refine wa_iload_n (n := 1) rfl ?_
        refine wb_iald 357 rfl (wy_pr rfl) wt_357 (n := 2) ((w_up_slot (by decide)).trans ((ml_357 hM))) (by omega) (by omega) (v := (S 357 0)) (w_up_slot (by decide)) (fun r5 => ?_)
        refine wa_iconst ?_
        refine wa_icmpeq (w_rg0 (by omega) (by omega)) (w_rg0 (by omega) (by omega)) ⟨_, rfl⟩ (fun c6 => ?_) (fun c6 => ?_)
        · skip
          refine wa_aload_n (n := 0) rfl ?_
          refine wb_gf4 237 rfl (wy_pr rfl) wt_237 wf_15_136 (v := 361) wl_237_136 ?_
          refine wa_iload_n (n := 1) rfl ?_
          refine wa_i2l (w_rg0 (by omega) (by omega)) ?_
          refine wa_lconst ?_
          refine wa_lconst ?_
          refine wa_cs (M2 := fun _ => False) rfl at_M_in ⟨_, rfl⟩ rfl rfl ⟨(Or.inr ⟨wy_pr rfl, fun q => q⟩), trivial, trivial, trivial⟩ ⟨(Or.inr ⟨wy_pr rfl, fun q => q⟩), trivial⟩ (fun _ _ q => False.elim q) (in_ok (S := (w_up S 237 0 0)) (a := 0) (lo := 0) (hi := 1) ⟨by omega, by omega⟩ ⟨by omega, by omega⟩ ⟨by omega, by omega⟩) (fun oq8 Sq8 hp9 q8 => ?_)
          rcases q8 with ⟨rfl, ⟨rfl, hin7⟩ | ⟨rfl, hin7⟩⟩
          · skip
            show wJ _ _ _ _ _ _ _ _ _ _
            refine wa_ifeq (w_rg0 (by omega) (by omega)) ⟨_, rfl⟩ (fun c10 => ?_) (fun c10 => ?_)
            · skip
              exact absurd c10 (by omega)
            · skip
              refine wa_iload_n (n := 1) rfl ?_
              refine wa_goto ⟨_, rfl⟩ ?_
              refine wb_iald 361 rfl (wy_pr rfl) wt_361 (n := 2) ((w_up_slot (by decide)).trans ((ml_361 hM))) (by omega) (by omega) (v := (S 361 0)) (w_up_slot (by decide)) (fun r11 => ?_)
              refine wa_iconst ?_
              refine wa_icmpne (w_rg0 (by omega) (by omega)) (w_rg0 (by omega) (by omega)) ⟨_, rfl⟩ (fun c12 => ?_) (fun c12 => ?_)
              · skip
                refine wa_iconst ?_
                refine wa_fall ⟨_, rfl⟩ ?_
                refine wa_istore_n (n := 3) rfl ?_
                refine wa_iload_n (n := 3) rfl ?_
                refine wa_ifeq (w_rg0 (by omega) (by omega)) ⟨_, rfl⟩ (fun c13 => ?_) (fun c13 => ?_)
                · skip
                  refine wa_iconst ?_
                  refine wa_fall ⟨_, rfl⟩ ?_
                  refine wa_istore (n := 4) rfl ?_
                  refine wa_iload_n (n := 3) rfl ?_
                  refine wa_ifeq (w_rg0 (by omega) (by omega)) ⟨_, rfl⟩ (fun c14 => ?_) (fun c14 => ?_)
                  · skip
                    refine wa_iconst ?_
                    refine wa_fall ⟨_, rfl⟩ ?_
                    refine wa_ireturn rfl ?_
                    refine ⟨rfl, congrArg (fun z => Sum.inl (some (0, z))) ?_⟩
                    rw [if_pos (by omega), show tkq K0 K1 0 = K0 from if_pos rfl]
                    unfold sgW
                    rw [if_neg (fun z => ?_)]
                    first | omega | (have w1 := (hval z.1).1; omega)
                  · skip
                    exact absurd c14 (by omega)
                · skip
                  exact absurd c13 (by omega)
              · skip
                refine wa_iconst ?_
                refine wa_goto ⟨_, rfl⟩ ?_
                refine wa_istore_n (n := 3) rfl ?_
                refine wa_iload_n (n := 3) rfl ?_
                refine wa_ifeq (w_rg0 (by omega) (by omega)) ⟨_, rfl⟩ (fun c15 => ?_) (fun c15 => ?_)
                · skip
                  exact absurd c15 (by omega)
                · skip
                  obtain ⟨v1, v2, v3⟩ := hval (by omega)
                  have v1n : K0.2.2.2.2.1 = 3 := by omega
                  obtain ⟨-, sb, sl, he⟩ := v3 v1n
                  have hbr : 0 ≤ S 362 0 ∧ S 362 0 < 16000 := by omega
                  have hfr1 := (⟨(hfr (S 362 0) sb).1, (hfr (S 362 0) sb).2.2⟩ : 0 ≤ S 284 (S 362 0) ∧ S 284 (S 362 0) + S 285 (S 362 0) ≤ 269632)
                  refine wa_aload_n (n := 0) rfl ?_
                  refine wb_gf4 237 rfl (wy_pr rfl) wt_237 wf_15_137 (v := 362) wl_237_137 ?_
                  refine wa_iload_n (n := 1) rfl ?_
                  refine wb_lald 362 rfl (wy_pr rfl) wt_362 (n := 2) ((w_up_slot (by decide)).trans ((ml_362 hM))) (by omega) (by omega) (v := (S 362 0)) (w_up_slot (by decide)) (fun r16 => ?_)
                  refine wb_l2i_r (y := (S 362 0)) (wb_l2i_id ⟨by omega, by omega⟩) ?_
                  refine wa_goto ⟨_, rfl⟩ ?_
                  refine wa_istore (n := 4) rfl ?_
                  refine wa_iload_n (n := 3) rfl ?_
                  refine wa_ifeq (w_rg0 (by omega) (by omega)) ⟨_, rfl⟩ (fun c17 => ?_) (fun c17 => ?_)
                  · skip
                    exact absurd c17 (by omega)
                  · skip
                    refine wa_iload_n (n := 2) rfl ?_
                    refine wa_i2l (w_rg0 (by omega) (by omega)) ?_
                    refine wa_lconst ?_
                    refine wa_aload_n (n := 0) rfl ?_
                    refine wb_gf4 237 rfl (wy_pr rfl) wt_237 wf_15_23 (v := 285) wl_237_23 ?_
                    refine wa_iload (n := 4) rfl ?_
                    refine wb_iald 285 rfl (wy_pr rfl) wt_285 (n := 16000) ((w_up_slot (by decide)).trans ((ml_285 hM))) (by omega) (by omega) (v := (S 285 (S 362 0))) (w_up_slot (by decide)) (fun r18 => ?_)
                    refine wa_iconst ?_
                    refine wa_isub ?_
                    refine wa_i2l (w_rg0 (by omega) (by omega)) ?_
                    refine wa_cs (M2 := fun _ => False) rfl at_M_in ⟨_, rfl⟩ rfl rfl ⟨trivial, trivial, (Or.inr ⟨wy_pr rfl, fun q => q⟩), trivial, trivial, trivial⟩ trivial (fun _ _ q => False.elim q) (in_ok (S := (w_up S 237 0 0)) (a := i) (lo := 0) (hi := ((S 285 (S 362 0)) - 1)) ⟨by omega, by omega⟩ ⟨by omega, by omega⟩ ⟨by omega, by omega⟩) (fun oq20 Sq20 hp21 q20 => ?_)
                    rcases q20 with ⟨rfl, ⟨rfl, hin19⟩ | ⟨rfl, hin19⟩⟩
                    · skip
                      show wJ _ _ _ _ _ _ _ _ _ _
                      refine wa_ifeq (w_rg0 (by omega) (by omega)) ⟨_, rfl⟩ (fun c22 => ?_) (fun c22 => ?_)
                      · skip
                        exact absurd c22 (by omega)
                      · skip
                        refine wa_aload_n (n := 0) rfl ?_
                        refine wb_gf4 237 rfl (wy_pr rfl) wt_237 wf_15_21 (v := 283) wl_237_21 ?_
                        refine wa_aload_n (n := 0) rfl ?_
                        refine wb_gf4 237 rfl (wy_pr rfl) wt_237 wf_15_22 (v := 284) wl_237_22 ?_
                        refine wa_iload (n := 4) rfl ?_
                        refine wb_iald 284 rfl (wy_pr rfl) wt_284 (n := 16000) ((w_up_slot (by decide)).trans ((ml_284 hM))) (by omega) (by omega) (v := (S 284 (S 362 0))) (w_up_slot (by decide)) (fun r23 => ?_)
                        refine wa_iload_n (n := 2) rfl ?_
                        refine wa_iadd ?_
                        refine wb_bald 283 rfl (wy_pr rfl) wt_283 (n := 269632) ((w_up_slot (by decide)).trans ((ml_283 hM))) (by omega) (by omega) (v := (S 283 ((S 284 (S 362 0)) + i))) (w_up_slot (by decide)) (fun r24 => ?_)
                        refine wa_goto ⟨_, rfl⟩ ?_
                        refine wa_ireturn rfl ?_
                        refine ⟨rfl, congrArg (fun z => Sum.inl (some (0, z))) ?_⟩
                        rw [if_pos (by omega), show tkq K0 K1 0 = K0 from if_pos rfl]
                        unfold sgW
                        rw [if_pos ⟨by omega, v1n, by omega, by omega⟩]
                        have e1 := he i.toNat (by omega)
                        rw [show ((i.toNat : Nat) : Int) = i by omega] at e1
                        exact e1
                    · skip
                      show wJ _ _ _ _ _ _ _ _ _ _
                      refine wa_ifeq (w_rg0 (by omega) (by omega)) ⟨_, rfl⟩ (fun c25 => ?_) (fun c25 => ?_)
                      · skip
                        refine wa_iconst ?_
                        refine wa_fall ⟨_, rfl⟩ ?_
                        refine wa_ireturn rfl ?_
                        refine ⟨rfl, congrArg (fun z => Sum.inl (some (0, z))) ?_⟩
                        rw [if_pos (by omega), show tkq K0 K1 0 = K0 from if_pos rfl]
                        unfold sgW
                        rw [if_neg (fun z => ?_)]
                        first | omega | (have w1 := (hval z.1).1; omega)
                      · skip
                        exact absurd c25 (by omega)
          · skip
            show wJ _ _ _ _ _ _ _ _ _ _
            refine wa_ifeq (w_rg0 (by omega) (by omega)) ⟨_, rfl⟩ (fun c26 => ?_) (fun c26 => ?_)
            · skip
              refine wa_iconst ?_
              refine wa_fall ⟨_, rfl⟩ ?_
              refine wb_iald 361 rfl (wy_pr rfl) wt_361 (n := 2) ((w_up_slot (by decide)).trans ((ml_361 hM))) (by omega) (by omega) (v := (S 361 0)) (w_up_slot (by decide)) (fun r27 => ?_)
              refine wa_iconst ?_
              refine wa_icmpne (w_rg0 (by omega) (by omega)) (w_rg0 (by omega) (by omega)) ⟨_, rfl⟩ (fun c28 => ?_) (fun c28 => ?_)
              · skip
                refine wa_iconst ?_
                refine wa_fall ⟨_, rfl⟩ ?_
                refine wa_istore_n (n := 3) rfl ?_
                refine wa_iload_n (n := 3) rfl ?_
                refine wa_ifeq (w_rg0 (by omega) (by omega)) ⟨_, rfl⟩ (fun c29 => ?_) (fun c29 => ?_)
                · skip
                  refine wa_iconst ?_
                  refine wa_fall ⟨_, rfl⟩ ?_
                  refine wa_istore (n := 4) rfl ?_
                  refine wa_iload_n (n := 3) rfl ?_
                  refine wa_ifeq (w_rg0 (by omega) (by omega)) ⟨_, rfl⟩ (fun c30 => ?_) (fun c30 => ?_)
                  · skip
                    refine wa_iconst ?_
                    refine wa_fall ⟨_, rfl⟩ ?_
                    refine wa_ireturn rfl ?_
                    refine ⟨rfl, congrArg (fun z => Sum.inl (some (0, z))) ?_⟩
                    rw [if_pos (by omega), show tkq K0 K1 0 = K0 from if_pos rfl]
                    unfold sgW
                    rw [if_neg (fun z => ?_)]
                    first | omega | (have w1 := (hval z.1).1; omega)
                  · skip
                    exact absurd c30 (by omega)
                · skip
                  exact absurd c29 (by omega)
              · skip
                refine wa_iconst ?_
                refine wa_goto ⟨_, rfl⟩ ?_
                refine wa_istore_n (n := 3) rfl ?_
                refine wa_iload_n (n := 3) rfl ?_
                refine wa_ifeq (w_rg0 (by omega) (by omega)) ⟨_, rfl⟩ (fun c31 => ?_) (fun c31 => ?_)
                · skip
                  exact absurd c31 (by omega)
                · skip
                  obtain ⟨v1, v2, v3⟩ := hval (by omega)
                  have v1n : K0.2.2.2.2.1 = 3 := by omega
                  obtain ⟨-, sb, sl, he⟩ := v3 v1n
                  have hbr : 0 ≤ S 362 0 ∧ S 362 0 < 16000 := by omega
                  have hfr1 := (⟨(hfr (S 362 0) sb).1, (hfr (S 362 0) sb).2.2⟩ : 0 ≤ S 284 (S 362 0) ∧ S 284 (S 362 0) + S 285 (S 362 0) ≤ 269632)
                  refine wa_aload_n (n := 0) rfl ?_
                  refine wb_gf4 237 rfl (wy_pr rfl) wt_237 wf_15_137 (v := 362) wl_237_137 ?_
                  refine wa_iload_n (n := 1) rfl ?_
                  refine wb_lald 362 rfl (wy_pr rfl) wt_362 (n := 2) ((w_up_slot (by decide)).trans ((ml_362 hM))) (by omega) (by omega) (v := (S 362 0)) (w_up_slot (by decide)) (fun r32 => ?_)
                  refine wb_l2i_r (y := (S 362 0)) (wb_l2i_id ⟨by omega, by omega⟩) ?_
                  refine wa_goto ⟨_, rfl⟩ ?_
                  refine wa_istore (n := 4) rfl ?_
                  refine wa_iload_n (n := 3) rfl ?_
                  refine wa_ifeq (w_rg0 (by omega) (by omega)) ⟨_, rfl⟩ (fun c33 => ?_) (fun c33 => ?_)
                  · skip
                    exact absurd c33 (by omega)
                  · skip
                    refine wa_iload_n (n := 2) rfl ?_
                    refine wa_i2l (w_rg0 (by omega) (by omega)) ?_
                    refine wa_lconst ?_
                    refine wa_aload_n (n := 0) rfl ?_
                    refine wb_gf4 237 rfl (wy_pr rfl) wt_237 wf_15_23 (v := 285) wl_237_23 ?_
                    refine wa_iload (n := 4) rfl ?_
                    refine wb_iald 285 rfl (wy_pr rfl) wt_285 (n := 16000) ((w_up_slot (by decide)).trans ((ml_285 hM))) (by omega) (by omega) (v := (S 285 (S 362 0))) (w_up_slot (by decide)) (fun r34 => ?_)
                    refine wa_iconst ?_
                    refine wa_isub ?_
                    refine wa_i2l (w_rg0 (by omega) (by omega)) ?_
                    refine wa_cs (M2 := fun _ => False) rfl at_M_in ⟨_, rfl⟩ rfl rfl ⟨trivial, trivial, (Or.inr ⟨wy_pr rfl, fun q => q⟩), trivial, trivial, trivial⟩ trivial (fun _ _ q => False.elim q) (in_ok (S := (w_up S 237 0 0)) (a := i) (lo := 0) (hi := ((S 285 (S 362 0)) - 1)) ⟨by omega, by omega⟩ ⟨by omega, by omega⟩ ⟨by omega, by omega⟩) (fun oq36 Sq36 hp37 q36 => ?_)
                    rcases q36 with ⟨rfl, ⟨rfl, hin35⟩ | ⟨rfl, hin35⟩⟩
                    · skip
                      show wJ _ _ _ _ _ _ _ _ _ _
                      refine wa_ifeq (w_rg0 (by omega) (by omega)) ⟨_, rfl⟩ (fun c38 => ?_) (fun c38 => ?_)
                      · skip
                        exact absurd c38 (by omega)
                      · skip
                        refine wa_aload_n (n := 0) rfl ?_
                        refine wb_gf4 237 rfl (wy_pr rfl) wt_237 wf_15_21 (v := 283) wl_237_21 ?_
                        refine wa_aload_n (n := 0) rfl ?_
                        refine wb_gf4 237 rfl (wy_pr rfl) wt_237 wf_15_22 (v := 284) wl_237_22 ?_
                        refine wa_iload (n := 4) rfl ?_
                        refine wb_iald 284 rfl (wy_pr rfl) wt_284 (n := 16000) ((w_up_slot (by decide)).trans ((ml_284 hM))) (by omega) (by omega) (v := (S 284 (S 362 0))) (w_up_slot (by decide)) (fun r39 => ?_)
                        refine wa_iload_n (n := 2) rfl ?_
                        refine wa_iadd ?_
                        refine wb_bald 283 rfl (wy_pr rfl) wt_283 (n := 269632) ((w_up_slot (by decide)).trans ((ml_283 hM))) (by omega) (by omega) (v := (S 283 ((S 284 (S 362 0)) + i))) (w_up_slot (by decide)) (fun r40 => ?_)
                        refine wa_goto ⟨_, rfl⟩ ?_
                        refine wa_ireturn rfl ?_
                        refine ⟨rfl, congrArg (fun z => Sum.inl (some (0, z))) ?_⟩
                        rw [if_pos (by omega), show tkq K0 K1 0 = K0 from if_pos rfl]
                        unfold sgW
                        rw [if_pos ⟨by omega, v1n, by omega, by omega⟩]
                        have e1 := he i.toNat (by omega)
                        rw [show ((i.toNat : Nat) : Int) = i by omega] at e1
                        exact e1
                    · skip
                      show wJ _ _ _ _ _ _ _ _ _ _
                      refine wa_ifeq (w_rg0 (by omega) (by omega)) ⟨_, rfl⟩ (fun c41 => ?_) (fun c41 => ?_)
                      · skip
                        refine wa_iconst ?_
                        refine wa_fall ⟨_, rfl⟩ ?_
                        refine wa_ireturn rfl ?_
                        refine ⟨rfl, congrArg (fun z => Sum.inl (some (0, z))) ?_⟩
                        rw [if_pos (by omega), show tkq K0 K1 0 = K0 from if_pos rfl]
                        unfold sgW
                        rw [if_neg (fun z => ?_)]
                        first | omega | (have w1 := (hval z.1).1; omega)
                      · skip
                        exact absurd c41 (by omega)
            · skip
              exact absurd c26 (by omega)
        · skip
          refine wa_aload_n (n := 0) rfl ?_
          refine wb_gf4 237 rfl (wy_pr rfl) wt_237 wf_15_132 (v := 357) wl_237_132 ?_
          refine wa_iload_n (n := 1) rfl ?_
          refine wb_iald 357 rfl (wy_pr rfl) wt_357 (n := 2) ((w_up_slot (by decide)).trans ((ml_357 hM))) (by omega) (by omega) (v := (S 357 0)) (w_up_slot (by decide)) (fun r42 => ?_)
          refine wa_iconst ?_
          refine wa_icmpne (w_rg0 (by omega) (by omega)) (w_rg0 (by omega) (by omega)) ⟨_, rfl⟩ (fun c43 => ?_) (fun c43 => ?_)
          · skip
            refine wa_iconst ?_
            refine wa_fall ⟨_, rfl⟩ ?_
            refine wa_istore_n (n := 3) rfl ?_
            refine wa_iload_n (n := 3) rfl ?_
            refine wa_ifeq (w_rg0 (by omega) (by omega)) ⟨_, rfl⟩ (fun c44 => ?_) (fun c44 => ?_)
            · skip
              refine wa_iconst ?_
              refine wa_fall ⟨_, rfl⟩ ?_
              refine wa_istore (n := 4) rfl ?_
              refine wa_iload_n (n := 3) rfl ?_
              refine wa_ifeq (w_rg0 (by omega) (by omega)) ⟨_, rfl⟩ (fun c45 => ?_) (fun c45 => ?_)
              · skip
                refine wa_iconst ?_
                refine wa_fall ⟨_, rfl⟩ ?_
                refine wa_ireturn rfl ?_
                refine ⟨rfl, congrArg (fun z => Sum.inl (some (0, z))) ?_⟩
                rw [if_pos (by omega), show tkq K0 K1 0 = K0 from if_pos rfl]
                unfold sgW
                rw [if_neg (fun z => ?_)]
                first | omega | (have w1 := (hval z.1).1; omega)
              · skip
                exact absurd c45 (by omega)
            · skip
              exact absurd c44 (by omega)
          · skip
            refine wa_fall ⟨_, rfl⟩ ?_
            refine wa_aload_n (n := 0) rfl ?_
            refine wb_gf4 237 rfl (wy_pr rfl) wt_237 wf_15_136 (v := 361) wl_237_136 ?_
            refine wa_iload_n (n := 1) rfl ?_
            refine wa_i2l (w_rg0 (by omega) (by omega)) ?_
            refine wa_lconst ?_
            refine wa_lconst ?_
            refine wa_cs (M2 := fun _ => False) rfl at_M_in ⟨_, rfl⟩ rfl rfl ⟨(Or.inr ⟨wy_pr rfl, fun q => q⟩), trivial, trivial, trivial⟩ ⟨(Or.inr ⟨wy_pr rfl, fun q => q⟩), trivial⟩ (fun _ _ q => False.elim q) (in_ok (S := (w_up S 237 0 0)) (a := 0) (lo := 0) (hi := 1) ⟨by omega, by omega⟩ ⟨by omega, by omega⟩ ⟨by omega, by omega⟩) (fun oq47 Sq47 hp48 q47 => ?_)
            rcases q47 with ⟨rfl, ⟨rfl, hin46⟩ | ⟨rfl, hin46⟩⟩
            · skip
              show wJ _ _ _ _ _ _ _ _ _ _
              refine wa_ifeq (w_rg0 (by omega) (by omega)) ⟨_, rfl⟩ (fun c49 => ?_) (fun c49 => ?_)
              · skip
                exact absurd c49 (by omega)
              · skip
                refine wa_iload_n (n := 1) rfl ?_
                refine wa_goto ⟨_, rfl⟩ ?_
                refine wb_iald 361 rfl (wy_pr rfl) wt_361 (n := 2) ((w_up_slot (by decide)).trans ((ml_361 hM))) (by omega) (by omega) (v := (S 361 0)) (w_up_slot (by decide)) (fun r50 => ?_)
                refine wa_iconst ?_
                refine wa_icmpne (w_rg0 (by omega) (by omega)) (w_rg0 (by omega) (by omega)) ⟨_, rfl⟩ (fun c51 => ?_) (fun c51 => ?_)
                · skip
                  refine wa_iconst ?_
                  refine wa_fall ⟨_, rfl⟩ ?_
                  refine wa_istore_n (n := 3) rfl ?_
                  refine wa_iload_n (n := 3) rfl ?_
                  refine wa_ifeq (w_rg0 (by omega) (by omega)) ⟨_, rfl⟩ (fun c52 => ?_) (fun c52 => ?_)
                  · skip
                    refine wa_iconst ?_
                    refine wa_fall ⟨_, rfl⟩ ?_
                    refine wa_istore (n := 4) rfl ?_
                    refine wa_iload_n (n := 3) rfl ?_
                    refine wa_ifeq (w_rg0 (by omega) (by omega)) ⟨_, rfl⟩ (fun c53 => ?_) (fun c53 => ?_)
                    · skip
                      refine wa_iconst ?_
                      refine wa_fall ⟨_, rfl⟩ ?_
                      refine wa_ireturn rfl ?_
                      refine ⟨rfl, congrArg (fun z => Sum.inl (some (0, z))) ?_⟩
                      rw [if_pos (by omega), show tkq K0 K1 0 = K0 from if_pos rfl]
                      unfold sgW
                      rw [if_neg (fun z => ?_)]
                      first | omega | (have w1 := (hval z.1).1; omega)
                    · skip
                      exact absurd c53 (by omega)
                  · skip
                    exact absurd c52 (by omega)
                · skip
                  refine wa_iconst ?_
                  refine wa_goto ⟨_, rfl⟩ ?_
                  refine wa_istore_n (n := 3) rfl ?_
                  refine wa_iload_n (n := 3) rfl ?_
                  refine wa_ifeq (w_rg0 (by omega) (by omega)) ⟨_, rfl⟩ (fun c54 => ?_) (fun c54 => ?_)
                  · skip
                    exact absurd c54 (by omega)
                  · skip
                    obtain ⟨v1, v2, v3⟩ := hval (by omega)
                    have v1n : K0.2.2.2.2.1 = 3 := by omega
                    obtain ⟨-, sb, sl, he⟩ := v3 v1n
                    have hbr : 0 ≤ S 362 0 ∧ S 362 0 < 16000 := by omega
                    have hfr1 := (⟨(hfr (S 362 0) sb).1, (hfr (S 362 0) sb).2.2⟩ : 0 ≤ S 284 (S 362 0) ∧ S 284 (S 362 0) + S 285 (S 362 0) ≤ 269632)
                    refine wa_aload_n (n := 0) rfl ?_
                    refine wb_gf4 237 rfl (wy_pr rfl) wt_237 wf_15_137 (v := 362) wl_237_137 ?_
                    refine wa_iload_n (n := 1) rfl ?_
                    refine wb_lald 362 rfl (wy_pr rfl) wt_362 (n := 2) ((w_up_slot (by decide)).trans ((ml_362 hM))) (by omega) (by omega) (v := (S 362 0)) (w_up_slot (by decide)) (fun r55 => ?_)
                    refine wb_l2i_r (y := (S 362 0)) (wb_l2i_id ⟨by omega, by omega⟩) ?_
                    refine wa_goto ⟨_, rfl⟩ ?_
                    refine wa_istore (n := 4) rfl ?_
                    refine wa_iload_n (n := 3) rfl ?_
                    refine wa_ifeq (w_rg0 (by omega) (by omega)) ⟨_, rfl⟩ (fun c56 => ?_) (fun c56 => ?_)
                    · skip
                      exact absurd c56 (by omega)
                    · skip
                      refine wa_iload_n (n := 2) rfl ?_
                      refine wa_i2l (w_rg0 (by omega) (by omega)) ?_
                      refine wa_lconst ?_
                      refine wa_aload_n (n := 0) rfl ?_
                      refine wb_gf4 237 rfl (wy_pr rfl) wt_237 wf_15_23 (v := 285) wl_237_23 ?_
                      refine wa_iload (n := 4) rfl ?_
                      refine wb_iald 285 rfl (wy_pr rfl) wt_285 (n := 16000) ((w_up_slot (by decide)).trans ((ml_285 hM))) (by omega) (by omega) (v := (S 285 (S 362 0))) (w_up_slot (by decide)) (fun r57 => ?_)
                      refine wa_iconst ?_
                      refine wa_isub ?_
                      refine wa_i2l (w_rg0 (by omega) (by omega)) ?_
                      refine wa_cs (M2 := fun _ => False) rfl at_M_in ⟨_, rfl⟩ rfl rfl ⟨trivial, trivial, (Or.inr ⟨wy_pr rfl, fun q => q⟩), trivial, trivial, trivial⟩ trivial (fun _ _ q => False.elim q) (in_ok (S := (w_up S 237 0 0)) (a := i) (lo := 0) (hi := ((S 285 (S 362 0)) - 1)) ⟨by omega, by omega⟩ ⟨by omega, by omega⟩ ⟨by omega, by omega⟩) (fun oq59 Sq59 hp60 q59 => ?_)
                      rcases q59 with ⟨rfl, ⟨rfl, hin58⟩ | ⟨rfl, hin58⟩⟩
                      · skip
                        show wJ _ _ _ _ _ _ _ _ _ _
                        refine wa_ifeq (w_rg0 (by omega) (by omega)) ⟨_, rfl⟩ (fun c61 => ?_) (fun c61 => ?_)
                        · skip
                          exact absurd c61 (by omega)
                        · skip
                          refine wa_aload_n (n := 0) rfl ?_
                          refine wb_gf4 237 rfl (wy_pr rfl) wt_237 wf_15_21 (v := 283) wl_237_21 ?_
                          refine wa_aload_n (n := 0) rfl ?_
                          refine wb_gf4 237 rfl (wy_pr rfl) wt_237 wf_15_22 (v := 284) wl_237_22 ?_
                          refine wa_iload (n := 4) rfl ?_
                          refine wb_iald 284 rfl (wy_pr rfl) wt_284 (n := 16000) ((w_up_slot (by decide)).trans ((ml_284 hM))) (by omega) (by omega) (v := (S 284 (S 362 0))) (w_up_slot (by decide)) (fun r62 => ?_)
                          refine wa_iload_n (n := 2) rfl ?_
                          refine wa_iadd ?_
                          refine wb_bald 283 rfl (wy_pr rfl) wt_283 (n := 269632) ((w_up_slot (by decide)).trans ((ml_283 hM))) (by omega) (by omega) (v := (S 283 ((S 284 (S 362 0)) + i))) (w_up_slot (by decide)) (fun r63 => ?_)
                          refine wa_goto ⟨_, rfl⟩ ?_
                          refine wa_ireturn rfl ?_
                          refine ⟨rfl, congrArg (fun z => Sum.inl (some (0, z))) ?_⟩
                          rw [if_pos (by omega), show tkq K0 K1 0 = K0 from if_pos rfl]
                          unfold sgW
                          rw [if_pos ⟨by omega, v1n, by omega, by omega⟩]
                          have e1 := he i.toNat (by omega)
                          rw [show ((i.toNat : Nat) : Int) = i by omega] at e1
                          exact e1
                      · skip
                        show wJ _ _ _ _ _ _ _ _ _ _
                        refine wa_ifeq (w_rg0 (by omega) (by omega)) ⟨_, rfl⟩ (fun c64 => ?_) (fun c64 => ?_)
                        · skip
                          refine wa_iconst ?_
                          refine wa_fall ⟨_, rfl⟩ ?_
                          refine wa_ireturn rfl ?_
                          refine ⟨rfl, congrArg (fun z => Sum.inl (some (0, z))) ?_⟩
                          rw [if_pos (by omega), show tkq K0 K1 0 = K0 from if_pos rfl]
                          unfold sgW
                          rw [if_neg (fun z => ?_)]
                          first | omega | (have w1 := (hval z.1).1; omega)
                        · skip
                          exact absurd c64 (by omega)
            · skip
              show wJ _ _ _ _ _ _ _ _ _ _
              refine wa_ifeq (w_rg0 (by omega) (by omega)) ⟨_, rfl⟩ (fun c65 => ?_) (fun c65 => ?_)
              · skip
                refine wa_iconst ?_
                refine wa_fall ⟨_, rfl⟩ ?_
                refine wb_iald 361 rfl (wy_pr rfl) wt_361 (n := 2) ((w_up_slot (by decide)).trans ((ml_361 hM))) (by omega) (by omega) (v := (S 361 0)) (w_up_slot (by decide)) (fun r66 => ?_)
                refine wa_iconst ?_
                refine wa_icmpne (w_rg0 (by omega) (by omega)) (w_rg0 (by omega) (by omega)) ⟨_, rfl⟩ (fun c67 => ?_) (fun c67 => ?_)
                · skip
                  refine wa_iconst ?_
                  refine wa_fall ⟨_, rfl⟩ ?_
                  refine wa_istore_n (n := 3) rfl ?_
                  refine wa_iload_n (n := 3) rfl ?_
                  refine wa_ifeq (w_rg0 (by omega) (by omega)) ⟨_, rfl⟩ (fun c68 => ?_) (fun c68 => ?_)
                  · skip
                    refine wa_iconst ?_
                    refine wa_fall ⟨_, rfl⟩ ?_
                    refine wa_istore (n := 4) rfl ?_
                    refine wa_iload_n (n := 3) rfl ?_
                    refine wa_ifeq (w_rg0 (by omega) (by omega)) ⟨_, rfl⟩ (fun c69 => ?_) (fun c69 => ?_)
                    · skip
                      refine wa_iconst ?_
                      refine wa_fall ⟨_, rfl⟩ ?_
                      refine wa_ireturn rfl ?_
                      refine ⟨rfl, congrArg (fun z => Sum.inl (some (0, z))) ?_⟩
                      rw [if_pos (by omega), show tkq K0 K1 0 = K0 from if_pos rfl]
                      unfold sgW
                      rw [if_neg (fun z => ?_)]
                      first | omega | (have w1 := (hval z.1).1; omega)
                    · skip
                      exact absurd c69 (by omega)
                  · skip
                    exact absurd c68 (by omega)
                · skip
                  refine wa_iconst ?_
                  refine wa_goto ⟨_, rfl⟩ ?_
                  refine wa_istore_n (n := 3) rfl ?_
                  refine wa_iload_n (n := 3) rfl ?_
                  refine wa_ifeq (w_rg0 (by omega) (by omega)) ⟨_, rfl⟩ (fun c70 => ?_) (fun c70 => ?_)
                  · skip
                    exact absurd c70 (by omega)
                  · skip
                    obtain ⟨v1, v2, v3⟩ := hval (by omega)
                    have v1n : K0.2.2.2.2.1 = 3 := by omega
                    obtain ⟨-, sb, sl, he⟩ := v3 v1n
                    have hbr : 0 ≤ S 362 0 ∧ S 362 0 < 16000 := by omega
                    have hfr1 := (⟨(hfr (S 362 0) sb).1, (hfr (S 362 0) sb).2.2⟩ : 0 ≤ S 284 (S 362 0) ∧ S 284 (S 362 0) + S 285 (S 362 0) ≤ 269632)
                    refine wa_aload_n (n := 0) rfl ?_
                    refine wb_gf4 237 rfl (wy_pr rfl) wt_237 wf_15_137 (v := 362) wl_237_137 ?_
                    refine wa_iload_n (n := 1) rfl ?_
                    refine wb_lald 362 rfl (wy_pr rfl) wt_362 (n := 2) ((w_up_slot (by decide)).trans ((ml_362 hM))) (by omega) (by omega) (v := (S 362 0)) (w_up_slot (by decide)) (fun r71 => ?_)
                    refine wb_l2i_r (y := (S 362 0)) (wb_l2i_id ⟨by omega, by omega⟩) ?_
                    refine wa_goto ⟨_, rfl⟩ ?_
                    refine wa_istore (n := 4) rfl ?_
                    refine wa_iload_n (n := 3) rfl ?_
                    refine wa_ifeq (w_rg0 (by omega) (by omega)) ⟨_, rfl⟩ (fun c72 => ?_) (fun c72 => ?_)
                    · skip
                      exact absurd c72 (by omega)
                    · skip
                      refine wa_iload_n (n := 2) rfl ?_
                      refine wa_i2l (w_rg0 (by omega) (by omega)) ?_
                      refine wa_lconst ?_
                      refine wa_aload_n (n := 0) rfl ?_
                      refine wb_gf4 237 rfl (wy_pr rfl) wt_237 wf_15_23 (v := 285) wl_237_23 ?_
                      refine wa_iload (n := 4) rfl ?_
                      refine wb_iald 285 rfl (wy_pr rfl) wt_285 (n := 16000) ((w_up_slot (by decide)).trans ((ml_285 hM))) (by omega) (by omega) (v := (S 285 (S 362 0))) (w_up_slot (by decide)) (fun r73 => ?_)
                      refine wa_iconst ?_
                      refine wa_isub ?_
                      refine wa_i2l (w_rg0 (by omega) (by omega)) ?_
                      refine wa_cs (M2 := fun _ => False) rfl at_M_in ⟨_, rfl⟩ rfl rfl ⟨trivial, trivial, (Or.inr ⟨wy_pr rfl, fun q => q⟩), trivial, trivial, trivial⟩ trivial (fun _ _ q => False.elim q) (in_ok (S := (w_up S 237 0 0)) (a := i) (lo := 0) (hi := ((S 285 (S 362 0)) - 1)) ⟨by omega, by omega⟩ ⟨by omega, by omega⟩ ⟨by omega, by omega⟩) (fun oq75 Sq75 hp76 q75 => ?_)
                      rcases q75 with ⟨rfl, ⟨rfl, hin74⟩ | ⟨rfl, hin74⟩⟩
                      · skip
                        show wJ _ _ _ _ _ _ _ _ _ _
                        refine wa_ifeq (w_rg0 (by omega) (by omega)) ⟨_, rfl⟩ (fun c77 => ?_) (fun c77 => ?_)
                        · skip
                          exact absurd c77 (by omega)
                        · skip
                          refine wa_aload_n (n := 0) rfl ?_
                          refine wb_gf4 237 rfl (wy_pr rfl) wt_237 wf_15_21 (v := 283) wl_237_21 ?_
                          refine wa_aload_n (n := 0) rfl ?_
                          refine wb_gf4 237 rfl (wy_pr rfl) wt_237 wf_15_22 (v := 284) wl_237_22 ?_
                          refine wa_iload (n := 4) rfl ?_
                          refine wb_iald 284 rfl (wy_pr rfl) wt_284 (n := 16000) ((w_up_slot (by decide)).trans ((ml_284 hM))) (by omega) (by omega) (v := (S 284 (S 362 0))) (w_up_slot (by decide)) (fun r78 => ?_)
                          refine wa_iload_n (n := 2) rfl ?_
                          refine wa_iadd ?_
                          refine wb_bald 283 rfl (wy_pr rfl) wt_283 (n := 269632) ((w_up_slot (by decide)).trans ((ml_283 hM))) (by omega) (by omega) (v := (S 283 ((S 284 (S 362 0)) + i))) (w_up_slot (by decide)) (fun r79 => ?_)
                          refine wa_goto ⟨_, rfl⟩ ?_
                          refine wa_ireturn rfl ?_
                          refine ⟨rfl, congrArg (fun z => Sum.inl (some (0, z))) ?_⟩
                          rw [if_pos (by omega), show tkq K0 K1 0 = K0 from if_pos rfl]
                          unfold sgW
                          rw [if_pos ⟨by omega, v1n, by omega, by omega⟩]
                          have e1 := he i.toNat (by omega)
                          rw [show ((i.toNat : Nat) : Int) = i by omega] at e1
                          exact e1
                      · skip
                        show wJ _ _ _ _ _ _ _ _ _ _
                        refine wa_ifeq (w_rg0 (by omega) (by omega)) ⟨_, rfl⟩ (fun c80 => ?_) (fun c80 => ?_)
                        · skip
                          refine wa_iconst ?_
                          refine wa_fall ⟨_, rfl⟩ ?_
                          refine wa_ireturn rfl ?_
                          refine ⟨rfl, congrArg (fun z => Sum.inl (some (0, z))) ?_⟩
                          rw [if_pos (by omega), show tkq K0 K1 0 = K0 from if_pos rfl]
                          unfold sgW
                          rw [if_neg (fun z => ?_)]
                          first | omega | (have w1 := (hval z.1).1; omega)
                        · skip
                          exact absurd c80 (by omega)
              · skip
                exact absurd c65 (by omega)
    · skip
      show wJ _ _ _ _ _ _ _ _ _ _
      refine wa_ifeq (w_rg0 (by omega) (by omega)) ⟨_, rfl⟩ (fun c81 => ?_) (fun c81 => ?_)
      · skip
        refine wa_iconst ?_
        refine wa_fall ⟨_, rfl⟩ ?_
        refine wa_istore_n (n := 3) rfl ?_
        refine wa_iload_n (n := 3) rfl ?_
        refine wa_ifeq (w_rg0 (by omega) (by omega)) ⟨_, rfl⟩ (fun c82 => ?_) (fun c82 => ?_)
        · skip
          refine wa_iconst ?_
          refine wa_fall ⟨_, rfl⟩ ?_
          refine wa_istore (n := 4) rfl ?_
          refine wa_iload_n (n := 3) rfl ?_
          refine wa_ifeq (w_rg0 (by omega) (by omega)) ⟨_, rfl⟩ (fun c83 => ?_) (fun c83 => ?_)
          · skip
            refine wa_iconst ?_
            refine wa_fall ⟨_, rfl⟩ ?_
            refine wa_ireturn rfl ?_
            refine ⟨rfl, congrArg (fun z => Sum.inl (some (0, z))) ?_⟩
            rw [if_pos (by omega), show tkq K0 K1 0 = K0 from if_pos rfl]
            unfold sgW
            rw [if_neg (fun z => ?_)]
            first | omega | (have w1 := (hval z.1).1; omega)
          · skip
            exact absurd c83 (by omega)
        · skip
          exact absurd c82 (by omega)
      · skip
        exact absurd c81 (by omega)
  · subst e
    have hst : S 357 1 = K1.2.2.2.1 := k1.2.2.2.1
    have hrk1 := hrk 1 (by omega) (by omega)
    have hval := k1.2.2.2.2
    refine wa_aload_n (n := 0) rfl ?_
    refine wa_iconst ?_
    refine wb_pfi 237 rfl (wy_pr rfl) wt_237 wf_15_0 (n := 0) rfl ⟨(by omega), (by omega)⟩ ?_
    refine wa_iload_n (n := 1) rfl ?_
    refine wa_i2l (w_rg0 (by omega) (by omega)) ?_
    refine wa_lconst ?_
    refine wa_lconst ?_
    refine wa_cs (M2 := fun _ => False) rfl at_M_in ⟨_, rfl⟩ rfl rfl ⟨(Or.inr ⟨wy_pr rfl, fun q => q⟩), trivial, trivial, trivial⟩ trivial (fun _ _ q => False.elim q) (in_ok (S := (w_up S 237 0 0)) (a := 1) (lo := 0) (hi := 1) ⟨by omega, by omega⟩ ⟨by omega, by omega⟩ ⟨by omega, by omega⟩) (fun oq202 Sq202 hp203 q202 => ?_)
    rcases q202 with ⟨rfl, ⟨rfl, hin201⟩ | ⟨rfl, hin201⟩⟩
    · skip
      show wJ _ _ _ _ _ _ _ _ _ _
      refine wa_ifeq (w_rg0 (by omega) (by omega)) ⟨_, rfl⟩ (fun c204 => ?_) (fun c204 => ?_)
      · skip
        exact absurd c204 (by omega)
      · skip
        refine wa_aload_n (n := 0) rfl ?_
        refine wb_gf4 237 rfl (wy_pr rfl) wt_237 wf_15_132 (v := 357) wl_237_132 ?_
        refine wa_iload_n (n := 1) rfl ?_
        refine wb_iald 357 rfl (wy_pr rfl) wt_357 (n := 2) ((w_up_slot (by decide)).trans ((ml_357 hM))) (by omega) (by omega) (v := (S 357 1)) (w_up_slot (by decide)) (fun r205 => ?_)
        refine wa_iconst ?_
        refine wa_icmpeq (w_rg0 (by omega) (by omega)) (w_rg0 (by omega) (by omega)) ⟨_, rfl⟩ (fun c206 => ?_) (fun c206 => ?_)
        · skip
          refine wa_aload_n (n := 0) rfl ?_
          refine wb_gf4 237 rfl (wy_pr rfl) wt_237 wf_15_136 (v := 361) wl_237_136 ?_
          refine wa_iload_n (n := 1) rfl ?_
          refine wa_i2l (w_rg0 (by omega) (by omega)) ?_
          refine wa_lconst ?_
          refine wa_lconst ?_
          refine wa_cs (M2 := fun _ => False) rfl at_M_in ⟨_, rfl⟩ rfl rfl ⟨(Or.inr ⟨wy_pr rfl, fun q => q⟩), trivial, trivial, trivial⟩ ⟨(Or.inr ⟨wy_pr rfl, fun q => q⟩), trivial⟩ (fun _ _ q => False.elim q) (in_ok (S := (w_up S 237 0 0)) (a := 1) (lo := 0) (hi := 1) ⟨by omega, by omega⟩ ⟨by omega, by omega⟩ ⟨by omega, by omega⟩) (fun oq208 Sq208 hp209 q208 => ?_)
          rcases q208 with ⟨rfl, ⟨rfl, hin207⟩ | ⟨rfl, hin207⟩⟩
          · skip
            show wJ _ _ _ _ _ _ _ _ _ _
            refine wa_ifeq (w_rg0 (by omega) (by omega)) ⟨_, rfl⟩ (fun c210 => ?_) (fun c210 => ?_)
            · skip
              exact absurd c210 (by omega)
            · skip
              refine wa_iload_n (n := 1) rfl ?_
              refine wa_goto ⟨_, rfl⟩ ?_
              refine wb_iald 361 rfl (wy_pr rfl) wt_361 (n := 2) ((w_up_slot (by decide)).trans ((ml_361 hM))) (by omega) (by omega) (v := (S 361 1)) (w_up_slot (by decide)) (fun r211 => ?_)
              refine wa_iconst ?_
              refine wa_icmpne (w_rg0 (by omega) (by omega)) (w_rg0 (by omega) (by omega)) ⟨_, rfl⟩ (fun c212 => ?_) (fun c212 => ?_)
              · skip
                refine wa_iconst ?_
                refine wa_fall ⟨_, rfl⟩ ?_
                refine wa_istore_n (n := 3) rfl ?_
                refine wa_iload_n (n := 3) rfl ?_
                refine wa_ifeq (w_rg0 (by omega) (by omega)) ⟨_, rfl⟩ (fun c213 => ?_) (fun c213 => ?_)
                · skip
                  refine wa_iconst ?_
                  refine wa_fall ⟨_, rfl⟩ ?_
                  refine wa_istore (n := 4) rfl ?_
                  refine wa_iload_n (n := 3) rfl ?_
                  refine wa_ifeq (w_rg0 (by omega) (by omega)) ⟨_, rfl⟩ (fun c214 => ?_) (fun c214 => ?_)
                  · skip
                    refine wa_iconst ?_
                    refine wa_fall ⟨_, rfl⟩ ?_
                    refine wa_ireturn rfl ?_
                    refine ⟨rfl, congrArg (fun z => Sum.inl (some (0, z))) ?_⟩
                    rw [if_pos (by omega), show tkq K0 K1 1 = K1 from if_neg (by first | decide | omega)]
                    unfold sgW
                    rw [if_neg (fun z => ?_)]
                    first | omega | (have w1 := (hval z.1).1; omega)
                  · skip
                    exact absurd c214 (by omega)
                · skip
                  exact absurd c213 (by omega)
              · skip
                refine wa_iconst ?_
                refine wa_goto ⟨_, rfl⟩ ?_
                refine wa_istore_n (n := 3) rfl ?_
                refine wa_iload_n (n := 3) rfl ?_
                refine wa_ifeq (w_rg0 (by omega) (by omega)) ⟨_, rfl⟩ (fun c215 => ?_) (fun c215 => ?_)
                · skip
                  exact absurd c215 (by omega)
                · skip
                  obtain ⟨v1, v2, v3⟩ := hval (by omega)
                  have v1n : K1.2.2.2.2.1 = 3 := by omega
                  obtain ⟨-, sb, sl, he⟩ := v3 v1n
                  have hbr : 0 ≤ S 362 1 ∧ S 362 1 < 16000 := by omega
                  have hfr1 := (⟨(hfr (S 362 1) sb).1, (hfr (S 362 1) sb).2.2⟩ : 0 ≤ S 284 (S 362 1) ∧ S 284 (S 362 1) + S 285 (S 362 1) ≤ 269632)
                  refine wa_aload_n (n := 0) rfl ?_
                  refine wb_gf4 237 rfl (wy_pr rfl) wt_237 wf_15_137 (v := 362) wl_237_137 ?_
                  refine wa_iload_n (n := 1) rfl ?_
                  refine wb_lald 362 rfl (wy_pr rfl) wt_362 (n := 2) ((w_up_slot (by decide)).trans ((ml_362 hM))) (by omega) (by omega) (v := (S 362 1)) (w_up_slot (by decide)) (fun r216 => ?_)
                  refine wb_l2i_r (y := (S 362 1)) (wb_l2i_id ⟨by omega, by omega⟩) ?_
                  refine wa_goto ⟨_, rfl⟩ ?_
                  refine wa_istore (n := 4) rfl ?_
                  refine wa_iload_n (n := 3) rfl ?_
                  refine wa_ifeq (w_rg0 (by omega) (by omega)) ⟨_, rfl⟩ (fun c217 => ?_) (fun c217 => ?_)
                  · skip
                    exact absurd c217 (by omega)
                  · skip
                    refine wa_iload_n (n := 2) rfl ?_
                    refine wa_i2l (w_rg0 (by omega) (by omega)) ?_
                    refine wa_lconst ?_
                    refine wa_aload_n (n := 0) rfl ?_
                    refine wb_gf4 237 rfl (wy_pr rfl) wt_237 wf_15_23 (v := 285) wl_237_23 ?_
                    refine wa_iload (n := 4) rfl ?_
                    refine wb_iald 285 rfl (wy_pr rfl) wt_285 (n := 16000) ((w_up_slot (by decide)).trans ((ml_285 hM))) (by omega) (by omega) (v := (S 285 (S 362 1))) (w_up_slot (by decide)) (fun r218 => ?_)
                    refine wa_iconst ?_
                    refine wa_isub ?_
                    refine wa_i2l (w_rg0 (by omega) (by omega)) ?_
                    refine wa_cs (M2 := fun _ => False) rfl at_M_in ⟨_, rfl⟩ rfl rfl ⟨trivial, trivial, (Or.inr ⟨wy_pr rfl, fun q => q⟩), trivial, trivial, trivial⟩ trivial (fun _ _ q => False.elim q) (in_ok (S := (w_up S 237 0 0)) (a := i) (lo := 0) (hi := ((S 285 (S 362 1)) - 1)) ⟨by omega, by omega⟩ ⟨by omega, by omega⟩ ⟨by omega, by omega⟩) (fun oq220 Sq220 hp221 q220 => ?_)
                    rcases q220 with ⟨rfl, ⟨rfl, hin219⟩ | ⟨rfl, hin219⟩⟩
                    · skip
                      show wJ _ _ _ _ _ _ _ _ _ _
                      refine wa_ifeq (w_rg0 (by omega) (by omega)) ⟨_, rfl⟩ (fun c222 => ?_) (fun c222 => ?_)
                      · skip
                        exact absurd c222 (by omega)
                      · skip
                        refine wa_aload_n (n := 0) rfl ?_
                        refine wb_gf4 237 rfl (wy_pr rfl) wt_237 wf_15_21 (v := 283) wl_237_21 ?_
                        refine wa_aload_n (n := 0) rfl ?_
                        refine wb_gf4 237 rfl (wy_pr rfl) wt_237 wf_15_22 (v := 284) wl_237_22 ?_
                        refine wa_iload (n := 4) rfl ?_
                        refine wb_iald 284 rfl (wy_pr rfl) wt_284 (n := 16000) ((w_up_slot (by decide)).trans ((ml_284 hM))) (by omega) (by omega) (v := (S 284 (S 362 1))) (w_up_slot (by decide)) (fun r223 => ?_)
                        refine wa_iload_n (n := 2) rfl ?_
                        refine wa_iadd ?_
                        refine wb_bald 283 rfl (wy_pr rfl) wt_283 (n := 269632) ((w_up_slot (by decide)).trans ((ml_283 hM))) (by omega) (by omega) (v := (S 283 ((S 284 (S 362 1)) + i))) (w_up_slot (by decide)) (fun r224 => ?_)
                        refine wa_goto ⟨_, rfl⟩ ?_
                        refine wa_ireturn rfl ?_
                        refine ⟨rfl, congrArg (fun z => Sum.inl (some (0, z))) ?_⟩
                        rw [if_pos (by omega), show tkq K0 K1 1 = K1 from if_neg (by first | decide | omega)]
                        unfold sgW
                        rw [if_pos ⟨by omega, v1n, by omega, by omega⟩]
                        have e1 := he i.toNat (by omega)
                        rw [show ((i.toNat : Nat) : Int) = i by omega] at e1
                        exact e1
                    · skip
                      show wJ _ _ _ _ _ _ _ _ _ _
                      refine wa_ifeq (w_rg0 (by omega) (by omega)) ⟨_, rfl⟩ (fun c225 => ?_) (fun c225 => ?_)
                      · skip
                        refine wa_iconst ?_
                        refine wa_fall ⟨_, rfl⟩ ?_
                        refine wa_ireturn rfl ?_
                        refine ⟨rfl, congrArg (fun z => Sum.inl (some (0, z))) ?_⟩
                        rw [if_pos (by omega), show tkq K0 K1 1 = K1 from if_neg (by first | decide | omega)]
                        unfold sgW
                        rw [if_neg (fun z => ?_)]
                        first | omega | (have w1 := (hval z.1).1; omega)
                      · skip
                        exact absurd c225 (by omega)
          · skip
            show wJ _ _ _ _ _ _ _ _ _ _
            refine wa_ifeq (w_rg0 (by omega) (by omega)) ⟨_, rfl⟩ (fun c226 => ?_) (fun c226 => ?_)
            · skip
              refine wa_iconst ?_
              refine wa_fall ⟨_, rfl⟩ ?_
              refine wb_iald 361 rfl (wy_pr rfl) wt_361 (n := 2) ((w_up_slot (by decide)).trans ((ml_361 hM))) (by omega) (by omega) (v := (S 361 0)) (w_up_slot (by decide)) (fun r227 => ?_)
              refine wa_iconst ?_
              refine wa_icmpne (w_rg0 (by omega) (by omega)) (w_rg0 (by omega) (by omega)) ⟨_, rfl⟩ (fun c228 => ?_) (fun c228 => ?_)
              · skip
                refine wa_iconst ?_
                refine wa_fall ⟨_, rfl⟩ ?_
                refine wa_istore_n (n := 3) rfl ?_
                refine wa_iload_n (n := 3) rfl ?_
                refine wa_ifeq (w_rg0 (by omega) (by omega)) ⟨_, rfl⟩ (fun c229 => ?_) (fun c229 => ?_)
                · skip
                  refine wa_iconst ?_
                  refine wa_fall ⟨_, rfl⟩ ?_
                  refine wa_istore (n := 4) rfl ?_
                  refine wa_iload_n (n := 3) rfl ?_
                  refine wa_ifeq (w_rg0 (by omega) (by omega)) ⟨_, rfl⟩ (fun c230 => ?_) (fun c230 => ?_)
                  · skip
                    refine wa_iconst ?_
                    refine wa_fall ⟨_, rfl⟩ ?_
                    refine wa_ireturn rfl ?_
                    refine ⟨rfl, congrArg (fun z => Sum.inl (some (0, z))) ?_⟩
                    rw [if_pos (by omega), show tkq K0 K1 1 = K1 from if_neg (by first | decide | omega)]
                    unfold sgW
                    rw [if_neg (fun z => ?_)]
                    first | omega | (have w1 := (hval z.1).1; omega)
                  · skip
                    exact absurd c230 (by omega)
                · skip
                  exact absurd c229 (by omega)
              · skip
                refine wa_iconst ?_
                refine wa_goto ⟨_, rfl⟩ ?_
                refine wa_istore_n (n := 3) rfl ?_
                refine wa_iload_n (n := 3) rfl ?_
                refine wa_ifeq (w_rg0 (by omega) (by omega)) ⟨_, rfl⟩ (fun c231 => ?_) (fun c231 => ?_)
                · skip
                  exact absurd c231 (by omega)
                · skip
                  obtain ⟨v1, v2, v3⟩ := hval (by omega)
                  have v1n : K1.2.2.2.2.1 = 3 := by omega
                  obtain ⟨-, sb, sl, he⟩ := v3 v1n
                  have hbr : 0 ≤ S 362 1 ∧ S 362 1 < 16000 := by omega
                  have hfr1 := (⟨(hfr (S 362 1) sb).1, (hfr (S 362 1) sb).2.2⟩ : 0 ≤ S 284 (S 362 1) ∧ S 284 (S 362 1) + S 285 (S 362 1) ≤ 269632)
                  refine wa_aload_n (n := 0) rfl ?_
                  refine wb_gf4 237 rfl (wy_pr rfl) wt_237 wf_15_137 (v := 362) wl_237_137 ?_
                  refine wa_iload_n (n := 1) rfl ?_
                  refine wb_lald 362 rfl (wy_pr rfl) wt_362 (n := 2) ((w_up_slot (by decide)).trans ((ml_362 hM))) (by omega) (by omega) (v := (S 362 1)) (w_up_slot (by decide)) (fun r232 => ?_)
                  refine wb_l2i_r (y := (S 362 1)) (wb_l2i_id ⟨by omega, by omega⟩) ?_
                  refine wa_goto ⟨_, rfl⟩ ?_
                  refine wa_istore (n := 4) rfl ?_
                  refine wa_iload_n (n := 3) rfl ?_
                  refine wa_ifeq (w_rg0 (by omega) (by omega)) ⟨_, rfl⟩ (fun c233 => ?_) (fun c233 => ?_)
                  · skip
                    exact absurd c233 (by omega)
                  · skip
                    refine wa_iload_n (n := 2) rfl ?_
                    refine wa_i2l (w_rg0 (by omega) (by omega)) ?_
                    refine wa_lconst ?_
                    refine wa_aload_n (n := 0) rfl ?_
                    refine wb_gf4 237 rfl (wy_pr rfl) wt_237 wf_15_23 (v := 285) wl_237_23 ?_
                    refine wa_iload (n := 4) rfl ?_
                    refine wb_iald 285 rfl (wy_pr rfl) wt_285 (n := 16000) ((w_up_slot (by decide)).trans ((ml_285 hM))) (by omega) (by omega) (v := (S 285 (S 362 1))) (w_up_slot (by decide)) (fun r234 => ?_)
                    refine wa_iconst ?_
                    refine wa_isub ?_
                    refine wa_i2l (w_rg0 (by omega) (by omega)) ?_
                    refine wa_cs (M2 := fun _ => False) rfl at_M_in ⟨_, rfl⟩ rfl rfl ⟨trivial, trivial, (Or.inr ⟨wy_pr rfl, fun q => q⟩), trivial, trivial, trivial⟩ trivial (fun _ _ q => False.elim q) (in_ok (S := (w_up S 237 0 0)) (a := i) (lo := 0) (hi := ((S 285 (S 362 1)) - 1)) ⟨by omega, by omega⟩ ⟨by omega, by omega⟩ ⟨by omega, by omega⟩) (fun oq236 Sq236 hp237 q236 => ?_)
                    rcases q236 with ⟨rfl, ⟨rfl, hin235⟩ | ⟨rfl, hin235⟩⟩
                    · skip
                      show wJ _ _ _ _ _ _ _ _ _ _
                      refine wa_ifeq (w_rg0 (by omega) (by omega)) ⟨_, rfl⟩ (fun c238 => ?_) (fun c238 => ?_)
                      · skip
                        exact absurd c238 (by omega)
                      · skip
                        refine wa_aload_n (n := 0) rfl ?_
                        refine wb_gf4 237 rfl (wy_pr rfl) wt_237 wf_15_21 (v := 283) wl_237_21 ?_
                        refine wa_aload_n (n := 0) rfl ?_
                        refine wb_gf4 237 rfl (wy_pr rfl) wt_237 wf_15_22 (v := 284) wl_237_22 ?_
                        refine wa_iload (n := 4) rfl ?_
                        refine wb_iald 284 rfl (wy_pr rfl) wt_284 (n := 16000) ((w_up_slot (by decide)).trans ((ml_284 hM))) (by omega) (by omega) (v := (S 284 (S 362 1))) (w_up_slot (by decide)) (fun r239 => ?_)
                        refine wa_iload_n (n := 2) rfl ?_
                        refine wa_iadd ?_
                        refine wb_bald 283 rfl (wy_pr rfl) wt_283 (n := 269632) ((w_up_slot (by decide)).trans ((ml_283 hM))) (by omega) (by omega) (v := (S 283 ((S 284 (S 362 1)) + i))) (w_up_slot (by decide)) (fun r240 => ?_)
                        refine wa_goto ⟨_, rfl⟩ ?_
                        refine wa_ireturn rfl ?_
                        refine ⟨rfl, congrArg (fun z => Sum.inl (some (0, z))) ?_⟩
                        rw [if_pos (by omega), show tkq K0 K1 1 = K1 from if_neg (by first | decide | omega)]
                        unfold sgW
                        rw [if_pos ⟨by omega, v1n, by omega, by omega⟩]
                        have e1 := he i.toNat (by omega)
                        rw [show ((i.toNat : Nat) : Int) = i by omega] at e1
                        exact e1
                    · skip
                      show wJ _ _ _ _ _ _ _ _ _ _
                      refine wa_ifeq (w_rg0 (by omega) (by omega)) ⟨_, rfl⟩ (fun c241 => ?_) (fun c241 => ?_)
                      · skip
                        refine wa_iconst ?_
                        refine wa_fall ⟨_, rfl⟩ ?_
                        refine wa_ireturn rfl ?_
                        refine ⟨rfl, congrArg (fun z => Sum.inl (some (0, z))) ?_⟩
                        rw [if_pos (by omega), show tkq K0 K1 1 = K1 from if_neg (by first | decide | omega)]
                        unfold sgW
                        rw [if_neg (fun z => ?_)]
                        first | omega | (have w1 := (hval z.1).1; omega)
                      · skip
                        exact absurd c241 (by omega)
            · skip
              exact absurd c226 (by omega)
        · skip
          refine wa_aload_n (n := 0) rfl ?_
          refine wb_gf4 237 rfl (wy_pr rfl) wt_237 wf_15_132 (v := 357) wl_237_132 ?_
          refine wa_iload_n (n := 1) rfl ?_
          refine wb_iald 357 rfl (wy_pr rfl) wt_357 (n := 2) ((w_up_slot (by decide)).trans ((ml_357 hM))) (by omega) (by omega) (v := (S 357 1)) (w_up_slot (by decide)) (fun r242 => ?_)
          refine wa_iconst ?_
          refine wa_icmpne (w_rg0 (by omega) (by omega)) (w_rg0 (by omega) (by omega)) ⟨_, rfl⟩ (fun c243 => ?_) (fun c243 => ?_)
          · skip
            refine wa_iconst ?_
            refine wa_fall ⟨_, rfl⟩ ?_
            refine wa_istore_n (n := 3) rfl ?_
            refine wa_iload_n (n := 3) rfl ?_
            refine wa_ifeq (w_rg0 (by omega) (by omega)) ⟨_, rfl⟩ (fun c244 => ?_) (fun c244 => ?_)
            · skip
              refine wa_iconst ?_
              refine wa_fall ⟨_, rfl⟩ ?_
              refine wa_istore (n := 4) rfl ?_
              refine wa_iload_n (n := 3) rfl ?_
              refine wa_ifeq (w_rg0 (by omega) (by omega)) ⟨_, rfl⟩ (fun c245 => ?_) (fun c245 => ?_)
              · skip
                refine wa_iconst ?_
                refine wa_fall ⟨_, rfl⟩ ?_
                refine wa_ireturn rfl ?_
                refine ⟨rfl, congrArg (fun z => Sum.inl (some (0, z))) ?_⟩
                rw [if_pos (by omega), show tkq K0 K1 1 = K1 from if_neg (by first | decide | omega)]
                unfold sgW
                rw [if_neg (fun z => ?_)]
                first | omega | (have w1 := (hval z.1).1; omega)
              · skip
                exact absurd c245 (by omega)
            · skip
              exact absurd c244 (by omega)
          · skip
            refine wa_fall ⟨_, rfl⟩ ?_
            refine wa_aload_n (n := 0) rfl ?_
            refine wb_gf4 237 rfl (wy_pr rfl) wt_237 wf_15_136 (v := 361) wl_237_136 ?_
            refine wa_iload_n (n := 1) rfl ?_
            refine wa_i2l (w_rg0 (by omega) (by omega)) ?_
            refine wa_lconst ?_
            refine wa_lconst ?_
            refine wa_cs (M2 := fun _ => False) rfl at_M_in ⟨_, rfl⟩ rfl rfl ⟨(Or.inr ⟨wy_pr rfl, fun q => q⟩), trivial, trivial, trivial⟩ ⟨(Or.inr ⟨wy_pr rfl, fun q => q⟩), trivial⟩ (fun _ _ q => False.elim q) (in_ok (S := (w_up S 237 0 0)) (a := 1) (lo := 0) (hi := 1) ⟨by omega, by omega⟩ ⟨by omega, by omega⟩ ⟨by omega, by omega⟩) (fun oq247 Sq247 hp248 q247 => ?_)
            rcases q247 with ⟨rfl, ⟨rfl, hin246⟩ | ⟨rfl, hin246⟩⟩
            · skip
              show wJ _ _ _ _ _ _ _ _ _ _
              refine wa_ifeq (w_rg0 (by omega) (by omega)) ⟨_, rfl⟩ (fun c249 => ?_) (fun c249 => ?_)
              · skip
                exact absurd c249 (by omega)
              · skip
                refine wa_iload_n (n := 1) rfl ?_
                refine wa_goto ⟨_, rfl⟩ ?_
                refine wb_iald 361 rfl (wy_pr rfl) wt_361 (n := 2) ((w_up_slot (by decide)).trans ((ml_361 hM))) (by omega) (by omega) (v := (S 361 1)) (w_up_slot (by decide)) (fun r250 => ?_)
                refine wa_iconst ?_
                refine wa_icmpne (w_rg0 (by omega) (by omega)) (w_rg0 (by omega) (by omega)) ⟨_, rfl⟩ (fun c251 => ?_) (fun c251 => ?_)
                · skip
                  refine wa_iconst ?_
                  refine wa_fall ⟨_, rfl⟩ ?_
                  refine wa_istore_n (n := 3) rfl ?_
                  refine wa_iload_n (n := 3) rfl ?_
                  refine wa_ifeq (w_rg0 (by omega) (by omega)) ⟨_, rfl⟩ (fun c252 => ?_) (fun c252 => ?_)
                  · skip
                    refine wa_iconst ?_
                    refine wa_fall ⟨_, rfl⟩ ?_
                    refine wa_istore (n := 4) rfl ?_
                    refine wa_iload_n (n := 3) rfl ?_
                    refine wa_ifeq (w_rg0 (by omega) (by omega)) ⟨_, rfl⟩ (fun c253 => ?_) (fun c253 => ?_)
                    · skip
                      refine wa_iconst ?_
                      refine wa_fall ⟨_, rfl⟩ ?_
                      refine wa_ireturn rfl ?_
                      refine ⟨rfl, congrArg (fun z => Sum.inl (some (0, z))) ?_⟩
                      rw [if_pos (by omega), show tkq K0 K1 1 = K1 from if_neg (by first | decide | omega)]
                      unfold sgW
                      rw [if_neg (fun z => ?_)]
                      first | omega | (have w1 := (hval z.1).1; omega)
                    · skip
                      exact absurd c253 (by omega)
                  · skip
                    exact absurd c252 (by omega)
                · skip
                  refine wa_iconst ?_
                  refine wa_goto ⟨_, rfl⟩ ?_
                  refine wa_istore_n (n := 3) rfl ?_
                  refine wa_iload_n (n := 3) rfl ?_
                  refine wa_ifeq (w_rg0 (by omega) (by omega)) ⟨_, rfl⟩ (fun c254 => ?_) (fun c254 => ?_)
                  · skip
                    exact absurd c254 (by omega)
                  · skip
                    obtain ⟨v1, v2, v3⟩ := hval (by omega)
                    have v1n : K1.2.2.2.2.1 = 3 := by omega
                    obtain ⟨-, sb, sl, he⟩ := v3 v1n
                    have hbr : 0 ≤ S 362 1 ∧ S 362 1 < 16000 := by omega
                    have hfr1 := (⟨(hfr (S 362 1) sb).1, (hfr (S 362 1) sb).2.2⟩ : 0 ≤ S 284 (S 362 1) ∧ S 284 (S 362 1) + S 285 (S 362 1) ≤ 269632)
                    refine wa_aload_n (n := 0) rfl ?_
                    refine wb_gf4 237 rfl (wy_pr rfl) wt_237 wf_15_137 (v := 362) wl_237_137 ?_
                    refine wa_iload_n (n := 1) rfl ?_
                    refine wb_lald 362 rfl (wy_pr rfl) wt_362 (n := 2) ((w_up_slot (by decide)).trans ((ml_362 hM))) (by omega) (by omega) (v := (S 362 1)) (w_up_slot (by decide)) (fun r255 => ?_)
                    refine wb_l2i_r (y := (S 362 1)) (wb_l2i_id ⟨by omega, by omega⟩) ?_
                    refine wa_goto ⟨_, rfl⟩ ?_
                    refine wa_istore (n := 4) rfl ?_
                    refine wa_iload_n (n := 3) rfl ?_
                    refine wa_ifeq (w_rg0 (by omega) (by omega)) ⟨_, rfl⟩ (fun c256 => ?_) (fun c256 => ?_)
                    · skip
                      exact absurd c256 (by omega)
                    · skip
                      refine wa_iload_n (n := 2) rfl ?_
                      refine wa_i2l (w_rg0 (by omega) (by omega)) ?_
                      refine wa_lconst ?_
                      refine wa_aload_n (n := 0) rfl ?_
                      refine wb_gf4 237 rfl (wy_pr rfl) wt_237 wf_15_23 (v := 285) wl_237_23 ?_
                      refine wa_iload (n := 4) rfl ?_
                      refine wb_iald 285 rfl (wy_pr rfl) wt_285 (n := 16000) ((w_up_slot (by decide)).trans ((ml_285 hM))) (by omega) (by omega) (v := (S 285 (S 362 1))) (w_up_slot (by decide)) (fun r257 => ?_)
                      refine wa_iconst ?_
                      refine wa_isub ?_
                      refine wa_i2l (w_rg0 (by omega) (by omega)) ?_
                      refine wa_cs (M2 := fun _ => False) rfl at_M_in ⟨_, rfl⟩ rfl rfl ⟨trivial, trivial, (Or.inr ⟨wy_pr rfl, fun q => q⟩), trivial, trivial, trivial⟩ trivial (fun _ _ q => False.elim q) (in_ok (S := (w_up S 237 0 0)) (a := i) (lo := 0) (hi := ((S 285 (S 362 1)) - 1)) ⟨by omega, by omega⟩ ⟨by omega, by omega⟩ ⟨by omega, by omega⟩) (fun oq259 Sq259 hp260 q259 => ?_)
                      rcases q259 with ⟨rfl, ⟨rfl, hin258⟩ | ⟨rfl, hin258⟩⟩
                      · skip
                        show wJ _ _ _ _ _ _ _ _ _ _
                        refine wa_ifeq (w_rg0 (by omega) (by omega)) ⟨_, rfl⟩ (fun c261 => ?_) (fun c261 => ?_)
                        · skip
                          exact absurd c261 (by omega)
                        · skip
                          refine wa_aload_n (n := 0) rfl ?_
                          refine wb_gf4 237 rfl (wy_pr rfl) wt_237 wf_15_21 (v := 283) wl_237_21 ?_
                          refine wa_aload_n (n := 0) rfl ?_
                          refine wb_gf4 237 rfl (wy_pr rfl) wt_237 wf_15_22 (v := 284) wl_237_22 ?_
                          refine wa_iload (n := 4) rfl ?_
                          refine wb_iald 284 rfl (wy_pr rfl) wt_284 (n := 16000) ((w_up_slot (by decide)).trans ((ml_284 hM))) (by omega) (by omega) (v := (S 284 (S 362 1))) (w_up_slot (by decide)) (fun r262 => ?_)
                          refine wa_iload_n (n := 2) rfl ?_
                          refine wa_iadd ?_
                          refine wb_bald 283 rfl (wy_pr rfl) wt_283 (n := 269632) ((w_up_slot (by decide)).trans ((ml_283 hM))) (by omega) (by omega) (v := (S 283 ((S 284 (S 362 1)) + i))) (w_up_slot (by decide)) (fun r263 => ?_)
                          refine wa_goto ⟨_, rfl⟩ ?_
                          refine wa_ireturn rfl ?_
                          refine ⟨rfl, congrArg (fun z => Sum.inl (some (0, z))) ?_⟩
                          rw [if_pos (by omega), show tkq K0 K1 1 = K1 from if_neg (by first | decide | omega)]
                          unfold sgW
                          rw [if_pos ⟨by omega, v1n, by omega, by omega⟩]
                          have e1 := he i.toNat (by omega)
                          rw [show ((i.toNat : Nat) : Int) = i by omega] at e1
                          exact e1
                      · skip
                        show wJ _ _ _ _ _ _ _ _ _ _
                        refine wa_ifeq (w_rg0 (by omega) (by omega)) ⟨_, rfl⟩ (fun c264 => ?_) (fun c264 => ?_)
                        · skip
                          refine wa_iconst ?_
                          refine wa_fall ⟨_, rfl⟩ ?_
                          refine wa_ireturn rfl ?_
                          refine ⟨rfl, congrArg (fun z => Sum.inl (some (0, z))) ?_⟩
                          rw [if_pos (by omega), show tkq K0 K1 1 = K1 from if_neg (by first | decide | omega)]
                          unfold sgW
                          rw [if_neg (fun z => ?_)]
                          first | omega | (have w1 := (hval z.1).1; omega)
                        · skip
                          exact absurd c264 (by omega)
            · skip
              show wJ _ _ _ _ _ _ _ _ _ _
              refine wa_ifeq (w_rg0 (by omega) (by omega)) ⟨_, rfl⟩ (fun c265 => ?_) (fun c265 => ?_)
              · skip
                refine wa_iconst ?_
                refine wa_fall ⟨_, rfl⟩ ?_
                refine wb_iald 361 rfl (wy_pr rfl) wt_361 (n := 2) ((w_up_slot (by decide)).trans ((ml_361 hM))) (by omega) (by omega) (v := (S 361 0)) (w_up_slot (by decide)) (fun r266 => ?_)
                refine wa_iconst ?_
                refine wa_icmpne (w_rg0 (by omega) (by omega)) (w_rg0 (by omega) (by omega)) ⟨_, rfl⟩ (fun c267 => ?_) (fun c267 => ?_)
                · skip
                  refine wa_iconst ?_
                  refine wa_fall ⟨_, rfl⟩ ?_
                  refine wa_istore_n (n := 3) rfl ?_
                  refine wa_iload_n (n := 3) rfl ?_
                  refine wa_ifeq (w_rg0 (by omega) (by omega)) ⟨_, rfl⟩ (fun c268 => ?_) (fun c268 => ?_)
                  · skip
                    refine wa_iconst ?_
                    refine wa_fall ⟨_, rfl⟩ ?_
                    refine wa_istore (n := 4) rfl ?_
                    refine wa_iload_n (n := 3) rfl ?_
                    refine wa_ifeq (w_rg0 (by omega) (by omega)) ⟨_, rfl⟩ (fun c269 => ?_) (fun c269 => ?_)
                    · skip
                      refine wa_iconst ?_
                      refine wa_fall ⟨_, rfl⟩ ?_
                      refine wa_ireturn rfl ?_
                      refine ⟨rfl, congrArg (fun z => Sum.inl (some (0, z))) ?_⟩
                      rw [if_pos (by omega), show tkq K0 K1 1 = K1 from if_neg (by first | decide | omega)]
                      unfold sgW
                      rw [if_neg (fun z => ?_)]
                      first | omega | (have w1 := (hval z.1).1; omega)
                    · skip
                      exact absurd c269 (by omega)
                  · skip
                    exact absurd c268 (by omega)
                · skip
                  refine wa_iconst ?_
                  refine wa_goto ⟨_, rfl⟩ ?_
                  refine wa_istore_n (n := 3) rfl ?_
                  refine wa_iload_n (n := 3) rfl ?_
                  refine wa_ifeq (w_rg0 (by omega) (by omega)) ⟨_, rfl⟩ (fun c270 => ?_) (fun c270 => ?_)
                  · skip
                    exact absurd c270 (by omega)
                  · skip
                    obtain ⟨v1, v2, v3⟩ := hval (by omega)
                    have v1n : K1.2.2.2.2.1 = 3 := by omega
                    obtain ⟨-, sb, sl, he⟩ := v3 v1n
                    have hbr : 0 ≤ S 362 1 ∧ S 362 1 < 16000 := by omega
                    have hfr1 := (⟨(hfr (S 362 1) sb).1, (hfr (S 362 1) sb).2.2⟩ : 0 ≤ S 284 (S 362 1) ∧ S 284 (S 362 1) + S 285 (S 362 1) ≤ 269632)
                    refine wa_aload_n (n := 0) rfl ?_
                    refine wb_gf4 237 rfl (wy_pr rfl) wt_237 wf_15_137 (v := 362) wl_237_137 ?_
                    refine wa_iload_n (n := 1) rfl ?_
                    refine wb_lald 362 rfl (wy_pr rfl) wt_362 (n := 2) ((w_up_slot (by decide)).trans ((ml_362 hM))) (by omega) (by omega) (v := (S 362 1)) (w_up_slot (by decide)) (fun r271 => ?_)
                    refine wb_l2i_r (y := (S 362 1)) (wb_l2i_id ⟨by omega, by omega⟩) ?_
                    refine wa_goto ⟨_, rfl⟩ ?_
                    refine wa_istore (n := 4) rfl ?_
                    refine wa_iload_n (n := 3) rfl ?_
                    refine wa_ifeq (w_rg0 (by omega) (by omega)) ⟨_, rfl⟩ (fun c272 => ?_) (fun c272 => ?_)
                    · skip
                      exact absurd c272 (by omega)
                    · skip
                      refine wa_iload_n (n := 2) rfl ?_
                      refine wa_i2l (w_rg0 (by omega) (by omega)) ?_
                      refine wa_lconst ?_
                      refine wa_aload_n (n := 0) rfl ?_
                      refine wb_gf4 237 rfl (wy_pr rfl) wt_237 wf_15_23 (v := 285) wl_237_23 ?_
                      refine wa_iload (n := 4) rfl ?_
                      refine wb_iald 285 rfl (wy_pr rfl) wt_285 (n := 16000) ((w_up_slot (by decide)).trans ((ml_285 hM))) (by omega) (by omega) (v := (S 285 (S 362 1))) (w_up_slot (by decide)) (fun r273 => ?_)
                      refine wa_iconst ?_
                      refine wa_isub ?_
                      refine wa_i2l (w_rg0 (by omega) (by omega)) ?_
                      refine wa_cs (M2 := fun _ => False) rfl at_M_in ⟨_, rfl⟩ rfl rfl ⟨trivial, trivial, (Or.inr ⟨wy_pr rfl, fun q => q⟩), trivial, trivial, trivial⟩ trivial (fun _ _ q => False.elim q) (in_ok (S := (w_up S 237 0 0)) (a := i) (lo := 0) (hi := ((S 285 (S 362 1)) - 1)) ⟨by omega, by omega⟩ ⟨by omega, by omega⟩ ⟨by omega, by omega⟩) (fun oq275 Sq275 hp276 q275 => ?_)
                      rcases q275 with ⟨rfl, ⟨rfl, hin274⟩ | ⟨rfl, hin274⟩⟩
                      · skip
                        show wJ _ _ _ _ _ _ _ _ _ _
                        refine wa_ifeq (w_rg0 (by omega) (by omega)) ⟨_, rfl⟩ (fun c277 => ?_) (fun c277 => ?_)
                        · skip
                          exact absurd c277 (by omega)
                        · skip
                          refine wa_aload_n (n := 0) rfl ?_
                          refine wb_gf4 237 rfl (wy_pr rfl) wt_237 wf_15_21 (v := 283) wl_237_21 ?_
                          refine wa_aload_n (n := 0) rfl ?_
                          refine wb_gf4 237 rfl (wy_pr rfl) wt_237 wf_15_22 (v := 284) wl_237_22 ?_
                          refine wa_iload (n := 4) rfl ?_
                          refine wb_iald 284 rfl (wy_pr rfl) wt_284 (n := 16000) ((w_up_slot (by decide)).trans ((ml_284 hM))) (by omega) (by omega) (v := (S 284 (S 362 1))) (w_up_slot (by decide)) (fun r278 => ?_)
                          refine wa_iload_n (n := 2) rfl ?_
                          refine wa_iadd ?_
                          refine wb_bald 283 rfl (wy_pr rfl) wt_283 (n := 269632) ((w_up_slot (by decide)).trans ((ml_283 hM))) (by omega) (by omega) (v := (S 283 ((S 284 (S 362 1)) + i))) (w_up_slot (by decide)) (fun r279 => ?_)
                          refine wa_goto ⟨_, rfl⟩ ?_
                          refine wa_ireturn rfl ?_
                          refine ⟨rfl, congrArg (fun z => Sum.inl (some (0, z))) ?_⟩
                          rw [if_pos (by omega), show tkq K0 K1 1 = K1 from if_neg (by first | decide | omega)]
                          unfold sgW
                          rw [if_pos ⟨by omega, v1n, by omega, by omega⟩]
                          have e1 := he i.toNat (by omega)
                          rw [show ((i.toNat : Nat) : Int) = i by omega] at e1
                          exact e1
                      · skip
                        show wJ _ _ _ _ _ _ _ _ _ _
                        refine wa_ifeq (w_rg0 (by omega) (by omega)) ⟨_, rfl⟩ (fun c280 => ?_) (fun c280 => ?_)
                        · skip
                          refine wa_iconst ?_
                          refine wa_fall ⟨_, rfl⟩ ?_
                          refine wa_ireturn rfl ?_
                          refine ⟨rfl, congrArg (fun z => Sum.inl (some (0, z))) ?_⟩
                          rw [if_pos (by omega), show tkq K0 K1 1 = K1 from if_neg (by first | decide | omega)]
                          unfold sgW
                          rw [if_neg (fun z => ?_)]
                          first | omega | (have w1 := (hval z.1).1; omega)
                        · skip
                          exact absurd c280 (by omega)
              · skip
                exact absurd c265 (by omega)
    · skip
      show wJ _ _ _ _ _ _ _ _ _ _
      refine wa_ifeq (w_rg0 (by omega) (by omega)) ⟨_, rfl⟩ (fun c281 => ?_) (fun c281 => ?_)
      · skip
        refine wa_iconst ?_
        refine wa_fall ⟨_, rfl⟩ ?_
        refine wa_istore_n (n := 3) rfl ?_
        refine wa_iload_n (n := 3) rfl ?_
        refine wa_ifeq (w_rg0 (by omega) (by omega)) ⟨_, rfl⟩ (fun c282 => ?_) (fun c282 => ?_)
        · skip
          refine wa_iconst ?_
          refine wa_fall ⟨_, rfl⟩ ?_
          refine wa_istore (n := 4) rfl ?_
          refine wa_iload_n (n := 3) rfl ?_
          refine wa_ifeq (w_rg0 (by omega) (by omega)) ⟨_, rfl⟩ (fun c283 => ?_) (fun c283 => ?_)
          · skip
            refine wa_iconst ?_
            refine wa_fall ⟨_, rfl⟩ ?_
            refine wa_ireturn rfl ?_
            refine ⟨rfl, congrArg (fun z => Sum.inl (some (0, z))) ?_⟩
            rw [if_pos (by omega), show tkq K0 K1 1 = K1 from if_neg (by first | decide | omega)]
            unfold sgW
            rw [if_neg (fun z => ?_)]
            first | omega | (have w1 := (hval z.1).1; omega)
          · skip
            exact absurd c283 (by omega)
        · skip
          exact absurd c282 (by omega)
      · skip
        exact absurd c281 (by omega)
  · skip
    refine wa_aload_n (n := 0) rfl ?_
    refine wa_iconst ?_
    refine wb_pfi 237 rfl (wy_pr rfl) wt_237 wf_15_0 (n := 0) rfl ⟨(by omega), (by omega)⟩ ?_
    refine wa_iload_n (n := 1) rfl ?_
    refine wa_i2l (w_rg0 (by omega) (by omega)) ?_
    refine wa_lconst ?_
    refine wa_lconst ?_
    refine wa_cs (M2 := fun _ => False) rfl at_M_in ⟨_, rfl⟩ rfl rfl ⟨(Or.inr ⟨wy_pr rfl, fun q => q⟩), trivial, trivial, trivial⟩ trivial (fun _ _ q => False.elim q) (in_ok (S := (w_up S 237 0 0)) (a := t) (lo := 0) (hi := 1) ⟨by omega, by omega⟩ ⟨by omega, by omega⟩ ⟨by omega, by omega⟩) (fun oq402 Sq402 hp403 q402 => ?_)
    rcases q402 with ⟨rfl, ⟨rfl, hin401⟩ | ⟨rfl, hin401⟩⟩
    · skip
      show wJ _ _ _ _ _ _ _ _ _ _
      refine wa_ifeq (w_rg0 (by omega) (by omega)) ⟨_, rfl⟩ (fun c404 => ?_) (fun c404 => ?_)
      · skip
        exact absurd c404 (by omega)
      · skip
        exfalso; omega
    · skip
      show wJ _ _ _ _ _ _ _ _ _ _
      refine wa_ifeq (w_rg0 (by omega) (by omega)) ⟨_, rfl⟩ (fun c405 => ?_) (fun c405 => ?_)
      · skip
        refine wa_iconst ?_
        refine wa_fall ⟨_, rfl⟩ ?_
        refine wa_istore_n (n := 3) rfl ?_
        refine wa_iload_n (n := 3) rfl ?_
        refine wa_ifeq (w_rg0 (by omega) (by omega)) ⟨_, rfl⟩ (fun c406 => ?_) (fun c406 => ?_)
        · skip
          refine wa_iconst ?_
          refine wa_fall ⟨_, rfl⟩ ?_
          refine wa_istore (n := 4) rfl ?_
          refine wa_iload_n (n := 3) rfl ?_
          refine wa_ifeq (w_rg0 (by omega) (by omega)) ⟨_, rfl⟩ (fun c407 => ?_) (fun c407 => ?_)
          · skip
            refine wa_iconst ?_
            refine wa_fall ⟨_, rfl⟩ ?_
            refine wa_ireturn rfl ?_
            refine ⟨rfl, congrArg (fun z => Sum.inl (some (0, z))) ?_⟩
            first | omega | rw [if_neg (by omega)]
          · skip
            exact absurd c407 (by omega)
        · skip
          exact absurd c406 (by omega)
      · skip
        exact absurd c405 (by omega)
end Wnf0
section Wnf
variable {Sb : wS} {xs : List (Nat × List Int32)} {d : Nat} {S0 S Z : wS} {p w m : Nat} {HT : Int → Int} {cs : List hCR} {ms : List hMR} {os : Int → List Int} {X : List (List Int)} {mo t n B B2 oq : Int} {fa : Int → Int} {WE : aA → Prop} {A A2 : aA} {K2 : aK} {ml : List Nat} {k c s kd nms ne ec bh nm en : Int} {b ba : Nat} {ar : List aV} {e : aE} {V Z2 Y : wS} {o : wO} {dn : Int} {H2 : List aH} {N2 : List (List Int)} {E2 : Int → List aE} {C2 : List aQ} {W2 : Int} {c2 : Int → Int} {k2 : Int → Int → Int} {mk rk : Nat → Int → Prop} {K : aK} {T : List aO} {H : List aH} {E : Int → List aE} {gk gb es lo hi a : Int} {r : List aE × Int × Option aE} {A1 : aA} {tl cl : List Int} {sl : Nat → List Int} {L : List aC} {G : Int → aV} {u : aV} {x : List Int} {T2 : List aO} {L2 : List aC} {G2 : Int → aV} {H2 : List aH} {c2 : Int → Int} {y : Int} {Q : wO → wS → Prop} {ps : List (Int × aV)} {k hd wh : Int} {f a9 pn fn md : Int} {vn m9 : Nat} {th : aV} {g : Int} {lp : List aV} {l ds fo g : Int} {mk : Nat → Int → Prop} {C2 : List aQ} {W2 : Int} {RZ : wS → Prop} {N3 : Nat} {SB : wS} {r r0 : Int} {sh : Int} {K9 : aK} {nt : Int} {R2 : List Int} {S2 : Int → aV} {wh en9 : Int} {q b2 pm m9 : Nat} {N : List (List Int)} {K0 K1 : aK}
theorem fi_E {j ci i k : Nat} (hE : ∃ ad hp, w_E wY0 ad S hp) (hp : w_pr wY0 S j) (ht : wY0.ty j = 100 + ci) (hf : (wY0.fk ci)[i]? = some k) : w_rg k (S j (i : Int)) := by
  obtain ⟨ad0, hp0, hE0⟩ := hE
  obtain ⟨vs, -, -, h⟩ := w_obj hE0 hp ht
  exact (h i k hf).2.1
/-- a task whose answer is told only where it has ended -/
def kV0 (K : aK) : aK := (K.1, K.2.1, K.2.2.1, K.2.2.2.1, if K.2.2.2.1 = 2 ∨ K.2.2.2.1 = 3 then K.2.2.2.2 else (0, 0, []))
theorem rTk_0 (h : rTk t S K) : rTk t S (kV0 K) := ⟨h.1, h.2.1, h.2.2.1, h.2.2.2.1, fun e => by
  show rVl S _ _ (if K.2.2.2.1 = 2 ∨ K.2.2.2.1 = 3 then K.2.2.2.2 else (0, 0, []))
  rw [if_pos (show K.2.2.2.1 = 2 ∨ K.2.2.2.1 = 3 from e)]
  exact h.2.2.2.2 e⟩
theorem kV0_q : tkq (kV0 K0) (kV0 K1) t = kV0 (tkq K0 K1 t) := by
  unfold tkq
  by_cases c : t = 0
  · rw [if_pos c, if_pos c]
  · rw [if_neg c, if_neg c]
theorem kV0_v (h : tkE K) : (kV0 K).2.2.2.2 = K.2.2.2.2 := if_pos h
theorem td_r {k b : Int} {v : aV} {T : List aO} {n wh : Int} (h : cVl S k b v) (hb : -9223372036854775808 ≤ b ∧ b ≤ 9223372036854775807) (hv : vG T n v) : -9223372036854775808 ≤ tdV v wh ∧ tdV v wh ≤ 9223372036854775807 := by
  have h0 := hv.1.1
  have h5 := hv.2.2.2.2
  unfold tdV
  by_cases c : wh = 0
  · rw [if_pos c]
    omega
  · rw [if_neg c]
    by_cases c3 : v.1 = 3
    · rw [if_pos c3]
      omega
    · rw [if_neg c3, ← (h.2.1 c3).1]
      exact hb
theorem RM_o (h : RM xs m9 S) : S 1000001 (-1) = 1 := by
  obtain ⟨p, q, b, b2, pm, X, HT, nt, cs, ms, os, mo, fa, A, hp, hA, hk, hC, hw, hT, hX, hv, hV, ho, -⟩ := h
  exact ho.1
theorem RM_k {q : Nat} (h : RM xs m9 S) (e : S 0 10 = (q : Int)) : kL q S := by
  obtain ⟨p, q2, b, b2, pm, X, HT, nt, cs, ms, os, mo, fa, A, hp, hA, hk, hC, hw, hT, hX, hv, hV, ho, -⟩ := h
  have z : q = q2 := by have := hA.2.1.2.1; omega
  rw [z]
  exact ho.2
/-- what a throw, or the law's row, changes -/
def zO (S Z : wS) : Prop := (∀ (j : Nat) (x : Int), j < 4000000 → j ≠ wG → (j ≠ 1000001 ∨ x < 0) → Z j x = S j x) ∧ gI Z ∧ rmR6 S Z
theorem zO_n {ci : Nat} (h : nxO S ci o Z) : zO S Z := by
  obtain ⟨v, -, f, hI, ⟨g0, g1⟩, -, -⟩ := h
  have e : gl Z = gl S := gl_same gl_l (fun a ha => f a (-1) (by have := gl_lt a ha; omega) (by have := gl_lt a ha; unfold wG; omega))
  exact ⟨fun j x j0 j1 _ => f j x j0 j1, hI, rm6_x (rmR_rfl S) (fun a ha => f a (-1) (by omega) (by unfold wG; omega)) (by omega) (by omega)⟩
theorem zO_u {v : Int} (hI : gI S) : zO S (w_up S 1000001 0 v) := by
  have e : gl (w_up S 1000001 0 v) = gl S := gl_same gl_l (fun a ha => w_up_at (by first | decide | omega))
  have e0 : ∀ i : Int, w_up S 1000001 0 v wG i = S wG i := fun i => w_up_slot (by unfold wG; decide)
  exact ⟨fun j x _ _ h => w_up_no (by omega), gI_up hI (by first | decide | omega) (Or.inl (by first | decide | omega)) (Or.inl (Or.inl (by first | decide | omega))), rm6_R (rmR_ag (rmR_rfl S) (fun a ha => w_up_at (by first | decide | omega)) (e0 0) (e0 1))⟩
theorem RM_w {k : Int} (h : RM xs m9 S) (hm : m9 < 512) (hz : zO S Z) : RM xs (m9 + 1) (w_up Z 237 0 k) := by
  obtain ⟨p, q, b, b2, pm, X, HT, nt, cs, ms, os, mo, fa, A, hp, hA, ⟨⟨k1, ⟨k2, k3, k4, k5⟩, k6⟩, k7⟩, ⟨hC, hr⟩, hw, hT, ⟨hX, hX2⟩, hv, -⟩ := id h
  obtain ⟨f, hI, hR⟩ := hz
  have hg : wG = 1000000 := rfl
  have e : gl (w_up Z 237 0 k) = gl Z := gl_same gl_l (fun a ha => w_up_at (by first | decide | omega))
  have e0 : ∀ i : Int, w_up Z 237 0 k wG i = Z wG i := fun i => w_up_slot (by rw [hg]; decide)
  exact RM_q0 h hm (fun j x j0 j1 j2 hn => (w_up_no (fun z => hn (by unfold rQm; omega))).trans (f j x j0 j1 j2)) (fun y hy => (w_up_at (by first | decide | omega)).trans ((f y.1 (-1) (by have := (wy_lt y hy).2; omega) (by rw [hg]; have := (wy_lt y hy).2; omega) (Or.inr (by first | decide | omega))).trans (hA.2.2.1 y hy))) (gI_up hI (by first | decide | omega) (Or.inl (by first | decide | omega)) (Or.inl (Or.inl (by first | decide | omega)))) (rm6_ag hR (fun a ha => w_up_at (by first | decide | omega)) (e0 0) (e0 1))
theorem rRel_o (hr : rRel S S HT cs ms os X mo A S) (hl : kLn (a_K A 0) ∧ kLn (a_K A 1)) (hz : zO S Z) : rRel Z Z HT cs ms os X mo A Z := rRel_z hr hl (fun j x j0 j1 _ => hz.1 j x (by omega) (by unfold wG; omega) (Or.inl (by omega))) (fun y hy => (hz.1 y.1 (-1) (by have := (wy_lt y hy).2; omega) (by unfold wG; have := (wy_lt y hy).2; omega) (Or.inr (by first | decide | omega))).trans (hr.1 y hy)) (fun _ _ _ => rfl)
theorem kc14 {M : Nat → Prop} {k wh : Int} (h : RM xs m9 S) (hm : m9 < 512) (hk : -2147483648 ≤ k ∧ k ≤ 2147483647) (hwh : -2147483648 ≤ wh ∧ wh ≤ 2147483647) : wJ (pe_GA xs) wY0 M (d + 8) t_LL_result ((pe_at t_LL_result.bl 0).getD (0, [])).2 [(0, (2, 0)), (1, (0, k)), (2, (0, wh)), (3, (2, ((1000001 : Nat) : Int)))] [] S (fun o1 Z => ∀ (M2 : Nat → Prop) (d2 : Nat), wJ (pe_GA xs) wY0 M2 (d2 + 1) t_M_result ((pe_at t_M_result.bl 0).getD (0, [])).2 [(0, (2, 237)), (1, (0, k)), (2, (0, wh))] [] Z (fun o2 S2 => (∃ c v : Int, o1 = .inl (some (0, c)) ∧ o2 = .inl (some (1, v)) ∧ S2 237 0 = c ∧ (c = 0 → S2 1000001 0 = v)) ∧ RM xs (m9 + 1) S2)) := by
  obtain ⟨p, q, b, b2, pm, X, HT, nt, cs, ms, os, mo, fa, A, hp, hA, ⟨⟨k1, ⟨k2, k3, k4, k5⟩, k6⟩, k7⟩, ⟨hC, hr⟩, hw, hT, ⟨hX, hX2⟩, hv, -⟩ := id h
  have ho := RM_o h
  refine wJ_E (fun hE => ?_)
  have hl : kLn (a_K A 0) ∧ kLn (a_K A 1) := ⟨hw.1.1.1, hw.1.2.1⟩
  have h21 : S 2 1 ≤ 10000000 := by have := hC.2.2.2.1.2.2.1; omega
  have hrk : ∀ w : Nat, (w = 215 ∨ w = 226) → -2147483648 ≤ S w 14 ∧ S w 14 ≤ 2147483647 := fun w e => by
    rcases e with rfl | rfl
    · exact fi_E (i := 14) (k := 0) hE (wy_pr rfl) wt_215 wf_8_14
    · exact fi_E (i := 14) (k := 0) hE (wy_pr rfl) wt_226 wf_8_14
  have h00 : ∀ t : Int, (t = 0 ∨ t = 1) → (kV0 (a_K A t)).2.2.2.2.1 = 0 → (kV0 (a_K A t)).2.2.2.2.2.1 = 0 := fun t e => by
    have v : wKv (a_T A) (cs.length : Int) (a_K A t) := by
      rcases e with rfl | rfl
      · exact hw.2.2.1.1.1
      · exact hw.2.2.1.1.2
    by_cases c : tkE (a_K A t)
    · rw [kV0_v c]
      exact (v.2.2 c).1.2.2.2.2.1
    · have z : (kV0 (a_K A t)).2.2.2.2 = (0, 0, []) := if_neg c
      rw [z]
      exact fun _ => rfl
  have rng : 0 ≤ k → k < 2 → tkE (tkq (a_K A 0) (a_K A 1) k) → -9223372036854775808 ≤ tdV (tkq (a_K A 0) (a_K A 1) k).2.2.2.2 wh ∧ tdV (tkq (a_K A 0) (a_K A 1) k).2.2.2.2 wh ≤ 9223372036854775807 := fun k0 k1 e => by
    unfold tkq at e ⊢
    by_cases c : k = 0
    · rw [if_pos c] at e ⊢
      exact td_r (hC.2.1.1.2.2.2.2 e) (fi_E (i := 15) (k := 1) hE (wy_pr rfl) wt_215 wf_8_15) (hw.2.2.1.1.1.2.2 e)
    · rw [if_neg c] at e ⊢
      exact td_r (hC.2.1.2.2.2.2.2 e) (fi_E (i := 15) (k := 1) hE (wy_pr rfl) wt_226 wf_8_15) (hw.2.2.1.1.2.2.2 e)
  have key : ∀ Z : wS, zO S Z → ∀ (M2 : Nat → Prop) (d2 : Nat), wJ (pe_GA xs) wY0 M2 (d2 + 1) t_M_result ((pe_at t_M_result.bl 0).getD (0, [])).2 [(0, (2, 237)), (1, (0, k)), (2, (0, wh))] [] Z (fun o Y => (¬ (0 ≤ k ∧ k < 2 ∧ 0 ≤ wh ∧ wh ≤ 1) ∧ w_up Z 237 0 1 = Y ∧ o = .inl (some (1, 0))) ∨ ((0 ≤ k ∧ k < 2 ∧ 0 ≤ wh ∧ wh ≤ 1) ∧ ¬ tkE (tkq (kV0 (a_K A 0)) (kV0 (a_K A 1)) k) ∧ w_up Z 237 0 2 = Y ∧ o = .inl (some (1, 0))) ∨ ((0 ≤ k ∧ k < 2 ∧ 0 ≤ wh ∧ wh ≤ 1) ∧ tkE (tkq (kV0 (a_K A 0)) (kV0 (a_K A 1)) k) ∧ w_up Z 237 0 0 = Y ∧ o = .inl (some (1, tdV (tkq (kV0 (a_K A 0)) (kV0 (a_K A 1)) k).2.2.2.2 wh)))) := fun Z hz M2 d2 => by
    have hrZ := rRel_o hr hl hz
    refine mre hrZ.1 (rTk_0 hrZ.2.1.1) (rTk_0 hrZ.2.1.2) hrZ.2.2.2.1.2.2.1.1.2 hrZ.2.2.2.1.2.2.1.2.1.2 (h00 0 (Or.inl rfl)) (h00 1 (Or.inr rfl)) hk hwh (fun t t0 t1 => ?_)
    rw [hz.1 361 t (by first | decide | omega) (by unfold wG; decide) (Or.inl (by first | decide | omega))]
    exact ir_E hE (wy_pr rfl) wt_361 t0 (by rw [ml_361 hA.2.2.1]; omega)
  refine ll_result (M2 := fun _ => False) (o := 1000001) ⟨Or.inr (by rw [ho]; decide), by unfold wG; decide⟩ wt_out (xre (d := d) hC.1.2.1 hC.1.1 hA.1.2.2.2.2.2.2.1 hC.2.1.1 hC.2.1.2 h21 hk hwh hrk) (fun _ _ q => False.elim q) id id (fun o1 Z hz => ?_)
  rcases hz with ⟨n, x⟩ | ⟨n, e, x⟩ | ⟨n, e, rfl, rfl⟩
  · obtain ⟨v, rfl, -, -, -, ty, pr⟩ := id x
    refine Or.inr (Or.inl ⟨v, rfl, ty, pr, fun M2 d2 => wJ_mono (key Z (zO_n x) M2 d2) (fun o2 S2 z => ?_)⟩)
    rcases z with ⟨-, rfl, rfl⟩ | ⟨c, -⟩ | ⟨c, -⟩
    · exact ⟨⟨1, 0, rfl, rfl, w_up_same _ _ _ _, fun z => absurd z (by first | decide | omega)⟩, RM_w h hm (zO_n x)⟩
    · exact absurd c n
    · exact absurd c n
  · obtain ⟨v, rfl, -, -, -, ty, pr⟩ := id x
    refine Or.inr (Or.inr ⟨v, rfl, ty, pr, fun M2 d2 => wJ_mono (key Z (zO_n x) M2 d2) (fun o2 S2 z => ?_)⟩)
    rcases z with ⟨c, -⟩ | ⟨-, -, rfl, rfl⟩ | ⟨-, c, -⟩
    · exact absurd n c
    · exact ⟨⟨2, 0, rfl, rfl, w_up_same _ _ _ _, fun z => absurd z (by first | decide | omega)⟩, RM_w h hm (zO_n x)⟩
    · rw [kV0_q] at c
      exact absurd c e
  · refine Or.inl ⟨_, rfl, rng n.1 n.2.1 e, ho, fun M2 d2 => wJ_mono (key _ (zO_u hC.1.2.1) M2 d2) (fun o2 S2 z => ?_)⟩
    rcases z with ⟨c, -⟩ | ⟨-, c, -⟩ | ⟨-, -, rfl, rfl⟩
    · exact absurd n c
    · rw [kV0_q] at c
      exact absurd e c
    · exact ⟨⟨0, _, rfl, rfl, w_up_same _ _ _ _, fun _ => (w_up_slot (by first | decide | omega)).trans ((w_up_same _ _ _ _).trans (by rw [kV0_q, kV0_v e]))⟩, RM_w h hm (zO_u hC.1.2.1)⟩
theorem kc15 {M : Nat → Prop} {k i : Int} (h : RM xs m9 S) (hm : m9 < 512) (hk : -2147483648 ≤ k ∧ k ≤ 2147483647) (hi : -2147483648 ≤ i ∧ i ≤ 2147483647) : wJ (pe_GA xs) wY0 M (d + 1) t_X_sign ((pe_at t_X_sign.bl 0).getD (0, [])).2 [(0, (2, 0)), (1, (0, k)), (2, (0, i))] [] S (fun o1 Z => ∀ (M2 : Nat → Prop) (d2 : Nat), wJ (pe_GA xs) wY0 M2 (d2 + 1) t_M_sign ((pe_at t_M_sign.bl 0).getD (0, [])).2 [(0, (2, 237)), (1, (0, k)), (2, (0, i))] [] Z (fun o2 S2 => (∃ v : Int, o1 = .inl (some (0, v)) ∧ o2 = .inl (some (0, v))) ∧ RM xs (m9 + 1) S2)) := by
  obtain ⟨p, q, b, b2, pm, X, HT, nt, cs, ms, os, mo, fa, A, hp, hA, ⟨⟨k1, ⟨k2, k3, k4, k5⟩, k6⟩, k7⟩, ⟨hC, hr⟩, hw, hT, ⟨hX, hX2⟩, hv, -⟩ := id h
  refine wJ_E (fun hE => ?_)
  have h21 : S 2 1 ≤ 10000000 := by have := hC.2.2.2.1.2.2.1; omega
  have h3l : S 2 1 ≤ S 3 (-1) ∧ S 3 (-1) ≤ 2147483647 := ⟨k1.1.1.1.2.1.2, by have := k1.2.2.1.2; omega⟩
  have hrk : ∀ w : Nat, (w = 215 ∨ w = 226) → -2147483648 ≤ S w 14 ∧ S w 14 ≤ 2147483647 := fun w e => by
    rcases e with rfl | rfl
    · exact fi_E (i := 14) (k := 0) hE (wy_pr rfl) wt_215 wf_8_14
    · exact fi_E (i := 14) (k := 0) hE (wy_pr rfl) wt_226 wf_8_14
  refine wJ_mono (xsg hC.1.1 hA.1.2.2.2.2.2.2.1 hC.2.1.1 hC.2.1.2 h21 h3l hk hi hrk) (fun o1 Z hz => ?_)
  obtain ⟨rfl, rfl⟩ := hz
  intro M2 d2
  have tt := hr.2.2.2.1.2.2.1
  exact wJ_mono (msgq hA.2.2.1 hr.2.1.1 hr.2.1.2 tt.1.2 tt.2.1.2 tt.2.2 hk hi (fun t t0 t1 => ir_E hE (wy_pr rfl) wt_361 t0 (by rw [ml_361 hA.2.2.1]; omega))) (fun o2 S2 hz => ⟨⟨_, rfl, hz.2⟩, by rw [← hz.1]; exact RM_t h hm⟩)
end Wnf
