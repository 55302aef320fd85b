/-! PART io: start, of the reference. -/
section Wio
variable {xs : List (Nat × List Int32)} {Mm : Nat → Prop} {d : Nat} {S Z A : wS} {K K0 K1 : aK} {T : List aO} {L : List aC} {G : Int → aV} {sl : Nat → List Int} {t u f : Int} {Q : wO → wS → Prop}
theorem mbg (hM : w_ML S) (h33 : 0 ≤ S 237 33 ∧ S 237 33 ≤ 16) (h69 : S 237 69 = (L.length : Int)) (hL : (L.length : Int) ≤ S 237 62) (hu1 : 0 ≤ S 237 62 ∧ S 237 62 ≤ 8000) (hv1 : 0 ≤ S 237 63 ∧ S 237 63 ≤ 60000) (h94 : 0 ≤ S 237 94 ∧ S 237 94 ≤ 60000) (hfu : ∀ u : Int, 0 ≤ u → u < S 237 33 → (0 ≤ S 294 u ∧ S 294 u < 400) ∧ S 296 (S 294 u) = 0) (ht : -2147483648 ≤ t ∧ t ≤ 2147483647) (hu : -2147483648 ≤ u ∧ u ≤ 2147483647) (h0 : ¬ ((0 ≤ t ∧ t < 2 ∧ 0 ≤ u ∧ u < S 237 33) ∧ S 357 t ≠ 1 ∧ S 237 62 + 1 ≤ 8000) → Q (.inl (some (0, 0))) (w_up S 237 0 0)) (h1 : ((0 ≤ t ∧ t < 2 ∧ 0 ≤ u ∧ u < S 237 33) ∧ S 357 t ≠ 1 ∧ S 237 62 + 1 ≤ 8000) → ∀ A : wS, mv_ag (S 237 94) (S 237 63) 0 (S 295 (S 294 u)) 0 0 (w_up (w_up (w_up (w_up (w_up (w_up (w_up (w_up (w_up (w_up (w_up (w_up S 237 0 0) 358 t 0) 359 t 0) 360 t 0) 237 151 t) 237 152 (2100 * t)) 237 153 (200 * t)) 237 154 (((200 * t) + 0) - 1)) 237 69 ((L.length : Int) + 1)) 237 62 (S 237 62 + 1)) 333 (L.length : Int) (-1)) 334 (L.length : Int) (S 237 94)) A → Q (.inl (some (0, 1))) (w_up (w_up (w_up (w_up (w_up (w_up (w_up (w_up (w_up (w_up (w_up A 237 154 ((200 * t) + 0)) 358 t (0 + 1)) 365 ((200 * t) + 0) (S 294 u)) 366 ((200 * t) + 0) 0) 367 ((200 * t) + 0) (L.length : Int)) 368 ((200 * t) + 0) 0) 369 ((200 * t) + 0) 0) 370 ((200 * t) + 0) (-1)) 371 ((200 * t) + 0) 0) 372 ((200 * t) + 0) 0) 357 t 1)) : wJ (pe_GA xs) wY0 Mm (d + 3) t_M_start ((pe_at t_M_start.bl 0).getD (0, [])).2 [(0, (2, 237)), (1, (0, t)), (2, (0, u))] [] S Q := by
  refine wa_aload_n (n := 0) rfl ?_
  refine wa_iconst ?_
  refine wb_pfi 237 rfl (wy_pr rfl) wt_237 wf_15_0 (n := 0) rfl ⟨(by omega), (by omega)⟩ ?_
  refine wa_iload_n (n := 1) rfl ?_
  refine wa_i2l (w_rg0 (by omega) (by omega)) ?_
  refine wb_lconst (m := 0) rfl ?_
  refine wb_lconst (m := 1) rfl ?_
  refine wa_cs (M2 := fun _ => False) rfl at_M_in ⟨_, rfl⟩ rfl rfl ⟨(Or.inr ⟨wy_pr rfl, fun q => q⟩), trivial, trivial, trivial⟩ trivial (fun _ _ q => False.elim q) (in_ok (S := (w_up S 237 0 0)) (a := t) (lo := 0) (hi := 1) ⟨by omega, by omega⟩ ⟨by omega, by omega⟩ ⟨by omega, by omega⟩) (fun oq2 Sq2 hp3 q2 => ?_)
  rcases q2 with ⟨rfl, ⟨rfl, hin1⟩ | ⟨rfl, hin1⟩⟩
  · skip
    show wJ _ _ _ _ _ _ _ _ _ _
    refine wa_ifeq (w_rg0 (by omega) (by omega)) ⟨_, rfl⟩ (fun c4 => ?_) (fun c4 => ?_)
    · skip
      exact absurd c4 (by omega)
    · skip
      refine wa_iload_n (n := 2) rfl ?_
      refine wa_i2l (w_rg0 (by omega) (by omega)) ?_
      refine wb_lconst (m := 0) rfl ?_
      refine wa_aload_n (n := 0) rfl ?_
      refine wb_gfi 237 rfl (wy_pr rfl) wt_237 wf_15_33 (v := (S 237 33)) (w_up_at (by decide)) (fun r5 => ?_)
      refine wa_iconst ?_
      refine wa_isub ?_
      refine wa_i2l (w_rg0 (by omega) (by omega)) ?_
      refine wa_cs (M2 := fun _ => False) rfl at_M_in ⟨_, rfl⟩ rfl rfl ⟨(Or.inr ⟨wy_pr rfl, fun q => q⟩), trivial, trivial, trivial⟩ trivial (fun _ _ q => False.elim q) (in_ok (S := (w_up S 237 0 0)) (a := u) (lo := 0) (hi := ((S 237 33) - 1)) ⟨by omega, by omega⟩ ⟨by omega, by omega⟩ ⟨by omega, by omega⟩) (fun oq7 Sq7 hp8 q7 => ?_)
      rcases q7 with ⟨rfl, ⟨rfl, hin6⟩ | ⟨rfl, hin6⟩⟩
      · skip
        show wJ _ _ _ _ _ _ _ _ _ _
        refine wa_ifeq (w_rg0 (by omega) (by omega)) ⟨_, rfl⟩ (fun c9 => ?_) (fun c9 => ?_)
        · skip
          exact absurd c9 (by omega)
        · skip
          refine wa_aload_n (n := 0) rfl ?_
          refine wb_gf4 237 rfl (wy_pr rfl) wt_237 wf_15_132 (v := 357) wl_237_132 ?_
          refine wa_iload_n (n := 1) rfl ?_
          refine wb_iald 357 rfl (wy_pr rfl) wt_357 (n := 2) ((w_up_slot (by decide)).trans ((ml_357 hM))) (by omega) (by omega) (v := (S 357 t)) (w_up_slot (by decide)) (fun r10 => ?_)
          refine wa_iconst ?_
          refine wa_icmpeq (w_rg0 (by omega) (by omega)) (w_rg0 (by omega) (by omega)) ⟨_, rfl⟩ (fun c11 => ?_) (fun c11 => ?_)
          · skip
            refine wa_iconst ?_
            refine wa_zreturn rfl (Or.inl rfl) ?_
            exact h0 (fun z => by have := z.1; have := z.2; omega)
          · skip
            obtain ⟨hfu1, hfu2⟩ := hfu u (by omega) (by omega)
            refine wa_aload_n (n := 0) rfl ?_
            refine wa_aload_n (n := 0) rfl ?_
            refine wb_gf4 237 rfl (wy_pr rfl) wt_237 wf_15_36 (v := 294) wl_237_36 ?_
            refine wa_iload_n (n := 2) rfl ?_
            refine wb_iald 294 rfl (wy_pr rfl) wt_294 (n := 16) ((w_up_slot (by decide)).trans ((ml_294 hM))) (by omega) (by omega) (v := (S 294 u)) (w_up_slot (by decide)) (fun r12 => ?_)
            refine wa_iconst ?_
            refine wa_cv 237 rfl (wy_pr rfl) wt_237 (M2 := fun _ => False) rfl at_M_hasRoomForCall ⟨_, rfl⟩ rfl rfl ⟨(Or.inr ⟨wy_pr rfl, fun q => q⟩), trivial, trivial, trivial⟩ trivial (fun _ _ q => False.elim q) ?_ (fun _ _ _ q => q)
            refine wa_aload_n (n := 0) rfl ?_
            refine wa_iconst ?_
            refine wa_iload_n (n := 2) rfl ?_
            refine wa_iadd ?_
            refine wa_cv 237 rfl (wy_pr rfl) wt_237 (M2 := fun _ => False) rfl at_M_hasRoomFor ⟨_, rfl⟩ rfl rfl ⟨(Or.inr ⟨wy_pr rfl, fun q => q⟩), trivial, trivial, trivial⟩ trivial (fun _ _ q => False.elim q) ?_ (fun _ _ _ q => q)
            refine wa_aload_n (n := 0) rfl ?_
            refine wb_gfi 237 rfl (wy_pr rfl) wt_237 wf_15_62 (v := (S 237 62)) (w_up_at (by decide)) (fun r13 => ?_)
            refine wa_iload_n (n := 1) rfl ?_
            refine wa_iadd ?_
            refine wa_sipush (by omega) ?_
            refine wa_icmpgt (w_rg0 (by omega) (by omega)) (w_rg0 (by omega) (by omega)) ⟨_, rfl⟩ (fun c14 => ?_) (fun c14 => ?_)
            · skip
              refine wa_iconst ?_
              refine wa_fall ⟨_, rfl⟩ ?_
              refine wa_zreturn rfl (Or.inl rfl) ?_
              show wJ _ _ _ _ _ _ _ _ _ _
              refine wa_ifeq (w_rg0 (by omega) (by omega)) ⟨_, rfl⟩ (fun c15 => ?_) (fun c15 => ?_)
              · skip
                refine wa_iconst ?_
                refine wa_fall ⟨_, rfl⟩ ?_
                refine wa_zreturn rfl (Or.inl rfl) ?_
                show wJ _ _ _ _ _ _ _ _ _ _
                refine wa_ifne (w_rg0 (by omega) (by omega)) ⟨_, rfl⟩ (fun c16 => ?_) (fun c16 => ?_)
                · skip
                  exact absurd c16 (by omega)
                · skip
                  refine wa_fall ⟨_, rfl⟩ ?_
                  refine wa_iconst ?_
                  refine wa_zreturn rfl (Or.inl rfl) ?_
                  exact h0 (fun z => by have := z.1; have := z.2; omega)
              · skip
                exact absurd c15 (by omega)
            · skip
              refine wa_iconst ?_
              refine wa_goto ⟨_, rfl⟩ ?_
              refine wa_zreturn rfl (Or.inr rfl) ?_
              show wJ _ _ _ _ _ _ _ _ _ _
              refine wa_ifeq (w_rg0 (by omega) (by omega)) ⟨_, rfl⟩ (fun c17 => ?_) (fun c17 => ?_)
              · skip
                exact absurd c17 (by omega)
              · skip
                refine wa_aload_n (n := 0) rfl ?_
                refine wb_gfi 237 rfl (wy_pr rfl) wt_237 wf_15_63 (v := (S 237 63)) (w_up_at (by decide)) (fun r18 => ?_)
                refine wa_aload_n (n := 0) rfl ?_
                refine wb_gf4 237 rfl (wy_pr rfl) wt_237 wf_15_38 (v := 296) wl_237_38 ?_
                refine wa_iload_n (n := 1) rfl ?_
                refine wb_iald 296 rfl (wy_pr rfl) wt_296 (n := 400) ((w_up_slot (by decide)).trans ((ml_296 hM))) (by omega) (by omega) (v := (S 296 (S 294 u))) (w_up_slot (by decide)) (fun r19 => ?_)
                refine wa_iadd ?_
                refine wb_ki (n := 60000) rfl ?_
                refine wa_icmpgt (w_rg0 (by omega) (by omega)) (w_rg0 (by omega) (by omega)) ⟨_, rfl⟩ (fun c20 => ?_) (fun c20 => ?_)
                · skip
                  refine wa_iconst ?_
                  refine wa_fall ⟨_, rfl⟩ ?_
                  refine wa_zreturn rfl (Or.inl rfl) ?_
                  show wJ _ _ _ _ _ _ _ _ _ _
                  refine wa_ifne (w_rg0 (by omega) (by omega)) ⟨_, rfl⟩ (fun c21 => ?_) (fun c21 => ?_)
                  · skip
                    exact absurd c21 (by omega)
                  · skip
                    refine wa_fall ⟨_, rfl⟩ ?_
                    refine wa_iconst ?_
                    refine wa_zreturn rfl (Or.inl rfl) ?_
                    exact h0 (fun z => by have := z.1; have := z.2; omega)
                · skip
                  refine wa_iconst ?_
                  refine wa_goto ⟨_, rfl⟩ ?_
                  refine wa_zreturn rfl (Or.inr rfl) ?_
                  show wJ _ _ _ _ _ _ _ _ _ _
                  refine wa_ifne (w_rg0 (by omega) (by omega)) ⟨_, rfl⟩ (fun c22 => ?_) (fun c22 => ?_)
                  · skip
                    refine wa_aload_n (n := 0) rfl ?_
                    refine wb_gf4 237 rfl (wy_pr rfl) wt_237 wf_15_133 (v := 358) wl_237_133 ?_
                    refine wa_iload_n (n := 1) rfl ?_
                    refine wa_iconst ?_
                    refine wb_iast 358 rfl (wy_pr rfl) wt_358 (n := 2) ((w_up_slot (by decide)).trans ((ml_358 hM))) (by omega) (by omega) ⟨(by omega), (by omega)⟩ ?_
                    refine wa_aload_n (n := 0) rfl ?_
                    refine wb_gf4 237 rfl (wy_pr rfl) wt_237 wf_15_134 (v := 359) wl_237_134 ?_
                    refine wa_iload_n (n := 1) rfl ?_
                    refine wa_iconst ?_
                    refine wb_iast 359 rfl (wy_pr rfl) wt_359 (n := 2) ((w_up_slot (by decide)).trans ((w_up_slot (by decide)).trans ((ml_359 hM)))) (by omega) (by omega) ⟨(by omega), (by omega)⟩ ?_
                    refine wa_aload_n (n := 0) rfl ?_
                    refine wb_gf4 237 rfl (wy_pr rfl) wt_237 wf_15_135 (v := 360) wl_237_135 ?_
                    refine wa_iload_n (n := 1) rfl ?_
                    refine wa_iconst ?_
                    refine wb_iast 360 rfl (wy_pr rfl) wt_360 (n := 2) ((w_up_slot (by decide)).trans ((w_up_slot (by decide)).trans ((w_up_slot (by decide)).trans ((ml_360 hM))))) (by omega) (by omega) ⟨(by omega), (by omega)⟩ ?_
                    refine wa_aload_n (n := 0) rfl ?_
                    refine wa_iload_n (n := 1) rfl ?_
                    refine wa_cv 237 rfl (wy_pr rfl) wt_237 (M2 := fun _ => False) rfl at_M_takesTask ⟨_, rfl⟩ rfl rfl ⟨(Or.inr ⟨wy_pr rfl, fun q => q⟩), trivial, trivial, trivial⟩ trivial (fun _ _ q => False.elim q) ?_ (fun _ _ _ q => q)
                    refine wa_aload_n (n := 0) rfl ?_
                    refine wa_iload_n (n := 1) rfl ?_
                    refine wb_pfi 237 rfl (wy_pr rfl) wt_237 wf_15_151 (n := 151) rfl ⟨(by omega), (by omega)⟩ ?_
                    refine wa_aload_n (n := 0) rfl ?_
                    refine wa_sipush (by omega) ?_
                    refine wa_iload_n (n := 1) rfl ?_
                    refine wa_imul ?_
                    refine wb_pfi 237 rfl (wy_pr rfl) wt_237 wf_15_152 (n := 152) rfl ⟨(by omega), (by omega)⟩ ?_
                    refine wa_aload_n (n := 0) rfl ?_
                    refine wa_sipush (by omega) ?_
                    refine wa_iload_n (n := 1) rfl ?_
                    refine wa_imul ?_
                    refine wb_pfi 237 rfl (wy_pr rfl) wt_237 wf_15_153 (n := 153) rfl ⟨(by omega), (by omega)⟩ ?_
                    refine wa_aload_n (n := 0) rfl ?_
                    refine wa_aload_n (n := 0) rfl ?_
                    refine wb_gfi 237 rfl (wy_pr rfl) wt_237 wf_15_153 (v := (200 * t)) (w_up_same _ _ _ _) (fun r23 => ?_)
                    refine wa_aload_n (n := 0) rfl ?_
                    refine wb_gf4 237 rfl (wy_pr rfl) wt_237 wf_15_133 (v := 358) wl_237_133 ?_
                    refine wa_iload_n (n := 1) rfl ?_
                    refine wb_iald 358 rfl (wy_pr rfl) wt_358 (n := 2) ((w_up_slot (by decide)).trans ((w_up_slot (by decide)).trans ((w_up_slot (by decide)).trans ((w_up_slot (by decide)).trans ((w_up_slot (by decide)).trans ((w_up_at (by omega)).trans ((w_up_slot (by decide)).trans ((ml_358 hM))))))))) (by omega) (by omega) (v := 0) ((w_up_slot (by decide)).trans ((w_up_slot (by decide)).trans ((w_up_slot (by decide)).trans ((w_up_slot (by decide)).trans ((w_up_slot (by decide)).trans (w_up_same _ _ _ _)))))) (fun r24 => ?_)
                    refine wa_iadd ?_
                    refine wa_iconst ?_
                    refine wa_isub ?_
                    refine wb_pfi 237 rfl (wy_pr rfl) wt_237 wf_15_154 (n := 154) rfl ⟨(by omega), (by omega)⟩ ?_
                    refine wa_return rfl ?_
                    show wJ _ _ _ _ _ _ _ _ _ _
                    refine wa_aload_n (n := 0) rfl ?_
                    refine wa_aload_n (n := 0) rfl ?_
                    refine wb_gf4 237 rfl (wy_pr rfl) wt_237 wf_15_36 (v := 294) wl_237_36 ?_
                    refine wa_iload_n (n := 2) rfl ?_
                    refine wb_iald 294 rfl (wy_pr rfl) wt_294 (n := 16) ((w_up_slot (by decide)).trans ((w_up_slot (by decide)).trans ((w_up_slot (by decide)).trans ((w_up_slot (by decide)).trans ((w_up_slot (by decide)).trans ((w_up_slot (by decide)).trans ((w_up_slot (by decide)).trans ((w_up_slot (by decide)).trans ((ml_294 hM)))))))))) (by omega) (by omega) (v := (S 294 u)) ((w_up_slot (by decide)).trans ((w_up_slot (by decide)).trans ((w_up_slot (by decide)).trans ((w_up_slot (by decide)).trans ((w_up_slot (by decide)).trans ((w_up_slot (by decide)).trans ((w_up_slot (by decide)).trans (w_up_slot (by decide))))))))) (fun r25 => ?_)
                    refine wa_aload_n (n := 0) rfl ?_
                    refine wa_aload_n (n := 0) rfl ?_
                    refine wb_gf4 237 rfl (wy_pr rfl) wt_237 wf_15_36 (v := 294) wl_237_36 ?_
                    refine wa_iload_n (n := 2) rfl ?_
                    refine wb_iald 294 rfl (wy_pr rfl) wt_294 (n := 16) ((w_up_slot (by decide)).trans ((w_up_slot (by decide)).trans ((w_up_slot (by decide)).trans ((w_up_slot (by decide)).trans ((w_up_slot (by decide)).trans ((w_up_slot (by decide)).trans ((w_up_slot (by decide)).trans ((w_up_slot (by decide)).trans ((ml_294 hM)))))))))) (by omega) (by omega) (v := (S 294 u)) ((w_up_slot (by decide)).trans ((w_up_slot (by decide)).trans ((w_up_slot (by decide)).trans ((w_up_slot (by decide)).trans ((w_up_slot (by decide)).trans ((w_up_slot (by decide)).trans ((w_up_slot (by decide)).trans (w_up_slot (by decide))))))))) (fun r26 => ?_)
                    refine wa_iconst ?_
                    refine wa_iconst ?_
                    refine wa_iconst ?_
                    refine wa_cv 237 rfl (wy_pr rfl) wt_237 (M2 := fun _ => False) rfl at_M_newCall ⟨_, rfl⟩ rfl rfl ⟨(Or.inr ⟨wy_pr rfl, fun q => q⟩), trivial, trivial, trivial⟩ ⟨trivial, (Or.inr ⟨wy_pr rfl, fun q => q⟩), trivial⟩ (fun _ _ q => False.elim q) (nc_c (S := (w_up (w_up (w_up (w_up (w_up (w_up (w_up (w_up S 237 0 0) 358 t 0) 359 t 0) 360 t 0) 237 151 t) 237 152 (2100 * t)) 237 153 (200 * t)) 237 154 (((200 * t) + 0) - 1))) (f := (S 294 u)) (ar := -1) (fr := 0) (en := 0) (n := (L.length : Int)) (u := S 237 94) (u0 := S 237 62) (v0 := S 237 63) (vs := 0) (pn := S 295 (S 294 u)) (w_ML_up (w_ML_up (w_ML_up (w_ML_up (w_ML_up (w_ML_up (w_ML_up (w_ML_up hM (by omega)) (by omega)) (by omega)) (by omega)) (by omega)) (by omega)) (by omega)) (by omega)) h69 ⟨by omega, by omega⟩ rfl hu1 rfl rfl hfu1 hfu2 rfl (by decide) ⟨by omega, by omega⟩ ⟨by omega, by omega⟩ (by decide) (by decide) (by decide)) (fun oq27 Sq27 hp28 q27 => ?_)
                    rcases q27 with ⟨rfl, hmv⟩
                    show wJ _ _ _ _ _ _ _ _ _ _
                    have hT0 := hmv.2.2
                    have fr : ∀ (j : Nat) (x : Int), (j ≠ 237 ∨ (x ≠ 94 ∧ x ≠ 63 ∧ x ≠ 69 ∧ x ≠ 62)) → ((j ≠ 333 ∧ j ≠ 334) ∨ x ≠ (L.length : Int)) → Sq27 j x = (w_up (w_up (w_up (w_up (w_up (w_up (w_up (w_up S 237 0 0) 358 t 0) 359 t 0) 360 t 0) 237 151 t) 237 152 (2100 * t)) 237 153 (200 * t)) 237 154 (((200 * t) + 0) - 1)) j x := fun j x j1 j2 => (hT0 j x (by omega) (by omega)).trans ((w_up_no (by omega)).trans ((w_up_no (by omega)).trans ((w_up_no (by omega)).trans (w_up_no (by omega)))))
                    refine wa_iconst ?_
                    refine wb_lconst (m := 0) rfl ?_
                    refine wa_iconst ?_
                    refine wa_cv 237 rfl (wy_pr rfl) wt_237 (M2 := fun _ => False) rfl at_M_enters ⟨_, rfl⟩ rfl rfl ⟨(Or.inr ⟨wy_pr rfl, fun q => q⟩), trivial, trivial, trivial⟩ trivial (fun _ _ q => False.elim q) ?_ (fun _ _ _ q => q)
                    refine wa_aload_n (n := 0) rfl ?_
                    refine wa_aload_n (n := 0) rfl ?_
                    refine wb_gfi 237 rfl (wy_pr rfl) wt_237 wf_15_153 (v := (200 * t)) (((fr 237 153 (by omega) (by omega)).trans ((w_up_at (by decide)).trans (w_up_same _ _ _ _)))) (fun r29 => ?_)
                    refine wa_aload_n (n := 0) rfl ?_
                    refine wb_gf4 237 rfl (wy_pr rfl) wt_237 wf_15_133 (v := 358) wl_237_133 ?_
                    refine wa_aload_n (n := 0) rfl ?_
                    refine wb_gfi 237 rfl (wy_pr rfl) wt_237 wf_15_151 (v := t) (((fr 237 151 (by omega) (by omega)).trans ((w_up_at (by decide)).trans ((w_up_at (by decide)).trans ((w_up_at (by decide)).trans (w_up_same _ _ _ _)))))) (fun r30 => ?_)
                    refine wb_iald 358 rfl (wy_pr rfl) wt_358 (n := 2) (((fr 358 (-1) (by omega) (by omega)).trans ((w_up_slot (by decide)).trans ((w_up_slot (by decide)).trans ((w_up_slot (by decide)).trans ((w_up_slot (by decide)).trans ((w_up_slot (by decide)).trans ((w_up_slot (by decide)).trans ((w_up_at (by omega)).trans ((w_up_slot (by decide)).trans ((ml_358 hM)))))))))))) (by omega) (by omega) (v := 0) (((fr 358 t (by omega) (by omega)).trans ((w_up_slot (by decide)).trans ((w_up_slot (by decide)).trans ((w_up_slot (by decide)).trans ((w_up_slot (by decide)).trans ((w_up_slot (by decide)).trans ((w_up_slot (by decide)).trans (w_up_same _ _ _ _))))))))) (fun r31 => ?_)
                    refine wa_iadd ?_
                    refine wb_pfi 237 rfl (wy_pr rfl) wt_237 wf_15_154 (n := 154) rfl ⟨(by omega), (by omega)⟩ ?_
                    refine wa_aload_n (n := 0) rfl ?_
                    refine wb_gf4 237 rfl (wy_pr rfl) wt_237 wf_15_133 (v := 358) wl_237_133 ?_
                    refine wa_aload_n (n := 0) rfl ?_
                    refine wb_gfi 237 rfl (wy_pr rfl) wt_237 wf_15_151 (v := t) ((w_up_at (by decide)).trans (((fr 237 151 (by omega) (by omega)).trans ((w_up_at (by decide)).trans ((w_up_at (by decide)).trans ((w_up_at (by decide)).trans (w_up_same _ _ _ _))))))) (fun r32 => ?_)
                    refine wa_dup2 (by decide) (by decide) ?_
                    refine wb_iald 358 rfl (wy_pr rfl) wt_358 (n := 2) ((w_up_slot (by decide)).trans (((fr 358 (-1) (by omega) (by omega)).trans ((w_up_slot (by decide)).trans ((w_up_slot (by decide)).trans ((w_up_slot (by decide)).trans ((w_up_slot (by decide)).trans ((w_up_slot (by decide)).trans ((w_up_slot (by decide)).trans ((w_up_at (by omega)).trans ((w_up_slot (by decide)).trans ((ml_358 hM))))))))))))) (by omega) (by omega) (v := 0) ((w_up_slot (by decide)).trans (((fr 358 t (by omega) (by omega)).trans ((w_up_slot (by decide)).trans ((w_up_slot (by decide)).trans ((w_up_slot (by decide)).trans ((w_up_slot (by decide)).trans ((w_up_slot (by decide)).trans ((w_up_slot (by decide)).trans (w_up_same _ _ _ _)))))))))) (fun r33 => ?_)
                    refine wa_iconst ?_
                    refine wa_iadd ?_
                    refine wb_iast 358 rfl (wy_pr rfl) wt_358 (n := 2) ((w_up_slot (by decide)).trans (((fr 358 (-1) (by omega) (by omega)).trans ((w_up_slot (by decide)).trans ((w_up_slot (by decide)).trans ((w_up_slot (by decide)).trans ((w_up_slot (by decide)).trans ((w_up_slot (by decide)).trans ((w_up_slot (by decide)).trans ((w_up_at (by omega)).trans ((w_up_slot (by decide)).trans ((ml_358 hM))))))))))))) (by omega) (by omega) ⟨(by omega), (by omega)⟩ ?_
                    refine wa_aload_n (n := 0) rfl ?_
                    refine wb_gf4 237 rfl (wy_pr rfl) wt_237 wf_15_140 (v := 365) wl_237_140 ?_
                    refine wa_aload_n (n := 0) rfl ?_
                    refine wb_gfi 237 rfl (wy_pr rfl) wt_237 wf_15_154 (v := ((200 * t) + 0)) ((w_up_slot (by decide)).trans (w_up_same _ _ _ _)) (fun r34 => ?_)
                    refine wa_iload_n (n := 1) rfl ?_
                    refine wb_iast 365 rfl (wy_pr rfl) wt_365 (n := 400) ((w_up_slot (by decide)).trans ((w_up_slot (by decide)).trans (((fr 365 (-1) (by omega) (by omega)).trans ((w_up_slot (by decide)).trans ((w_up_slot (by decide)).trans ((w_up_slot (by decide)).trans ((w_up_slot (by decide)).trans ((w_up_slot (by decide)).trans ((w_up_slot (by decide)).trans ((w_up_slot (by decide)).trans ((w_up_slot (by decide)).trans ((ml_365 hM)))))))))))))) (by omega) (by omega) ⟨(by omega), (by omega)⟩ ?_
                    refine wa_aload_n (n := 0) rfl ?_
                    refine wb_gf4 237 rfl (wy_pr rfl) wt_237 wf_15_141 (v := 366) wl_237_141 ?_
                    refine wa_aload_n (n := 0) rfl ?_
                    refine wb_gfi 237 rfl (wy_pr rfl) wt_237 wf_15_154 (v := ((200 * t) + 0)) ((w_up_slot (by decide)).trans ((w_up_slot (by decide)).trans (w_up_same _ _ _ _))) (fun r35 => ?_)
                    refine wa_iconst ?_
                    refine wb_iast 366 rfl (wy_pr rfl) wt_366 (n := 400) ((w_up_slot (by decide)).trans ((w_up_slot (by decide)).trans ((w_up_slot (by decide)).trans (((fr 366 (-1) (by omega) (by omega)).trans ((w_up_slot (by decide)).trans ((w_up_slot (by decide)).trans ((w_up_slot (by decide)).trans ((w_up_slot (by decide)).trans ((w_up_slot (by decide)).trans ((w_up_slot (by decide)).trans ((w_up_slot (by decide)).trans ((w_up_slot (by decide)).trans ((ml_366 hM))))))))))))))) (by omega) (by omega) ⟨(by omega), (by omega)⟩ ?_
                    refine wa_aload_n (n := 0) rfl ?_
                    refine wb_gf4 237 rfl (wy_pr rfl) wt_237 wf_15_142 (v := 367) wl_237_142 ?_
                    refine wa_aload_n (n := 0) rfl ?_
                    refine wb_gfi 237 rfl (wy_pr rfl) wt_237 wf_15_154 (v := ((200 * t) + 0)) ((w_up_slot (by decide)).trans ((w_up_slot (by decide)).trans ((w_up_slot (by decide)).trans (w_up_same _ _ _ _)))) (fun r36 => ?_)
                    refine wa_iload_n (n := 2) rfl ?_
                    refine wb_iast 367 rfl (wy_pr rfl) wt_367 (n := 400) ((w_up_slot (by decide)).trans ((w_up_slot (by decide)).trans ((w_up_slot (by decide)).trans ((w_up_slot (by decide)).trans (((fr 367 (-1) (by omega) (by omega)).trans ((w_up_slot (by decide)).trans ((w_up_slot (by decide)).trans ((w_up_slot (by decide)).trans ((w_up_slot (by decide)).trans ((w_up_slot (by decide)).trans ((w_up_slot (by decide)).trans ((w_up_slot (by decide)).trans ((w_up_slot (by decide)).trans ((ml_367 hM)))))))))))))))) (by omega) (by omega) ⟨(by omega), (by omega)⟩ ?_
                    refine wa_aload_n (n := 0) rfl ?_
                    refine wb_gf4 237 rfl (wy_pr rfl) wt_237 wf_15_143 (v := 368) wl_237_143 ?_
                    refine wa_aload_n (n := 0) rfl ?_
                    refine wb_gfi 237 rfl (wy_pr rfl) wt_237 wf_15_154 (v := ((200 * t) + 0)) ((w_up_slot (by decide)).trans ((w_up_slot (by decide)).trans ((w_up_slot (by decide)).trans ((w_up_slot (by decide)).trans (w_up_same _ _ _ _))))) (fun r37 => ?_)
                    refine wa_iload_n (n := 3) rfl ?_
                    refine wb_iast 368 rfl (wy_pr rfl) wt_368 (n := 400) ((w_up_slot (by decide)).trans ((w_up_slot (by decide)).trans ((w_up_slot (by decide)).trans ((w_up_slot (by decide)).trans ((w_up_slot (by decide)).trans (((fr 368 (-1) (by omega) (by omega)).trans ((w_up_slot (by decide)).trans ((w_up_slot (by decide)).trans ((w_up_slot (by decide)).trans ((w_up_slot (by decide)).trans ((w_up_slot (by decide)).trans ((w_up_slot (by decide)).trans ((w_up_slot (by decide)).trans ((w_up_slot (by decide)).trans ((ml_368 hM))))))))))))))))) (by omega) (by omega) ⟨(by omega), (by omega)⟩ ?_
                    refine wa_aload_n (n := 0) rfl ?_
                    refine wb_gf4 237 rfl (wy_pr rfl) wt_237 wf_15_144 (v := 369) wl_237_144 ?_
                    refine wa_aload_n (n := 0) rfl ?_
                    refine wb_gfi 237 rfl (wy_pr rfl) wt_237 wf_15_154 (v := ((200 * t) + 0)) ((w_up_slot (by decide)).trans ((w_up_slot (by decide)).trans ((w_up_slot (by decide)).trans ((w_up_slot (by decide)).trans ((w_up_slot (by decide)).trans (w_up_same _ _ _ _)))))) (fun r38 => ?_)
                    refine wa_lload (n := 4) rfl ?_
                    refine wb_last 369 rfl (wy_pr rfl) wt_369 (n := 400) ((w_up_slot (by decide)).trans ((w_up_slot (by decide)).trans ((w_up_slot (by decide)).trans ((w_up_slot (by decide)).trans ((w_up_slot (by decide)).trans ((w_up_slot (by decide)).trans (((fr 369 (-1) (by omega) (by omega)).trans ((w_up_slot (by decide)).trans ((w_up_slot (by decide)).trans ((w_up_slot (by decide)).trans ((w_up_slot (by decide)).trans ((w_up_slot (by decide)).trans ((w_up_slot (by decide)).trans ((w_up_slot (by decide)).trans ((w_up_slot (by decide)).trans ((ml_369 hM)))))))))))))))))) (by omega) (by omega) ⟨(by omega), (by omega)⟩ ?_
                    refine wa_aload_n (n := 0) rfl ?_
                    refine wb_gf4 237 rfl (wy_pr rfl) wt_237 wf_15_145 (v := 370) wl_237_145 ?_
                    refine wa_aload_n (n := 0) rfl ?_
                    refine wb_gfi 237 rfl (wy_pr rfl) wt_237 wf_15_154 (v := ((200 * t) + 0)) ((w_up_slot (by decide)).trans ((w_up_slot (by decide)).trans ((w_up_slot (by decide)).trans ((w_up_slot (by decide)).trans ((w_up_slot (by decide)).trans ((w_up_slot (by decide)).trans (w_up_same _ _ _ _))))))) (fun r39 => ?_)
                    refine wa_iload (n := 6) rfl ?_
                    refine wb_iast 370 rfl (wy_pr rfl) wt_370 (n := 400) ((w_up_slot (by decide)).trans ((w_up_slot (by decide)).trans ((w_up_slot (by decide)).trans ((w_up_slot (by decide)).trans ((w_up_slot (by decide)).trans ((w_up_slot (by decide)).trans ((w_up_slot (by decide)).trans (((fr 370 (-1) (by omega) (by omega)).trans ((w_up_slot (by decide)).trans ((w_up_slot (by decide)).trans ((w_up_slot (by decide)).trans ((w_up_slot (by decide)).trans ((w_up_slot (by decide)).trans ((w_up_slot (by decide)).trans ((w_up_slot (by decide)).trans ((w_up_slot (by decide)).trans ((ml_370 hM))))))))))))))))))) (by omega) (by omega) ⟨(by omega), (by omega)⟩ ?_
                    refine wa_aload_n (n := 0) rfl ?_
                    refine wb_gf4 237 rfl (wy_pr rfl) wt_237 wf_15_146 (v := 371) wl_237_146 ?_
                    refine wa_aload_n (n := 0) rfl ?_
                    refine wb_gfi 237 rfl (wy_pr rfl) wt_237 wf_15_154 (v := ((200 * t) + 0)) ((w_up_slot (by decide)).trans ((w_up_slot (by decide)).trans ((w_up_slot (by decide)).trans ((w_up_slot (by decide)).trans ((w_up_slot (by decide)).trans ((w_up_slot (by decide)).trans ((w_up_slot (by decide)).trans (w_up_same _ _ _ _)))))))) (fun r40 => ?_)
                    refine wa_aload_n (n := 0) rfl ?_
                    refine wb_gf4 237 rfl (wy_pr rfl) wt_237 wf_15_134 (v := 359) wl_237_134 ?_
                    refine wa_aload_n (n := 0) rfl ?_
                    refine wb_gfi 237 rfl (wy_pr rfl) wt_237 wf_15_151 (v := t) ((w_up_slot (by decide)).trans ((w_up_slot (by decide)).trans ((w_up_slot (by decide)).trans ((w_up_slot (by decide)).trans ((w_up_slot (by decide)).trans ((w_up_slot (by decide)).trans ((w_up_slot (by decide)).trans ((w_up_at (by decide)).trans (((fr 237 151 (by omega) (by omega)).trans ((w_up_at (by decide)).trans ((w_up_at (by decide)).trans ((w_up_at (by decide)).trans (w_up_same _ _ _ _)))))))))))))) (fun r41 => ?_)
                    refine wb_iald 359 rfl (wy_pr rfl) wt_359 (n := 2) ((w_up_slot (by decide)).trans ((w_up_slot (by decide)).trans ((w_up_slot (by decide)).trans ((w_up_slot (by decide)).trans ((w_up_slot (by decide)).trans ((w_up_slot (by decide)).trans ((w_up_slot (by decide)).trans ((w_up_slot (by decide)).trans (((fr 359 (-1) (by omega) (by omega)).trans ((w_up_slot (by decide)).trans ((w_up_slot (by decide)).trans ((w_up_slot (by decide)).trans ((w_up_slot (by decide)).trans ((w_up_slot (by decide)).trans ((w_up_at (by omega)).trans ((w_up_slot (by decide)).trans ((w_up_slot (by decide)).trans ((ml_359 hM)))))))))))))))))))) (by omega) (by omega) (v := 0) ((w_up_slot (by decide)).trans ((w_up_slot (by decide)).trans ((w_up_slot (by decide)).trans ((w_up_slot (by decide)).trans ((w_up_slot (by decide)).trans ((w_up_slot (by decide)).trans ((w_up_slot (by decide)).trans ((w_up_slot (by decide)).trans (((fr 359 t (by omega) (by omega)).trans ((w_up_slot (by decide)).trans ((w_up_slot (by decide)).trans ((w_up_slot (by decide)).trans ((w_up_slot (by decide)).trans ((w_up_slot (by decide)).trans (w_up_same _ _ _ _)))))))))))))))) (fun r42 => ?_)
                    refine wb_iast 371 rfl (wy_pr rfl) wt_371 (n := 400) ((w_up_slot (by decide)).trans ((w_up_slot (by decide)).trans ((w_up_slot (by decide)).trans ((w_up_slot (by decide)).trans ((w_up_slot (by decide)).trans ((w_up_slot (by decide)).trans ((w_up_slot (by decide)).trans ((w_up_slot (by decide)).trans (((fr 371 (-1) (by omega) (by omega)).trans ((w_up_slot (by decide)).trans ((w_up_slot (by decide)).trans ((w_up_slot (by decide)).trans ((w_up_slot (by decide)).trans ((w_up_slot (by decide)).trans ((w_up_slot (by decide)).trans ((w_up_slot (by decide)).trans ((w_up_slot (by decide)).trans ((ml_371 hM)))))))))))))))))))) (by omega) (by omega) ⟨(by omega), (by omega)⟩ ?_
                    refine wa_aload_n (n := 0) rfl ?_
                    refine wb_gf4 237 rfl (wy_pr rfl) wt_237 wf_15_147 (v := 372) wl_237_147 ?_
                    refine wa_aload_n (n := 0) rfl ?_
                    refine wb_gfi 237 rfl (wy_pr rfl) wt_237 wf_15_154 (v := ((200 * t) + 0)) ((w_up_slot (by decide)).trans ((w_up_slot (by decide)).trans ((w_up_slot (by decide)).trans ((w_up_slot (by decide)).trans ((w_up_slot (by decide)).trans ((w_up_slot (by decide)).trans ((w_up_slot (by decide)).trans ((w_up_slot (by decide)).trans (w_up_same _ _ _ _))))))))) (fun r43 => ?_)
                    refine wa_aload_n (n := 0) rfl ?_
                    refine wb_gf4 237 rfl (wy_pr rfl) wt_237 wf_15_135 (v := 360) wl_237_135 ?_
                    refine wa_aload_n (n := 0) rfl ?_
                    refine wb_gfi 237 rfl (wy_pr rfl) wt_237 wf_15_151 (v := t) ((w_up_slot (by decide)).trans ((w_up_slot (by decide)).trans ((w_up_slot (by decide)).trans ((w_up_slot (by decide)).trans ((w_up_slot (by decide)).trans ((w_up_slot (by decide)).trans ((w_up_slot (by decide)).trans ((w_up_slot (by decide)).trans ((w_up_at (by decide)).trans (((fr 237 151 (by omega) (by omega)).trans ((w_up_at (by decide)).trans ((w_up_at (by decide)).trans ((w_up_at (by decide)).trans (w_up_same _ _ _ _))))))))))))))) (fun r44 => ?_)
                    refine wb_iald 360 rfl (wy_pr rfl) wt_360 (n := 2) ((w_up_slot (by decide)).trans ((w_up_slot (by decide)).trans ((w_up_slot (by decide)).trans ((w_up_slot (by decide)).trans ((w_up_slot (by decide)).trans ((w_up_slot (by decide)).trans ((w_up_slot (by decide)).trans ((w_up_slot (by decide)).trans ((w_up_slot (by decide)).trans (((fr 360 (-1) (by omega) (by omega)).trans ((w_up_slot (by decide)).trans ((w_up_slot (by decide)).trans ((w_up_slot (by decide)).trans ((w_up_slot (by decide)).trans ((w_up_at (by omega)).trans ((w_up_slot (by decide)).trans ((w_up_slot (by decide)).trans ((w_up_slot (by decide)).trans ((ml_360 hM))))))))))))))))))))) (by omega) (by omega) (v := 0) ((w_up_slot (by decide)).trans ((w_up_slot (by decide)).trans ((w_up_slot (by decide)).trans ((w_up_slot (by decide)).trans ((w_up_slot (by decide)).trans ((w_up_slot (by decide)).trans ((w_up_slot (by decide)).trans ((w_up_slot (by decide)).trans ((w_up_slot (by decide)).trans (((fr 360 t (by omega) (by omega)).trans ((w_up_slot (by decide)).trans ((w_up_slot (by decide)).trans ((w_up_slot (by decide)).trans ((w_up_slot (by decide)).trans (w_up_same _ _ _ _)))))))))))))))) (fun r45 => ?_)
                    refine wb_iast 372 rfl (wy_pr rfl) wt_372 (n := 400) ((w_up_slot (by decide)).trans ((w_up_slot (by decide)).trans ((w_up_slot (by decide)).trans ((w_up_slot (by decide)).trans ((w_up_slot (by decide)).trans ((w_up_slot (by decide)).trans ((w_up_slot (by decide)).trans ((w_up_slot (by decide)).trans ((w_up_slot (by decide)).trans (((fr 372 (-1) (by omega) (by omega)).trans ((w_up_slot (by decide)).trans ((w_up_slot (by decide)).trans ((w_up_slot (by decide)).trans ((w_up_slot (by decide)).trans ((w_up_slot (by decide)).trans ((w_up_slot (by decide)).trans ((w_up_slot (by decide)).trans ((w_up_slot (by decide)).trans ((ml_372 hM))))))))))))))))))))) (by omega) (by omega) ⟨(by omega), (by omega)⟩ ?_
                    refine wa_return rfl ?_
                    show wJ _ _ _ _ _ _ _ _ _ _
                    refine wa_aload_n (n := 0) rfl ?_
                    refine wb_gf4 237 rfl (wy_pr rfl) wt_237 wf_15_132 (v := 357) wl_237_132 ?_
                    refine wa_iload_n (n := 1) rfl ?_
                    refine wa_iconst ?_
                    refine wb_iast 357 rfl (wy_pr rfl) wt_357 (n := 2) ((w_up_slot (by decide)).trans ((w_up_slot (by decide)).trans ((w_up_slot (by decide)).trans ((w_up_slot (by decide)).trans ((w_up_slot (by decide)).trans ((w_up_slot (by decide)).trans ((w_up_slot (by decide)).trans ((w_up_slot (by decide)).trans ((w_up_slot (by decide)).trans ((w_up_slot (by decide)).trans (((fr 357 (-1) (by omega) (by omega)).trans ((w_up_slot (by decide)).trans ((w_up_slot (by decide)).trans ((w_up_slot (by decide)).trans ((w_up_slot (by decide)).trans ((w_up_slot (by decide)).trans ((w_up_slot (by decide)).trans ((w_up_slot (by decide)).trans ((w_up_slot (by decide)).trans ((ml_357 hM)))))))))))))))))))))) (by omega) (by omega) ⟨(by omega), (by omega)⟩ ?_
                    refine wa_iconst ?_
                    refine wa_zreturn rfl (Or.inr rfl) ?_
                    exact h1 ⟨⟨by omega, by omega, by omega, by omega⟩, by omega, by omega⟩ _ hmv
                  · skip
                    exact absurd c22 (by omega)
      · skip
        show wJ _ _ _ _ _ _ _ _ _ _
        refine wa_ifeq (w_rg0 (by omega) (by omega)) ⟨_, rfl⟩ (fun c46 => ?_) (fun c46 => ?_)
        · skip
          refine wa_iconst ?_
          refine wa_zreturn rfl (Or.inl rfl) ?_
          exact h0 (fun z => by have := z.1; have := z.2; omega)
        · skip
          exact absurd c46 (by omega)
  · skip
    show wJ _ _ _ _ _ _ _ _ _ _
    refine wa_ifeq (w_rg0 (by omega) (by omega)) ⟨_, rfl⟩ (fun c47 => ?_) (fun c47 => ?_)
    · skip
      refine wa_iconst ?_
      refine wa_zreturn rfl (Or.inl rfl) ?_
      exact h0 (fun z => by have := z.1; have := z.2; omega)
    · skip
      exact absurd c47 (by omega)
theorem mbk (hK : rTk t S K) (hW : rWd S sl T L G) (ht : 0 ≤ t ∧ t ≤ 1) (hL : (L.length : Int) < 8000) (h94 : 0 ≤ S 237 94 ∧ S 237 94 ≤ 60000) (h : mv_ag (S 237 94) (S 237 63) 0 (S 295 (S 294 u)) 0 0 (w_up (w_up (w_up (w_up (w_up (w_up (w_up (w_up (w_up (w_up (w_up (w_up S 237 0 0) 358 t 0) 359 t 0) 360 t 0) 237 151 t) 237 152 (2100 * t)) 237 153 (200 * t)) 237 154 (((200 * t) + 0) - 1)) 237 69 ((L.length : Int) + 1)) 237 62 (S 237 62 + 1)) 333 (L.length : Int) (-1)) 334 (L.length : Int) (S 237 94)) A) : rTk t (w_up (w_up (w_up (w_up (w_up (w_up (w_up (w_up (w_up (w_up (w_up A 237 154 ((200 * t) + 0)) 358 t (0 + 1)) 365 ((200 * t) + 0) (S 294 u)) 366 ((200 * t) + 0) 0) 367 ((200 * t) + 0) (L.length : Int)) 368 ((200 * t) + 0) 0) 369 ((200 * t) + 0) 0) 370 ((200 * t) + 0) (-1)) 371 ((200 * t) + 0) 0) 372 ((200 * t) + 0) 0) 357 t 1) (kBg (S 294 u) (L.length : Int) K.2.2.2.2) ∧ rWd (w_up (w_up (w_up (w_up (w_up (w_up (w_up (w_up (w_up (w_up (w_up A 237 154 ((200 * t) + 0)) 358 t (0 + 1)) 365 ((200 * t) + 0) (S 294 u)) 366 ((200 * t) + 0) 0) 367 ((200 * t) + 0) (L.length : Int)) 368 ((200 * t) + 0) 0) 369 ((200 * t) + 0) 0) 370 ((200 * t) + 0) (-1)) 371 ((200 * t) + 0) 0) 372 ((200 * t) + 0) 0) 357 t 1) sl T (L ++ [(-1, [])]) G ∧ (∀ (j : Nat) (x : Int), rOut t j x → ¬ rMc j x → (j ≠ 237 ∨ (x ≠ 0 ∧ x ≠ 151 ∧ x ≠ 152 ∧ x ≠ 153)) → (w_up (w_up (w_up (w_up (w_up (w_up (w_up (w_up (w_up (w_up (w_up A 237 154 ((200 * t) + 0)) 358 t (0 + 1)) 365 ((200 * t) + 0) (S 294 u)) 366 ((200 * t) + 0) 0) 367 ((200 * t) + 0) (L.length : Int)) 368 ((200 * t) + 0) 0) 369 ((200 * t) + 0) 0) 370 ((200 * t) + 0) (-1)) 371 ((200 * t) + 0) 0) 372 ((200 * t) + 0) 0) 357 t 1) j x = S j x) ∧ ((w_up (w_up (w_up (w_up (w_up (w_up (w_up (w_up (w_up (w_up (w_up A 237 154 ((200 * t) + 0)) 358 t (0 + 1)) 365 ((200 * t) + 0) (S 294 u)) 366 ((200 * t) + 0) 0) 367 ((200 * t) + 0) (L.length : Int)) 368 ((200 * t) + 0) 0) 369 ((200 * t) + 0) 0) 370 ((200 * t) + 0) (-1)) 371 ((200 * t) + 0) 0) 372 ((200 * t) + 0) 0) 357 t 1) 237 62 = S 237 62 + 1 ∧ (w_up (w_up (w_up (w_up (w_up (w_up (w_up (w_up (w_up (w_up (w_up A 237 154 ((200 * t) + 0)) 358 t (0 + 1)) 365 ((200 * t) + 0) (S 294 u)) 366 ((200 * t) + 0) 0) 367 ((200 * t) + 0) (L.length : Int)) 368 ((200 * t) + 0) 0) 369 ((200 * t) + 0) 0) 370 ((200 * t) + 0) (-1)) 371 ((200 * t) + 0) 0) 372 ((200 * t) + 0) 0) 357 t 1) 237 63 = S 237 63 ∧ (w_up (w_up (w_up (w_up (w_up (w_up (w_up (w_up (w_up (w_up (w_up A 237 154 ((200 * t) + 0)) 358 t (0 + 1)) 365 ((200 * t) + 0) (S 294 u)) 366 ((200 * t) + 0) 0) 367 ((200 * t) + 0) (L.length : Int)) 368 ((200 * t) + 0) 0) 369 ((200 * t) + 0) 0) 370 ((200 * t) + 0) (-1)) 371 ((200 * t) + 0) 0) 372 ((200 * t) + 0) 0) 357 t 1) 237 94 = S 237 94) ∧ (w_up (w_up (w_up (w_up (w_up (w_up (w_up (w_up (w_up (w_up (w_up A 237 154 ((200 * t) + 0)) 358 t (0 + 1)) 365 ((200 * t) + 0) (S 294 u)) 366 ((200 * t) + 0) 0) 367 ((200 * t) + 0) (L.length : Int)) 368 ((200 * t) + 0) 0) 369 ((200 * t) + 0) 0) 370 ((200 * t) + 0) (-1)) 371 ((200 * t) + 0) 0) 372 ((200 * t) + 0) 0) 357 t 1) 237 0 = 0 := by
  obtain ⟨⟨m1, m2⟩, -, hT0⟩ := h
  have fr : ∀ (j : Nat) (x : Int), (j ≠ 237 ∨ (x ≠ 94 ∧ x ≠ 63 ∧ x ≠ 69 ∧ x ≠ 62)) → ((j ≠ 333 ∧ j ≠ 334) ∨ x ≠ (L.length : Int)) → A j x = (w_up (w_up (w_up (w_up (w_up (w_up (w_up (w_up S 237 0 0) 358 t 0) 359 t 0) 360 t 0) 237 151 t) 237 152 (2100 * t)) 237 153 (200 * t)) 237 154 (((200 * t) + 0) - 1)) j x := fun j x j1 j2 => (hT0 j x (by omega) (by omega)).trans ((w_up_no (by omega)).trans ((w_up_no (by omega)).trans ((w_up_no (by omega)).trans ((w_up_no (by omega)).trans (rfl)))))
  have a69 : A 237 69 = (L.length : Int) + 1 := hT0 237 69 (by omega) (by first | decide | omega)
  have a62 : A 237 62 = S 237 62 + 1 := hT0 237 62 (by omega) (by first | decide | omega)
  have a33 : A 333 (L.length : Int) = -1 := (hT0 333 (L.length : Int) (by omega) (by omega)).trans ((w_up_no (by omega)).trans (w_up_same _ _ _ _))
  have a34 : A 334 (L.length : Int) = S 237 94 := (hT0 334 (L.length : Int) (by omega) (by omega)).trans (w_up_same _ _ _ _)
  have frS : ∀ (j : Nat) (x : Int), (j ≠ 237 ∨ (x ≠ 0 ∧ x ≠ 94 ∧ x ≠ 63 ∧ x ≠ 69 ∧ x ≠ 62 ∧ (x < 151 ∨ 154 < x))) → ((j ≠ 333 ∧ j ≠ 334) ∨ x ≠ (L.length : Int)) → ((j < 357 ∨ 360 < j) ∨ x ≠ t) → (j < 365 ∨ 372 < j ∨ x ≠ 200 * t) → (w_up (w_up (w_up (w_up (w_up (w_up (w_up (w_up (w_up (w_up (w_up A 237 154 ((200 * t) + 0)) 358 t (0 + 1)) 365 ((200 * t) + 0) (S 294 u)) 366 ((200 * t) + 0) 0) 367 ((200 * t) + 0) (L.length : Int)) 368 ((200 * t) + 0) 0) 369 ((200 * t) + 0) 0) 370 ((200 * t) + 0) (-1)) 371 ((200 * t) + 0) 0) 372 ((200 * t) + 0) 0) 357 t 1) j x = S j x := fun j x j1 j2 j3 j4 => (w_up_no (by omega)).trans ((w_up_no (by omega)).trans ((w_up_no (by omega)).trans ((w_up_no (by omega)).trans ((w_up_no (by omega)).trans ((w_up_no (by omega)).trans ((w_up_no (by omega)).trans ((w_up_no (by omega)).trans ((w_up_no (by omega)).trans ((w_up_no (by omega)).trans ((w_up_no (by omega)).trans ((fr j x (by omega) (by omega)).trans ((w_up_no (by omega)).trans ((w_up_no (by omega)).trans ((w_up_no (by omega)).trans ((w_up_no (by omega)).trans ((w_up_no (by omega)).trans ((w_up_no (by omega)).trans ((w_up_no (by omega)).trans ((w_up_no (by omega)).trans (rfl))))))))))))))))))))
  refine ⟨⟨⟨?_, fun i hi => absurd hi (by show ¬ i < 0; omega)⟩, ⟨?_, fun i hi => ?_⟩, ⟨?_, by show 0 ≤ 10000; omega, fun i hi => absurd hi (by show ¬ i < 0; omega)⟩, w_up_same _ _ _ _, fun z => absurd (show (1 : Int) = 2 ∨ (1 : Int) = 3 from z) (by first | decide | omega)⟩, ?_, fun j x o n k => ?_, ⟨?_, ?_, ?_⟩, ?_⟩
  · exact (w_up_no (by omega)).trans ((w_up_no (by omega)).trans ((w_up_no (by omega)).trans ((w_up_no (by omega)).trans ((w_up_no (by omega)).trans ((w_up_no (by omega)).trans ((w_up_no (by omega)).trans ((w_up_no (by omega)).trans ((w_up_no (by omega)).trans ((w_up_no (by omega)).trans ((w_up_no (by omega)).trans ((fr 359 t (by omega) (by omega)).trans ((w_up_no (by omega)).trans ((w_up_no (by omega)).trans ((w_up_no (by omega)).trans ((w_up_no (by omega)).trans ((w_up_no (by omega)).trans (w_up_same _ _ _ _)))))))))))))))))
  · exact (w_up_no (by omega)).trans ((w_up_no (by omega)).trans ((w_up_no (by omega)).trans ((w_up_no (by omega)).trans ((w_up_no (by omega)).trans ((w_up_no (by omega)).trans ((w_up_no (by omega)).trans ((w_up_no (by omega)).trans ((w_up_no (by omega)).trans (w_up_same _ _ _ _)))))))))
  · have hi0 : i = 0 := by have : i < 1 := hi; omega
    subst hi0
    have e365 : (w_up (w_up (w_up (w_up (w_up (w_up (w_up (w_up (w_up (w_up (w_up A 237 154 ((200 * t) + 0)) 358 t (0 + 1)) 365 ((200 * t) + 0) (S 294 u)) 366 ((200 * t) + 0) 0) 367 ((200 * t) + 0) (L.length : Int)) 368 ((200 * t) + 0) 0) 369 ((200 * t) + 0) 0) 370 ((200 * t) + 0) (-1)) 371 ((200 * t) + 0) 0) 372 ((200 * t) + 0) 0) 357 t 1) 365 (200 * t + 0) = S 294 u := (w_up_no (by omega)).trans ((w_up_no (by omega)).trans ((w_up_no (by omega)).trans ((w_up_no (by omega)).trans ((w_up_no (by omega)).trans ((w_up_no (by omega)).trans ((w_up_no (by omega)).trans ((w_up_no (by omega)).trans (w_up_same _ _ _ _))))))))
    have e366 : (w_up (w_up (w_up (w_up (w_up (w_up (w_up (w_up (w_up (w_up (w_up A 237 154 ((200 * t) + 0)) 358 t (0 + 1)) 365 ((200 * t) + 0) (S 294 u)) 366 ((200 * t) + 0) 0) 367 ((200 * t) + 0) (L.length : Int)) 368 ((200 * t) + 0) 0) 369 ((200 * t) + 0) 0) 370 ((200 * t) + 0) (-1)) 371 ((200 * t) + 0) 0) 372 ((200 * t) + 0) 0) 357 t 1) 366 (200 * t + 0) = 0 := (w_up_no (by omega)).trans ((w_up_no (by omega)).trans ((w_up_no (by omega)).trans ((w_up_no (by omega)).trans ((w_up_no (by omega)).trans ((w_up_no (by omega)).trans ((w_up_no (by omega)).trans (w_up_same _ _ _ _)))))))
    have e367 : (w_up (w_up (w_up (w_up (w_up (w_up (w_up (w_up (w_up (w_up (w_up A 237 154 ((200 * t) + 0)) 358 t (0 + 1)) 365 ((200 * t) + 0) (S 294 u)) 366 ((200 * t) + 0) 0) 367 ((200 * t) + 0) (L.length : Int)) 368 ((200 * t) + 0) 0) 369 ((200 * t) + 0) 0) 370 ((200 * t) + 0) (-1)) 371 ((200 * t) + 0) 0) 372 ((200 * t) + 0) 0) 357 t 1) 367 (200 * t + 0) = (L.length : Int) := (w_up_no (by omega)).trans ((w_up_no (by omega)).trans ((w_up_no (by omega)).trans ((w_up_no (by omega)).trans ((w_up_no (by omega)).trans ((w_up_no (by omega)).trans (w_up_same _ _ _ _))))))
    have e368 : (w_up (w_up (w_up (w_up (w_up (w_up (w_up (w_up (w_up (w_up (w_up A 237 154 ((200 * t) + 0)) 358 t (0 + 1)) 365 ((200 * t) + 0) (S 294 u)) 366 ((200 * t) + 0) 0) 367 ((200 * t) + 0) (L.length : Int)) 368 ((200 * t) + 0) 0) 369 ((200 * t) + 0) 0) 370 ((200 * t) + 0) (-1)) 371 ((200 * t) + 0) 0) 372 ((200 * t) + 0) 0) 357 t 1) 368 (200 * t + 0) = 0 := (w_up_no (by omega)).trans ((w_up_no (by omega)).trans ((w_up_no (by omega)).trans ((w_up_no (by omega)).trans ((w_up_no (by omega)).trans (w_up_same _ _ _ _)))))
    have e369 : (w_up (w_up (w_up (w_up (w_up (w_up (w_up (w_up (w_up (w_up (w_up A 237 154 ((200 * t) + 0)) 358 t (0 + 1)) 365 ((200 * t) + 0) (S 294 u)) 366 ((200 * t) + 0) 0) 367 ((200 * t) + 0) (L.length : Int)) 368 ((200 * t) + 0) 0) 369 ((200 * t) + 0) 0) 370 ((200 * t) + 0) (-1)) 371 ((200 * t) + 0) 0) 372 ((200 * t) + 0) 0) 357 t 1) 369 (200 * t + 0) = 0 := (w_up_no (by omega)).trans ((w_up_no (by omega)).trans ((w_up_no (by omega)).trans ((w_up_no (by omega)).trans (w_up_same _ _ _ _))))
    have e370 : (w_up (w_up (w_up (w_up (w_up (w_up (w_up (w_up (w_up (w_up (w_up A 237 154 ((200 * t) + 0)) 358 t (0 + 1)) 365 ((200 * t) + 0) (S 294 u)) 366 ((200 * t) + 0) 0) 367 ((200 * t) + 0) (L.length : Int)) 368 ((200 * t) + 0) 0) 369 ((200 * t) + 0) 0) 370 ((200 * t) + 0) (-1)) 371 ((200 * t) + 0) 0) 372 ((200 * t) + 0) 0) 357 t 1) 370 (200 * t + 0) = -1 := (w_up_no (by omega)).trans ((w_up_no (by omega)).trans ((w_up_no (by omega)).trans (w_up_same _ _ _ _)))
    have e371 : (w_up (w_up (w_up (w_up (w_up (w_up (w_up (w_up (w_up (w_up (w_up A 237 154 ((200 * t) + 0)) 358 t (0 + 1)) 365 ((200 * t) + 0) (S 294 u)) 366 ((200 * t) + 0) 0) 367 ((200 * t) + 0) (L.length : Int)) 368 ((200 * t) + 0) 0) 369 ((200 * t) + 0) 0) 370 ((200 * t) + 0) (-1)) 371 ((200 * t) + 0) 0) 372 ((200 * t) + 0) 0) 357 t 1) 371 (200 * t + 0) = 0 := (w_up_no (by omega)).trans ((w_up_no (by omega)).trans (w_up_same _ _ _ _))
    have e372 : (w_up (w_up (w_up (w_up (w_up (w_up (w_up (w_up (w_up (w_up (w_up A 237 154 ((200 * t) + 0)) 358 t (0 + 1)) 365 ((200 * t) + 0) (S 294 u)) 366 ((200 * t) + 0) 0) 367 ((200 * t) + 0) (L.length : Int)) 368 ((200 * t) + 0) 0) 369 ((200 * t) + 0) 0) 370 ((200 * t) + 0) (-1)) 371 ((200 * t) + 0) 0) 372 ((200 * t) + 0) 0) 357 t 1) 372 (200 * t + 0) = 0 := (w_up_no (by omega)).trans (w_up_same _ _ _ _)
    exact ⟨⟨e365, e366, e367⟩, ⟨e368, fun _ => ⟨e369, rfl⟩, fun z => absurd (show (0 : Int) = 3 from z) (by first | decide | omega)⟩, e370, e371, e372⟩
  · exact (w_up_no (by omega)).trans ((w_up_no (by omega)).trans ((w_up_no (by omega)).trans ((w_up_no (by omega)).trans ((w_up_no (by omega)).trans ((w_up_no (by omega)).trans ((w_up_no (by omega)).trans ((w_up_no (by omega)).trans ((w_up_no (by omega)).trans ((w_up_no (by omega)).trans ((w_up_no (by omega)).trans ((fr 360 t (by omega) (by omega)).trans ((w_up_no (by omega)).trans ((w_up_no (by omega)).trans ((w_up_no (by omega)).trans ((w_up_no (by omega)).trans (w_up_same _ _ _ _))))))))))))))))
  · have hWT : rWd (w_up (w_up (w_up (w_up (w_up (w_up (w_up (w_up S 237 0 0) 358 t 0) 359 t 0) 360 t 0) 237 151 t) 237 152 (2100 * t)) 237 153 (200 * t)) 237 154 (((200 * t) + 0) - 1)) sl T L G := rWd_ag hW (rTx_of rfl rfl (fun j x j0 j1 => (w_up_no (by omega)).trans ((w_up_no (by omega)).trans ((w_up_no (by omega)).trans ((w_up_no (by omega)).trans ((w_up_no (by omega)).trans ((w_up_no (by omega)).trans ((w_up_no (by omega)).trans ((w_up_no (by omega)).trans (rfl)))))))))) (fun j x hy => by unfold rWo at hy; exact (w_up_no (by omega)).trans ((w_up_no (by omega)).trans ((w_up_no (by omega)).trans ((w_up_no (by omega)).trans ((w_up_no (by omega)).trans ((w_up_no (by omega)).trans ((w_up_no (by omega)).trans ((w_up_no (by omega)).trans (rfl)))))))))
    have hWA : rWd A sl T (L ++ [(-1, [])]) G := rWd_nc (vn := 0) (vs := []) (n := (L.length : Int)) (u := S 237 94) hWT rfl rfl h94.1 a69 a33 a34 m1 (fun j x j1 j2 _ j4 => fr j x (by omega) j2) rfl (fun i hi => absurd hi (by show ¬ i < 0; omega)) hL (by omega)
    exact rWd_ag hWA (rTx_of rfl rfl (fun j x j0 j1 => (w_up_no (by omega)).trans ((w_up_no (by omega)).trans ((w_up_no (by omega)).trans ((w_up_no (by omega)).trans ((w_up_no (by omega)).trans ((w_up_no (by omega)).trans ((w_up_no (by omega)).trans ((w_up_no (by omega)).trans ((w_up_no (by omega)).trans ((w_up_no (by omega)).trans ((w_up_no (by omega)).trans (rfl))))))))))))) (fun j x hy => by unfold rWo at hy; exact (w_up_no (by omega)).trans ((w_up_no (by omega)).trans ((w_up_no (by omega)).trans ((w_up_no (by omega)).trans ((w_up_no (by omega)).trans ((w_up_no (by omega)).trans ((w_up_no (by omega)).trans ((w_up_no (by omega)).trans ((w_up_no (by omega)).trans ((w_up_no (by omega)).trans ((w_up_no (by omega)).trans (rfl))))))))))))
  · unfold rOut at o; unfold rMc at n
    by_cases c : x = (L.length : Int) ∧ (j = 333 ∨ j = 334)
    · omega
    · exact frS j x (by omega) (by omega) (by omega) (by omega)
  · exact (w_up_no (by omega)).trans ((w_up_no (by omega)).trans ((w_up_no (by omega)).trans ((w_up_no (by omega)).trans ((w_up_no (by omega)).trans ((w_up_no (by omega)).trans ((w_up_no (by omega)).trans ((w_up_no (by omega)).trans ((w_up_no (by omega)).trans ((w_up_no (by omega)).trans ((w_up_no (by omega)).trans (a62)))))))))))
  · exact ((w_up_no (by omega)).trans ((w_up_no (by omega)).trans ((w_up_no (by omega)).trans ((w_up_no (by omega)).trans ((w_up_no (by omega)).trans ((w_up_no (by omega)).trans ((w_up_no (by omega)).trans ((w_up_no (by omega)).trans ((w_up_no (by omega)).trans ((w_up_no (by omega)).trans ((w_up_no (by omega)).trans (m2)))))))))))).trans (Int.add_zero _)
  · exact ((w_up_no (by omega)).trans ((w_up_no (by omega)).trans ((w_up_no (by omega)).trans ((w_up_no (by omega)).trans ((w_up_no (by omega)).trans ((w_up_no (by omega)).trans ((w_up_no (by omega)).trans ((w_up_no (by omega)).trans ((w_up_no (by omega)).trans ((w_up_no (by omega)).trans ((w_up_no (by omega)).trans (m1)))))))))))).trans (Int.add_zero _)
  · exact (w_up_no (by omega)).trans ((w_up_no (by omega)).trans ((w_up_no (by omega)).trans ((w_up_no (by omega)).trans ((w_up_no (by omega)).trans ((w_up_no (by omega)).trans ((w_up_no (by omega)).trans ((w_up_no (by omega)).trans ((w_up_no (by omega)).trans ((w_up_no (by omega)).trans ((w_up_no (by omega)).trans ((fr 237 0 (by omega) (by omega)).trans ((w_up_no (by omega)).trans ((w_up_no (by omega)).trans ((w_up_no (by omega)).trans ((w_up_no (by omega)).trans ((w_up_no (by omega)).trans ((w_up_no (by omega)).trans ((w_up_no (by omega)).trans (w_up_same _ _ _ _)))))))))))))))))))
end Wio
