/-! PART 83: the reference's readsMember, whole. -/
section W83
variable {xs : List (Nat × List Int32)} {M : Nat → Prop} {d : Nat} {S A B : wS} {Q : wO → wS → Prop} {p : Int}
theorem lx_w1 {S : wS} {tx : List Int32} (h : lx_w S tx = true) : S 237 6 = 1 := (of_decide_eq_true h).1
theorem rm_mk_241 {A : wS} {c m p1 st : Int} (h : lx_w (zq A p1) tx_25 = true) : rm_body_241 A c m p1 st = if zq A p1 237 6 = 1 ∧ st ≠ 1 then (if m < 400 then (if A 243 c = 0 then (if lx_is (zq A (lx_ne (zq A p1) p1)) 40 = true then rm_par A (w_up (w_up (w_up (w_up (w_up (w_up A 252 m c) 254 m st) 259 m p1) 260 m p1) 253 m 2) 255 m (9 + c)) 241 c m (lx_ne (zq A (lx_ne (zq A p1) p1)) (lx_ne (zq A p1) p1)) 2 st (9 + c) p1 p1 else .inl (1, (lx_ne (zq A p1) p1))) else .inl (6, p1)) else .inl (5, p1)) else .inl (1, p1) := by
  unfold rm_body_241
  rw [h]
  by_cases c1 : zq A p1 237 6 = 1 ∧ st ≠ 1
  · rw [if_pos ⟨c1.1, fun z => c1.2 z.1⟩, if_pos c1, if_pos (Or.inl rfl), if_pos rfl]
  · rw [if_neg (fun z => c1 ⟨z.1, fun y => z.2 ⟨y, rfl⟩⟩), if_neg c1]
theorem rm_ty_241 {A : wS} {c m p1 st : Int} (h : lx_w (zq A p1) tx_25 = false) : rm_body_241 A c m p1 st = if zq A p1 237 6 = 1 then (if 0 ≤ pl_of (zq A p1) tx_27 ∨ 0 ≤ ch_of (zq A p1) 241 then (if m < 400 then (match hy_type (zq A p1) 241 p1 1 with
    | .inl x => .inl x
    | .inr (t, p2) => if zq A p2 237 6 = 1 then (if lx_oo (zq A p2) tx_21 = true then .inl (2, p2) else (if lx_is (zq A (lx_ne (zq A p2) p2)) 40 = true then rm_par A (w_up (w_up (w_up (w_up (w_up (w_up (w_up (w_up A 252 m c) 254 m st) 259 m p1) 260 m p1) 255 m t) 259 m p2) 260 m (zq A p2 237 8)) 253 m 1) 241 c m (lx_ne (zq A (lx_ne (zq A p2) p2)) (lx_ne (zq A p2) p2)) 1 st t p2 (zq A p2 237 8) else (match rf_of (w_up (w_up (w_up (w_up (w_up (w_up (w_up A 252 m c) 254 m st) 259 m p1) 260 m p1) 255 m t) 259 m p2) 260 m (zq A p2 237 8)) 241 c m (lx_ne (zq A p2) p2) p2 with
      | some x => .inl x
      | none => rm_end A (lx_ne (zq A p2) p2) 0 st t [] 0 p2 (zq A p2 237 8)))) else .inl (1, p2)) else .inl (5, p1)) else .inl (3, p1)) else .inl (1, p1) := by
  unfold rm_body_241
  rw [h]
  by_cases c1 : zq A p1 237 6 = 1
  · rw [if_pos ⟨c1, fun z => absurd z.2 (by decide)⟩, if_pos c1]
    by_cases c2 : 0 ≤ pl_of (zq A p1) tx_27 ∨ 0 ≤ ch_of (zq A p1) 241
    · rw [if_pos (Or.inr c2), if_pos c2]
      by_cases c3 : m < 400
      · rw [if_pos c3, if_pos c3, if_neg (by decide)]; rfl
      · rw [if_neg c3, if_neg c3]
    · rw [if_neg (fun z => c2 (z.resolve_left (by decide))), if_neg c2]
  · rw [if_neg (fun z => c1 z.1), if_neg c1]
theorem mem_3_mk_241 {c m p1 st : Int} {R : hRM} {Z : wS} (hX : w_X xs) (hA15 : A 237 15 = 241) (hAm : A 241 11 = m) (hm : 0 ≤ m ∧ m ≤ 400) (hmm : ho_mm A 241 m) (hfi : 0 ≤ A 248 c ∧ A 248 c ≤ m) (hcc : 0 ≤ c ∧ c < 60) (hAn : ho_nm A 241) (hmy : 0 ≤ A 249 c ∧ A 249 c ≤ 400) (hst : st = 0 ∨ st = 1) (hE : lx_E Z A p1) (hL : lx_ag A Z) (hnw : lx_w (zq A p1) tx_25 = true) (he : rm_body_241 A c m p1 st = R) : wJ (pe_GA xs) wY0 M (d + 7) t_M_readsMember ((pe_at t_M_readsMember.bl 3).getD (0, [])).2 [(0, (2, 237)), (1, (0, c)), (2, (0, m)), (3, (0, st))] [] Z (fun o S2 => (∃ (p2 so st ty v f e : Int) (l : List Int), R = .inr (p2, so, st, ty, l, v, f, e) ∧ o = .inl none ∧ hM_ag 241 c m A S2 ∧ lx_E S2 A p2 ∧ S2 241 11 = m + 1 ∧ S2 249 c = A 249 c + 1 ∧ hm_rec 241 m S2 c so st ty f e ∧ hm_ps 241 m S2 l v ∧ l.length ≤ 8) ∨ (∃ e q : Int, R = .inl (e, q) ∧ o = .inr 238 ∧ hm_ag 241 m A S2 ∧ S2 238 5 = e ∧ S2 238 6 = q)) := by
  rw [rm_mk_241 hnw] at he
  have hpp := hE.1.2.2.1
  have hnn := hE.1.2.1
  have hp8 := lx_I_hp hE.1
  refine wa_aload_n (n := 0) rfl ?_
  refine wa_aload_n (n := 0) rfl ?_
  refine wb_gfi 237 rfl (wy_pr rfl) wt_237 wf_15_6 (v := (zq A p1 237 6)) ((lx_E_6 hE)) (fun r1 => ?_)
  refine wa_iconst ?_
  refine wa_icmpne (w_rg0 (by omega) (by omega)) (w_rg0 (by omega) (by omega)) ⟨_, rfl⟩ (fun c2 => ?_) (fun c2 => ?_)
  · skip
    refine wa_iconst ?_
    refine wa_fall ⟨_, rfl⟩ ?_
    refine wa_iconst ?_
    refine wa_cv 237 rfl (wy_pr rfl) wt_237 (M2 := fun _ => False) rfl at_M_must ⟨_, rfl⟩ rfl rfl ⟨(Or.inr ⟨wy_pr rfl, fun q => q⟩), trivial, trivial, trivial, trivial⟩ trivial (fun _ _ q => False.elim q) (must_ok (S := Z) (g := 0) (n := 1) (Or.inl rfl) ⟨by omega, by omega⟩) (fun oq4 Sq4 hp5 q4 => ?_)
    rcases q4 with ⟨m3, _, _⟩ | ⟨_, rfl, rfl⟩
    · skip
      exact absurd m3 (by decide)
    · skip
      refine ⟨rfl, ?_⟩
      repeat (first | rw [if_pos (by omega)] at he | rw [if_neg (by omega)] at he)
      first | (rw [ty] at he; dsimp only at he) | (rw [if_neg (by rw [gis]; decide)] at he) | skip
      first | (rw [if_pos (by omega), if_pos goo] at he) | skip
      exact Or.inr ⟨_, _, he.symm, rfl, hm_ag_hl (hm_ag_lx hm_ag_rf hL), rfl, by first | rfl | exact (show Z 237 7 = p1 from ((lx_E_7 hE)))⟩
  · skip
    refine wa_iload_n (n := 3) rfl ?_
    refine wa_ifeq (w_rg0 (by omega) (by omega)) ⟨_, rfl⟩ (fun c6 => ?_) (fun c6 => ?_)
    · skip
      refine wa_iconst ?_
      refine wa_goto ⟨_, rfl⟩ ?_
      refine wa_iconst ?_
      refine wa_cv 237 rfl (wy_pr rfl) wt_237 (M2 := fun _ => False) rfl at_M_must ⟨_, rfl⟩ rfl rfl ⟨(Or.inr ⟨wy_pr rfl, fun q => q⟩), trivial, trivial, trivial, trivial⟩ trivial (fun _ _ q => False.elim q) (must_ok (S := Z) (g := 1) (n := 1) (Or.inr rfl) ⟨by omega, by omega⟩) (fun oq8 Sq8 hp9 q8 => ?_)
      rcases q8 with ⟨_, rfl, rfl⟩ | ⟨m7, _, _⟩
      · skip
        show wJ _ _ _ _ _ _ _ _ _ _
        refine wa_aload_n (n := 0) rfl ?_
        refine wa_ks ?_
        refine wa_cv 237 rfl (wy_pr rfl) wt_237 (M2 := fun _ => False) rfl at_M_isWord ⟨_, rfl⟩ rfl rfl ⟨(Or.inr ⟨wy_pr rfl, fun q => q⟩), trivial, trivial, trivial, trivial⟩ trivial (fun _ _ q => False.elim q) (isWord_ok (S := Z) hE.1.1 (wx_25 hX) (by decide) (lx_I_hp hE.1)) (fun oq11 Sq11 hp12 q11 => ?_)
        rcases q11 with ⟨rfl, ⟨rfl, gw10⟩ | ⟨rfl, gw10⟩⟩
        · skip
          show wJ _ _ _ _ _ _ _ _ _ _
          rw [lx_E_w hE] at gw10
          refine wa_ifne (w_rg0 (by omega) (by omega)) ⟨_, rfl⟩ (fun c13 => ?_) (fun c13 => ?_)
          · skip
            refine wa_aload_n (n := 0) rfl ?_
            refine wa_iload_n (n := 2) rfl ?_
            refine wa_sipush (by omega) ?_
            refine wa_icmpge (w_rg0 (by omega) (by omega)) (w_rg0 (by omega) (by omega)) ⟨_, rfl⟩ (fun c14 => ?_) (fun c14 => ?_)
            · skip
              refine wa_iconst ?_
              refine wa_fall ⟨_, rfl⟩ ?_
              refine wa_iconst ?_
              refine wa_cv 237 rfl (wy_pr rfl) wt_237 (M2 := fun _ => False) rfl at_M_must ⟨_, rfl⟩ rfl rfl ⟨(Or.inr ⟨wy_pr rfl, fun q => q⟩), trivial, trivial, trivial, trivial⟩ trivial (fun _ _ q => False.elim q) (must_ok (S := Z) (g := 0) (n := 5) (Or.inl rfl) ⟨by omega, by omega⟩) (fun oq16 Sq16 hp17 q16 => ?_)
              rcases q16 with ⟨m15, _, _⟩ | ⟨_, rfl, rfl⟩
              · skip
                exact absurd m15 (by decide)
              · skip
                refine ⟨rfl, ?_⟩
                repeat (first | rw [if_pos (by omega)] at he | rw [if_neg (by omega)] at he)
                first | (rw [ty] at he; dsimp only at he) | (rw [if_neg (by rw [gis]; decide)] at he) | skip
                first | (rw [if_pos (by omega), if_pos goo] at he) | skip
                exact Or.inr ⟨_, _, he.symm, rfl, hm_ag_hl (hm_ag_lx hm_ag_rf hL), rfl, by first | rfl | exact (show Z 237 7 = p1 from ((lx_E_7 hE)))⟩
            · skip
              refine wa_iconst ?_
              refine wa_goto ⟨_, rfl⟩ ?_
              refine wa_iconst ?_
              refine wa_cv 237 rfl (wy_pr rfl) wt_237 (M2 := fun _ => False) rfl at_M_must ⟨_, rfl⟩ rfl rfl ⟨(Or.inr ⟨wy_pr rfl, fun q => q⟩), trivial, trivial, trivial, trivial⟩ trivial (fun _ _ q => False.elim q) (must_ok (S := Z) (g := 1) (n := 5) (Or.inr rfl) ⟨by omega, by omega⟩) (fun oq19 Sq19 hp20 q19 => ?_)
              rcases q19 with ⟨_, rfl, rfl⟩ | ⟨m18, _, _⟩
              · skip
                show wJ _ _ _ _ _ _ _ _ _ _
                refine wa_aload_n (n := 0) rfl ?_
                refine wa_aload_n (n := 0) rfl ?_
                refine wa_ks ?_
                refine wa_cv 237 rfl (wy_pr rfl) wt_237 (M2 := fun _ => False) rfl at_M_isWord ⟨_, rfl⟩ rfl rfl ⟨(Or.inr ⟨wy_pr rfl, fun q => q⟩), trivial, trivial, trivial, trivial⟩ ⟨(Or.inr ⟨wy_pr rfl, fun q => q⟩), trivial⟩ (fun _ _ q => False.elim q) (isWord_ok (S := Z) hE.1.1 (wx_25 hX) (by decide) (lx_I_hp hE.1)) (fun oq22 Sq22 hp23 q22 => ?_)
                rcases q22 with ⟨rfl, ⟨rfl, gw21⟩ | ⟨rfl, gw21⟩⟩
                · skip
                  show wJ _ _ _ _ _ _ _ _ _ _
                  rw [lx_E_w hE] at gw21
                  refine wa_ifeq (w_rg0 (by omega) (by omega)) ⟨_, rfl⟩ (fun c24 => ?_) (fun c24 => ?_)
                  · skip
                    exact absurd c24 (by omega)
                  · skip
                    refine wa_aload_n (n := 0) rfl ?_
                    refine wb_gf5 237 rfl (wy_pr rfl) wt_237 wf_15_15 (v := 241) (((hL 237 15 (by omega) (by omega)).trans hA15)) (fun r25 => ?_)
                    refine wb_gf4 241 rfl (wy_pr rfl) wt_241 wf_12_2 (v := 243) wl_241_2 ?_
                    refine wa_iload_n (n := 1) rfl ?_
                    refine wb_zald 243 rfl (wy_pr rfl) wt_243 (n := 60) ((ml_243 hE.1.1)) (by omega) (by omega) (v := (A 243 c)) (((hL 243 c (by omega) (by omega)).trans rfl)) (fun r26 => ?_)
                    refine wa_ifne (w_rg0 (by omega) (by omega)) ⟨_, rfl⟩ (fun c27 => ?_) (fun c27 => ?_)
                    · skip
                      refine wa_iconst ?_
                      refine wa_fall ⟨_, rfl⟩ ?_
                      refine wa_bipush (w_rg2 (by omega) (by omega)) ?_
                      refine wa_cv 237 rfl (wy_pr rfl) wt_237 (M2 := fun _ => False) rfl at_M_must ⟨_, rfl⟩ rfl rfl ⟨(Or.inr ⟨wy_pr rfl, fun q => q⟩), trivial, trivial, trivial, trivial⟩ trivial (fun _ _ q => False.elim q) (must_ok (S := Z) (g := 0) (n := 6) (Or.inl rfl) ⟨by omega, by omega⟩) (fun oq29 Sq29 hp30 q29 => ?_)
                      rcases q29 with ⟨m28, _, _⟩ | ⟨_, rfl, rfl⟩
                      · skip
                        exact absurd m28 (by decide)
                      · skip
                        refine ⟨rfl, ?_⟩
                        repeat (first | rw [if_pos (by omega)] at he | rw [if_neg (by omega)] at he)
                        first | (rw [ty] at he; dsimp only at he) | (rw [if_neg (by rw [gis]; decide)] at he) | skip
                        first | (rw [if_pos (by omega), if_pos goo] at he) | skip
                        exact Or.inr ⟨_, _, he.symm, rfl, hm_ag_hl (hm_ag_lx hm_ag_rf hL), rfl, by first | rfl | exact (show Z 237 7 = p1 from ((lx_E_7 hE)))⟩
                    · skip
                      refine wa_fall ⟨_, rfl⟩ ?_
                      refine wa_iconst ?_
                      refine wa_goto ⟨_, rfl⟩ ?_
                      refine wa_bipush (w_rg2 (by omega) (by omega)) ?_
                      refine wa_cv 237 rfl (wy_pr rfl) wt_237 (M2 := fun _ => False) rfl at_M_must ⟨_, rfl⟩ rfl rfl ⟨(Or.inr ⟨wy_pr rfl, fun q => q⟩), trivial, trivial, trivial, trivial⟩ trivial (fun _ _ q => False.elim q) (must_ok (S := Z) (g := 1) (n := 6) (Or.inr rfl) ⟨by omega, by omega⟩) (fun oq32 Sq32 hp33 q32 => ?_)
                      rcases q32 with ⟨_, rfl, rfl⟩ | ⟨m31, _, _⟩
                      · skip
                        show wJ _ _ _ _ _ _ _ _ _ _
                        refine wa_aload_n (n := 0) rfl ?_
                        refine wb_gf5 237 rfl (wy_pr rfl) wt_237 wf_15_15 (v := 241) (((hL 237 15 (by omega) (by omega)).trans hA15)) (fun r34 => ?_)
                        refine wb_gf4 241 rfl (wy_pr rfl) wt_241 wf_12_12 (v := 252) wl_241_12 ?_
                        refine wa_iload_n (n := 2) rfl ?_
                        refine wa_iload_n (n := 1) rfl ?_
                        refine wb_iast 252 rfl (wy_pr rfl) wt_252 (n := 400) ((ml_252 hE.1.1)) (by omega) (by omega) ⟨(by omega), (by omega)⟩ ?_
                        refine wa_aload_n (n := 0) rfl ?_
                        refine wb_gf5 237 rfl (wy_pr rfl) wt_237 wf_15_15 (v := 241) ((w_up_slot (by decide)).trans (((hL 237 15 (by omega) (by omega)).trans hA15))) (fun r35 => ?_)
                        refine wb_gf4 241 rfl (wy_pr rfl) wt_241 wf_12_14 (v := 254) wl_241_14 ?_
                        refine wa_iload_n (n := 2) rfl ?_
                        refine wa_iload_n (n := 3) rfl ?_
                        refine wb_zast 254 rfl (wy_pr rfl) wt_254 (n := 400) ((w_up_slot (by decide)).trans ((ml_254 hE.1.1))) (by omega) (by omega) ⟨(by omega), (by omega)⟩ ?_
                        refine wa_aload_n (n := 0) rfl ?_
                        refine wb_gf5 237 rfl (wy_pr rfl) wt_237 wf_15_15 (v := 241) ((w_up_slot (by decide)).trans ((w_up_slot (by decide)).trans (((hL 237 15 (by omega) (by omega)).trans hA15)))) (fun r36 => ?_)
                        refine wb_gf4 241 rfl (wy_pr rfl) wt_241 wf_12_19 (v := 259) wl_241_19 ?_
                        refine wa_iload_n (n := 2) rfl ?_
                        refine wa_aload_n (n := 0) rfl ?_
                        refine wb_gfi 237 rfl (wy_pr rfl) wt_237 wf_15_7 (v := p1) ((w_up_slot (by decide)).trans ((w_up_slot (by decide)).trans ((lx_E_7 hE)))) (fun r37 => ?_)
                        refine wb_iast 259 rfl (wy_pr rfl) wt_259 (n := 400) ((w_up_slot (by decide)).trans ((w_up_slot (by decide)).trans ((ml_259 hE.1.1)))) (by omega) (by omega) ⟨(by omega), (by omega)⟩ ?_
                        refine wa_aload_n (n := 0) rfl ?_
                        refine wb_gf5 237 rfl (wy_pr rfl) wt_237 wf_15_15 (v := 241) ((w_up_slot (by decide)).trans ((w_up_slot (by decide)).trans ((w_up_slot (by decide)).trans (((hL 237 15 (by omega) (by omega)).trans hA15))))) (fun r38 => ?_)
                        refine wb_gf4 241 rfl (wy_pr rfl) wt_241 wf_12_20 (v := 260) wl_241_20 ?_
                        refine wa_iload_n (n := 2) rfl ?_
                        refine wa_aload_n (n := 0) rfl ?_
                        refine wb_gfi 237 rfl (wy_pr rfl) wt_237 wf_15_7 (v := p1) ((w_up_slot (by decide)).trans ((w_up_slot (by decide)).trans ((w_up_slot (by decide)).trans ((lx_E_7 hE))))) (fun r39 => ?_)
                        refine wb_iast 260 rfl (wy_pr rfl) wt_260 (n := 400) ((w_up_slot (by decide)).trans ((w_up_slot (by decide)).trans ((w_up_slot (by decide)).trans ((ml_260 hE.1.1))))) (by omega) (by omega) ⟨(by omega), (by omega)⟩ ?_
                        refine wa_aload_n (n := 0) rfl ?_
                        refine wa_ks ?_
                        refine wa_cv 237 rfl (wy_pr rfl) wt_237 (M2 := fun _ => False) rfl at_M_isWord ⟨_, rfl⟩ rfl rfl ⟨(Or.inr ⟨wy_pr rfl, fun q => q⟩), trivial, trivial, trivial, trivial⟩ trivial (fun _ _ q => False.elim q) (isWord_ok (S := (w_up (w_up (w_up (w_up Z 252 m c) 254 m st) 259 m p1) 260 m p1)) (lx_E_up (lx_E_up (lx_E_up (lx_E_up hE (by decide) (by omega)) (by decide) (by omega)) (by decide) (by omega)) (by decide) (by omega)).1.1 (wx_25 hX) (by decide) (lx_I_hp (lx_E_up (lx_E_up (lx_E_up (lx_E_up hE (by decide) (by omega)) (by decide) (by omega)) (by decide) (by omega)) (by decide) (by omega)).1)) (fun oq41 Sq41 hp42 q41 => ?_)
                        rcases q41 with ⟨rfl, ⟨rfl, gw40⟩ | ⟨rfl, gw40⟩⟩
                        · skip
                          show wJ _ _ _ _ _ _ _ _ _ _
                          rw [lx_E_w (lx_E_up (lx_E_up (lx_E_up (lx_E_up hE (by decide) (by omega)) (by decide) (by omega)) (by decide) (by omega)) (by decide) (by omega))] at gw40
                          refine wa_ifeq (w_rg0 (by omega) (by omega)) ⟨_, rfl⟩ (fun c43 => ?_) (fun c43 => ?_)
                          · skip
                            exact absurd c43 (by omega)
                          · skip
                            refine wa_aload_n (n := 0) rfl ?_
                            refine wb_gf5 237 rfl (wy_pr rfl) wt_237 wf_15_15 (v := 241) ((w_up_slot (by decide)).trans ((w_up_slot (by decide)).trans ((w_up_slot (by decide)).trans ((w_up_slot (by decide)).trans (((hL 237 15 (by omega) (by omega)).trans hA15)))))) (fun r44 => ?_)
                            refine wb_gf4 241 rfl (wy_pr rfl) wt_241 wf_12_13 (v := 253) wl_241_13 ?_
                            refine wa_iload_n (n := 2) rfl ?_
                            refine wa_iconst ?_
                            refine wb_iast 253 rfl (wy_pr rfl) wt_253 (n := 400) ((w_up_slot (by decide)).trans ((w_up_slot (by decide)).trans ((w_up_slot (by decide)).trans ((w_up_slot (by decide)).trans ((ml_253 hE.1.1)))))) (by omega) (by omega) ⟨(by omega), (by omega)⟩ ?_
                            refine wa_aload_n (n := 0) rfl ?_
                            refine wb_gf5 237 rfl (wy_pr rfl) wt_237 wf_15_15 (v := 241) ((w_up_slot (by decide)).trans ((w_up_slot (by decide)).trans ((w_up_slot (by decide)).trans ((w_up_slot (by decide)).trans ((w_up_slot (by decide)).trans (((hL 237 15 (by omega) (by omega)).trans hA15))))))) (fun r45 => ?_)
                            refine wa_fall ⟨_, rfl⟩ ?_
                            refine wb_gf4 241 rfl (wy_pr rfl) wt_241 wf_12_15 (v := 255) wl_241_15 ?_
                            refine wa_iload_n (n := 2) rfl ?_
                            refine wa_bipush (w_rg2 (by omega) (by omega)) ?_
                            refine wa_iload_n (n := 1) rfl ?_
                            refine wa_iadd ?_
                            refine wb_iast 255 rfl (wy_pr rfl) wt_255 (n := 400) ((w_up_slot (by decide)).trans ((w_up_slot (by decide)).trans ((w_up_slot (by decide)).trans ((w_up_slot (by decide)).trans ((w_up_slot (by decide)).trans ((ml_255 hE.1.1))))))) (by omega) (by omega) ⟨(by omega), (by omega)⟩ ?_
                            refine wa_aload_n (n := 0) rfl ?_
                            refine wa_cv 237 rfl (wy_pr rfl) wt_237 (M2 := fun _ => False) rfl at_M_next ⟨_, rfl⟩ rfl rfl ⟨(Or.inr ⟨wy_pr rfl, fun q => q⟩), trivial, trivial, trivial, trivial⟩ trivial (fun _ _ q => False.elim q) (nx_I (S := (w_up (w_up (w_up (w_up (w_up (w_up Z 252 m c) 254 m st) 259 m p1) 260 m p1) 253 m 2) 255 m (9 + c))) (lx_E_up (lx_E_up (lx_E_up (lx_E_up (lx_E_up (lx_E_up hE (by decide) (by omega)) (by decide) (by omega)) (by decide) (by omega)) (by decide) (by omega)) (by decide) (by omega)) (by decide) (by omega)).1 (by have e6 : (w_up (w_up (w_up (w_up (w_up (w_up Z 252 m c) 254 m st) 259 m p1) 260 m p1) 253 m 2) 255 m (9 + c)) 237 6 = (zq A p1 237 6) := ((w_up_slot (by decide)).trans ((w_up_slot (by decide)).trans ((w_up_slot (by decide)).trans ((w_up_slot (by decide)).trans ((w_up_slot (by decide)).trans ((w_up_slot (by decide)).trans ((lx_E_6 hE)))))))); first | omega | (have := (lx_is4 gis).1; omega) | (have := lx_w1 hnw; omega))) (fun oq46 Sq46 hp47 q46 => ?_)
                            rcases q46 with ⟨rfl, a1, a2⟩
                            show wJ _ _ _ _ _ _ _ _ _ _
                            rw [lx_E_ne (lx_E_up (lx_E_up (lx_E_up (lx_E_up (lx_E_up (lx_E_up hE (by decide) (by omega)) (by decide) (by omega)) (by decide) (by omega)) (by decide) (by omega)) (by decide) (by omega)) (by decide) (by omega))] at a2
                            have hE48 : lx_E Sq46 A (lx_ne (zq A p1) p1) := lx_E_ag (lx_E_up (lx_E_up (lx_E_up (lx_E_up (lx_E_up (lx_E_up hE (by decide) (by omega)) (by decide) (by omega)) (by decide) (by omega)) (by decide) (by omega)) (by decide) (by omega)) (by decide) (by omega)) a1 a2
                            have hL48 : lx_ag (w_up (w_up (w_up (w_up (w_up (w_up A 252 m c) 254 m st) 259 m p1) 260 m p1) 253 m 2) 255 m (9 + c)) Sq46 := lx_ag_tr (lx_ag_cg (lx_ag_cg (lx_ag_cg (lx_ag_cg (lx_ag_cg (lx_ag_cg hL)))))) a1
                            refine wa_aload_n (n := 0) rfl ?_
                            refine wa_bipush (w_rg2 (by omega) (by omega)) ?_
                            refine wa_cv 237 rfl (wy_pr rfl) wt_237 (M2 := fun _ => False) rfl at_M_takes ⟨_, rfl⟩ rfl rfl ⟨(Or.inr ⟨wy_pr rfl, fun q => q⟩), trivial, trivial, trivial, trivial⟩ trivial (fun _ _ q => False.elim q) (takes_ok (S := Sq46) hE48.1 ⟨by omega, by omega⟩) (fun oq49 Sq49 hp50 q49 => ?_)
                            rcases q49 with ⟨rfl, gk, a1, a2⟩ | ⟨rfl, gk, rfl⟩
                            · skip
                              rw [lx_E_is hE48] at gk
                              have gis := gk
                              have gsv := gis
                              show wJ _ _ _ _ _ _ _ _ _ _
                              rw [lx_E_ne hE48] at a2
                              have hE51 : lx_E Sq49 A (lx_ne (zq A (lx_ne (zq A p1) p1)) (lx_ne (zq A p1) p1)) := lx_E_ag hE48 a1 a2
                              have hL51 : lx_ag (w_up (w_up (w_up (w_up (w_up (w_up A 252 m c) 254 m st) 259 m p1) 260 m p1) 253 m 2) 255 m (9 + c)) Sq49 := lx_ag_tr hL48 a1
                              refine wa_aload_n (n := 0) rfl ?_
                              refine wa_iload_n (n := 1) rfl ?_
                              refine wa_iload_n (n := 2) rfl ?_
                              refine wa_cv 237 rfl (wy_pr rfl) wt_237 (M2 := fun _ => False) rfl at_M_readsParameters ⟨_, rfl⟩ rfl rfl ⟨(Or.inr ⟨wy_pr rfl, fun q => q⟩), trivial, trivial, trivial, trivial⟩ trivial (fun _ _ q => False.elim q) (readsParameters_241 (A := Sq49) (R := pq_k (w_up (w_up (w_up (w_up (w_up (w_up A 252 m c) 254 m st) 259 m p1) 260 m p1) 253 m 2) 255 m (9 + c)) 241 c m (pq_r (w_up (w_up (w_up (w_up (w_up (w_up A 252 m c) 254 m st) 259 m p1) 260 m p1) 253 m 2) 255 m (9 + c)) 241 (lx_ne (zq A (lx_ne (zq A p1) p1)) (lx_ne (zq A p1) p1)))) hX (((hL51 237 15 (by omega) (by omega)).trans hA15)) ⟨by omega, by omega⟩ (ho_mm_ag hm.1 (by decide) hmm (hm_ag_lx (hm_ag_up (hm_ag_up (hm_ag_up (hm_ag_up (hm_ag_up (hm_ag_up hm_ag_rf (by decide) (by omega) (by decide)) (by decide) (by omega) (by decide)) (by decide) (by omega) (by decide)) (by decide) (by omega) (by decide)) (by decide) (by omega) (by decide)) (by decide) (by omega) (by decide)) hL51)) (by have y1 : Sq49 259 m = p1 := (((hL51 259 m (by omega) (by omega)).trans ((w_up_slot (by decide)).trans ((w_up_slot (by decide)).trans ((w_up_slot (by decide)).trans (w_up_same _ _ _ _)))))); have y2 : Sq49 260 m = p1 := (((hL51 260 m (by omega) (by omega)).trans ((w_up_slot (by decide)).trans ((w_up_slot (by decide)).trans (w_up_same _ _ _ _))))); omega) (by rw [show Sq49 248 c = A 248 c from (((hL51 248 c (by omega) (by omega)).trans ((w_up_slot (by decide)).trans ((w_up_slot (by decide)).trans ((w_up_slot (by decide)).trans ((w_up_slot (by decide)).trans ((w_up_slot (by decide)).trans (w_up_slot (by decide)))))))))]; exact hfi) hcc (ho_nm_of hAn ((hL51 241 1 (by omega) (by omega)).trans rfl) (funext fun i => (hL51 250 i (by omega) (by omega)).trans rfl) (funext fun i => (hL51 251 i (by omega) (by omega)).trans rfl)) ⟨hE51.1, rfl, rfl, rfl⟩ (pq_ag hL51 (by decide))) (fun oq52 Sq52 hp53 q52 => ?_)
                              rcases q52 with ⟨q, v, l, hR, rfl, c1, c2, c3, c4⟩ | ⟨e, q, hR, rfl, c1, c2, c3⟩
                              · skip
                                repeat (first | rw [if_pos (by omega)] at he | rw [if_neg (by omega)] at he)
                                first | rw [if_neg (by rw [goo]; decide), if_pos gsv] at he | rw [if_pos gsv] at he | rw [if_neg (by rw [goo]; decide)] at he | skip
                                unfold rm_par at he
                                rw [hR] at he
                                dsimp only at he
                                show wJ _ _ _ _ _ _ _ _ _ _
                                refine wa_goto ⟨_, rfl⟩ ?_
                                exact wJ_S (mem_23_241 hA15 hAm ⟨by omega, by omega⟩ hcc hmy (hm_ag_tr (hm_ag_lx (hm_ag_up (hm_ag_up (hm_ag_up (hm_ag_up (hm_ag_up (hm_ag_up hm_ag_rf (by decide) (by omega) (by decide)) (by decide) (by omega) (by decide)) (by decide) (by omega) (by decide)) (by decide) (by omega) (by decide)) (by decide) (by omega) (by decide)) (by decide) (by omega) (by decide)) hL51) (hp_hm c1)) ⟨c2.1, c2.2.1.trans hE51.2.1, c2.2.2.1.trans hE51.2.2.1, c2.2.2.2.trans hE51.2.2.2⟩ ⟨(c1 252 m (by omega) (by omega) (by omega) (by omega)).trans (((hL51 252 m (by omega) (by omega)).trans ((w_up_slot (by decide)).trans ((w_up_slot (by decide)).trans ((w_up_slot (by decide)).trans ((w_up_slot (by decide)).trans ((w_up_slot (by decide)).trans (w_up_same _ _ _ _)))))))), (c1 253 m (by omega) (by omega) (by omega) (by omega)).trans (((hL51 253 m (by omega) (by omega)).trans ((w_up_slot (by decide)).trans (w_up_same _ _ _ _)))), (c1 254 m (by omega) (by omega) (by omega) (by omega)).trans (((hL51 254 m (by omega) (by omega)).trans ((w_up_slot (by decide)).trans ((w_up_slot (by decide)).trans ((w_up_slot (by decide)).trans ((w_up_slot (by decide)).trans (w_up_same _ _ _ _))))))), (c1 255 m (by omega) (by omega) (by omega) (by omega)).trans (((hL51 255 m (by omega) (by omega)).trans (w_up_same _ _ _ _))), (c1 259 m (by omega) (by omega) (by omega) (by omega)).trans (((hL51 259 m (by omega) (by omega)).trans ((w_up_slot (by decide)).trans ((w_up_slot (by decide)).trans ((w_up_slot (by decide)).trans (w_up_same _ _ _ _)))))), (c1 260 m (by omega) (by omega) (by omega) (by omega)).trans (((hL51 260 m (by omega) (by omega)).trans ((w_up_slot (by decide)).trans ((w_up_slot (by decide)).trans (w_up_same _ _ _ _)))))⟩ c3 c4 he) ⟨rfl, rfl, rfl, trivial⟩
                              · skip
                                repeat (first | rw [if_pos (by omega)] at he | rw [if_neg (by omega)] at he)
                                first | rw [if_neg (by rw [goo]; decide), if_pos gsv] at he | rw [if_pos gsv] at he | rw [if_neg (by rw [goo]; decide)] at he | skip
                                unfold rm_par at he
                                rw [hR] at he
                                dsimp only at he
                                refine ⟨rfl, ?_⟩
                                exact Or.inr ⟨_, _, he.symm, rfl, (hm_ag_tr (hm_ag_lx (hm_ag_up (hm_ag_up (hm_ag_up (hm_ag_up (hm_ag_up (hm_ag_up hm_ag_rf (by decide) (by omega) (by decide)) (by decide) (by omega) (by decide)) (by decide) (by omega) (by decide)) (by decide) (by omega) (by decide)) (by decide) (by omega) (by decide)) (by decide) (by omega) (by decide)) hL51) (hp_hm c1)), c2, c3⟩
                            · skip
                              rw [lx_E_is hE48] at gk
                              have gis := gk
                              have gsv := gis
                              refine ⟨rfl, ?_⟩
                              repeat (first | rw [if_pos (by omega)] at he | rw [if_neg (by omega)] at he)
                              first | (rw [ty] at he; dsimp only at he) | (rw [if_neg (by rw [gis]; decide)] at he) | skip
                              first | (rw [if_pos (by omega), if_pos goo] at he) | skip
                              exact Or.inr ⟨_, _, he.symm, rfl, hm_ag_hl (hm_ag_lx (hm_ag_up (hm_ag_up (hm_ag_up (hm_ag_up (hm_ag_up (hm_ag_up hm_ag_rf (by decide) (by omega) (by decide)) (by decide) (by omega) (by decide)) (by decide) (by omega) (by decide)) (by decide) (by omega) (by decide)) (by decide) (by omega) (by decide)) (by decide) (by omega) (by decide)) hL48), rfl, by first | rfl | exact (show Sq46 237 7 = (lx_ne (zq A p1) p1) from ((lx_E_7 hE48)))⟩
                        · skip
                          rw [lx_E_w (lx_E_up (lx_E_up (lx_E_up (lx_E_up hE (by decide) (by omega)) (by decide) (by omega)) (by decide) (by omega)) (by decide) (by omega))] at gw40
                          exact absurd (gw40.symm.trans hnw) (by decide)
                      · skip
                        exact absurd m31 (by decide)
                · skip
                  rw [lx_E_w hE] at gw21
                  exact absurd (gw21.symm.trans hnw) (by decide)
              · skip
                exact absurd m18 (by decide)
          · skip
            exact absurd c13 (by omega)
        · skip
          rw [lx_E_w hE] at gw10
          exact absurd (gw10.symm.trans hnw) (by decide)
      · skip
        exact absurd m7 (by decide)
    · skip
      refine wa_aload_n (n := 0) rfl ?_
      refine wa_ks ?_
      refine wa_cv 237 rfl (wy_pr rfl) wt_237 (M2 := fun _ => False) rfl at_M_isWord ⟨_, rfl⟩ rfl rfl ⟨(Or.inr ⟨wy_pr rfl, fun q => q⟩), trivial, trivial, trivial, trivial⟩ ⟨(Or.inr ⟨wy_pr rfl, fun q => q⟩), trivial⟩ (fun _ _ q => False.elim q) (isWord_ok (S := Z) hE.1.1 (wx_25 hX) (by decide) (lx_I_hp hE.1)) (fun oq57 Sq57 hp58 q57 => ?_)
      rcases q57 with ⟨rfl, ⟨rfl, gw56⟩ | ⟨rfl, gw56⟩⟩
      · skip
        show wJ _ _ _ _ _ _ _ _ _ _
        rw [lx_E_w hE] at gw56
        refine wa_ifne (w_rg0 (by omega) (by omega)) ⟨_, rfl⟩ (fun c59 => ?_) (fun c59 => ?_)
        · skip
          refine wa_iconst ?_
          refine wa_fall ⟨_, rfl⟩ ?_
          refine wa_iconst ?_
          refine wa_cv 237 rfl (wy_pr rfl) wt_237 (M2 := fun _ => False) rfl at_M_must ⟨_, rfl⟩ rfl rfl ⟨(Or.inr ⟨wy_pr rfl, fun q => q⟩), trivial, trivial, trivial, trivial⟩ trivial (fun _ _ q => False.elim q) (must_ok (S := Z) (g := 0) (n := 1) (Or.inl rfl) ⟨by omega, by omega⟩) (fun oq61 Sq61 hp62 q61 => ?_)
          rcases q61 with ⟨m60, _, _⟩ | ⟨_, rfl, rfl⟩
          · skip
            exact absurd m60 (by decide)
          · skip
            refine ⟨rfl, ?_⟩
            repeat (first | rw [if_pos (by omega)] at he | rw [if_neg (by omega)] at he)
            first | (rw [ty] at he; dsimp only at he) | (rw [if_neg (by rw [gis]; decide)] at he) | skip
            first | (rw [if_pos (by omega), if_pos goo] at he) | skip
            exact Or.inr ⟨_, _, he.symm, rfl, hm_ag_hl (hm_ag_lx hm_ag_rf hL), rfl, by first | rfl | exact (show Z 237 7 = p1 from ((lx_E_7 hE)))⟩
        · skip
          exact absurd c59 (by omega)
      · skip
        rw [lx_E_w hE] at gw56
        exact absurd (gw56.symm.trans hnw) (by decide)
theorem mem_3_ty_241 {c m p1 st : Int} {R : hRM} {Z : wS} (hX : w_X xs) (hA15 : A 237 15 = 241) (hAm : A 241 11 = m) (hm : 0 ≤ m ∧ m ≤ 400) (hmm : ho_mm A 241 m) (hfi : 0 ≤ A 248 c ∧ A 248 c ≤ m) (hcc : 0 ≤ c ∧ c < 60) (hAn : ho_nm A 241) (hmy : 0 ≤ A 249 c ∧ A 249 c ≤ 400) (hst : st = 0 ∨ st = 1) (hE : lx_E Z A p1) (hL : lx_ag A Z) (hnw : lx_w (zq A p1) tx_25 = false) (he : rm_body_241 A c m p1 st = R) : wJ (pe_GA xs) wY0 M (d + 7) t_M_readsMember ((pe_at t_M_readsMember.bl 3).getD (0, [])).2 [(0, (2, 237)), (1, (0, c)), (2, (0, m)), (3, (0, st))] [] Z (fun o S2 => (∃ (p2 so st ty v f e : Int) (l : List Int), R = .inr (p2, so, st, ty, l, v, f, e) ∧ o = .inl none ∧ hM_ag 241 c m A S2 ∧ lx_E S2 A p2 ∧ S2 241 11 = m + 1 ∧ S2 249 c = A 249 c + 1 ∧ hm_rec 241 m S2 c so st ty f e ∧ hm_ps 241 m S2 l v ∧ l.length ≤ 8) ∨ (∃ e q : Int, R = .inl (e, q) ∧ o = .inr 238 ∧ hm_ag 241 m A S2 ∧ S2 238 5 = e ∧ S2 238 6 = q)) := by
  rw [rm_ty_241 hnw] at he
  have hpp := hE.1.2.2.1
  have hnn := hE.1.2.1
  have hp8 := lx_I_hp hE.1
  refine wa_aload_n (n := 0) rfl ?_
  refine wa_aload_n (n := 0) rfl ?_
  refine wb_gfi 237 rfl (wy_pr rfl) wt_237 wf_15_6 (v := (zq A p1 237 6)) ((lx_E_6 hE)) (fun r1 => ?_)
  refine wa_iconst ?_
  refine wa_icmpne (w_rg0 (by omega) (by omega)) (w_rg0 (by omega) (by omega)) ⟨_, rfl⟩ (fun c2 => ?_) (fun c2 => ?_)
  · skip
    refine wa_iconst ?_
    refine wa_fall ⟨_, rfl⟩ ?_
    refine wa_iconst ?_
    refine wa_cv 237 rfl (wy_pr rfl) wt_237 (M2 := fun _ => False) rfl at_M_must ⟨_, rfl⟩ rfl rfl ⟨(Or.inr ⟨wy_pr rfl, fun q => q⟩), trivial, trivial, trivial, trivial⟩ trivial (fun _ _ q => False.elim q) (must_ok (S := Z) (g := 0) (n := 1) (Or.inl rfl) ⟨by omega, by omega⟩) (fun oq4 Sq4 hp5 q4 => ?_)
    rcases q4 with ⟨m3, _, _⟩ | ⟨_, rfl, rfl⟩
    · skip
      exact absurd m3 (by decide)
    · skip
      refine ⟨rfl, ?_⟩
      repeat (first | rw [if_pos (by omega)] at he | rw [if_neg (by omega)] at he)
      first | (rw [ty] at he; dsimp only at he) | (rw [if_neg (by rw [gis]; decide)] at he) | skip
      first | (rw [if_pos (by omega), if_pos goo] at he) | skip
      exact Or.inr ⟨_, _, he.symm, rfl, hm_ag_hl (hm_ag_lx hm_ag_rf hL), rfl, by first | rfl | exact (show Z 237 7 = p1 from ((lx_E_7 hE)))⟩
  · skip
    refine wa_iload_n (n := 3) rfl ?_
    refine wa_ifeq (w_rg0 (by omega) (by omega)) ⟨_, rfl⟩ (fun c6 => ?_) (fun c6 => ?_)
    · skip
      refine wa_iconst ?_
      refine wa_goto ⟨_, rfl⟩ ?_
      refine wa_iconst ?_
      refine wa_cv 237 rfl (wy_pr rfl) wt_237 (M2 := fun _ => False) rfl at_M_must ⟨_, rfl⟩ rfl rfl ⟨(Or.inr ⟨wy_pr rfl, fun q => q⟩), trivial, trivial, trivial, trivial⟩ trivial (fun _ _ q => False.elim q) (must_ok (S := Z) (g := 1) (n := 1) (Or.inr rfl) ⟨by omega, by omega⟩) (fun oq8 Sq8 hp9 q8 => ?_)
      rcases q8 with ⟨_, rfl, rfl⟩ | ⟨m7, _, _⟩
      · skip
        show wJ _ _ _ _ _ _ _ _ _ _
        refine wa_aload_n (n := 0) rfl ?_
        refine wa_ks ?_
        refine wa_cv 237 rfl (wy_pr rfl) wt_237 (M2 := fun _ => False) rfl at_M_isWord ⟨_, rfl⟩ rfl rfl ⟨(Or.inr ⟨wy_pr rfl, fun q => q⟩), trivial, trivial, trivial, trivial⟩ trivial (fun _ _ q => False.elim q) (isWord_ok (S := Z) hE.1.1 (wx_25 hX) (by decide) (lx_I_hp hE.1)) (fun oq11 Sq11 hp12 q11 => ?_)
        rcases q11 with ⟨rfl, ⟨rfl, gw10⟩ | ⟨rfl, gw10⟩⟩
        · skip
          rw [lx_E_w hE] at gw10
          exact absurd (gw10.symm.trans hnw) (by decide)
        · skip
          show wJ _ _ _ _ _ _ _ _ _ _
          rw [lx_E_w hE] at gw10
          refine wa_ifne (w_rg0 (by omega) (by omega)) ⟨_, rfl⟩ (fun c13 => ?_) (fun c13 => ?_)
          · skip
            exact absurd c13 (by omega)
          · skip
            refine wa_aload_n (n := 0) rfl ?_
            refine wa_aload_n (n := 0) rfl ?_
            refine wa_ks ?_
            refine wa_cv 237 rfl (wy_pr rfl) wt_237 (M2 := fun _ => False) rfl at_M_place ⟨_, rfl⟩ rfl rfl ⟨(Or.inr ⟨wy_pr rfl, fun q => q⟩), trivial, trivial, trivial, trivial⟩ ⟨(Or.inr ⟨wy_pr rfl, fun q => q⟩), trivial⟩ (fun _ _ q => False.elim q) (place_ok (S := Z) hE.1.1 (wx_27 hX) (by decide) (by decide) (lx_I_hp hE.1) (by decide)) (fun oq14 Sq14 hp15 q14 => ?_)
            rcases q14 with ⟨rfl, rfl⟩
            show wJ _ _ _ _ _ _ _ _ _ _
            rw [lx_E_pl hE]
            have hpl := pl_of_rg (zq A p1) tx_27 (by decide)
            refine wa_ifge (w_rg0 (by omega) (by omega)) ⟨_, rfl⟩ (fun c16 => ?_) (fun c16 => ?_)
            · skip
              refine wa_iconst ?_
              refine wa_goto ⟨_, rfl⟩ ?_
              refine wa_iconst ?_
              refine wa_cv 237 rfl (wy_pr rfl) wt_237 (M2 := fun _ => False) rfl at_M_must ⟨_, rfl⟩ rfl rfl ⟨(Or.inr ⟨wy_pr rfl, fun q => q⟩), trivial, trivial, trivial, trivial⟩ trivial (fun _ _ q => False.elim q) (must_ok (S := Z) (g := 1) (n := 3) (Or.inr rfl) ⟨by omega, by omega⟩) (fun oq18 Sq18 hp19 q18 => ?_)
              rcases q18 with ⟨_, rfl, rfl⟩ | ⟨m17, _, _⟩
              · skip
                show wJ _ _ _ _ _ _ _ _ _ _
                refine wa_fall ⟨_, rfl⟩ ?_
                refine wa_aload_n (n := 0) rfl ?_
                refine wa_iload_n (n := 2) rfl ?_
                refine wa_sipush (by omega) ?_
                refine wa_icmpge (w_rg0 (by omega) (by omega)) (w_rg0 (by omega) (by omega)) ⟨_, rfl⟩ (fun c20 => ?_) (fun c20 => ?_)
                · skip
                  refine wa_iconst ?_
                  refine wa_fall ⟨_, rfl⟩ ?_
                  refine wa_iconst ?_
                  refine wa_cv 237 rfl (wy_pr rfl) wt_237 (M2 := fun _ => False) rfl at_M_must ⟨_, rfl⟩ rfl rfl ⟨(Or.inr ⟨wy_pr rfl, fun q => q⟩), trivial, trivial, trivial, trivial⟩ trivial (fun _ _ q => False.elim q) (must_ok (S := Z) (g := 0) (n := 5) (Or.inl rfl) ⟨by omega, by omega⟩) (fun oq22 Sq22 hp23 q22 => ?_)
                  rcases q22 with ⟨m21, _, _⟩ | ⟨_, rfl, rfl⟩
                  · skip
                    exact absurd m21 (by decide)
                  · skip
                    refine ⟨rfl, ?_⟩
                    repeat (first | rw [if_pos (by omega)] at he | rw [if_neg (by omega)] at he)
                    first | (rw [ty] at he; dsimp only at he) | (rw [if_neg (by rw [gis]; decide)] at he) | skip
                    first | (rw [if_pos (by omega), if_pos goo] at he) | skip
                    exact Or.inr ⟨_, _, he.symm, rfl, hm_ag_hl (hm_ag_lx hm_ag_rf hL), rfl, by first | rfl | exact (show Z 237 7 = p1 from ((lx_E_7 hE)))⟩
                · skip
                  refine wa_iconst ?_
                  refine wa_goto ⟨_, rfl⟩ ?_
                  refine wa_iconst ?_
                  refine wa_cv 237 rfl (wy_pr rfl) wt_237 (M2 := fun _ => False) rfl at_M_must ⟨_, rfl⟩ rfl rfl ⟨(Or.inr ⟨wy_pr rfl, fun q => q⟩), trivial, trivial, trivial, trivial⟩ trivial (fun _ _ q => False.elim q) (must_ok (S := Z) (g := 1) (n := 5) (Or.inr rfl) ⟨by omega, by omega⟩) (fun oq25 Sq25 hp26 q25 => ?_)
                  rcases q25 with ⟨_, rfl, rfl⟩ | ⟨m24, _, _⟩
                  · skip
                    show wJ _ _ _ _ _ _ _ _ _ _
                    refine wa_aload_n (n := 0) rfl ?_
                    refine wa_aload_n (n := 0) rfl ?_
                    refine wa_ks ?_
                    refine wa_cv 237 rfl (wy_pr rfl) wt_237 (M2 := fun _ => False) rfl at_M_isWord ⟨_, rfl⟩ rfl rfl ⟨(Or.inr ⟨wy_pr rfl, fun q => q⟩), trivial, trivial, trivial, trivial⟩ ⟨(Or.inr ⟨wy_pr rfl, fun q => q⟩), trivial⟩ (fun _ _ q => False.elim q) (isWord_ok (S := Z) hE.1.1 (wx_25 hX) (by decide) (lx_I_hp hE.1)) (fun oq28 Sq28 hp29 q28 => ?_)
                    rcases q28 with ⟨rfl, ⟨rfl, gw27⟩ | ⟨rfl, gw27⟩⟩
                    · skip
                      rw [lx_E_w hE] at gw27
                      exact absurd (gw27.symm.trans hnw) (by decide)
                    · skip
                      show wJ _ _ _ _ _ _ _ _ _ _
                      rw [lx_E_w hE] at gw27
                      refine wa_ifeq (w_rg0 (by omega) (by omega)) ⟨_, rfl⟩ (fun c30 => ?_) (fun c30 => ?_)
                      · skip
                        refine wa_iconst ?_
                        refine wa_goto ⟨_, rfl⟩ ?_
                        refine wa_bipush (w_rg2 (by omega) (by omega)) ?_
                        refine wa_cv 237 rfl (wy_pr rfl) wt_237 (M2 := fun _ => False) rfl at_M_must ⟨_, rfl⟩ rfl rfl ⟨(Or.inr ⟨wy_pr rfl, fun q => q⟩), trivial, trivial, trivial, trivial⟩ trivial (fun _ _ q => False.elim q) (must_ok (S := Z) (g := 1) (n := 6) (Or.inr rfl) ⟨by omega, by omega⟩) (fun oq32 Sq32 hp33 q32 => ?_)
                        rcases q32 with ⟨_, rfl, rfl⟩ | ⟨m31, _, _⟩
                        · skip
                          show wJ _ _ _ _ _ _ _ _ _ _
                          refine wa_aload_n (n := 0) rfl ?_
                          refine wb_gf5 237 rfl (wy_pr rfl) wt_237 wf_15_15 (v := 241) (((hL 237 15 (by omega) (by omega)).trans hA15)) (fun r34 => ?_)
                          refine wb_gf4 241 rfl (wy_pr rfl) wt_241 wf_12_12 (v := 252) wl_241_12 ?_
                          refine wa_iload_n (n := 2) rfl ?_
                          refine wa_iload_n (n := 1) rfl ?_
                          refine wb_iast 252 rfl (wy_pr rfl) wt_252 (n := 400) ((ml_252 hE.1.1)) (by omega) (by omega) ⟨(by omega), (by omega)⟩ ?_
                          refine wa_aload_n (n := 0) rfl ?_
                          refine wb_gf5 237 rfl (wy_pr rfl) wt_237 wf_15_15 (v := 241) ((w_up_slot (by decide)).trans (((hL 237 15 (by omega) (by omega)).trans hA15))) (fun r35 => ?_)
                          refine wb_gf4 241 rfl (wy_pr rfl) wt_241 wf_12_14 (v := 254) wl_241_14 ?_
                          refine wa_iload_n (n := 2) rfl ?_
                          refine wa_iload_n (n := 3) rfl ?_
                          refine wb_zast 254 rfl (wy_pr rfl) wt_254 (n := 400) ((w_up_slot (by decide)).trans ((ml_254 hE.1.1))) (by omega) (by omega) ⟨(by omega), (by omega)⟩ ?_
                          refine wa_aload_n (n := 0) rfl ?_
                          refine wb_gf5 237 rfl (wy_pr rfl) wt_237 wf_15_15 (v := 241) ((w_up_slot (by decide)).trans ((w_up_slot (by decide)).trans (((hL 237 15 (by omega) (by omega)).trans hA15)))) (fun r36 => ?_)
                          refine wb_gf4 241 rfl (wy_pr rfl) wt_241 wf_12_19 (v := 259) wl_241_19 ?_
                          refine wa_iload_n (n := 2) rfl ?_
                          refine wa_aload_n (n := 0) rfl ?_
                          refine wb_gfi 237 rfl (wy_pr rfl) wt_237 wf_15_7 (v := p1) ((w_up_slot (by decide)).trans ((w_up_slot (by decide)).trans ((lx_E_7 hE)))) (fun r37 => ?_)
                          refine wb_iast 259 rfl (wy_pr rfl) wt_259 (n := 400) ((w_up_slot (by decide)).trans ((w_up_slot (by decide)).trans ((ml_259 hE.1.1)))) (by omega) (by omega) ⟨(by omega), (by omega)⟩ ?_
                          refine wa_aload_n (n := 0) rfl ?_
                          refine wb_gf5 237 rfl (wy_pr rfl) wt_237 wf_15_15 (v := 241) ((w_up_slot (by decide)).trans ((w_up_slot (by decide)).trans ((w_up_slot (by decide)).trans (((hL 237 15 (by omega) (by omega)).trans hA15))))) (fun r38 => ?_)
                          refine wb_gf4 241 rfl (wy_pr rfl) wt_241 wf_12_20 (v := 260) wl_241_20 ?_
                          refine wa_iload_n (n := 2) rfl ?_
                          refine wa_aload_n (n := 0) rfl ?_
                          refine wb_gfi 237 rfl (wy_pr rfl) wt_237 wf_15_7 (v := p1) ((w_up_slot (by decide)).trans ((w_up_slot (by decide)).trans ((w_up_slot (by decide)).trans ((lx_E_7 hE))))) (fun r39 => ?_)
                          refine wb_iast 260 rfl (wy_pr rfl) wt_260 (n := 400) ((w_up_slot (by decide)).trans ((w_up_slot (by decide)).trans ((w_up_slot (by decide)).trans ((ml_260 hE.1.1))))) (by omega) (by omega) ⟨(by omega), (by omega)⟩ ?_
                          refine wa_aload_n (n := 0) rfl ?_
                          refine wa_ks ?_
                          refine wa_cv 237 rfl (wy_pr rfl) wt_237 (M2 := fun _ => False) rfl at_M_isWord ⟨_, rfl⟩ rfl rfl ⟨(Or.inr ⟨wy_pr rfl, fun q => q⟩), trivial, trivial, trivial, trivial⟩ trivial (fun _ _ q => False.elim q) (isWord_ok (S := (w_up (w_up (w_up (w_up Z 252 m c) 254 m st) 259 m p1) 260 m p1)) (lx_E_up (lx_E_up (lx_E_up (lx_E_up hE (by decide) (by omega)) (by decide) (by omega)) (by decide) (by omega)) (by decide) (by omega)).1.1 (wx_25 hX) (by decide) (lx_I_hp (lx_E_up (lx_E_up (lx_E_up (lx_E_up hE (by decide) (by omega)) (by decide) (by omega)) (by decide) (by omega)) (by decide) (by omega)).1)) (fun oq41 Sq41 hp42 q41 => ?_)
                          rcases q41 with ⟨rfl, ⟨rfl, gw40⟩ | ⟨rfl, gw40⟩⟩
                          · skip
                            rw [lx_E_w (lx_E_up (lx_E_up (lx_E_up (lx_E_up hE (by decide) (by omega)) (by decide) (by omega)) (by decide) (by omega)) (by decide) (by omega))] at gw40
                            exact absurd (gw40.symm.trans hnw) (by decide)
                          · skip
                            show wJ _ _ _ _ _ _ _ _ _ _
                            rw [lx_E_w (lx_E_up (lx_E_up (lx_E_up (lx_E_up hE (by decide) (by omega)) (by decide) (by omega)) (by decide) (by omega)) (by decide) (by omega))] at gw40
                            refine wa_ifeq (w_rg0 (by omega) (by omega)) ⟨_, rfl⟩ (fun c43 => ?_) (fun c43 => ?_)
                            · skip
                              refine wa_aload_n (n := 0) rfl ?_
                              refine wb_gf5 237 rfl (wy_pr rfl) wt_237 wf_15_15 (v := 241) ((w_up_slot (by decide)).trans ((w_up_slot (by decide)).trans ((w_up_slot (by decide)).trans ((w_up_slot (by decide)).trans (((hL 237 15 (by omega) (by omega)).trans hA15)))))) (fun r44 => ?_)
                              refine wb_gf4 241 rfl (wy_pr rfl) wt_241 wf_12_15 (v := 255) wl_241_15 ?_
                              refine wa_iload_n (n := 2) rfl ?_
                              refine wa_aload_n (n := 0) rfl ?_
                              refine wa_iconst ?_
                              refine wa_cv 237 rfl (wy_pr rfl) wt_237 (M2 := fun _ => False) rfl at_M_readsType ⟨_, rfl⟩ rfl rfl ⟨(Or.inr ⟨wy_pr rfl, fun q => q⟩), trivial, trivial, trivial, trivial⟩ ⟨trivial, (Or.inr ⟨wy_pr rfl, fun q => q⟩), trivial⟩ (fun _ _ q => False.elim q) (readsType_241 (S := (w_up (w_up (w_up (w_up Z 252 m c) 254 m st) 259 m p1) 260 m p1)) hX (lx_E_up (lx_E_up (lx_E_up (lx_E_up hE (by decide) (by omega)) (by decide) (by omega)) (by decide) (by omega)) (by decide) (by omega)).1 ((w_up_slot (by decide)).trans ((w_up_slot (by decide)).trans ((w_up_slot (by decide)).trans ((w_up_slot (by decide)).trans (((hL 237 15 (by omega) (by omega)).trans hA15)))))) (ho_nm_of hAn (((lx_ag_cg (lx_ag_cg (lx_ag_cg (lx_ag_cg hL)))) 241 1 (by omega) (by omega)).trans rfl) (funext fun i => ((lx_ag_cg (lx_ag_cg (lx_ag_cg (lx_ag_cg hL)))) 250 i (by omega) (by omega)).trans rfl) (funext fun i => ((lx_ag_cg (lx_ag_cg (lx_ag_cg (lx_ag_cg hL)))) 251 i (by omega) (by omega)).trans rfl)) (Or.inr rfl) rfl) (fun oq45 Sq45 hp46 q45 => ?_)
                              rcases q45 with ⟨t, p2, ty, rfl, a1, a2⟩ | ⟨t, p2, ty, rfl, rfl⟩
                              · skip
                                rw [lx_E_type (b := 241) (lx_E_up (lx_E_up (lx_E_up (lx_E_up hE (by decide) (by omega)) (by decide) (by omega)) (by decide) (by omega)) (by decide) (by omega)) (by decide) (((lx_ag_cg (lx_ag_cg (lx_ag_cg (lx_ag_cg hL)))) 241 1 (by omega) (by omega)).trans rfl) (funext fun i => ((lx_ag_cg (lx_ag_cg (lx_ag_cg (lx_ag_cg hL)))) 250 i (by omega) (by omega)).trans rfl) (funext fun i => ((lx_ag_cg (lx_ag_cg (lx_ag_cg (lx_ag_cg hL)))) 251 i (by omega) (by omega)).trans rfl)] at ty
                                show wJ _ _ _ _ _ _ _ _ _ _
                                repeat (first | rw [if_pos (by omega)] at he | rw [if_neg (by omega)] at he)
                                rw [ty] at he
                                dsimp only at he
                                obtain ⟨t0, t1, t2, t3⟩ := hy_type_rg (show zq A p1 241 1 ≤ 60 from hAn.1.2) ty
                                have hE47 : lx_E Sq45 A p2 := lx_E_ag (lx_E_up (lx_E_up (lx_E_up (lx_E_up hE (by decide) (by omega)) (by decide) (by omega)) (by decide) (by omega)) (by decide) (by omega)) a1 a2
                                have hL47 : lx_ag (w_up (w_up (w_up (w_up A 252 m c) 254 m st) 259 m p1) 260 m p1) Sq45 := lx_ag_tr (lx_ag_cg (lx_ag_cg (lx_ag_cg (lx_ag_cg hL)))) a1
                                have bp2 := hE47.1.2.2.1
                                have bn2 := hE47.1.2.1
                                have b82 : 0 ≤ Sq45 237 8 ∧ Sq45 237 8 ≤ 65540 := (lx_I_hp hE47.1).2.2
                                rw [lx_E_8 hE47] at b82
                                have b83 : p2 ≤ zq A p2 237 8 := (lx_en_le (T := A 239) (h := A 237 5) (by rw [← hE47.2.2.1]; exact bp2.2)).1
                                refine wb_iast 255 rfl (wy_pr rfl) wt_255 (n := 400) ((ml_255 hE47.1.1)) (by omega) (by omega) ⟨(by omega), (by omega)⟩ ?_
                                refine wa_aload_n (n := 0) rfl ?_
                                refine wa_aload_n (n := 0) rfl ?_
                                refine wb_gfi 237 rfl (wy_pr rfl) wt_237 wf_15_6 (v := (zq A p2 237 6)) ((w_up_slot (by decide)).trans ((lx_E_6 hE47))) (fun r48 => ?_)
                                refine wa_iconst ?_
                                refine wa_icmpne (w_rg0 (by omega) (by omega)) (w_rg0 (by omega) (by omega)) ⟨_, rfl⟩ (fun c49 => ?_) (fun c49 => ?_)
                                · skip
                                  refine wa_iconst ?_
                                  refine wa_fall ⟨_, rfl⟩ ?_
                                  refine wa_iconst ?_
                                  refine wa_cv 237 rfl (wy_pr rfl) wt_237 (M2 := fun _ => False) rfl at_M_must ⟨_, rfl⟩ rfl rfl ⟨(Or.inr ⟨wy_pr rfl, fun q => q⟩), trivial, trivial, trivial, trivial⟩ trivial (fun _ _ q => False.elim q) (must_ok (S := (w_up Sq45 255 m t)) (g := 0) (n := 1) (Or.inl rfl) ⟨by omega, by omega⟩) (fun oq51 Sq51 hp52 q51 => ?_)
                                  rcases q51 with ⟨m50, _, _⟩ | ⟨_, rfl, rfl⟩
                                  · skip
                                    exact absurd m50 (by decide)
                                  · skip
                                    refine ⟨rfl, ?_⟩
                                    repeat (first | rw [if_pos (by omega)] at he | rw [if_neg (by omega)] at he)
                                    first | (rw [ty] at he; dsimp only at he) | (rw [if_neg (by rw [gis]; decide)] at he) | skip
                                    first | (rw [if_pos (by omega), if_pos goo] at he) | skip
                                    exact Or.inr ⟨_, _, he.symm, rfl, hm_ag_hl (hm_ag_up (hm_ag_lx (hm_ag_up (hm_ag_up (hm_ag_up (hm_ag_up hm_ag_rf (by decide) (by omega) (by decide)) (by decide) (by omega) (by decide)) (by decide) (by omega) (by decide)) (by decide) (by omega) (by decide)) hL47) (by decide) (by omega) (by decide)), rfl, by first | rfl | exact (show (w_up Sq45 255 m t) 237 7 = p2 from ((w_up_slot (by decide)).trans ((lx_E_7 hE47))))⟩
                                · skip
                                  refine wa_iconst ?_
                                  refine wa_goto ⟨_, rfl⟩ ?_
                                  refine wa_iconst ?_
                                  refine wa_cv 237 rfl (wy_pr rfl) wt_237 (M2 := fun _ => False) rfl at_M_must ⟨_, rfl⟩ rfl rfl ⟨(Or.inr ⟨wy_pr rfl, fun q => q⟩), trivial, trivial, trivial, trivial⟩ trivial (fun _ _ q => False.elim q) (must_ok (S := (w_up Sq45 255 m t)) (g := 1) (n := 1) (Or.inr rfl) ⟨by omega, by omega⟩) (fun oq54 Sq54 hp55 q54 => ?_)
                                  rcases q54 with ⟨_, rfl, rfl⟩ | ⟨m53, _, _⟩
                                  · skip
                                    show wJ _ _ _ _ _ _ _ _ _ _
                                    refine wa_aload_n (n := 0) rfl ?_
                                    refine wa_aload_n (n := 0) rfl ?_
                                    refine wa_ks ?_
                                    refine wa_cv 237 rfl (wy_pr rfl) wt_237 (M2 := fun _ => False) rfl at_M_isOneOf ⟨_, rfl⟩ rfl rfl ⟨(Or.inr ⟨wy_pr rfl, fun q => q⟩), trivial, trivial, trivial, trivial⟩ ⟨(Or.inr ⟨wy_pr rfl, fun q => q⟩), trivial⟩ (fun _ _ q => False.elim q) (isOneOf_ok (S := (w_up Sq45 255 m t)) (lx_E_up hE47 (by decide) (by omega)).1.1 (wx_21 hX) (by decide) (by decide) (lx_I_hp (lx_E_up hE47 (by decide) (by omega)).1) (by decide)) (fun oq57 Sq57 hp58 q57 => ?_)
                                    rcases q57 with ⟨rfl, ⟨rfl, go56⟩ | ⟨rfl, go56⟩⟩
                                    · skip
                                      show wJ _ _ _ _ _ _ _ _ _ _
                                      rw [lx_E_oo (lx_E_up hE47 (by decide) (by omega))] at go56
                                      have goo := go56
                                      refine wa_ifne (w_rg0 (by omega) (by omega)) ⟨_, rfl⟩ (fun c59 => ?_) (fun c59 => ?_)
                                      · skip
                                        refine wa_iconst ?_
                                        refine wa_fall ⟨_, rfl⟩ ?_
                                        refine wa_iconst ?_
                                        refine wa_cv 237 rfl (wy_pr rfl) wt_237 (M2 := fun _ => False) rfl at_M_must ⟨_, rfl⟩ rfl rfl ⟨(Or.inr ⟨wy_pr rfl, fun q => q⟩), trivial, trivial, trivial, trivial⟩ trivial (fun _ _ q => False.elim q) (must_ok (S := (w_up Sq45 255 m t)) (g := 0) (n := 2) (Or.inl rfl) ⟨by omega, by omega⟩) (fun oq61 Sq61 hp62 q61 => ?_)
                                        rcases q61 with ⟨m60, _, _⟩ | ⟨_, rfl, rfl⟩
                                        · skip
                                          exact absurd m60 (by decide)
                                        · skip
                                          refine ⟨rfl, ?_⟩
                                          repeat (first | rw [if_pos (by omega)] at he | rw [if_neg (by omega)] at he)
                                          first | (rw [ty] at he; dsimp only at he) | (rw [if_neg (by rw [gis]; decide)] at he) | skip
                                          first | (rw [if_pos (by omega), if_pos goo] at he) | skip
                                          exact Or.inr ⟨_, _, he.symm, rfl, hm_ag_hl (hm_ag_up (hm_ag_lx (hm_ag_up (hm_ag_up (hm_ag_up (hm_ag_up hm_ag_rf (by decide) (by omega) (by decide)) (by decide) (by omega) (by decide)) (by decide) (by omega) (by decide)) (by decide) (by omega) (by decide)) hL47) (by decide) (by omega) (by decide)), rfl, by first | rfl | exact (show (w_up Sq45 255 m t) 237 7 = p2 from ((w_up_slot (by decide)).trans ((lx_E_7 hE47))))⟩
                                      · skip
                                        exact absurd c59 (by omega)
                                    · skip
                                      show wJ _ _ _ _ _ _ _ _ _ _
                                      rw [lx_E_oo (lx_E_up hE47 (by decide) (by omega))] at go56
                                      have goo := go56
                                      refine wa_ifne (w_rg0 (by omega) (by omega)) ⟨_, rfl⟩ (fun c63 => ?_) (fun c63 => ?_)
                                      · skip
                                        exact absurd c63 (by omega)
                                      · skip
                                        refine wa_iconst ?_
                                        refine wa_goto ⟨_, rfl⟩ ?_
                                        refine wa_iconst ?_
                                        refine wa_cv 237 rfl (wy_pr rfl) wt_237 (M2 := fun _ => False) rfl at_M_must ⟨_, rfl⟩ rfl rfl ⟨(Or.inr ⟨wy_pr rfl, fun q => q⟩), trivial, trivial, trivial, trivial⟩ trivial (fun _ _ q => False.elim q) (must_ok (S := (w_up Sq45 255 m t)) (g := 1) (n := 2) (Or.inr rfl) ⟨by omega, by omega⟩) (fun oq65 Sq65 hp66 q65 => ?_)
                                        rcases q65 with ⟨_, rfl, rfl⟩ | ⟨m64, _, _⟩
                                        · skip
                                          show wJ _ _ _ _ _ _ _ _ _ _
                                          refine wa_aload_n (n := 0) rfl ?_
                                          refine wb_gfi 237 rfl (wy_pr rfl) wt_237 wf_15_7 (v := p2) ((w_up_slot (by decide)).trans ((lx_E_7 hE47))) (fun r67 => ?_)
                                          refine wa_istore (n := 4) rfl ?_
                                          refine wa_aload_n (n := 0) rfl ?_
                                          refine wb_gf5 237 rfl (wy_pr rfl) wt_237 wf_15_15 (v := 241) ((w_up_slot (by decide)).trans (((hL47 237 15 (by omega) (by omega)).trans hA15))) (fun r68 => ?_)
                                          refine wb_gf4 241 rfl (wy_pr rfl) wt_241 wf_12_19 (v := 259) wl_241_19 ?_
                                          refine wa_iload_n (n := 2) rfl ?_
                                          refine wa_aload_n (n := 0) rfl ?_
                                          refine wb_gfi 237 rfl (wy_pr rfl) wt_237 wf_15_7 (v := p2) ((w_up_slot (by decide)).trans ((lx_E_7 hE47))) (fun r69 => ?_)
                                          refine wb_iast 259 rfl (wy_pr rfl) wt_259 (n := 400) ((w_up_slot (by decide)).trans ((ml_259 hE47.1.1))) (by omega) (by omega) ⟨(by omega), (by omega)⟩ ?_
                                          refine wa_aload_n (n := 0) rfl ?_
                                          refine wb_gf5 237 rfl (wy_pr rfl) wt_237 wf_15_15 (v := 241) ((w_up_slot (by decide)).trans ((w_up_slot (by decide)).trans (((hL47 237 15 (by omega) (by omega)).trans hA15)))) (fun r70 => ?_)
                                          refine wb_gf4 241 rfl (wy_pr rfl) wt_241 wf_12_20 (v := 260) wl_241_20 ?_
                                          refine wa_iload_n (n := 2) rfl ?_
                                          refine wa_aload_n (n := 0) rfl ?_
                                          refine wb_gfi 237 rfl (wy_pr rfl) wt_237 wf_15_8 (v := (zq A p2 237 8)) ((w_up_slot (by decide)).trans ((w_up_slot (by decide)).trans ((lx_E_8 hE47)))) (fun r71 => ?_)
                                          refine wb_iast 260 rfl (wy_pr rfl) wt_260 (n := 400) ((w_up_slot (by decide)).trans ((w_up_slot (by decide)).trans ((ml_260 hE47.1.1)))) (by omega) (by omega) ⟨(by omega), (by omega)⟩ ?_
                                          refine wa_aload_n (n := 0) rfl ?_
                                          refine wa_cv 237 rfl (wy_pr rfl) wt_237 (M2 := fun _ => False) rfl at_M_next ⟨_, rfl⟩ rfl rfl ⟨trivial, (Or.inr ⟨wy_pr rfl, fun q => q⟩), trivial, trivial, trivial, trivial⟩ trivial (fun _ _ q => False.elim q) (nx_I (S := (w_up (w_up (w_up Sq45 255 m t) 259 m p2) 260 m (zq A p2 237 8))) (lx_E_up (lx_E_up (lx_E_up hE47 (by decide) (by omega)) (by decide) (by omega)) (by decide) (by omega)).1 (by have e6 : (w_up (w_up (w_up Sq45 255 m t) 259 m p2) 260 m (zq A p2 237 8)) 237 6 = (zq A p2 237 6) := ((w_up_slot (by decide)).trans ((w_up_slot (by decide)).trans ((w_up_slot (by decide)).trans ((lx_E_6 hE47))))); first | omega | (have := (lx_is4 gis).1; omega) | (have := lx_w1 hnw; omega))) (fun oq72 Sq72 hp73 q72 => ?_)
                                          rcases q72 with ⟨rfl, a1, a2⟩
                                          show wJ _ _ _ _ _ _ _ _ _ _
                                          rw [lx_E_ne (lx_E_up (lx_E_up (lx_E_up hE47 (by decide) (by omega)) (by decide) (by omega)) (by decide) (by omega))] at a2
                                          have hE74 : lx_E Sq72 A (lx_ne (zq A p2) p2) := lx_E_ag (lx_E_up (lx_E_up (lx_E_up hE47 (by decide) (by omega)) (by decide) (by omega)) (by decide) (by omega)) a1 a2
                                          have hL74 : lx_ag (w_up (w_up (w_up (w_up (w_up (w_up (w_up A 252 m c) 254 m st) 259 m p1) 260 m p1) 255 m t) 259 m p2) 260 m (zq A p2 237 8)) Sq72 := lx_ag_tr (lx_ag_cg (lx_ag_cg (lx_ag_cg hL47))) a1
                                          refine wa_aload_n (n := 0) rfl ?_
                                          refine wa_bipush (w_rg2 (by omega) (by omega)) ?_
                                          refine wa_cv 237 rfl (wy_pr rfl) wt_237 (M2 := fun _ => False) rfl at_M_isSign ⟨_, rfl⟩ rfl rfl ⟨trivial, (Or.inr ⟨wy_pr rfl, fun q => q⟩), trivial, trivial, trivial, trivial⟩ trivial (fun _ _ q => False.elim q) (isSign_ok (S := Sq72) ⟨by omega, by omega⟩) (fun oq76 Sq76 hp77 q76 => ?_)
                                          rcases q76 with ⟨rfl, ⟨rfl, gi75⟩ | ⟨rfl, gi75⟩⟩
                                          · skip
                                            show wJ _ _ _ _ _ _ _ _ _ _
                                            rw [lx_E_is hE74] at gi75
                                            have gis := gi75
                                            have gsv := gis
                                            refine wa_ifeq (w_rg0 (by omega) (by omega)) ⟨_, rfl⟩ (fun c78 => ?_) (fun c78 => ?_)
                                            · skip
                                              exact absurd c78 (by omega)
                                            · skip
                                              refine wa_aload_n (n := 0) rfl ?_
                                              refine wb_gf5 237 rfl (wy_pr rfl) wt_237 wf_15_15 (v := 241) (((hL74 237 15 (by omega) (by omega)).trans hA15)) (fun r79 => ?_)
                                              refine wb_gf4 241 rfl (wy_pr rfl) wt_241 wf_12_13 (v := 253) wl_241_13 ?_
                                              refine wa_iload_n (n := 2) rfl ?_
                                              refine wa_iconst ?_
                                              refine wb_iast 253 rfl (wy_pr rfl) wt_253 (n := 400) ((ml_253 hE74.1.1)) (by omega) (by omega) ⟨(by omega), (by omega)⟩ ?_
                                              refine wa_aload_n (n := 0) rfl ?_
                                              refine wa_cv 237 rfl (wy_pr rfl) wt_237 (M2 := fun _ => False) rfl at_M_next ⟨_, rfl⟩ rfl rfl ⟨trivial, (Or.inr ⟨wy_pr rfl, fun q => q⟩), trivial, trivial, trivial, trivial⟩ trivial (fun _ _ q => False.elim q) (nx_I (S := (w_up Sq72 253 m 1)) (lx_E_up hE74 (by decide) (by omega)).1 (by have e6 : (w_up Sq72 253 m 1) 237 6 = (zq A (lx_ne (zq A p2) p2) 237 6) := ((w_up_slot (by decide)).trans ((lx_E_6 hE74))); first | omega | (have := (lx_is4 gis).1; omega) | (have := lx_w1 hnw; omega))) (fun oq80 Sq80 hp81 q80 => ?_)
                                              rcases q80 with ⟨rfl, a1, a2⟩
                                              show wJ _ _ _ _ _ _ _ _ _ _
                                              rw [lx_E_ne (lx_E_up hE74 (by decide) (by omega))] at a2
                                              have hE82 : lx_E Sq80 A (lx_ne (zq A (lx_ne (zq A p2) p2)) (lx_ne (zq A p2) p2)) := lx_E_ag (lx_E_up hE74 (by decide) (by omega)) a1 a2
                                              have hL82 : lx_ag (w_up (w_up (w_up (w_up (w_up (w_up (w_up (w_up A 252 m c) 254 m st) 259 m p1) 260 m p1) 255 m t) 259 m p2) 260 m (zq A p2 237 8)) 253 m 1) Sq80 := lx_ag_tr (lx_ag_cg hL74) a1
                                              refine wa_aload_n (n := 0) rfl ?_
                                              refine wa_iload_n (n := 1) rfl ?_
                                              refine wa_iload_n (n := 2) rfl ?_
                                              refine wa_cv 237 rfl (wy_pr rfl) wt_237 (M2 := fun _ => False) rfl at_M_readsParameters ⟨_, rfl⟩ rfl rfl ⟨trivial, (Or.inr ⟨wy_pr rfl, fun q => q⟩), trivial, trivial, trivial, trivial⟩ trivial (fun _ _ q => False.elim q) (readsParameters_241 (A := Sq80) (R := pq_k (w_up (w_up (w_up (w_up (w_up (w_up (w_up (w_up A 252 m c) 254 m st) 259 m p1) 260 m p1) 255 m t) 259 m p2) 260 m (zq A p2 237 8)) 253 m 1) 241 c m (pq_r (w_up (w_up (w_up (w_up (w_up (w_up (w_up (w_up A 252 m c) 254 m st) 259 m p1) 260 m p1) 255 m t) 259 m p2) 260 m (zq A p2 237 8)) 253 m 1) 241 (lx_ne (zq A (lx_ne (zq A p2) p2)) (lx_ne (zq A p2) p2)))) hX (((hL82 237 15 (by omega) (by omega)).trans hA15)) ⟨by omega, by omega⟩ (ho_mm_ag hm.1 (by decide) hmm (hm_ag_lx (hm_ag_up (hm_ag_up (hm_ag_up (hm_ag_up (hm_ag_up (hm_ag_up (hm_ag_up (hm_ag_up hm_ag_rf (by decide) (by omega) (by decide)) (by decide) (by omega) (by decide)) (by decide) (by omega) (by decide)) (by decide) (by omega) (by decide)) (by decide) (by omega) (by decide)) (by decide) (by omega) (by decide)) (by decide) (by omega) (by decide)) (by decide) (by omega) (by decide)) hL82)) (by have y1 : Sq80 259 m = p2 := (((hL82 259 m (by omega) (by omega)).trans ((w_up_slot (by decide)).trans ((w_up_slot (by decide)).trans (w_up_same _ _ _ _))))); have y2 : Sq80 260 m = (zq A p2 237 8) := (((hL82 260 m (by omega) (by omega)).trans ((w_up_slot (by decide)).trans (w_up_same _ _ _ _)))); omega) (by rw [show Sq80 248 c = A 248 c from (((hL82 248 c (by omega) (by omega)).trans ((w_up_slot (by decide)).trans ((w_up_slot (by decide)).trans ((w_up_slot (by decide)).trans ((w_up_slot (by decide)).trans ((w_up_slot (by decide)).trans ((w_up_slot (by decide)).trans ((w_up_slot (by decide)).trans (w_up_slot (by decide)))))))))))]; exact hfi) hcc (ho_nm_of hAn ((hL82 241 1 (by omega) (by omega)).trans rfl) (funext fun i => (hL82 250 i (by omega) (by omega)).trans rfl) (funext fun i => (hL82 251 i (by omega) (by omega)).trans rfl)) ⟨hE82.1, rfl, rfl, rfl⟩ (pq_ag hL82 (by decide))) (fun oq83 Sq83 hp84 q83 => ?_)
                                              rcases q83 with ⟨q, v, l, hR, rfl, c1, c2, c3, c4⟩ | ⟨e, q, hR, rfl, c1, c2, c3⟩
                                              · skip
                                                repeat (first | rw [if_pos (by omega)] at he | rw [if_neg (by omega)] at he)
                                                first | rw [if_neg (by rw [goo]; decide), if_pos gsv] at he | rw [if_pos gsv] at he | rw [if_neg (by rw [goo]; decide)] at he | skip
                                                unfold rm_par at he
                                                rw [hR] at he
                                                dsimp only at he
                                                show wJ _ _ _ _ _ _ _ _ _ _
                                                refine wa_goto ⟨_, rfl⟩ ?_
                                                exact wJ_S (mem_23_241 hA15 hAm ⟨by omega, by omega⟩ hcc hmy (hm_ag_tr (hm_ag_lx (hm_ag_up (hm_ag_up (hm_ag_up (hm_ag_up (hm_ag_up (hm_ag_up (hm_ag_up (hm_ag_up hm_ag_rf (by decide) (by omega) (by decide)) (by decide) (by omega) (by decide)) (by decide) (by omega) (by decide)) (by decide) (by omega) (by decide)) (by decide) (by omega) (by decide)) (by decide) (by omega) (by decide)) (by decide) (by omega) (by decide)) (by decide) (by omega) (by decide)) hL82) (hp_hm c1)) ⟨c2.1, c2.2.1.trans hE82.2.1, c2.2.2.1.trans hE82.2.2.1, c2.2.2.2.trans hE82.2.2.2⟩ ⟨(c1 252 m (by omega) (by omega) (by omega) (by omega)).trans (((hL82 252 m (by omega) (by omega)).trans ((w_up_slot (by decide)).trans ((w_up_slot (by decide)).trans ((w_up_slot (by decide)).trans ((w_up_slot (by decide)).trans ((w_up_slot (by decide)).trans ((w_up_slot (by decide)).trans ((w_up_slot (by decide)).trans (w_up_same _ _ _ _)))))))))), (c1 253 m (by omega) (by omega) (by omega) (by omega)).trans (((hL82 253 m (by omega) (by omega)).trans (w_up_same _ _ _ _))), (c1 254 m (by omega) (by omega) (by omega) (by omega)).trans (((hL82 254 m (by omega) (by omega)).trans ((w_up_slot (by decide)).trans ((w_up_slot (by decide)).trans ((w_up_slot (by decide)).trans ((w_up_slot (by decide)).trans ((w_up_slot (by decide)).trans ((w_up_slot (by decide)).trans (w_up_same _ _ _ _))))))))), (c1 255 m (by omega) (by omega) (by omega) (by omega)).trans (((hL82 255 m (by omega) (by omega)).trans ((w_up_slot (by decide)).trans ((w_up_slot (by decide)).trans ((w_up_slot (by decide)).trans (w_up_same _ _ _ _)))))), (c1 259 m (by omega) (by omega) (by omega) (by omega)).trans (((hL82 259 m (by omega) (by omega)).trans ((w_up_slot (by decide)).trans ((w_up_slot (by decide)).trans (w_up_same _ _ _ _))))), (c1 260 m (by omega) (by omega) (by omega) (by omega)).trans (((hL82 260 m (by omega) (by omega)).trans ((w_up_slot (by decide)).trans (w_up_same _ _ _ _))))⟩ c3 c4 he) ⟨rfl, rfl, rfl, trivial⟩
                                              · skip
                                                repeat (first | rw [if_pos (by omega)] at he | rw [if_neg (by omega)] at he)
                                                first | rw [if_neg (by rw [goo]; decide), if_pos gsv] at he | rw [if_pos gsv] at he | rw [if_neg (by rw [goo]; decide)] at he | skip
                                                unfold rm_par at he
                                                rw [hR] at he
                                                dsimp only at he
                                                refine ⟨rfl, ?_⟩
                                                exact Or.inr ⟨_, _, he.symm, rfl, (hm_ag_tr (hm_ag_lx (hm_ag_up (hm_ag_up (hm_ag_up (hm_ag_up (hm_ag_up (hm_ag_up (hm_ag_up (hm_ag_up hm_ag_rf (by decide) (by omega) (by decide)) (by decide) (by omega) (by decide)) (by decide) (by omega) (by decide)) (by decide) (by omega) (by decide)) (by decide) (by omega) (by decide)) (by decide) (by omega) (by decide)) (by decide) (by omega) (by decide)) (by decide) (by omega) (by decide)) hL82) (hp_hm c1)), c2, c3⟩
                                          · skip
                                            show wJ _ _ _ _ _ _ _ _ _ _
                                            rw [lx_E_is hE74] at gi75
                                            have gis := gi75
                                            have gsv := gis
                                            refine wa_ifeq (w_rg0 (by omega) (by omega)) ⟨_, rfl⟩ (fun c86 => ?_) (fun c86 => ?_)
                                            · skip
                                              refine wa_aload_n (n := 0) rfl ?_
                                              refine wa_iload_n (n := 1) rfl ?_
                                              refine wa_iload_n (n := 2) rfl ?_
                                              refine wa_iload (n := 4) rfl ?_
                                              refine wa_cv 237 rfl (wy_pr rfl) wt_237 (M2 := fun _ => False) rfl at_M_readsField ⟨_, rfl⟩ rfl rfl ⟨trivial, (Or.inr ⟨wy_pr rfl, fun q => q⟩), trivial, trivial, trivial, trivial⟩ trivial (fun _ _ q => False.elim q) (readsField_241 (A := Sq72) (R := rf_of (w_up (w_up (w_up (w_up (w_up (w_up (w_up A 252 m c) 254 m st) 259 m p1) 260 m p1) 255 m t) 259 m p2) 260 m (zq A p2 237 8)) 241 c m (lx_ne (zq A p2) p2) p2) (((hL74 237 15 (by omega) (by omega)).trans hA15)) ⟨by omega, by omega⟩ (ho_mm_ag hm.1 (by decide) hmm (hm_ag_lx (hm_ag_up (hm_ag_up (hm_ag_up (hm_ag_up (hm_ag_up (hm_ag_up (hm_ag_up hm_ag_rf (by decide) (by omega) (by decide)) (by decide) (by omega) (by decide)) (by decide) (by omega) (by decide)) (by decide) (by omega) (by decide)) (by decide) (by omega) (by decide)) (by decide) (by omega) (by decide)) (by decide) (by omega) (by decide)) hL74)) (by have y1 : Sq72 259 m = p2 := (((hL74 259 m (by omega) (by omega)).trans ((w_up_slot (by decide)).trans (w_up_same _ _ _ _)))); have y2 : Sq72 260 m = (zq A p2 237 8) := (((hL74 260 m (by omega) (by omega)).trans (w_up_same _ _ _ _))); omega) (by rw [show Sq72 248 c = A 248 c from (((hL74 248 c (by omega) (by omega)).trans ((w_up_slot (by decide)).trans ((w_up_slot (by decide)).trans ((w_up_slot (by decide)).trans ((w_up_slot (by decide)).trans ((w_up_slot (by decide)).trans ((w_up_slot (by decide)).trans (w_up_slot (by decide))))))))))]; exact hfi) hcc ⟨hE74.1, rfl, rfl, rfl⟩ ⟨by omega, by omega⟩ (rf_ag hL74 (by decide))) (fun oq87 Sq87 hp88 q87 => ?_)
                                              rcases q87 with ⟨hR, rfl, rfl⟩ | ⟨e, q, hR, rfl, c1, c2, c3⟩
                                              · skip
                                                repeat (first | rw [if_pos (by omega)] at he | rw [if_neg (by omega)] at he)
                                                rw [if_neg (by rw [goo]; decide), if_neg (by rw [gis]; decide), hR] at he
                                                dsimp only at he
                                                show wJ _ _ _ _ _ _ _ _ _ _
                                                refine wa_fall ⟨_, rfl⟩ ?_
                                                exact wJ_S (mem_23_241 (l := []) (v := 0) hA15 hAm ⟨by omega, by omega⟩ hcc hmy (hm_ag_up (hm_ag_up (hm_ag_up (hm_ag_lx (hm_ag_up (hm_ag_up (hm_ag_up (hm_ag_up (hm_ag_up (hm_ag_up (hm_ag_up hm_ag_rf (by decide) (by omega) (by decide)) (by decide) (by omega) (by decide)) (by decide) (by omega) (by decide)) (by decide) (by omega) (by decide)) (by decide) (by omega) (by decide)) (by decide) (by omega) (by decide)) (by decide) (by omega) (by decide)) hL74) (by decide) (by omega) (by decide)) (by decide) (by omega) (by decide)) (by decide) (by omega) (by decide)) (lx_E_up (lx_E_up (lx_E_up hE74 (by decide) (by omega)) (by decide) (by omega)) (by decide) (by omega)) ⟨((w_up_slot (by decide)).trans ((w_up_slot (by decide)).trans ((w_up_slot (by decide)).trans (((hL74 252 m (by omega) (by omega)).trans ((w_up_slot (by decide)).trans ((w_up_slot (by decide)).trans ((w_up_slot (by decide)).trans ((w_up_slot (by decide)).trans ((w_up_slot (by decide)).trans ((w_up_slot (by decide)).trans (w_up_same _ _ _ _)))))))))))), ((w_up_slot (by decide)).trans ((w_up_slot (by decide)).trans (w_up_same _ _ _ _))), ((w_up_slot (by decide)).trans ((w_up_slot (by decide)).trans ((w_up_slot (by decide)).trans (((hL74 254 m (by omega) (by omega)).trans ((w_up_slot (by decide)).trans ((w_up_slot (by decide)).trans ((w_up_slot (by decide)).trans ((w_up_slot (by decide)).trans ((w_up_slot (by decide)).trans (w_up_same _ _ _ _))))))))))), ((w_up_slot (by decide)).trans ((w_up_slot (by decide)).trans ((w_up_slot (by decide)).trans (((hL74 255 m (by omega) (by omega)).trans ((w_up_slot (by decide)).trans ((w_up_slot (by decide)).trans (w_up_same _ _ _ _)))))))), ((w_up_slot (by decide)).trans ((w_up_slot (by decide)).trans ((w_up_slot (by decide)).trans (((hL74 259 m (by omega) (by omega)).trans ((w_up_slot (by decide)).trans (w_up_same _ _ _ _))))))), ((w_up_slot (by decide)).trans ((w_up_slot (by decide)).trans ((w_up_slot (by decide)).trans (((hL74 260 m (by omega) (by omega)).trans (w_up_same _ _ _ _))))))⟩ ⟨(w_up_slot (by decide)).trans (w_up_same _ _ _ _), w_up_same _ _ _ _, fun i hi => absurd hi (Nat.not_lt_zero i)⟩ (Nat.zero_le _) he) ⟨rfl, rfl, rfl, trivial⟩
                                              · skip
                                                repeat (first | rw [if_pos (by omega)] at he | rw [if_neg (by omega)] at he)
                                                rw [if_neg (by rw [goo]; decide), if_neg (by rw [gis]; decide), hR] at he
                                                dsimp only at he
                                                refine ⟨rfl, ?_⟩
                                                exact Or.inr ⟨_, _, he.symm, rfl, (hm_ag_tr (hm_ag_lx (hm_ag_up (hm_ag_up (hm_ag_up (hm_ag_up (hm_ag_up (hm_ag_up (hm_ag_up hm_ag_rf (by decide) (by omega) (by decide)) (by decide) (by omega) (by decide)) (by decide) (by omega) (by decide)) (by decide) (by omega) (by decide)) (by decide) (by omega) (by decide)) (by decide) (by omega) (by decide)) (by decide) (by omega) (by decide)) hL74) c1), c2, c3⟩
                                            · skip
                                              exact absurd c86 (by omega)
                                        · skip
                                          exact absurd m64 (by decide)
                                  · skip
                                    exact absurd m53 (by decide)
                              · skip
                                rw [lx_E_type (b := 241) (lx_E_up (lx_E_up (lx_E_up (lx_E_up hE (by decide) (by omega)) (by decide) (by omega)) (by decide) (by omega)) (by decide) (by omega)) (by decide) (((lx_ag_cg (lx_ag_cg (lx_ag_cg (lx_ag_cg hL)))) 241 1 (by omega) (by omega)).trans rfl) (funext fun i => ((lx_ag_cg (lx_ag_cg (lx_ag_cg (lx_ag_cg hL)))) 250 i (by omega) (by omega)).trans rfl) (funext fun i => ((lx_ag_cg (lx_ag_cg (lx_ag_cg (lx_ag_cg hL)))) 251 i (by omega) (by omega)).trans rfl)] at ty
                                refine ⟨rfl, ?_⟩
                                repeat (first | rw [if_pos (by omega)] at he | rw [if_neg (by omega)] at he)
                                first | (rw [ty] at he; dsimp only at he) | (rw [if_neg (by rw [gis]; decide)] at he) | skip
                                first | (rw [if_pos (by omega), if_pos goo] at he) | skip
                                exact Or.inr ⟨_, _, he.symm, rfl, hm_ag_hl (hm_ag_up (hm_ag_up (hm_ag_up (hm_ag_up (hm_ag_lx hm_ag_rf hL) (by decide) (by omega) (by decide)) (by decide) (by omega) (by decide)) (by decide) (by omega) (by decide)) (by decide) (by omega) (by decide)), rfl, by first | rfl | exact (show (w_up (w_up (w_up (w_up Z 252 m c) 254 m st) 259 m p1) 260 m p1) 237 7 = p1 from ((w_up_slot (by decide)).trans ((w_up_slot (by decide)).trans ((w_up_slot (by decide)).trans ((w_up_slot (by decide)).trans ((lx_E_7 hE)))))))⟩
                            · skip
                              exact absurd c43 (by omega)
                        · skip
                          exact absurd m31 (by decide)
                      · skip
                        exact absurd c30 (by omega)
                  · skip
                    exact absurd m24 (by decide)
              · skip
                exact absurd m17 (by decide)
            · skip
              refine wa_aload_n (n := 0) rfl ?_
              refine wa_cv 237 rfl (wy_pr rfl) wt_237 (M2 := fun _ => False) rfl at_M_classHere ⟨_, rfl⟩ rfl rfl ⟨(Or.inr ⟨wy_pr rfl, fun q => q⟩), trivial, trivial, trivial, trivial⟩ ⟨(Or.inr ⟨wy_pr rfl, fun q => q⟩), trivial⟩ (fun _ _ q => False.elim q) (classHere_241 (S := Z) hE.1.1 (((hL 237 15 (by omega) (by omega)).trans hA15)) (ho_nm_of hAn ((hL 241 1 (by omega) (by omega)).trans rfl) (funext fun i => (hL 250 i (by omega) (by omega)).trans rfl) (funext fun i => (hL 251 i (by omega) (by omega)).trans rfl)) (lx_I_hp hE.1)) (fun oq91 Sq91 hp92 q91 => ?_)
              rcases q91 with ⟨rfl, rfl⟩
              show wJ _ _ _ _ _ _ _ _ _ _
              rw [lx_E_ch (b := 241) hE (by decide) ((hL 241 1 (by omega) (by omega)).trans rfl) (funext fun i => (hL 250 i (by omega) (by omega)).trans rfl) (funext fun i => (hL 251 i (by omega) (by omega)).trans rfl)]
              have hch := ch_of_rg (zq A p1) 241 (show A 241 1 ≤ 60 from hAn.1.2)
              refine wa_iflt (w_rg0 (by omega) (by omega)) ⟨_, rfl⟩ (fun c93 => ?_) (fun c93 => ?_)
              · skip
                refine wa_iconst ?_
                refine wa_fall ⟨_, rfl⟩ ?_
                refine wa_iconst ?_
                refine wa_cv 237 rfl (wy_pr rfl) wt_237 (M2 := fun _ => False) rfl at_M_must ⟨_, rfl⟩ rfl rfl ⟨(Or.inr ⟨wy_pr rfl, fun q => q⟩), trivial, trivial, trivial, trivial⟩ trivial (fun _ _ q => False.elim q) (must_ok (S := Z) (g := 0) (n := 3) (Or.inl rfl) ⟨by omega, by omega⟩) (fun oq95 Sq95 hp96 q95 => ?_)
                rcases q95 with ⟨m94, _, _⟩ | ⟨_, rfl, rfl⟩
                · skip
                  exact absurd m94 (by decide)
                · skip
                  refine ⟨rfl, ?_⟩
                  repeat (first | rw [if_pos (by omega)] at he | rw [if_neg (by omega)] at he)
                  first | (rw [ty] at he; dsimp only at he) | (rw [if_neg (by rw [gis]; decide)] at he) | skip
                  first | (rw [if_pos (by omega), if_pos goo] at he) | skip
                  exact Or.inr ⟨_, _, he.symm, rfl, hm_ag_hl (hm_ag_lx hm_ag_rf hL), rfl, by first | rfl | exact (show Z 237 7 = p1 from ((lx_E_7 hE)))⟩
              · skip
                refine wa_fall ⟨_, rfl⟩ ?_
                refine wa_iconst ?_
                refine wa_goto ⟨_, rfl⟩ ?_
                refine wa_iconst ?_
                refine wa_cv 237 rfl (wy_pr rfl) wt_237 (M2 := fun _ => False) rfl at_M_must ⟨_, rfl⟩ rfl rfl ⟨(Or.inr ⟨wy_pr rfl, fun q => q⟩), trivial, trivial, trivial, trivial⟩ trivial (fun _ _ q => False.elim q) (must_ok (S := Z) (g := 1) (n := 3) (Or.inr rfl) ⟨by omega, by omega⟩) (fun oq98 Sq98 hp99 q98 => ?_)
                rcases q98 with ⟨_, rfl, rfl⟩ | ⟨m97, _, _⟩
                · skip
                  show wJ _ _ _ _ _ _ _ _ _ _
                  refine wa_fall ⟨_, rfl⟩ ?_
                  refine wa_aload_n (n := 0) rfl ?_
                  refine wa_iload_n (n := 2) rfl ?_
                  refine wa_sipush (by omega) ?_
                  refine wa_icmpge (w_rg0 (by omega) (by omega)) (w_rg0 (by omega) (by omega)) ⟨_, rfl⟩ (fun c100 => ?_) (fun c100 => ?_)
                  · skip
                    refine wa_iconst ?_
                    refine wa_fall ⟨_, rfl⟩ ?_
                    refine wa_iconst ?_
                    refine wa_cv 237 rfl (wy_pr rfl) wt_237 (M2 := fun _ => False) rfl at_M_must ⟨_, rfl⟩ rfl rfl ⟨(Or.inr ⟨wy_pr rfl, fun q => q⟩), trivial, trivial, trivial, trivial⟩ trivial (fun _ _ q => False.elim q) (must_ok (S := Z) (g := 0) (n := 5) (Or.inl rfl) ⟨by omega, by omega⟩) (fun oq102 Sq102 hp103 q102 => ?_)
                    rcases q102 with ⟨m101, _, _⟩ | ⟨_, rfl, rfl⟩
                    · skip
                      exact absurd m101 (by decide)
                    · skip
                      refine ⟨rfl, ?_⟩
                      repeat (first | rw [if_pos (by omega)] at he | rw [if_neg (by omega)] at he)
                      first | (rw [ty] at he; dsimp only at he) | (rw [if_neg (by rw [gis]; decide)] at he) | skip
                      first | (rw [if_pos (by omega), if_pos goo] at he) | skip
                      exact Or.inr ⟨_, _, he.symm, rfl, hm_ag_hl (hm_ag_lx hm_ag_rf hL), rfl, by first | rfl | exact (show Z 237 7 = p1 from ((lx_E_7 hE)))⟩
                  · skip
                    refine wa_iconst ?_
                    refine wa_goto ⟨_, rfl⟩ ?_
                    refine wa_iconst ?_
                    refine wa_cv 237 rfl (wy_pr rfl) wt_237 (M2 := fun _ => False) rfl at_M_must ⟨_, rfl⟩ rfl rfl ⟨(Or.inr ⟨wy_pr rfl, fun q => q⟩), trivial, trivial, trivial, trivial⟩ trivial (fun _ _ q => False.elim q) (must_ok (S := Z) (g := 1) (n := 5) (Or.inr rfl) ⟨by omega, by omega⟩) (fun oq105 Sq105 hp106 q105 => ?_)
                    rcases q105 with ⟨_, rfl, rfl⟩ | ⟨m104, _, _⟩
                    · skip
                      show wJ _ _ _ _ _ _ _ _ _ _
                      refine wa_aload_n (n := 0) rfl ?_
                      refine wa_aload_n (n := 0) rfl ?_
                      refine wa_ks ?_
                      refine wa_cv 237 rfl (wy_pr rfl) wt_237 (M2 := fun _ => False) rfl at_M_isWord ⟨_, rfl⟩ rfl rfl ⟨(Or.inr ⟨wy_pr rfl, fun q => q⟩), trivial, trivial, trivial, trivial⟩ ⟨(Or.inr ⟨wy_pr rfl, fun q => q⟩), trivial⟩ (fun _ _ q => False.elim q) (isWord_ok (S := Z) hE.1.1 (wx_25 hX) (by decide) (lx_I_hp hE.1)) (fun oq108 Sq108 hp109 q108 => ?_)
                      rcases q108 with ⟨rfl, ⟨rfl, gw107⟩ | ⟨rfl, gw107⟩⟩
                      · skip
                        rw [lx_E_w hE] at gw107
                        exact absurd (gw107.symm.trans hnw) (by decide)
                      · skip
                        show wJ _ _ _ _ _ _ _ _ _ _
                        rw [lx_E_w hE] at gw107
                        refine wa_ifeq (w_rg0 (by omega) (by omega)) ⟨_, rfl⟩ (fun c110 => ?_) (fun c110 => ?_)
                        · skip
                          refine wa_iconst ?_
                          refine wa_goto ⟨_, rfl⟩ ?_
                          refine wa_bipush (w_rg2 (by omega) (by omega)) ?_
                          refine wa_cv 237 rfl (wy_pr rfl) wt_237 (M2 := fun _ => False) rfl at_M_must ⟨_, rfl⟩ rfl rfl ⟨(Or.inr ⟨wy_pr rfl, fun q => q⟩), trivial, trivial, trivial, trivial⟩ trivial (fun _ _ q => False.elim q) (must_ok (S := Z) (g := 1) (n := 6) (Or.inr rfl) ⟨by omega, by omega⟩) (fun oq112 Sq112 hp113 q112 => ?_)
                          rcases q112 with ⟨_, rfl, rfl⟩ | ⟨m111, _, _⟩
                          · skip
                            show wJ _ _ _ _ _ _ _ _ _ _
                            refine wa_aload_n (n := 0) rfl ?_
                            refine wb_gf5 237 rfl (wy_pr rfl) wt_237 wf_15_15 (v := 241) (((hL 237 15 (by omega) (by omega)).trans hA15)) (fun r114 => ?_)
                            refine wb_gf4 241 rfl (wy_pr rfl) wt_241 wf_12_12 (v := 252) wl_241_12 ?_
                            refine wa_iload_n (n := 2) rfl ?_
                            refine wa_iload_n (n := 1) rfl ?_
                            refine wb_iast 252 rfl (wy_pr rfl) wt_252 (n := 400) ((ml_252 hE.1.1)) (by omega) (by omega) ⟨(by omega), (by omega)⟩ ?_
                            refine wa_aload_n (n := 0) rfl ?_
                            refine wb_gf5 237 rfl (wy_pr rfl) wt_237 wf_15_15 (v := 241) ((w_up_slot (by decide)).trans (((hL 237 15 (by omega) (by omega)).trans hA15))) (fun r115 => ?_)
                            refine wb_gf4 241 rfl (wy_pr rfl) wt_241 wf_12_14 (v := 254) wl_241_14 ?_
                            refine wa_iload_n (n := 2) rfl ?_
                            refine wa_iload_n (n := 3) rfl ?_
                            refine wb_zast 254 rfl (wy_pr rfl) wt_254 (n := 400) ((w_up_slot (by decide)).trans ((ml_254 hE.1.1))) (by omega) (by omega) ⟨(by omega), (by omega)⟩ ?_
                            refine wa_aload_n (n := 0) rfl ?_
                            refine wb_gf5 237 rfl (wy_pr rfl) wt_237 wf_15_15 (v := 241) ((w_up_slot (by decide)).trans ((w_up_slot (by decide)).trans (((hL 237 15 (by omega) (by omega)).trans hA15)))) (fun r116 => ?_)
                            refine wb_gf4 241 rfl (wy_pr rfl) wt_241 wf_12_19 (v := 259) wl_241_19 ?_
                            refine wa_iload_n (n := 2) rfl ?_
                            refine wa_aload_n (n := 0) rfl ?_
                            refine wb_gfi 237 rfl (wy_pr rfl) wt_237 wf_15_7 (v := p1) ((w_up_slot (by decide)).trans ((w_up_slot (by decide)).trans ((lx_E_7 hE)))) (fun r117 => ?_)
                            refine wb_iast 259 rfl (wy_pr rfl) wt_259 (n := 400) ((w_up_slot (by decide)).trans ((w_up_slot (by decide)).trans ((ml_259 hE.1.1)))) (by omega) (by omega) ⟨(by omega), (by omega)⟩ ?_
                            refine wa_aload_n (n := 0) rfl ?_
                            refine wb_gf5 237 rfl (wy_pr rfl) wt_237 wf_15_15 (v := 241) ((w_up_slot (by decide)).trans ((w_up_slot (by decide)).trans ((w_up_slot (by decide)).trans (((hL 237 15 (by omega) (by omega)).trans hA15))))) (fun r118 => ?_)
                            refine wb_gf4 241 rfl (wy_pr rfl) wt_241 wf_12_20 (v := 260) wl_241_20 ?_
                            refine wa_iload_n (n := 2) rfl ?_
                            refine wa_aload_n (n := 0) rfl ?_
                            refine wb_gfi 237 rfl (wy_pr rfl) wt_237 wf_15_7 (v := p1) ((w_up_slot (by decide)).trans ((w_up_slot (by decide)).trans ((w_up_slot (by decide)).trans ((lx_E_7 hE))))) (fun r119 => ?_)
                            refine wb_iast 260 rfl (wy_pr rfl) wt_260 (n := 400) ((w_up_slot (by decide)).trans ((w_up_slot (by decide)).trans ((w_up_slot (by decide)).trans ((ml_260 hE.1.1))))) (by omega) (by omega) ⟨(by omega), (by omega)⟩ ?_
                            refine wa_aload_n (n := 0) rfl ?_
                            refine wa_ks ?_
                            refine wa_cv 237 rfl (wy_pr rfl) wt_237 (M2 := fun _ => False) rfl at_M_isWord ⟨_, rfl⟩ rfl rfl ⟨(Or.inr ⟨wy_pr rfl, fun q => q⟩), trivial, trivial, trivial, trivial⟩ trivial (fun _ _ q => False.elim q) (isWord_ok (S := (w_up (w_up (w_up (w_up Z 252 m c) 254 m st) 259 m p1) 260 m p1)) (lx_E_up (lx_E_up (lx_E_up (lx_E_up hE (by decide) (by omega)) (by decide) (by omega)) (by decide) (by omega)) (by decide) (by omega)).1.1 (wx_25 hX) (by decide) (lx_I_hp (lx_E_up (lx_E_up (lx_E_up (lx_E_up hE (by decide) (by omega)) (by decide) (by omega)) (by decide) (by omega)) (by decide) (by omega)).1)) (fun oq121 Sq121 hp122 q121 => ?_)
                            rcases q121 with ⟨rfl, ⟨rfl, gw120⟩ | ⟨rfl, gw120⟩⟩
                            · skip
                              rw [lx_E_w (lx_E_up (lx_E_up (lx_E_up (lx_E_up hE (by decide) (by omega)) (by decide) (by omega)) (by decide) (by omega)) (by decide) (by omega))] at gw120
                              exact absurd (gw120.symm.trans hnw) (by decide)
                            · skip
                              show wJ _ _ _ _ _ _ _ _ _ _
                              rw [lx_E_w (lx_E_up (lx_E_up (lx_E_up (lx_E_up hE (by decide) (by omega)) (by decide) (by omega)) (by decide) (by omega)) (by decide) (by omega))] at gw120
                              refine wa_ifeq (w_rg0 (by omega) (by omega)) ⟨_, rfl⟩ (fun c123 => ?_) (fun c123 => ?_)
                              · skip
                                refine wa_aload_n (n := 0) rfl ?_
                                refine wb_gf5 237 rfl (wy_pr rfl) wt_237 wf_15_15 (v := 241) ((w_up_slot (by decide)).trans ((w_up_slot (by decide)).trans ((w_up_slot (by decide)).trans ((w_up_slot (by decide)).trans (((hL 237 15 (by omega) (by omega)).trans hA15)))))) (fun r124 => ?_)
                                refine wb_gf4 241 rfl (wy_pr rfl) wt_241 wf_12_15 (v := 255) wl_241_15 ?_
                                refine wa_iload_n (n := 2) rfl ?_
                                refine wa_aload_n (n := 0) rfl ?_
                                refine wa_iconst ?_
                                refine wa_cv 237 rfl (wy_pr rfl) wt_237 (M2 := fun _ => False) rfl at_M_readsType ⟨_, rfl⟩ rfl rfl ⟨(Or.inr ⟨wy_pr rfl, fun q => q⟩), trivial, trivial, trivial, trivial⟩ ⟨trivial, (Or.inr ⟨wy_pr rfl, fun q => q⟩), trivial⟩ (fun _ _ q => False.elim q) (readsType_241 (S := (w_up (w_up (w_up (w_up Z 252 m c) 254 m st) 259 m p1) 260 m p1)) hX (lx_E_up (lx_E_up (lx_E_up (lx_E_up hE (by decide) (by omega)) (by decide) (by omega)) (by decide) (by omega)) (by decide) (by omega)).1 ((w_up_slot (by decide)).trans ((w_up_slot (by decide)).trans ((w_up_slot (by decide)).trans ((w_up_slot (by decide)).trans (((hL 237 15 (by omega) (by omega)).trans hA15)))))) (ho_nm_of hAn (((lx_ag_cg (lx_ag_cg (lx_ag_cg (lx_ag_cg hL)))) 241 1 (by omega) (by omega)).trans rfl) (funext fun i => ((lx_ag_cg (lx_ag_cg (lx_ag_cg (lx_ag_cg hL)))) 250 i (by omega) (by omega)).trans rfl) (funext fun i => ((lx_ag_cg (lx_ag_cg (lx_ag_cg (lx_ag_cg hL)))) 251 i (by omega) (by omega)).trans rfl)) (Or.inr rfl) rfl) (fun oq125 Sq125 hp126 q125 => ?_)
                                rcases q125 with ⟨t, p2, ty, rfl, a1, a2⟩ | ⟨t, p2, ty, rfl, rfl⟩
                                · skip
                                  rw [lx_E_type (b := 241) (lx_E_up (lx_E_up (lx_E_up (lx_E_up hE (by decide) (by omega)) (by decide) (by omega)) (by decide) (by omega)) (by decide) (by omega)) (by decide) (((lx_ag_cg (lx_ag_cg (lx_ag_cg (lx_ag_cg hL)))) 241 1 (by omega) (by omega)).trans rfl) (funext fun i => ((lx_ag_cg (lx_ag_cg (lx_ag_cg (lx_ag_cg hL)))) 250 i (by omega) (by omega)).trans rfl) (funext fun i => ((lx_ag_cg (lx_ag_cg (lx_ag_cg (lx_ag_cg hL)))) 251 i (by omega) (by omega)).trans rfl)] at ty
                                  show wJ _ _ _ _ _ _ _ _ _ _
                                  repeat (first | rw [if_pos (by omega)] at he | rw [if_neg (by omega)] at he)
                                  rw [ty] at he
                                  dsimp only at he
                                  obtain ⟨t0, t1, t2, t3⟩ := hy_type_rg (show zq A p1 241 1 ≤ 60 from hAn.1.2) ty
                                  have hE127 : lx_E Sq125 A p2 := lx_E_ag (lx_E_up (lx_E_up (lx_E_up (lx_E_up hE (by decide) (by omega)) (by decide) (by omega)) (by decide) (by omega)) (by decide) (by omega)) a1 a2
                                  have hL127 : lx_ag (w_up (w_up (w_up (w_up A 252 m c) 254 m st) 259 m p1) 260 m p1) Sq125 := lx_ag_tr (lx_ag_cg (lx_ag_cg (lx_ag_cg (lx_ag_cg hL)))) a1
                                  have bp2 := hE127.1.2.2.1
                                  have bn2 := hE127.1.2.1
                                  have b82 : 0 ≤ Sq125 237 8 ∧ Sq125 237 8 ≤ 65540 := (lx_I_hp hE127.1).2.2
                                  rw [lx_E_8 hE127] at b82
                                  have b83 : p2 ≤ zq A p2 237 8 := (lx_en_le (T := A 239) (h := A 237 5) (by rw [← hE127.2.2.1]; exact bp2.2)).1
                                  refine wb_iast 255 rfl (wy_pr rfl) wt_255 (n := 400) ((ml_255 hE127.1.1)) (by omega) (by omega) ⟨(by omega), (by omega)⟩ ?_
                                  refine wa_aload_n (n := 0) rfl ?_
                                  refine wa_aload_n (n := 0) rfl ?_
                                  refine wb_gfi 237 rfl (wy_pr rfl) wt_237 wf_15_6 (v := (zq A p2 237 6)) ((w_up_slot (by decide)).trans ((lx_E_6 hE127))) (fun r128 => ?_)
                                  refine wa_iconst ?_
                                  refine wa_icmpne (w_rg0 (by omega) (by omega)) (w_rg0 (by omega) (by omega)) ⟨_, rfl⟩ (fun c129 => ?_) (fun c129 => ?_)
                                  · skip
                                    refine wa_iconst ?_
                                    refine wa_fall ⟨_, rfl⟩ ?_
                                    refine wa_iconst ?_
                                    refine wa_cv 237 rfl (wy_pr rfl) wt_237 (M2 := fun _ => False) rfl at_M_must ⟨_, rfl⟩ rfl rfl ⟨(Or.inr ⟨wy_pr rfl, fun q => q⟩), trivial, trivial, trivial, trivial⟩ trivial (fun _ _ q => False.elim q) (must_ok (S := (w_up Sq125 255 m t)) (g := 0) (n := 1) (Or.inl rfl) ⟨by omega, by omega⟩) (fun oq131 Sq131 hp132 q131 => ?_)
                                    rcases q131 with ⟨m130, _, _⟩ | ⟨_, rfl, rfl⟩
                                    · skip
                                      exact absurd m130 (by decide)
                                    · skip
                                      refine ⟨rfl, ?_⟩
                                      repeat (first | rw [if_pos (by omega)] at he | rw [if_neg (by omega)] at he)
                                      first | (rw [ty] at he; dsimp only at he) | (rw [if_neg (by rw [gis]; decide)] at he) | skip
                                      first | (rw [if_pos (by omega), if_pos goo] at he) | skip
                                      exact Or.inr ⟨_, _, he.symm, rfl, hm_ag_hl (hm_ag_up (hm_ag_lx (hm_ag_up (hm_ag_up (hm_ag_up (hm_ag_up hm_ag_rf (by decide) (by omega) (by decide)) (by decide) (by omega) (by decide)) (by decide) (by omega) (by decide)) (by decide) (by omega) (by decide)) hL127) (by decide) (by omega) (by decide)), rfl, by first | rfl | exact (show (w_up Sq125 255 m t) 237 7 = p2 from ((w_up_slot (by decide)).trans ((lx_E_7 hE127))))⟩
                                  · skip
                                    refine wa_iconst ?_
                                    refine wa_goto ⟨_, rfl⟩ ?_
                                    refine wa_iconst ?_
                                    refine wa_cv 237 rfl (wy_pr rfl) wt_237 (M2 := fun _ => False) rfl at_M_must ⟨_, rfl⟩ rfl rfl ⟨(Or.inr ⟨wy_pr rfl, fun q => q⟩), trivial, trivial, trivial, trivial⟩ trivial (fun _ _ q => False.elim q) (must_ok (S := (w_up Sq125 255 m t)) (g := 1) (n := 1) (Or.inr rfl) ⟨by omega, by omega⟩) (fun oq134 Sq134 hp135 q134 => ?_)
                                    rcases q134 with ⟨_, rfl, rfl⟩ | ⟨m133, _, _⟩
                                    · skip
                                      show wJ _ _ _ _ _ _ _ _ _ _
                                      refine wa_aload_n (n := 0) rfl ?_
                                      refine wa_aload_n (n := 0) rfl ?_
                                      refine wa_ks ?_
                                      refine wa_cv 237 rfl (wy_pr rfl) wt_237 (M2 := fun _ => False) rfl at_M_isOneOf ⟨_, rfl⟩ rfl rfl ⟨(Or.inr ⟨wy_pr rfl, fun q => q⟩), trivial, trivial, trivial, trivial⟩ ⟨(Or.inr ⟨wy_pr rfl, fun q => q⟩), trivial⟩ (fun _ _ q => False.elim q) (isOneOf_ok (S := (w_up Sq125 255 m t)) (lx_E_up hE127 (by decide) (by omega)).1.1 (wx_21 hX) (by decide) (by decide) (lx_I_hp (lx_E_up hE127 (by decide) (by omega)).1) (by decide)) (fun oq137 Sq137 hp138 q137 => ?_)
                                      rcases q137 with ⟨rfl, ⟨rfl, go136⟩ | ⟨rfl, go136⟩⟩
                                      · skip
                                        show wJ _ _ _ _ _ _ _ _ _ _
                                        rw [lx_E_oo (lx_E_up hE127 (by decide) (by omega))] at go136
                                        have goo := go136
                                        refine wa_ifne (w_rg0 (by omega) (by omega)) ⟨_, rfl⟩ (fun c139 => ?_) (fun c139 => ?_)
                                        · skip
                                          refine wa_iconst ?_
                                          refine wa_fall ⟨_, rfl⟩ ?_
                                          refine wa_iconst ?_
                                          refine wa_cv 237 rfl (wy_pr rfl) wt_237 (M2 := fun _ => False) rfl at_M_must ⟨_, rfl⟩ rfl rfl ⟨(Or.inr ⟨wy_pr rfl, fun q => q⟩), trivial, trivial, trivial, trivial⟩ trivial (fun _ _ q => False.elim q) (must_ok (S := (w_up Sq125 255 m t)) (g := 0) (n := 2) (Or.inl rfl) ⟨by omega, by omega⟩) (fun oq141 Sq141 hp142 q141 => ?_)
                                          rcases q141 with ⟨m140, _, _⟩ | ⟨_, rfl, rfl⟩
                                          · skip
                                            exact absurd m140 (by decide)
                                          · skip
                                            refine ⟨rfl, ?_⟩
                                            repeat (first | rw [if_pos (by omega)] at he | rw [if_neg (by omega)] at he)
                                            first | (rw [ty] at he; dsimp only at he) | (rw [if_neg (by rw [gis]; decide)] at he) | skip
                                            first | (rw [if_pos (by omega), if_pos goo] at he) | skip
                                            exact Or.inr ⟨_, _, he.symm, rfl, hm_ag_hl (hm_ag_up (hm_ag_lx (hm_ag_up (hm_ag_up (hm_ag_up (hm_ag_up hm_ag_rf (by decide) (by omega) (by decide)) (by decide) (by omega) (by decide)) (by decide) (by omega) (by decide)) (by decide) (by omega) (by decide)) hL127) (by decide) (by omega) (by decide)), rfl, by first | rfl | exact (show (w_up Sq125 255 m t) 237 7 = p2 from ((w_up_slot (by decide)).trans ((lx_E_7 hE127))))⟩
                                        · skip
                                          exact absurd c139 (by omega)
                                      · skip
                                        show wJ _ _ _ _ _ _ _ _ _ _
                                        rw [lx_E_oo (lx_E_up hE127 (by decide) (by omega))] at go136
                                        have goo := go136
                                        refine wa_ifne (w_rg0 (by omega) (by omega)) ⟨_, rfl⟩ (fun c143 => ?_) (fun c143 => ?_)
                                        · skip
                                          exact absurd c143 (by omega)
                                        · skip
                                          refine wa_iconst ?_
                                          refine wa_goto ⟨_, rfl⟩ ?_
                                          refine wa_iconst ?_
                                          refine wa_cv 237 rfl (wy_pr rfl) wt_237 (M2 := fun _ => False) rfl at_M_must ⟨_, rfl⟩ rfl rfl ⟨(Or.inr ⟨wy_pr rfl, fun q => q⟩), trivial, trivial, trivial, trivial⟩ trivial (fun _ _ q => False.elim q) (must_ok (S := (w_up Sq125 255 m t)) (g := 1) (n := 2) (Or.inr rfl) ⟨by omega, by omega⟩) (fun oq145 Sq145 hp146 q145 => ?_)
                                          rcases q145 with ⟨_, rfl, rfl⟩ | ⟨m144, _, _⟩
                                          · skip
                                            show wJ _ _ _ _ _ _ _ _ _ _
                                            refine wa_aload_n (n := 0) rfl ?_
                                            refine wb_gfi 237 rfl (wy_pr rfl) wt_237 wf_15_7 (v := p2) ((w_up_slot (by decide)).trans ((lx_E_7 hE127))) (fun r147 => ?_)
                                            refine wa_istore (n := 4) rfl ?_
                                            refine wa_aload_n (n := 0) rfl ?_
                                            refine wb_gf5 237 rfl (wy_pr rfl) wt_237 wf_15_15 (v := 241) ((w_up_slot (by decide)).trans (((hL127 237 15 (by omega) (by omega)).trans hA15))) (fun r148 => ?_)
                                            refine wb_gf4 241 rfl (wy_pr rfl) wt_241 wf_12_19 (v := 259) wl_241_19 ?_
                                            refine wa_iload_n (n := 2) rfl ?_
                                            refine wa_aload_n (n := 0) rfl ?_
                                            refine wb_gfi 237 rfl (wy_pr rfl) wt_237 wf_15_7 (v := p2) ((w_up_slot (by decide)).trans ((lx_E_7 hE127))) (fun r149 => ?_)
                                            refine wb_iast 259 rfl (wy_pr rfl) wt_259 (n := 400) ((w_up_slot (by decide)).trans ((ml_259 hE127.1.1))) (by omega) (by omega) ⟨(by omega), (by omega)⟩ ?_
                                            refine wa_aload_n (n := 0) rfl ?_
                                            refine wb_gf5 237 rfl (wy_pr rfl) wt_237 wf_15_15 (v := 241) ((w_up_slot (by decide)).trans ((w_up_slot (by decide)).trans (((hL127 237 15 (by omega) (by omega)).trans hA15)))) (fun r150 => ?_)
                                            refine wb_gf4 241 rfl (wy_pr rfl) wt_241 wf_12_20 (v := 260) wl_241_20 ?_
                                            refine wa_iload_n (n := 2) rfl ?_
                                            refine wa_aload_n (n := 0) rfl ?_
                                            refine wb_gfi 237 rfl (wy_pr rfl) wt_237 wf_15_8 (v := (zq A p2 237 8)) ((w_up_slot (by decide)).trans ((w_up_slot (by decide)).trans ((lx_E_8 hE127)))) (fun r151 => ?_)
                                            refine wb_iast 260 rfl (wy_pr rfl) wt_260 (n := 400) ((w_up_slot (by decide)).trans ((w_up_slot (by decide)).trans ((ml_260 hE127.1.1)))) (by omega) (by omega) ⟨(by omega), (by omega)⟩ ?_
                                            refine wa_aload_n (n := 0) rfl ?_
                                            refine wa_cv 237 rfl (wy_pr rfl) wt_237 (M2 := fun _ => False) rfl at_M_next ⟨_, rfl⟩ rfl rfl ⟨trivial, (Or.inr ⟨wy_pr rfl, fun q => q⟩), trivial, trivial, trivial, trivial⟩ trivial (fun _ _ q => False.elim q) (nx_I (S := (w_up (w_up (w_up Sq125 255 m t) 259 m p2) 260 m (zq A p2 237 8))) (lx_E_up (lx_E_up (lx_E_up hE127 (by decide) (by omega)) (by decide) (by omega)) (by decide) (by omega)).1 (by have e6 : (w_up (w_up (w_up Sq125 255 m t) 259 m p2) 260 m (zq A p2 237 8)) 237 6 = (zq A p2 237 6) := ((w_up_slot (by decide)).trans ((w_up_slot (by decide)).trans ((w_up_slot (by decide)).trans ((lx_E_6 hE127))))); first | omega | (have := (lx_is4 gis).1; omega) | (have := lx_w1 hnw; omega))) (fun oq152 Sq152 hp153 q152 => ?_)
                                            rcases q152 with ⟨rfl, a1, a2⟩
                                            show wJ _ _ _ _ _ _ _ _ _ _
                                            rw [lx_E_ne (lx_E_up (lx_E_up (lx_E_up hE127 (by decide) (by omega)) (by decide) (by omega)) (by decide) (by omega))] at a2
                                            have hE154 : lx_E Sq152 A (lx_ne (zq A p2) p2) := lx_E_ag (lx_E_up (lx_E_up (lx_E_up hE127 (by decide) (by omega)) (by decide) (by omega)) (by decide) (by omega)) a1 a2
                                            have hL154 : lx_ag (w_up (w_up (w_up (w_up (w_up (w_up (w_up A 252 m c) 254 m st) 259 m p1) 260 m p1) 255 m t) 259 m p2) 260 m (zq A p2 237 8)) Sq152 := lx_ag_tr (lx_ag_cg (lx_ag_cg (lx_ag_cg hL127))) a1
                                            refine wa_aload_n (n := 0) rfl ?_
                                            refine wa_bipush (w_rg2 (by omega) (by omega)) ?_
                                            refine wa_cv 237 rfl (wy_pr rfl) wt_237 (M2 := fun _ => False) rfl at_M_isSign ⟨_, rfl⟩ rfl rfl ⟨trivial, (Or.inr ⟨wy_pr rfl, fun q => q⟩), trivial, trivial, trivial, trivial⟩ trivial (fun _ _ q => False.elim q) (isSign_ok (S := Sq152) ⟨by omega, by omega⟩) (fun oq156 Sq156 hp157 q156 => ?_)
                                            rcases q156 with ⟨rfl, ⟨rfl, gi155⟩ | ⟨rfl, gi155⟩⟩
                                            · skip
                                              show wJ _ _ _ _ _ _ _ _ _ _
                                              rw [lx_E_is hE154] at gi155
                                              have gis := gi155
                                              have gsv := gis
                                              refine wa_ifeq (w_rg0 (by omega) (by omega)) ⟨_, rfl⟩ (fun c158 => ?_) (fun c158 => ?_)
                                              · skip
                                                exact absurd c158 (by omega)
                                              · skip
                                                refine wa_aload_n (n := 0) rfl ?_
                                                refine wb_gf5 237 rfl (wy_pr rfl) wt_237 wf_15_15 (v := 241) (((hL154 237 15 (by omega) (by omega)).trans hA15)) (fun r159 => ?_)
                                                refine wb_gf4 241 rfl (wy_pr rfl) wt_241 wf_12_13 (v := 253) wl_241_13 ?_
                                                refine wa_iload_n (n := 2) rfl ?_
                                                refine wa_iconst ?_
                                                refine wb_iast 253 rfl (wy_pr rfl) wt_253 (n := 400) ((ml_253 hE154.1.1)) (by omega) (by omega) ⟨(by omega), (by omega)⟩ ?_
                                                refine wa_aload_n (n := 0) rfl ?_
                                                refine wa_cv 237 rfl (wy_pr rfl) wt_237 (M2 := fun _ => False) rfl at_M_next ⟨_, rfl⟩ rfl rfl ⟨trivial, (Or.inr ⟨wy_pr rfl, fun q => q⟩), trivial, trivial, trivial, trivial⟩ trivial (fun _ _ q => False.elim q) (nx_I (S := (w_up Sq152 253 m 1)) (lx_E_up hE154 (by decide) (by omega)).1 (by have e6 : (w_up Sq152 253 m 1) 237 6 = (zq A (lx_ne (zq A p2) p2) 237 6) := ((w_up_slot (by decide)).trans ((lx_E_6 hE154))); first | omega | (have := (lx_is4 gis).1; omega) | (have := lx_w1 hnw; omega))) (fun oq160 Sq160 hp161 q160 => ?_)
                                                rcases q160 with ⟨rfl, a1, a2⟩
                                                show wJ _ _ _ _ _ _ _ _ _ _
                                                rw [lx_E_ne (lx_E_up hE154 (by decide) (by omega))] at a2
                                                have hE162 : lx_E Sq160 A (lx_ne (zq A (lx_ne (zq A p2) p2)) (lx_ne (zq A p2) p2)) := lx_E_ag (lx_E_up hE154 (by decide) (by omega)) a1 a2
                                                have hL162 : lx_ag (w_up (w_up (w_up (w_up (w_up (w_up (w_up (w_up A 252 m c) 254 m st) 259 m p1) 260 m p1) 255 m t) 259 m p2) 260 m (zq A p2 237 8)) 253 m 1) Sq160 := lx_ag_tr (lx_ag_cg hL154) a1
                                                refine wa_aload_n (n := 0) rfl ?_
                                                refine wa_iload_n (n := 1) rfl ?_
                                                refine wa_iload_n (n := 2) rfl ?_
                                                refine wa_cv 237 rfl (wy_pr rfl) wt_237 (M2 := fun _ => False) rfl at_M_readsParameters ⟨_, rfl⟩ rfl rfl ⟨trivial, (Or.inr ⟨wy_pr rfl, fun q => q⟩), trivial, trivial, trivial, trivial⟩ trivial (fun _ _ q => False.elim q) (readsParameters_241 (A := Sq160) (R := pq_k (w_up (w_up (w_up (w_up (w_up (w_up (w_up (w_up A 252 m c) 254 m st) 259 m p1) 260 m p1) 255 m t) 259 m p2) 260 m (zq A p2 237 8)) 253 m 1) 241 c m (pq_r (w_up (w_up (w_up (w_up (w_up (w_up (w_up (w_up A 252 m c) 254 m st) 259 m p1) 260 m p1) 255 m t) 259 m p2) 260 m (zq A p2 237 8)) 253 m 1) 241 (lx_ne (zq A (lx_ne (zq A p2) p2)) (lx_ne (zq A p2) p2)))) hX (((hL162 237 15 (by omega) (by omega)).trans hA15)) ⟨by omega, by omega⟩ (ho_mm_ag hm.1 (by decide) hmm (hm_ag_lx (hm_ag_up (hm_ag_up (hm_ag_up (hm_ag_up (hm_ag_up (hm_ag_up (hm_ag_up (hm_ag_up hm_ag_rf (by decide) (by omega) (by decide)) (by decide) (by omega) (by decide)) (by decide) (by omega) (by decide)) (by decide) (by omega) (by decide)) (by decide) (by omega) (by decide)) (by decide) (by omega) (by decide)) (by decide) (by omega) (by decide)) (by decide) (by omega) (by decide)) hL162)) (by have y1 : Sq160 259 m = p2 := (((hL162 259 m (by omega) (by omega)).trans ((w_up_slot (by decide)).trans ((w_up_slot (by decide)).trans (w_up_same _ _ _ _))))); have y2 : Sq160 260 m = (zq A p2 237 8) := (((hL162 260 m (by omega) (by omega)).trans ((w_up_slot (by decide)).trans (w_up_same _ _ _ _)))); omega) (by rw [show Sq160 248 c = A 248 c from (((hL162 248 c (by omega) (by omega)).trans ((w_up_slot (by decide)).trans ((w_up_slot (by decide)).trans ((w_up_slot (by decide)).trans ((w_up_slot (by decide)).trans ((w_up_slot (by decide)).trans ((w_up_slot (by decide)).trans ((w_up_slot (by decide)).trans (w_up_slot (by decide)))))))))))]; exact hfi) hcc (ho_nm_of hAn ((hL162 241 1 (by omega) (by omega)).trans rfl) (funext fun i => (hL162 250 i (by omega) (by omega)).trans rfl) (funext fun i => (hL162 251 i (by omega) (by omega)).trans rfl)) ⟨hE162.1, rfl, rfl, rfl⟩ (pq_ag hL162 (by decide))) (fun oq163 Sq163 hp164 q163 => ?_)
                                                rcases q163 with ⟨q, v, l, hR, rfl, c1, c2, c3, c4⟩ | ⟨e, q, hR, rfl, c1, c2, c3⟩
                                                · skip
                                                  repeat (first | rw [if_pos (by omega)] at he | rw [if_neg (by omega)] at he)
                                                  first | rw [if_neg (by rw [goo]; decide), if_pos gsv] at he | rw [if_pos gsv] at he | rw [if_neg (by rw [goo]; decide)] at he | skip
                                                  unfold rm_par at he
                                                  rw [hR] at he
                                                  dsimp only at he
                                                  show wJ _ _ _ _ _ _ _ _ _ _
                                                  refine wa_goto ⟨_, rfl⟩ ?_
                                                  exact wJ_S (mem_23_241 hA15 hAm ⟨by omega, by omega⟩ hcc hmy (hm_ag_tr (hm_ag_lx (hm_ag_up (hm_ag_up (hm_ag_up (hm_ag_up (hm_ag_up (hm_ag_up (hm_ag_up (hm_ag_up hm_ag_rf (by decide) (by omega) (by decide)) (by decide) (by omega) (by decide)) (by decide) (by omega) (by decide)) (by decide) (by omega) (by decide)) (by decide) (by omega) (by decide)) (by decide) (by omega) (by decide)) (by decide) (by omega) (by decide)) (by decide) (by omega) (by decide)) hL162) (hp_hm c1)) ⟨c2.1, c2.2.1.trans hE162.2.1, c2.2.2.1.trans hE162.2.2.1, c2.2.2.2.trans hE162.2.2.2⟩ ⟨(c1 252 m (by omega) (by omega) (by omega) (by omega)).trans (((hL162 252 m (by omega) (by omega)).trans ((w_up_slot (by decide)).trans ((w_up_slot (by decide)).trans ((w_up_slot (by decide)).trans ((w_up_slot (by decide)).trans ((w_up_slot (by decide)).trans ((w_up_slot (by decide)).trans ((w_up_slot (by decide)).trans (w_up_same _ _ _ _)))))))))), (c1 253 m (by omega) (by omega) (by omega) (by omega)).trans (((hL162 253 m (by omega) (by omega)).trans (w_up_same _ _ _ _))), (c1 254 m (by omega) (by omega) (by omega) (by omega)).trans (((hL162 254 m (by omega) (by omega)).trans ((w_up_slot (by decide)).trans ((w_up_slot (by decide)).trans ((w_up_slot (by decide)).trans ((w_up_slot (by decide)).trans ((w_up_slot (by decide)).trans ((w_up_slot (by decide)).trans (w_up_same _ _ _ _))))))))), (c1 255 m (by omega) (by omega) (by omega) (by omega)).trans (((hL162 255 m (by omega) (by omega)).trans ((w_up_slot (by decide)).trans ((w_up_slot (by decide)).trans ((w_up_slot (by decide)).trans (w_up_same _ _ _ _)))))), (c1 259 m (by omega) (by omega) (by omega) (by omega)).trans (((hL162 259 m (by omega) (by omega)).trans ((w_up_slot (by decide)).trans ((w_up_slot (by decide)).trans (w_up_same _ _ _ _))))), (c1 260 m (by omega) (by omega) (by omega) (by omega)).trans (((hL162 260 m (by omega) (by omega)).trans ((w_up_slot (by decide)).trans (w_up_same _ _ _ _))))⟩ c3 c4 he) ⟨rfl, rfl, rfl, trivial⟩
                                                · skip
                                                  repeat (first | rw [if_pos (by omega)] at he | rw [if_neg (by omega)] at he)
                                                  first | rw [if_neg (by rw [goo]; decide), if_pos gsv] at he | rw [if_pos gsv] at he | rw [if_neg (by rw [goo]; decide)] at he | skip
                                                  unfold rm_par at he
                                                  rw [hR] at he
                                                  dsimp only at he
                                                  refine ⟨rfl, ?_⟩
                                                  exact Or.inr ⟨_, _, he.symm, rfl, (hm_ag_tr (hm_ag_lx (hm_ag_up (hm_ag_up (hm_ag_up (hm_ag_up (hm_ag_up (hm_ag_up (hm_ag_up (hm_ag_up hm_ag_rf (by decide) (by omega) (by decide)) (by decide) (by omega) (by decide)) (by decide) (by omega) (by decide)) (by decide) (by omega) (by decide)) (by decide) (by omega) (by decide)) (by decide) (by omega) (by decide)) (by decide) (by omega) (by decide)) (by decide) (by omega) (by decide)) hL162) (hp_hm c1)), c2, c3⟩
                                            · skip
                                              show wJ _ _ _ _ _ _ _ _ _ _
                                              rw [lx_E_is hE154] at gi155
                                              have gis := gi155
                                              have gsv := gis
                                              refine wa_ifeq (w_rg0 (by omega) (by omega)) ⟨_, rfl⟩ (fun c166 => ?_) (fun c166 => ?_)
                                              · skip
                                                refine wa_aload_n (n := 0) rfl ?_
                                                refine wa_iload_n (n := 1) rfl ?_
                                                refine wa_iload_n (n := 2) rfl ?_
                                                refine wa_iload (n := 4) rfl ?_
                                                refine wa_cv 237 rfl (wy_pr rfl) wt_237 (M2 := fun _ => False) rfl at_M_readsField ⟨_, rfl⟩ rfl rfl ⟨trivial, (Or.inr ⟨wy_pr rfl, fun q => q⟩), trivial, trivial, trivial, trivial⟩ trivial (fun _ _ q => False.elim q) (readsField_241 (A := Sq152) (R := rf_of (w_up (w_up (w_up (w_up (w_up (w_up (w_up A 252 m c) 254 m st) 259 m p1) 260 m p1) 255 m t) 259 m p2) 260 m (zq A p2 237 8)) 241 c m (lx_ne (zq A p2) p2) p2) (((hL154 237 15 (by omega) (by omega)).trans hA15)) ⟨by omega, by omega⟩ (ho_mm_ag hm.1 (by decide) hmm (hm_ag_lx (hm_ag_up (hm_ag_up (hm_ag_up (hm_ag_up (hm_ag_up (hm_ag_up (hm_ag_up hm_ag_rf (by decide) (by omega) (by decide)) (by decide) (by omega) (by decide)) (by decide) (by omega) (by decide)) (by decide) (by omega) (by decide)) (by decide) (by omega) (by decide)) (by decide) (by omega) (by decide)) (by decide) (by omega) (by decide)) hL154)) (by have y1 : Sq152 259 m = p2 := (((hL154 259 m (by omega) (by omega)).trans ((w_up_slot (by decide)).trans (w_up_same _ _ _ _)))); have y2 : Sq152 260 m = (zq A p2 237 8) := (((hL154 260 m (by omega) (by omega)).trans (w_up_same _ _ _ _))); omega) (by rw [show Sq152 248 c = A 248 c from (((hL154 248 c (by omega) (by omega)).trans ((w_up_slot (by decide)).trans ((w_up_slot (by decide)).trans ((w_up_slot (by decide)).trans ((w_up_slot (by decide)).trans ((w_up_slot (by decide)).trans ((w_up_slot (by decide)).trans (w_up_slot (by decide))))))))))]; exact hfi) hcc ⟨hE154.1, rfl, rfl, rfl⟩ ⟨by omega, by omega⟩ (rf_ag hL154 (by decide))) (fun oq167 Sq167 hp168 q167 => ?_)
                                                rcases q167 with ⟨hR, rfl, rfl⟩ | ⟨e, q, hR, rfl, c1, c2, c3⟩
                                                · skip
                                                  repeat (first | rw [if_pos (by omega)] at he | rw [if_neg (by omega)] at he)
                                                  rw [if_neg (by rw [goo]; decide), if_neg (by rw [gis]; decide), hR] at he
                                                  dsimp only at he
                                                  show wJ _ _ _ _ _ _ _ _ _ _
                                                  refine wa_fall ⟨_, rfl⟩ ?_
                                                  exact wJ_S (mem_23_241 (l := []) (v := 0) hA15 hAm ⟨by omega, by omega⟩ hcc hmy (hm_ag_up (hm_ag_up (hm_ag_up (hm_ag_lx (hm_ag_up (hm_ag_up (hm_ag_up (hm_ag_up (hm_ag_up (hm_ag_up (hm_ag_up hm_ag_rf (by decide) (by omega) (by decide)) (by decide) (by omega) (by decide)) (by decide) (by omega) (by decide)) (by decide) (by omega) (by decide)) (by decide) (by omega) (by decide)) (by decide) (by omega) (by decide)) (by decide) (by omega) (by decide)) hL154) (by decide) (by omega) (by decide)) (by decide) (by omega) (by decide)) (by decide) (by omega) (by decide)) (lx_E_up (lx_E_up (lx_E_up hE154 (by decide) (by omega)) (by decide) (by omega)) (by decide) (by omega)) ⟨((w_up_slot (by decide)).trans ((w_up_slot (by decide)).trans ((w_up_slot (by decide)).trans (((hL154 252 m (by omega) (by omega)).trans ((w_up_slot (by decide)).trans ((w_up_slot (by decide)).trans ((w_up_slot (by decide)).trans ((w_up_slot (by decide)).trans ((w_up_slot (by decide)).trans ((w_up_slot (by decide)).trans (w_up_same _ _ _ _)))))))))))), ((w_up_slot (by decide)).trans ((w_up_slot (by decide)).trans (w_up_same _ _ _ _))), ((w_up_slot (by decide)).trans ((w_up_slot (by decide)).trans ((w_up_slot (by decide)).trans (((hL154 254 m (by omega) (by omega)).trans ((w_up_slot (by decide)).trans ((w_up_slot (by decide)).trans ((w_up_slot (by decide)).trans ((w_up_slot (by decide)).trans ((w_up_slot (by decide)).trans (w_up_same _ _ _ _))))))))))), ((w_up_slot (by decide)).trans ((w_up_slot (by decide)).trans ((w_up_slot (by decide)).trans (((hL154 255 m (by omega) (by omega)).trans ((w_up_slot (by decide)).trans ((w_up_slot (by decide)).trans (w_up_same _ _ _ _)))))))), ((w_up_slot (by decide)).trans ((w_up_slot (by decide)).trans ((w_up_slot (by decide)).trans (((hL154 259 m (by omega) (by omega)).trans ((w_up_slot (by decide)).trans (w_up_same _ _ _ _))))))), ((w_up_slot (by decide)).trans ((w_up_slot (by decide)).trans ((w_up_slot (by decide)).trans (((hL154 260 m (by omega) (by omega)).trans (w_up_same _ _ _ _))))))⟩ ⟨(w_up_slot (by decide)).trans (w_up_same _ _ _ _), w_up_same _ _ _ _, fun i hi => absurd hi (Nat.not_lt_zero i)⟩ (Nat.zero_le _) he) ⟨rfl, rfl, rfl, trivial⟩
                                                · skip
                                                  repeat (first | rw [if_pos (by omega)] at he | rw [if_neg (by omega)] at he)
                                                  rw [if_neg (by rw [goo]; decide), if_neg (by rw [gis]; decide), hR] at he
                                                  dsimp only at he
                                                  refine ⟨rfl, ?_⟩
                                                  exact Or.inr ⟨_, _, he.symm, rfl, (hm_ag_tr (hm_ag_lx (hm_ag_up (hm_ag_up (hm_ag_up (hm_ag_up (hm_ag_up (hm_ag_up (hm_ag_up hm_ag_rf (by decide) (by omega) (by decide)) (by decide) (by omega) (by decide)) (by decide) (by omega) (by decide)) (by decide) (by omega) (by decide)) (by decide) (by omega) (by decide)) (by decide) (by omega) (by decide)) (by decide) (by omega) (by decide)) hL154) c1), c2, c3⟩
                                              · skip
                                                exact absurd c166 (by omega)
                                          · skip
                                            exact absurd m144 (by decide)
                                    · skip
                                      exact absurd m133 (by decide)
                                · skip
                                  rw [lx_E_type (b := 241) (lx_E_up (lx_E_up (lx_E_up (lx_E_up hE (by decide) (by omega)) (by decide) (by omega)) (by decide) (by omega)) (by decide) (by omega)) (by decide) (((lx_ag_cg (lx_ag_cg (lx_ag_cg (lx_ag_cg hL)))) 241 1 (by omega) (by omega)).trans rfl) (funext fun i => ((lx_ag_cg (lx_ag_cg (lx_ag_cg (lx_ag_cg hL)))) 250 i (by omega) (by omega)).trans rfl) (funext fun i => ((lx_ag_cg (lx_ag_cg (lx_ag_cg (lx_ag_cg hL)))) 251 i (by omega) (by omega)).trans rfl)] at ty
                                  refine ⟨rfl, ?_⟩
                                  repeat (first | rw [if_pos (by omega)] at he | rw [if_neg (by omega)] at he)
                                  first | (rw [ty] at he; dsimp only at he) | (rw [if_neg (by rw [gis]; decide)] at he) | skip
                                  first | (rw [if_pos (by omega), if_pos goo] at he) | skip
                                  exact Or.inr ⟨_, _, he.symm, rfl, hm_ag_hl (hm_ag_up (hm_ag_up (hm_ag_up (hm_ag_up (hm_ag_lx hm_ag_rf hL) (by decide) (by omega) (by decide)) (by decide) (by omega) (by decide)) (by decide) (by omega) (by decide)) (by decide) (by omega) (by decide)), rfl, by first | rfl | exact (show (w_up (w_up (w_up (w_up Z 252 m c) 254 m st) 259 m p1) 260 m p1) 237 7 = p1 from ((w_up_slot (by decide)).trans ((w_up_slot (by decide)).trans ((w_up_slot (by decide)).trans ((w_up_slot (by decide)).trans ((lx_E_7 hE)))))))⟩
                              · skip
                                exact absurd c123 (by omega)
                          · skip
                            exact absurd m111 (by decide)
                        · skip
                          exact absurd c110 (by omega)
                    · skip
                      exact absurd m104 (by decide)
                · skip
                  exact absurd m97 (by decide)
      · skip
        exact absurd m7 (by decide)
    · skip
      refine wa_aload_n (n := 0) rfl ?_
      refine wa_ks ?_
      refine wa_cv 237 rfl (wy_pr rfl) wt_237 (M2 := fun _ => False) rfl at_M_isWord ⟨_, rfl⟩ rfl rfl ⟨(Or.inr ⟨wy_pr rfl, fun q => q⟩), trivial, trivial, trivial, trivial⟩ ⟨(Or.inr ⟨wy_pr rfl, fun q => q⟩), trivial⟩ (fun _ _ q => False.elim q) (isWord_ok (S := Z) hE.1.1 (wx_25 hX) (by decide) (lx_I_hp hE.1)) (fun oq172 Sq172 hp173 q172 => ?_)
      rcases q172 with ⟨rfl, ⟨rfl, gw171⟩ | ⟨rfl, gw171⟩⟩
      · skip
        rw [lx_E_w hE] at gw171
        exact absurd (gw171.symm.trans hnw) (by decide)
      · skip
        show wJ _ _ _ _ _ _ _ _ _ _
        rw [lx_E_w hE] at gw171
        refine wa_ifne (w_rg0 (by omega) (by omega)) ⟨_, rfl⟩ (fun c174 => ?_) (fun c174 => ?_)
        · skip
          exact absurd c174 (by omega)
        · skip
          refine wa_fall ⟨_, rfl⟩ ?_
          refine wa_iconst ?_
          refine wa_goto ⟨_, rfl⟩ ?_
          refine wa_iconst ?_
          refine wa_cv 237 rfl (wy_pr rfl) wt_237 (M2 := fun _ => False) rfl at_M_must ⟨_, rfl⟩ rfl rfl ⟨(Or.inr ⟨wy_pr rfl, fun q => q⟩), trivial, trivial, trivial, trivial⟩ trivial (fun _ _ q => False.elim q) (must_ok (S := Z) (g := 1) (n := 1) (Or.inr rfl) ⟨by omega, by omega⟩) (fun oq176 Sq176 hp177 q176 => ?_)
          rcases q176 with ⟨_, rfl, rfl⟩ | ⟨m175, _, _⟩
          · skip
            show wJ _ _ _ _ _ _ _ _ _ _
            refine wa_aload_n (n := 0) rfl ?_
            refine wa_ks ?_
            refine wa_cv 237 rfl (wy_pr rfl) wt_237 (M2 := fun _ => False) rfl at_M_isWord ⟨_, rfl⟩ rfl rfl ⟨(Or.inr ⟨wy_pr rfl, fun q => q⟩), trivial, trivial, trivial, trivial⟩ trivial (fun _ _ q => False.elim q) (isWord_ok (S := Z) hE.1.1 (wx_25 hX) (by decide) (lx_I_hp hE.1)) (fun oq179 Sq179 hp180 q179 => ?_)
            rcases q179 with ⟨rfl, ⟨rfl, gw178⟩ | ⟨rfl, gw178⟩⟩
            · skip
              rw [lx_E_w hE] at gw178
              exact absurd (gw178.symm.trans hnw) (by decide)
            · skip
              show wJ _ _ _ _ _ _ _ _ _ _
              rw [lx_E_w hE] at gw178
              refine wa_ifne (w_rg0 (by omega) (by omega)) ⟨_, rfl⟩ (fun c181 => ?_) (fun c181 => ?_)
              · skip
                exact absurd c181 (by omega)
              · skip
                refine wa_aload_n (n := 0) rfl ?_
                refine wa_aload_n (n := 0) rfl ?_
                refine wa_ks ?_
                refine wa_cv 237 rfl (wy_pr rfl) wt_237 (M2 := fun _ => False) rfl at_M_place ⟨_, rfl⟩ rfl rfl ⟨(Or.inr ⟨wy_pr rfl, fun q => q⟩), trivial, trivial, trivial, trivial⟩ ⟨(Or.inr ⟨wy_pr rfl, fun q => q⟩), trivial⟩ (fun _ _ q => False.elim q) (place_ok (S := Z) hE.1.1 (wx_27 hX) (by decide) (by decide) (lx_I_hp hE.1) (by decide)) (fun oq182 Sq182 hp183 q182 => ?_)
                rcases q182 with ⟨rfl, rfl⟩
                show wJ _ _ _ _ _ _ _ _ _ _
                rw [lx_E_pl hE]
                have hpl := pl_of_rg (zq A p1) tx_27 (by decide)
                refine wa_ifge (w_rg0 (by omega) (by omega)) ⟨_, rfl⟩ (fun c184 => ?_) (fun c184 => ?_)
                · skip
                  refine wa_iconst ?_
                  refine wa_goto ⟨_, rfl⟩ ?_
                  refine wa_iconst ?_
                  refine wa_cv 237 rfl (wy_pr rfl) wt_237 (M2 := fun _ => False) rfl at_M_must ⟨_, rfl⟩ rfl rfl ⟨(Or.inr ⟨wy_pr rfl, fun q => q⟩), trivial, trivial, trivial, trivial⟩ trivial (fun _ _ q => False.elim q) (must_ok (S := Z) (g := 1) (n := 3) (Or.inr rfl) ⟨by omega, by omega⟩) (fun oq186 Sq186 hp187 q186 => ?_)
                  rcases q186 with ⟨_, rfl, rfl⟩ | ⟨m185, _, _⟩
                  · skip
                    show wJ _ _ _ _ _ _ _ _ _ _
                    refine wa_fall ⟨_, rfl⟩ ?_
                    refine wa_aload_n (n := 0) rfl ?_
                    refine wa_iload_n (n := 2) rfl ?_
                    refine wa_sipush (by omega) ?_
                    refine wa_icmpge (w_rg0 (by omega) (by omega)) (w_rg0 (by omega) (by omega)) ⟨_, rfl⟩ (fun c188 => ?_) (fun c188 => ?_)
                    · skip
                      refine wa_iconst ?_
                      refine wa_fall ⟨_, rfl⟩ ?_
                      refine wa_iconst ?_
                      refine wa_cv 237 rfl (wy_pr rfl) wt_237 (M2 := fun _ => False) rfl at_M_must ⟨_, rfl⟩ rfl rfl ⟨(Or.inr ⟨wy_pr rfl, fun q => q⟩), trivial, trivial, trivial, trivial⟩ trivial (fun _ _ q => False.elim q) (must_ok (S := Z) (g := 0) (n := 5) (Or.inl rfl) ⟨by omega, by omega⟩) (fun oq190 Sq190 hp191 q190 => ?_)
                      rcases q190 with ⟨m189, _, _⟩ | ⟨_, rfl, rfl⟩
                      · skip
                        exact absurd m189 (by decide)
                      · skip
                        refine ⟨rfl, ?_⟩
                        repeat (first | rw [if_pos (by omega)] at he | rw [if_neg (by omega)] at he)
                        first | (rw [ty] at he; dsimp only at he) | (rw [if_neg (by rw [gis]; decide)] at he) | skip
                        first | (rw [if_pos (by omega), if_pos goo] at he) | skip
                        exact Or.inr ⟨_, _, he.symm, rfl, hm_ag_hl (hm_ag_lx hm_ag_rf hL), rfl, by first | rfl | exact (show Z 237 7 = p1 from ((lx_E_7 hE)))⟩
                    · skip
                      refine wa_iconst ?_
                      refine wa_goto ⟨_, rfl⟩ ?_
                      refine wa_iconst ?_
                      refine wa_cv 237 rfl (wy_pr rfl) wt_237 (M2 := fun _ => False) rfl at_M_must ⟨_, rfl⟩ rfl rfl ⟨(Or.inr ⟨wy_pr rfl, fun q => q⟩), trivial, trivial, trivial, trivial⟩ trivial (fun _ _ q => False.elim q) (must_ok (S := Z) (g := 1) (n := 5) (Or.inr rfl) ⟨by omega, by omega⟩) (fun oq193 Sq193 hp194 q193 => ?_)
                      rcases q193 with ⟨_, rfl, rfl⟩ | ⟨m192, _, _⟩
                      · skip
                        show wJ _ _ _ _ _ _ _ _ _ _
                        refine wa_aload_n (n := 0) rfl ?_
                        refine wa_aload_n (n := 0) rfl ?_
                        refine wa_ks ?_
                        refine wa_cv 237 rfl (wy_pr rfl) wt_237 (M2 := fun _ => False) rfl at_M_isWord ⟨_, rfl⟩ rfl rfl ⟨(Or.inr ⟨wy_pr rfl, fun q => q⟩), trivial, trivial, trivial, trivial⟩ ⟨(Or.inr ⟨wy_pr rfl, fun q => q⟩), trivial⟩ (fun _ _ q => False.elim q) (isWord_ok (S := Z) hE.1.1 (wx_25 hX) (by decide) (lx_I_hp hE.1)) (fun oq196 Sq196 hp197 q196 => ?_)
                        rcases q196 with ⟨rfl, ⟨rfl, gw195⟩ | ⟨rfl, gw195⟩⟩
                        · skip
                          rw [lx_E_w hE] at gw195
                          exact absurd (gw195.symm.trans hnw) (by decide)
                        · skip
                          show wJ _ _ _ _ _ _ _ _ _ _
                          rw [lx_E_w hE] at gw195
                          refine wa_ifeq (w_rg0 (by omega) (by omega)) ⟨_, rfl⟩ (fun c198 => ?_) (fun c198 => ?_)
                          · skip
                            refine wa_iconst ?_
                            refine wa_goto ⟨_, rfl⟩ ?_
                            refine wa_bipush (w_rg2 (by omega) (by omega)) ?_
                            refine wa_cv 237 rfl (wy_pr rfl) wt_237 (M2 := fun _ => False) rfl at_M_must ⟨_, rfl⟩ rfl rfl ⟨(Or.inr ⟨wy_pr rfl, fun q => q⟩), trivial, trivial, trivial, trivial⟩ trivial (fun _ _ q => False.elim q) (must_ok (S := Z) (g := 1) (n := 6) (Or.inr rfl) ⟨by omega, by omega⟩) (fun oq200 Sq200 hp201 q200 => ?_)
                            rcases q200 with ⟨_, rfl, rfl⟩ | ⟨m199, _, _⟩
                            · skip
                              show wJ _ _ _ _ _ _ _ _ _ _
                              refine wa_aload_n (n := 0) rfl ?_
                              refine wb_gf5 237 rfl (wy_pr rfl) wt_237 wf_15_15 (v := 241) (((hL 237 15 (by omega) (by omega)).trans hA15)) (fun r202 => ?_)
                              refine wb_gf4 241 rfl (wy_pr rfl) wt_241 wf_12_12 (v := 252) wl_241_12 ?_
                              refine wa_iload_n (n := 2) rfl ?_
                              refine wa_iload_n (n := 1) rfl ?_
                              refine wb_iast 252 rfl (wy_pr rfl) wt_252 (n := 400) ((ml_252 hE.1.1)) (by omega) (by omega) ⟨(by omega), (by omega)⟩ ?_
                              refine wa_aload_n (n := 0) rfl ?_
                              refine wb_gf5 237 rfl (wy_pr rfl) wt_237 wf_15_15 (v := 241) ((w_up_slot (by decide)).trans (((hL 237 15 (by omega) (by omega)).trans hA15))) (fun r203 => ?_)
                              refine wb_gf4 241 rfl (wy_pr rfl) wt_241 wf_12_14 (v := 254) wl_241_14 ?_
                              refine wa_iload_n (n := 2) rfl ?_
                              refine wa_iload_n (n := 3) rfl ?_
                              refine wb_zast 254 rfl (wy_pr rfl) wt_254 (n := 400) ((w_up_slot (by decide)).trans ((ml_254 hE.1.1))) (by omega) (by omega) ⟨(by omega), (by omega)⟩ ?_
                              refine wa_aload_n (n := 0) rfl ?_
                              refine wb_gf5 237 rfl (wy_pr rfl) wt_237 wf_15_15 (v := 241) ((w_up_slot (by decide)).trans ((w_up_slot (by decide)).trans (((hL 237 15 (by omega) (by omega)).trans hA15)))) (fun r204 => ?_)
                              refine wb_gf4 241 rfl (wy_pr rfl) wt_241 wf_12_19 (v := 259) wl_241_19 ?_
                              refine wa_iload_n (n := 2) rfl ?_
                              refine wa_aload_n (n := 0) rfl ?_
                              refine wb_gfi 237 rfl (wy_pr rfl) wt_237 wf_15_7 (v := p1) ((w_up_slot (by decide)).trans ((w_up_slot (by decide)).trans ((lx_E_7 hE)))) (fun r205 => ?_)
                              refine wb_iast 259 rfl (wy_pr rfl) wt_259 (n := 400) ((w_up_slot (by decide)).trans ((w_up_slot (by decide)).trans ((ml_259 hE.1.1)))) (by omega) (by omega) ⟨(by omega), (by omega)⟩ ?_
                              refine wa_aload_n (n := 0) rfl ?_
                              refine wb_gf5 237 rfl (wy_pr rfl) wt_237 wf_15_15 (v := 241) ((w_up_slot (by decide)).trans ((w_up_slot (by decide)).trans ((w_up_slot (by decide)).trans (((hL 237 15 (by omega) (by omega)).trans hA15))))) (fun r206 => ?_)
                              refine wb_gf4 241 rfl (wy_pr rfl) wt_241 wf_12_20 (v := 260) wl_241_20 ?_
                              refine wa_iload_n (n := 2) rfl ?_
                              refine wa_aload_n (n := 0) rfl ?_
                              refine wb_gfi 237 rfl (wy_pr rfl) wt_237 wf_15_7 (v := p1) ((w_up_slot (by decide)).trans ((w_up_slot (by decide)).trans ((w_up_slot (by decide)).trans ((lx_E_7 hE))))) (fun r207 => ?_)
                              refine wb_iast 260 rfl (wy_pr rfl) wt_260 (n := 400) ((w_up_slot (by decide)).trans ((w_up_slot (by decide)).trans ((w_up_slot (by decide)).trans ((ml_260 hE.1.1))))) (by omega) (by omega) ⟨(by omega), (by omega)⟩ ?_
                              refine wa_aload_n (n := 0) rfl ?_
                              refine wa_ks ?_
                              refine wa_cv 237 rfl (wy_pr rfl) wt_237 (M2 := fun _ => False) rfl at_M_isWord ⟨_, rfl⟩ rfl rfl ⟨(Or.inr ⟨wy_pr rfl, fun q => q⟩), trivial, trivial, trivial, trivial⟩ trivial (fun _ _ q => False.elim q) (isWord_ok (S := (w_up (w_up (w_up (w_up Z 252 m c) 254 m st) 259 m p1) 260 m p1)) (lx_E_up (lx_E_up (lx_E_up (lx_E_up hE (by decide) (by omega)) (by decide) (by omega)) (by decide) (by omega)) (by decide) (by omega)).1.1 (wx_25 hX) (by decide) (lx_I_hp (lx_E_up (lx_E_up (lx_E_up (lx_E_up hE (by decide) (by omega)) (by decide) (by omega)) (by decide) (by omega)) (by decide) (by omega)).1)) (fun oq209 Sq209 hp210 q209 => ?_)
                              rcases q209 with ⟨rfl, ⟨rfl, gw208⟩ | ⟨rfl, gw208⟩⟩
                              · skip
                                rw [lx_E_w (lx_E_up (lx_E_up (lx_E_up (lx_E_up hE (by decide) (by omega)) (by decide) (by omega)) (by decide) (by omega)) (by decide) (by omega))] at gw208
                                exact absurd (gw208.symm.trans hnw) (by decide)
                              · skip
                                show wJ _ _ _ _ _ _ _ _ _ _
                                rw [lx_E_w (lx_E_up (lx_E_up (lx_E_up (lx_E_up hE (by decide) (by omega)) (by decide) (by omega)) (by decide) (by omega)) (by decide) (by omega))] at gw208
                                refine wa_ifeq (w_rg0 (by omega) (by omega)) ⟨_, rfl⟩ (fun c211 => ?_) (fun c211 => ?_)
                                · skip
                                  refine wa_aload_n (n := 0) rfl ?_
                                  refine wb_gf5 237 rfl (wy_pr rfl) wt_237 wf_15_15 (v := 241) ((w_up_slot (by decide)).trans ((w_up_slot (by decide)).trans ((w_up_slot (by decide)).trans ((w_up_slot (by decide)).trans (((hL 237 15 (by omega) (by omega)).trans hA15)))))) (fun r212 => ?_)
                                  refine wb_gf4 241 rfl (wy_pr rfl) wt_241 wf_12_15 (v := 255) wl_241_15 ?_
                                  refine wa_iload_n (n := 2) rfl ?_
                                  refine wa_aload_n (n := 0) rfl ?_
                                  refine wa_iconst ?_
                                  refine wa_cv 237 rfl (wy_pr rfl) wt_237 (M2 := fun _ => False) rfl at_M_readsType ⟨_, rfl⟩ rfl rfl ⟨(Or.inr ⟨wy_pr rfl, fun q => q⟩), trivial, trivial, trivial, trivial⟩ ⟨trivial, (Or.inr ⟨wy_pr rfl, fun q => q⟩), trivial⟩ (fun _ _ q => False.elim q) (readsType_241 (S := (w_up (w_up (w_up (w_up Z 252 m c) 254 m st) 259 m p1) 260 m p1)) hX (lx_E_up (lx_E_up (lx_E_up (lx_E_up hE (by decide) (by omega)) (by decide) (by omega)) (by decide) (by omega)) (by decide) (by omega)).1 ((w_up_slot (by decide)).trans ((w_up_slot (by decide)).trans ((w_up_slot (by decide)).trans ((w_up_slot (by decide)).trans (((hL 237 15 (by omega) (by omega)).trans hA15)))))) (ho_nm_of hAn (((lx_ag_cg (lx_ag_cg (lx_ag_cg (lx_ag_cg hL)))) 241 1 (by omega) (by omega)).trans rfl) (funext fun i => ((lx_ag_cg (lx_ag_cg (lx_ag_cg (lx_ag_cg hL)))) 250 i (by omega) (by omega)).trans rfl) (funext fun i => ((lx_ag_cg (lx_ag_cg (lx_ag_cg (lx_ag_cg hL)))) 251 i (by omega) (by omega)).trans rfl)) (Or.inr rfl) rfl) (fun oq213 Sq213 hp214 q213 => ?_)
                                  rcases q213 with ⟨t, p2, ty, rfl, a1, a2⟩ | ⟨t, p2, ty, rfl, rfl⟩
                                  · skip
                                    rw [lx_E_type (b := 241) (lx_E_up (lx_E_up (lx_E_up (lx_E_up hE (by decide) (by omega)) (by decide) (by omega)) (by decide) (by omega)) (by decide) (by omega)) (by decide) (((lx_ag_cg (lx_ag_cg (lx_ag_cg (lx_ag_cg hL)))) 241 1 (by omega) (by omega)).trans rfl) (funext fun i => ((lx_ag_cg (lx_ag_cg (lx_ag_cg (lx_ag_cg hL)))) 250 i (by omega) (by omega)).trans rfl) (funext fun i => ((lx_ag_cg (lx_ag_cg (lx_ag_cg (lx_ag_cg hL)))) 251 i (by omega) (by omega)).trans rfl)] at ty
                                    show wJ _ _ _ _ _ _ _ _ _ _
                                    repeat (first | rw [if_pos (by omega)] at he | rw [if_neg (by omega)] at he)
                                    rw [ty] at he
                                    dsimp only at he
                                    obtain ⟨t0, t1, t2, t3⟩ := hy_type_rg (show zq A p1 241 1 ≤ 60 from hAn.1.2) ty
                                    have hE215 : lx_E Sq213 A p2 := lx_E_ag (lx_E_up (lx_E_up (lx_E_up (lx_E_up hE (by decide) (by omega)) (by decide) (by omega)) (by decide) (by omega)) (by decide) (by omega)) a1 a2
                                    have hL215 : lx_ag (w_up (w_up (w_up (w_up A 252 m c) 254 m st) 259 m p1) 260 m p1) Sq213 := lx_ag_tr (lx_ag_cg (lx_ag_cg (lx_ag_cg (lx_ag_cg hL)))) a1
                                    have bp2 := hE215.1.2.2.1
                                    have bn2 := hE215.1.2.1
                                    have b82 : 0 ≤ Sq213 237 8 ∧ Sq213 237 8 ≤ 65540 := (lx_I_hp hE215.1).2.2
                                    rw [lx_E_8 hE215] at b82
                                    have b83 : p2 ≤ zq A p2 237 8 := (lx_en_le (T := A 239) (h := A 237 5) (by rw [← hE215.2.2.1]; exact bp2.2)).1
                                    refine wb_iast 255 rfl (wy_pr rfl) wt_255 (n := 400) ((ml_255 hE215.1.1)) (by omega) (by omega) ⟨(by omega), (by omega)⟩ ?_
                                    refine wa_aload_n (n := 0) rfl ?_
                                    refine wa_aload_n (n := 0) rfl ?_
                                    refine wb_gfi 237 rfl (wy_pr rfl) wt_237 wf_15_6 (v := (zq A p2 237 6)) ((w_up_slot (by decide)).trans ((lx_E_6 hE215))) (fun r216 => ?_)
                                    refine wa_iconst ?_
                                    refine wa_icmpne (w_rg0 (by omega) (by omega)) (w_rg0 (by omega) (by omega)) ⟨_, rfl⟩ (fun c217 => ?_) (fun c217 => ?_)
                                    · skip
                                      refine wa_iconst ?_
                                      refine wa_fall ⟨_, rfl⟩ ?_
                                      refine wa_iconst ?_
                                      refine wa_cv 237 rfl (wy_pr rfl) wt_237 (M2 := fun _ => False) rfl at_M_must ⟨_, rfl⟩ rfl rfl ⟨(Or.inr ⟨wy_pr rfl, fun q => q⟩), trivial, trivial, trivial, trivial⟩ trivial (fun _ _ q => False.elim q) (must_ok (S := (w_up Sq213 255 m t)) (g := 0) (n := 1) (Or.inl rfl) ⟨by omega, by omega⟩) (fun oq219 Sq219 hp220 q219 => ?_)
                                      rcases q219 with ⟨m218, _, _⟩ | ⟨_, rfl, rfl⟩
                                      · skip
                                        exact absurd m218 (by decide)
                                      · skip
                                        refine ⟨rfl, ?_⟩
                                        repeat (first | rw [if_pos (by omega)] at he | rw [if_neg (by omega)] at he)
                                        first | (rw [ty] at he; dsimp only at he) | (rw [if_neg (by rw [gis]; decide)] at he) | skip
                                        first | (rw [if_pos (by omega), if_pos goo] at he) | skip
                                        exact Or.inr ⟨_, _, he.symm, rfl, hm_ag_hl (hm_ag_up (hm_ag_lx (hm_ag_up (hm_ag_up (hm_ag_up (hm_ag_up hm_ag_rf (by decide) (by omega) (by decide)) (by decide) (by omega) (by decide)) (by decide) (by omega) (by decide)) (by decide) (by omega) (by decide)) hL215) (by decide) (by omega) (by decide)), rfl, by first | rfl | exact (show (w_up Sq213 255 m t) 237 7 = p2 from ((w_up_slot (by decide)).trans ((lx_E_7 hE215))))⟩
                                    · skip
                                      refine wa_iconst ?_
                                      refine wa_goto ⟨_, rfl⟩ ?_
                                      refine wa_iconst ?_
                                      refine wa_cv 237 rfl (wy_pr rfl) wt_237 (M2 := fun _ => False) rfl at_M_must ⟨_, rfl⟩ rfl rfl ⟨(Or.inr ⟨wy_pr rfl, fun q => q⟩), trivial, trivial, trivial, trivial⟩ trivial (fun _ _ q => False.elim q) (must_ok (S := (w_up Sq213 255 m t)) (g := 1) (n := 1) (Or.inr rfl) ⟨by omega, by omega⟩) (fun oq222 Sq222 hp223 q222 => ?_)
                                      rcases q222 with ⟨_, rfl, rfl⟩ | ⟨m221, _, _⟩
                                      · skip
                                        show wJ _ _ _ _ _ _ _ _ _ _
                                        refine wa_aload_n (n := 0) rfl ?_
                                        refine wa_aload_n (n := 0) rfl ?_
                                        refine wa_ks ?_
                                        refine wa_cv 237 rfl (wy_pr rfl) wt_237 (M2 := fun _ => False) rfl at_M_isOneOf ⟨_, rfl⟩ rfl rfl ⟨(Or.inr ⟨wy_pr rfl, fun q => q⟩), trivial, trivial, trivial, trivial⟩ ⟨(Or.inr ⟨wy_pr rfl, fun q => q⟩), trivial⟩ (fun _ _ q => False.elim q) (isOneOf_ok (S := (w_up Sq213 255 m t)) (lx_E_up hE215 (by decide) (by omega)).1.1 (wx_21 hX) (by decide) (by decide) (lx_I_hp (lx_E_up hE215 (by decide) (by omega)).1) (by decide)) (fun oq225 Sq225 hp226 q225 => ?_)
                                        rcases q225 with ⟨rfl, ⟨rfl, go224⟩ | ⟨rfl, go224⟩⟩
                                        · skip
                                          show wJ _ _ _ _ _ _ _ _ _ _
                                          rw [lx_E_oo (lx_E_up hE215 (by decide) (by omega))] at go224
                                          have goo := go224
                                          refine wa_ifne (w_rg0 (by omega) (by omega)) ⟨_, rfl⟩ (fun c227 => ?_) (fun c227 => ?_)
                                          · skip
                                            refine wa_iconst ?_
                                            refine wa_fall ⟨_, rfl⟩ ?_
                                            refine wa_iconst ?_
                                            refine wa_cv 237 rfl (wy_pr rfl) wt_237 (M2 := fun _ => False) rfl at_M_must ⟨_, rfl⟩ rfl rfl ⟨(Or.inr ⟨wy_pr rfl, fun q => q⟩), trivial, trivial, trivial, trivial⟩ trivial (fun _ _ q => False.elim q) (must_ok (S := (w_up Sq213 255 m t)) (g := 0) (n := 2) (Or.inl rfl) ⟨by omega, by omega⟩) (fun oq229 Sq229 hp230 q229 => ?_)
                                            rcases q229 with ⟨m228, _, _⟩ | ⟨_, rfl, rfl⟩
                                            · skip
                                              exact absurd m228 (by decide)
                                            · skip
                                              refine ⟨rfl, ?_⟩
                                              repeat (first | rw [if_pos (by omega)] at he | rw [if_neg (by omega)] at he)
                                              first | (rw [ty] at he; dsimp only at he) | (rw [if_neg (by rw [gis]; decide)] at he) | skip
                                              first | (rw [if_pos (by omega), if_pos goo] at he) | skip
                                              exact Or.inr ⟨_, _, he.symm, rfl, hm_ag_hl (hm_ag_up (hm_ag_lx (hm_ag_up (hm_ag_up (hm_ag_up (hm_ag_up hm_ag_rf (by decide) (by omega) (by decide)) (by decide) (by omega) (by decide)) (by decide) (by omega) (by decide)) (by decide) (by omega) (by decide)) hL215) (by decide) (by omega) (by decide)), rfl, by first | rfl | exact (show (w_up Sq213 255 m t) 237 7 = p2 from ((w_up_slot (by decide)).trans ((lx_E_7 hE215))))⟩
                                          · skip
                                            exact absurd c227 (by omega)
                                        · skip
                                          show wJ _ _ _ _ _ _ _ _ _ _
                                          rw [lx_E_oo (lx_E_up hE215 (by decide) (by omega))] at go224
                                          have goo := go224
                                          refine wa_ifne (w_rg0 (by omega) (by omega)) ⟨_, rfl⟩ (fun c231 => ?_) (fun c231 => ?_)
                                          · skip
                                            exact absurd c231 (by omega)
                                          · skip
                                            refine wa_iconst ?_
                                            refine wa_goto ⟨_, rfl⟩ ?_
                                            refine wa_iconst ?_
                                            refine wa_cv 237 rfl (wy_pr rfl) wt_237 (M2 := fun _ => False) rfl at_M_must ⟨_, rfl⟩ rfl rfl ⟨(Or.inr ⟨wy_pr rfl, fun q => q⟩), trivial, trivial, trivial, trivial⟩ trivial (fun _ _ q => False.elim q) (must_ok (S := (w_up Sq213 255 m t)) (g := 1) (n := 2) (Or.inr rfl) ⟨by omega, by omega⟩) (fun oq233 Sq233 hp234 q233 => ?_)
                                            rcases q233 with ⟨_, rfl, rfl⟩ | ⟨m232, _, _⟩
                                            · skip
                                              show wJ _ _ _ _ _ _ _ _ _ _
                                              refine wa_aload_n (n := 0) rfl ?_
                                              refine wb_gfi 237 rfl (wy_pr rfl) wt_237 wf_15_7 (v := p2) ((w_up_slot (by decide)).trans ((lx_E_7 hE215))) (fun r235 => ?_)
                                              refine wa_istore (n := 4) rfl ?_
                                              refine wa_aload_n (n := 0) rfl ?_
                                              refine wb_gf5 237 rfl (wy_pr rfl) wt_237 wf_15_15 (v := 241) ((w_up_slot (by decide)).trans (((hL215 237 15 (by omega) (by omega)).trans hA15))) (fun r236 => ?_)
                                              refine wb_gf4 241 rfl (wy_pr rfl) wt_241 wf_12_19 (v := 259) wl_241_19 ?_
                                              refine wa_iload_n (n := 2) rfl ?_
                                              refine wa_aload_n (n := 0) rfl ?_
                                              refine wb_gfi 237 rfl (wy_pr rfl) wt_237 wf_15_7 (v := p2) ((w_up_slot (by decide)).trans ((lx_E_7 hE215))) (fun r237 => ?_)
                                              refine wb_iast 259 rfl (wy_pr rfl) wt_259 (n := 400) ((w_up_slot (by decide)).trans ((ml_259 hE215.1.1))) (by omega) (by omega) ⟨(by omega), (by omega)⟩ ?_
                                              refine wa_aload_n (n := 0) rfl ?_
                                              refine wb_gf5 237 rfl (wy_pr rfl) wt_237 wf_15_15 (v := 241) ((w_up_slot (by decide)).trans ((w_up_slot (by decide)).trans (((hL215 237 15 (by omega) (by omega)).trans hA15)))) (fun r238 => ?_)
                                              refine wb_gf4 241 rfl (wy_pr rfl) wt_241 wf_12_20 (v := 260) wl_241_20 ?_
                                              refine wa_iload_n (n := 2) rfl ?_
                                              refine wa_aload_n (n := 0) rfl ?_
                                              refine wb_gfi 237 rfl (wy_pr rfl) wt_237 wf_15_8 (v := (zq A p2 237 8)) ((w_up_slot (by decide)).trans ((w_up_slot (by decide)).trans ((lx_E_8 hE215)))) (fun r239 => ?_)
                                              refine wb_iast 260 rfl (wy_pr rfl) wt_260 (n := 400) ((w_up_slot (by decide)).trans ((w_up_slot (by decide)).trans ((ml_260 hE215.1.1)))) (by omega) (by omega) ⟨(by omega), (by omega)⟩ ?_
                                              refine wa_aload_n (n := 0) rfl ?_
                                              refine wa_cv 237 rfl (wy_pr rfl) wt_237 (M2 := fun _ => False) rfl at_M_next ⟨_, rfl⟩ rfl rfl ⟨trivial, (Or.inr ⟨wy_pr rfl, fun q => q⟩), trivial, trivial, trivial, trivial⟩ trivial (fun _ _ q => False.elim q) (nx_I (S := (w_up (w_up (w_up Sq213 255 m t) 259 m p2) 260 m (zq A p2 237 8))) (lx_E_up (lx_E_up (lx_E_up hE215 (by decide) (by omega)) (by decide) (by omega)) (by decide) (by omega)).1 (by have e6 : (w_up (w_up (w_up Sq213 255 m t) 259 m p2) 260 m (zq A p2 237 8)) 237 6 = (zq A p2 237 6) := ((w_up_slot (by decide)).trans ((w_up_slot (by decide)).trans ((w_up_slot (by decide)).trans ((lx_E_6 hE215))))); first | omega | (have := (lx_is4 gis).1; omega) | (have := lx_w1 hnw; omega))) (fun oq240 Sq240 hp241 q240 => ?_)
                                              rcases q240 with ⟨rfl, a1, a2⟩
                                              show wJ _ _ _ _ _ _ _ _ _ _
                                              rw [lx_E_ne (lx_E_up (lx_E_up (lx_E_up hE215 (by decide) (by omega)) (by decide) (by omega)) (by decide) (by omega))] at a2
                                              have hE242 : lx_E Sq240 A (lx_ne (zq A p2) p2) := lx_E_ag (lx_E_up (lx_E_up (lx_E_up hE215 (by decide) (by omega)) (by decide) (by omega)) (by decide) (by omega)) a1 a2
                                              have hL242 : lx_ag (w_up (w_up (w_up (w_up (w_up (w_up (w_up A 252 m c) 254 m st) 259 m p1) 260 m p1) 255 m t) 259 m p2) 260 m (zq A p2 237 8)) Sq240 := lx_ag_tr (lx_ag_cg (lx_ag_cg (lx_ag_cg hL215))) a1
                                              refine wa_aload_n (n := 0) rfl ?_
                                              refine wa_bipush (w_rg2 (by omega) (by omega)) ?_
                                              refine wa_cv 237 rfl (wy_pr rfl) wt_237 (M2 := fun _ => False) rfl at_M_isSign ⟨_, rfl⟩ rfl rfl ⟨trivial, (Or.inr ⟨wy_pr rfl, fun q => q⟩), trivial, trivial, trivial, trivial⟩ trivial (fun _ _ q => False.elim q) (isSign_ok (S := Sq240) ⟨by omega, by omega⟩) (fun oq244 Sq244 hp245 q244 => ?_)
                                              rcases q244 with ⟨rfl, ⟨rfl, gi243⟩ | ⟨rfl, gi243⟩⟩
                                              · skip
                                                show wJ _ _ _ _ _ _ _ _ _ _
                                                rw [lx_E_is hE242] at gi243
                                                have gis := gi243
                                                have gsv := gis
                                                refine wa_ifeq (w_rg0 (by omega) (by omega)) ⟨_, rfl⟩ (fun c246 => ?_) (fun c246 => ?_)
                                                · skip
                                                  exact absurd c246 (by omega)
                                                · skip
                                                  refine wa_aload_n (n := 0) rfl ?_
                                                  refine wb_gf5 237 rfl (wy_pr rfl) wt_237 wf_15_15 (v := 241) (((hL242 237 15 (by omega) (by omega)).trans hA15)) (fun r247 => ?_)
                                                  refine wb_gf4 241 rfl (wy_pr rfl) wt_241 wf_12_13 (v := 253) wl_241_13 ?_
                                                  refine wa_iload_n (n := 2) rfl ?_
                                                  refine wa_iconst ?_
                                                  refine wb_iast 253 rfl (wy_pr rfl) wt_253 (n := 400) ((ml_253 hE242.1.1)) (by omega) (by omega) ⟨(by omega), (by omega)⟩ ?_
                                                  refine wa_aload_n (n := 0) rfl ?_
                                                  refine wa_cv 237 rfl (wy_pr rfl) wt_237 (M2 := fun _ => False) rfl at_M_next ⟨_, rfl⟩ rfl rfl ⟨trivial, (Or.inr ⟨wy_pr rfl, fun q => q⟩), trivial, trivial, trivial, trivial⟩ trivial (fun _ _ q => False.elim q) (nx_I (S := (w_up Sq240 253 m 1)) (lx_E_up hE242 (by decide) (by omega)).1 (by have e6 : (w_up Sq240 253 m 1) 237 6 = (zq A (lx_ne (zq A p2) p2) 237 6) := ((w_up_slot (by decide)).trans ((lx_E_6 hE242))); first | omega | (have := (lx_is4 gis).1; omega) | (have := lx_w1 hnw; omega))) (fun oq248 Sq248 hp249 q248 => ?_)
                                                  rcases q248 with ⟨rfl, a1, a2⟩
                                                  show wJ _ _ _ _ _ _ _ _ _ _
                                                  rw [lx_E_ne (lx_E_up hE242 (by decide) (by omega))] at a2
                                                  have hE250 : lx_E Sq248 A (lx_ne (zq A (lx_ne (zq A p2) p2)) (lx_ne (zq A p2) p2)) := lx_E_ag (lx_E_up hE242 (by decide) (by omega)) a1 a2
                                                  have hL250 : lx_ag (w_up (w_up (w_up (w_up (w_up (w_up (w_up (w_up A 252 m c) 254 m st) 259 m p1) 260 m p1) 255 m t) 259 m p2) 260 m (zq A p2 237 8)) 253 m 1) Sq248 := lx_ag_tr (lx_ag_cg hL242) a1
                                                  refine wa_aload_n (n := 0) rfl ?_
                                                  refine wa_iload_n (n := 1) rfl ?_
                                                  refine wa_iload_n (n := 2) rfl ?_
                                                  refine wa_cv 237 rfl (wy_pr rfl) wt_237 (M2 := fun _ => False) rfl at_M_readsParameters ⟨_, rfl⟩ rfl rfl ⟨trivial, (Or.inr ⟨wy_pr rfl, fun q => q⟩), trivial, trivial, trivial, trivial⟩ trivial (fun _ _ q => False.elim q) (readsParameters_241 (A := Sq248) (R := pq_k (w_up (w_up (w_up (w_up (w_up (w_up (w_up (w_up A 252 m c) 254 m st) 259 m p1) 260 m p1) 255 m t) 259 m p2) 260 m (zq A p2 237 8)) 253 m 1) 241 c m (pq_r (w_up (w_up (w_up (w_up (w_up (w_up (w_up (w_up A 252 m c) 254 m st) 259 m p1) 260 m p1) 255 m t) 259 m p2) 260 m (zq A p2 237 8)) 253 m 1) 241 (lx_ne (zq A (lx_ne (zq A p2) p2)) (lx_ne (zq A p2) p2)))) hX (((hL250 237 15 (by omega) (by omega)).trans hA15)) ⟨by omega, by omega⟩ (ho_mm_ag hm.1 (by decide) hmm (hm_ag_lx (hm_ag_up (hm_ag_up (hm_ag_up (hm_ag_up (hm_ag_up (hm_ag_up (hm_ag_up (hm_ag_up hm_ag_rf (by decide) (by omega) (by decide)) (by decide) (by omega) (by decide)) (by decide) (by omega) (by decide)) (by decide) (by omega) (by decide)) (by decide) (by omega) (by decide)) (by decide) (by omega) (by decide)) (by decide) (by omega) (by decide)) (by decide) (by omega) (by decide)) hL250)) (by have y1 : Sq248 259 m = p2 := (((hL250 259 m (by omega) (by omega)).trans ((w_up_slot (by decide)).trans ((w_up_slot (by decide)).trans (w_up_same _ _ _ _))))); have y2 : Sq248 260 m = (zq A p2 237 8) := (((hL250 260 m (by omega) (by omega)).trans ((w_up_slot (by decide)).trans (w_up_same _ _ _ _)))); omega) (by rw [show Sq248 248 c = A 248 c from (((hL250 248 c (by omega) (by omega)).trans ((w_up_slot (by decide)).trans ((w_up_slot (by decide)).trans ((w_up_slot (by decide)).trans ((w_up_slot (by decide)).trans ((w_up_slot (by decide)).trans ((w_up_slot (by decide)).trans ((w_up_slot (by decide)).trans (w_up_slot (by decide)))))))))))]; exact hfi) hcc (ho_nm_of hAn ((hL250 241 1 (by omega) (by omega)).trans rfl) (funext fun i => (hL250 250 i (by omega) (by omega)).trans rfl) (funext fun i => (hL250 251 i (by omega) (by omega)).trans rfl)) ⟨hE250.1, rfl, rfl, rfl⟩ (pq_ag hL250 (by decide))) (fun oq251 Sq251 hp252 q251 => ?_)
                                                  rcases q251 with ⟨q, v, l, hR, rfl, c1, c2, c3, c4⟩ | ⟨e, q, hR, rfl, c1, c2, c3⟩
                                                  · skip
                                                    repeat (first | rw [if_pos (by omega)] at he | rw [if_neg (by omega)] at he)
                                                    first | rw [if_neg (by rw [goo]; decide), if_pos gsv] at he | rw [if_pos gsv] at he | rw [if_neg (by rw [goo]; decide)] at he | skip
                                                    unfold rm_par at he
                                                    rw [hR] at he
                                                    dsimp only at he
                                                    show wJ _ _ _ _ _ _ _ _ _ _
                                                    refine wa_goto ⟨_, rfl⟩ ?_
                                                    exact wJ_S (mem_23_241 hA15 hAm ⟨by omega, by omega⟩ hcc hmy (hm_ag_tr (hm_ag_lx (hm_ag_up (hm_ag_up (hm_ag_up (hm_ag_up (hm_ag_up (hm_ag_up (hm_ag_up (hm_ag_up hm_ag_rf (by decide) (by omega) (by decide)) (by decide) (by omega) (by decide)) (by decide) (by omega) (by decide)) (by decide) (by omega) (by decide)) (by decide) (by omega) (by decide)) (by decide) (by omega) (by decide)) (by decide) (by omega) (by decide)) (by decide) (by omega) (by decide)) hL250) (hp_hm c1)) ⟨c2.1, c2.2.1.trans hE250.2.1, c2.2.2.1.trans hE250.2.2.1, c2.2.2.2.trans hE250.2.2.2⟩ ⟨(c1 252 m (by omega) (by omega) (by omega) (by omega)).trans (((hL250 252 m (by omega) (by omega)).trans ((w_up_slot (by decide)).trans ((w_up_slot (by decide)).trans ((w_up_slot (by decide)).trans ((w_up_slot (by decide)).trans ((w_up_slot (by decide)).trans ((w_up_slot (by decide)).trans ((w_up_slot (by decide)).trans (w_up_same _ _ _ _)))))))))), (c1 253 m (by omega) (by omega) (by omega) (by omega)).trans (((hL250 253 m (by omega) (by omega)).trans (w_up_same _ _ _ _))), (c1 254 m (by omega) (by omega) (by omega) (by omega)).trans (((hL250 254 m (by omega) (by omega)).trans ((w_up_slot (by decide)).trans ((w_up_slot (by decide)).trans ((w_up_slot (by decide)).trans ((w_up_slot (by decide)).trans ((w_up_slot (by decide)).trans ((w_up_slot (by decide)).trans (w_up_same _ _ _ _))))))))), (c1 255 m (by omega) (by omega) (by omega) (by omega)).trans (((hL250 255 m (by omega) (by omega)).trans ((w_up_slot (by decide)).trans ((w_up_slot (by decide)).trans ((w_up_slot (by decide)).trans (w_up_same _ _ _ _)))))), (c1 259 m (by omega) (by omega) (by omega) (by omega)).trans (((hL250 259 m (by omega) (by omega)).trans ((w_up_slot (by decide)).trans ((w_up_slot (by decide)).trans (w_up_same _ _ _ _))))), (c1 260 m (by omega) (by omega) (by omega) (by omega)).trans (((hL250 260 m (by omega) (by omega)).trans ((w_up_slot (by decide)).trans (w_up_same _ _ _ _))))⟩ c3 c4 he) ⟨rfl, rfl, rfl, trivial⟩
                                                  · skip
                                                    repeat (first | rw [if_pos (by omega)] at he | rw [if_neg (by omega)] at he)
                                                    first | rw [if_neg (by rw [goo]; decide), if_pos gsv] at he | rw [if_pos gsv] at he | rw [if_neg (by rw [goo]; decide)] at he | skip
                                                    unfold rm_par at he
                                                    rw [hR] at he
                                                    dsimp only at he
                                                    refine ⟨rfl, ?_⟩
                                                    exact Or.inr ⟨_, _, he.symm, rfl, (hm_ag_tr (hm_ag_lx (hm_ag_up (hm_ag_up (hm_ag_up (hm_ag_up (hm_ag_up (hm_ag_up (hm_ag_up (hm_ag_up hm_ag_rf (by decide) (by omega) (by decide)) (by decide) (by omega) (by decide)) (by decide) (by omega) (by decide)) (by decide) (by omega) (by decide)) (by decide) (by omega) (by decide)) (by decide) (by omega) (by decide)) (by decide) (by omega) (by decide)) (by decide) (by omega) (by decide)) hL250) (hp_hm c1)), c2, c3⟩
                                              · skip
                                                show wJ _ _ _ _ _ _ _ _ _ _
                                                rw [lx_E_is hE242] at gi243
                                                have gis := gi243
                                                have gsv := gis
                                                refine wa_ifeq (w_rg0 (by omega) (by omega)) ⟨_, rfl⟩ (fun c254 => ?_) (fun c254 => ?_)
                                                · skip
                                                  refine wa_aload_n (n := 0) rfl ?_
                                                  refine wa_iload_n (n := 1) rfl ?_
                                                  refine wa_iload_n (n := 2) rfl ?_
                                                  refine wa_iload (n := 4) rfl ?_
                                                  refine wa_cv 237 rfl (wy_pr rfl) wt_237 (M2 := fun _ => False) rfl at_M_readsField ⟨_, rfl⟩ rfl rfl ⟨trivial, (Or.inr ⟨wy_pr rfl, fun q => q⟩), trivial, trivial, trivial, trivial⟩ trivial (fun _ _ q => False.elim q) (readsField_241 (A := Sq240) (R := rf_of (w_up (w_up (w_up (w_up (w_up (w_up (w_up A 252 m c) 254 m st) 259 m p1) 260 m p1) 255 m t) 259 m p2) 260 m (zq A p2 237 8)) 241 c m (lx_ne (zq A p2) p2) p2) (((hL242 237 15 (by omega) (by omega)).trans hA15)) ⟨by omega, by omega⟩ (ho_mm_ag hm.1 (by decide) hmm (hm_ag_lx (hm_ag_up (hm_ag_up (hm_ag_up (hm_ag_up (hm_ag_up (hm_ag_up (hm_ag_up hm_ag_rf (by decide) (by omega) (by decide)) (by decide) (by omega) (by decide)) (by decide) (by omega) (by decide)) (by decide) (by omega) (by decide)) (by decide) (by omega) (by decide)) (by decide) (by omega) (by decide)) (by decide) (by omega) (by decide)) hL242)) (by have y1 : Sq240 259 m = p2 := (((hL242 259 m (by omega) (by omega)).trans ((w_up_slot (by decide)).trans (w_up_same _ _ _ _)))); have y2 : Sq240 260 m = (zq A p2 237 8) := (((hL242 260 m (by omega) (by omega)).trans (w_up_same _ _ _ _))); omega) (by rw [show Sq240 248 c = A 248 c from (((hL242 248 c (by omega) (by omega)).trans ((w_up_slot (by decide)).trans ((w_up_slot (by decide)).trans ((w_up_slot (by decide)).trans ((w_up_slot (by decide)).trans ((w_up_slot (by decide)).trans ((w_up_slot (by decide)).trans (w_up_slot (by decide))))))))))]; exact hfi) hcc ⟨hE242.1, rfl, rfl, rfl⟩ ⟨by omega, by omega⟩ (rf_ag hL242 (by decide))) (fun oq255 Sq255 hp256 q255 => ?_)
                                                  rcases q255 with ⟨hR, rfl, rfl⟩ | ⟨e, q, hR, rfl, c1, c2, c3⟩
                                                  · skip
                                                    repeat (first | rw [if_pos (by omega)] at he | rw [if_neg (by omega)] at he)
                                                    rw [if_neg (by rw [goo]; decide), if_neg (by rw [gis]; decide), hR] at he
                                                    dsimp only at he
                                                    show wJ _ _ _ _ _ _ _ _ _ _
                                                    refine wa_fall ⟨_, rfl⟩ ?_
                                                    exact wJ_S (mem_23_241 (l := []) (v := 0) hA15 hAm ⟨by omega, by omega⟩ hcc hmy (hm_ag_up (hm_ag_up (hm_ag_up (hm_ag_lx (hm_ag_up (hm_ag_up (hm_ag_up (hm_ag_up (hm_ag_up (hm_ag_up (hm_ag_up hm_ag_rf (by decide) (by omega) (by decide)) (by decide) (by omega) (by decide)) (by decide) (by omega) (by decide)) (by decide) (by omega) (by decide)) (by decide) (by omega) (by decide)) (by decide) (by omega) (by decide)) (by decide) (by omega) (by decide)) hL242) (by decide) (by omega) (by decide)) (by decide) (by omega) (by decide)) (by decide) (by omega) (by decide)) (lx_E_up (lx_E_up (lx_E_up hE242 (by decide) (by omega)) (by decide) (by omega)) (by decide) (by omega)) ⟨((w_up_slot (by decide)).trans ((w_up_slot (by decide)).trans ((w_up_slot (by decide)).trans (((hL242 252 m (by omega) (by omega)).trans ((w_up_slot (by decide)).trans ((w_up_slot (by decide)).trans ((w_up_slot (by decide)).trans ((w_up_slot (by decide)).trans ((w_up_slot (by decide)).trans ((w_up_slot (by decide)).trans (w_up_same _ _ _ _)))))))))))), ((w_up_slot (by decide)).trans ((w_up_slot (by decide)).trans (w_up_same _ _ _ _))), ((w_up_slot (by decide)).trans ((w_up_slot (by decide)).trans ((w_up_slot (by decide)).trans (((hL242 254 m (by omega) (by omega)).trans ((w_up_slot (by decide)).trans ((w_up_slot (by decide)).trans ((w_up_slot (by decide)).trans ((w_up_slot (by decide)).trans ((w_up_slot (by decide)).trans (w_up_same _ _ _ _))))))))))), ((w_up_slot (by decide)).trans ((w_up_slot (by decide)).trans ((w_up_slot (by decide)).trans (((hL242 255 m (by omega) (by omega)).trans ((w_up_slot (by decide)).trans ((w_up_slot (by decide)).trans (w_up_same _ _ _ _)))))))), ((w_up_slot (by decide)).trans ((w_up_slot (by decide)).trans ((w_up_slot (by decide)).trans (((hL242 259 m (by omega) (by omega)).trans ((w_up_slot (by decide)).trans (w_up_same _ _ _ _))))))), ((w_up_slot (by decide)).trans ((w_up_slot (by decide)).trans ((w_up_slot (by decide)).trans (((hL242 260 m (by omega) (by omega)).trans (w_up_same _ _ _ _))))))⟩ ⟨(w_up_slot (by decide)).trans (w_up_same _ _ _ _), w_up_same _ _ _ _, fun i hi => absurd hi (Nat.not_lt_zero i)⟩ (Nat.zero_le _) he) ⟨rfl, rfl, rfl, trivial⟩
                                                  · skip
                                                    repeat (first | rw [if_pos (by omega)] at he | rw [if_neg (by omega)] at he)
                                                    rw [if_neg (by rw [goo]; decide), if_neg (by rw [gis]; decide), hR] at he
                                                    dsimp only at he
                                                    refine ⟨rfl, ?_⟩
                                                    exact Or.inr ⟨_, _, he.symm, rfl, (hm_ag_tr (hm_ag_lx (hm_ag_up (hm_ag_up (hm_ag_up (hm_ag_up (hm_ag_up (hm_ag_up (hm_ag_up hm_ag_rf (by decide) (by omega) (by decide)) (by decide) (by omega) (by decide)) (by decide) (by omega) (by decide)) (by decide) (by omega) (by decide)) (by decide) (by omega) (by decide)) (by decide) (by omega) (by decide)) (by decide) (by omega) (by decide)) hL242) c1), c2, c3⟩
                                                · skip
                                                  exact absurd c254 (by omega)
                                            · skip
                                              exact absurd m232 (by decide)
                                      · skip
                                        exact absurd m221 (by decide)
                                  · skip
                                    rw [lx_E_type (b := 241) (lx_E_up (lx_E_up (lx_E_up (lx_E_up hE (by decide) (by omega)) (by decide) (by omega)) (by decide) (by omega)) (by decide) (by omega)) (by decide) (((lx_ag_cg (lx_ag_cg (lx_ag_cg (lx_ag_cg hL)))) 241 1 (by omega) (by omega)).trans rfl) (funext fun i => ((lx_ag_cg (lx_ag_cg (lx_ag_cg (lx_ag_cg hL)))) 250 i (by omega) (by omega)).trans rfl) (funext fun i => ((lx_ag_cg (lx_ag_cg (lx_ag_cg (lx_ag_cg hL)))) 251 i (by omega) (by omega)).trans rfl)] at ty
                                    refine ⟨rfl, ?_⟩
                                    repeat (first | rw [if_pos (by omega)] at he | rw [if_neg (by omega)] at he)
                                    first | (rw [ty] at he; dsimp only at he) | (rw [if_neg (by rw [gis]; decide)] at he) | skip
                                    first | (rw [if_pos (by omega), if_pos goo] at he) | skip
                                    exact Or.inr ⟨_, _, he.symm, rfl, hm_ag_hl (hm_ag_up (hm_ag_up (hm_ag_up (hm_ag_up (hm_ag_lx hm_ag_rf hL) (by decide) (by omega) (by decide)) (by decide) (by omega) (by decide)) (by decide) (by omega) (by decide)) (by decide) (by omega) (by decide)), rfl, by first | rfl | exact (show (w_up (w_up (w_up (w_up Z 252 m c) 254 m st) 259 m p1) 260 m p1) 237 7 = p1 from ((w_up_slot (by decide)).trans ((w_up_slot (by decide)).trans ((w_up_slot (by decide)).trans ((w_up_slot (by decide)).trans ((lx_E_7 hE)))))))⟩
                                · skip
                                  exact absurd c211 (by omega)
                            · skip
                              exact absurd m199 (by decide)
                          · skip
                            exact absurd c198 (by omega)
                      · skip
                        exact absurd m192 (by decide)
                  · skip
                    exact absurd m185 (by decide)
                · skip
                  refine wa_aload_n (n := 0) rfl ?_
                  refine wa_cv 237 rfl (wy_pr rfl) wt_237 (M2 := fun _ => False) rfl at_M_classHere ⟨_, rfl⟩ rfl rfl ⟨(Or.inr ⟨wy_pr rfl, fun q => q⟩), trivial, trivial, trivial, trivial⟩ ⟨(Or.inr ⟨wy_pr rfl, fun q => q⟩), trivial⟩ (fun _ _ q => False.elim q) (classHere_241 (S := Z) hE.1.1 (((hL 237 15 (by omega) (by omega)).trans hA15)) (ho_nm_of hAn ((hL 241 1 (by omega) (by omega)).trans rfl) (funext fun i => (hL 250 i (by omega) (by omega)).trans rfl) (funext fun i => (hL 251 i (by omega) (by omega)).trans rfl)) (lx_I_hp hE.1)) (fun oq259 Sq259 hp260 q259 => ?_)
                  rcases q259 with ⟨rfl, rfl⟩
                  show wJ _ _ _ _ _ _ _ _ _ _
                  rw [lx_E_ch (b := 241) hE (by decide) ((hL 241 1 (by omega) (by omega)).trans rfl) (funext fun i => (hL 250 i (by omega) (by omega)).trans rfl) (funext fun i => (hL 251 i (by omega) (by omega)).trans rfl)]
                  have hch := ch_of_rg (zq A p1) 241 (show A 241 1 ≤ 60 from hAn.1.2)
                  refine wa_iflt (w_rg0 (by omega) (by omega)) ⟨_, rfl⟩ (fun c261 => ?_) (fun c261 => ?_)
                  · skip
                    refine wa_iconst ?_
                    refine wa_fall ⟨_, rfl⟩ ?_
                    refine wa_iconst ?_
                    refine wa_cv 237 rfl (wy_pr rfl) wt_237 (M2 := fun _ => False) rfl at_M_must ⟨_, rfl⟩ rfl rfl ⟨(Or.inr ⟨wy_pr rfl, fun q => q⟩), trivial, trivial, trivial, trivial⟩ trivial (fun _ _ q => False.elim q) (must_ok (S := Z) (g := 0) (n := 3) (Or.inl rfl) ⟨by omega, by omega⟩) (fun oq263 Sq263 hp264 q263 => ?_)
                    rcases q263 with ⟨m262, _, _⟩ | ⟨_, rfl, rfl⟩
                    · skip
                      exact absurd m262 (by decide)
                    · skip
                      refine ⟨rfl, ?_⟩
                      repeat (first | rw [if_pos (by omega)] at he | rw [if_neg (by omega)] at he)
                      first | (rw [ty] at he; dsimp only at he) | (rw [if_neg (by rw [gis]; decide)] at he) | skip
                      first | (rw [if_pos (by omega), if_pos goo] at he) | skip
                      exact Or.inr ⟨_, _, he.symm, rfl, hm_ag_hl (hm_ag_lx hm_ag_rf hL), rfl, by first | rfl | exact (show Z 237 7 = p1 from ((lx_E_7 hE)))⟩
                  · skip
                    refine wa_fall ⟨_, rfl⟩ ?_
                    refine wa_iconst ?_
                    refine wa_goto ⟨_, rfl⟩ ?_
                    refine wa_iconst ?_
                    refine wa_cv 237 rfl (wy_pr rfl) wt_237 (M2 := fun _ => False) rfl at_M_must ⟨_, rfl⟩ rfl rfl ⟨(Or.inr ⟨wy_pr rfl, fun q => q⟩), trivial, trivial, trivial, trivial⟩ trivial (fun _ _ q => False.elim q) (must_ok (S := Z) (g := 1) (n := 3) (Or.inr rfl) ⟨by omega, by omega⟩) (fun oq266 Sq266 hp267 q266 => ?_)
                    rcases q266 with ⟨_, rfl, rfl⟩ | ⟨m265, _, _⟩
                    · skip
                      show wJ _ _ _ _ _ _ _ _ _ _
                      refine wa_fall ⟨_, rfl⟩ ?_
                      refine wa_aload_n (n := 0) rfl ?_
                      refine wa_iload_n (n := 2) rfl ?_
                      refine wa_sipush (by omega) ?_
                      refine wa_icmpge (w_rg0 (by omega) (by omega)) (w_rg0 (by omega) (by omega)) ⟨_, rfl⟩ (fun c268 => ?_) (fun c268 => ?_)
                      · skip
                        refine wa_iconst ?_
                        refine wa_fall ⟨_, rfl⟩ ?_
                        refine wa_iconst ?_
                        refine wa_cv 237 rfl (wy_pr rfl) wt_237 (M2 := fun _ => False) rfl at_M_must ⟨_, rfl⟩ rfl rfl ⟨(Or.inr ⟨wy_pr rfl, fun q => q⟩), trivial, trivial, trivial, trivial⟩ trivial (fun _ _ q => False.elim q) (must_ok (S := Z) (g := 0) (n := 5) (Or.inl rfl) ⟨by omega, by omega⟩) (fun oq270 Sq270 hp271 q270 => ?_)
                        rcases q270 with ⟨m269, _, _⟩ | ⟨_, rfl, rfl⟩
                        · skip
                          exact absurd m269 (by decide)
                        · skip
                          refine ⟨rfl, ?_⟩
                          repeat (first | rw [if_pos (by omega)] at he | rw [if_neg (by omega)] at he)
                          first | (rw [ty] at he; dsimp only at he) | (rw [if_neg (by rw [gis]; decide)] at he) | skip
                          first | (rw [if_pos (by omega), if_pos goo] at he) | skip
                          exact Or.inr ⟨_, _, he.symm, rfl, hm_ag_hl (hm_ag_lx hm_ag_rf hL), rfl, by first | rfl | exact (show Z 237 7 = p1 from ((lx_E_7 hE)))⟩
                      · skip
                        refine wa_iconst ?_
                        refine wa_goto ⟨_, rfl⟩ ?_
                        refine wa_iconst ?_
                        refine wa_cv 237 rfl (wy_pr rfl) wt_237 (M2 := fun _ => False) rfl at_M_must ⟨_, rfl⟩ rfl rfl ⟨(Or.inr ⟨wy_pr rfl, fun q => q⟩), trivial, trivial, trivial, trivial⟩ trivial (fun _ _ q => False.elim q) (must_ok (S := Z) (g := 1) (n := 5) (Or.inr rfl) ⟨by omega, by omega⟩) (fun oq273 Sq273 hp274 q273 => ?_)
                        rcases q273 with ⟨_, rfl, rfl⟩ | ⟨m272, _, _⟩
                        · skip
                          show wJ _ _ _ _ _ _ _ _ _ _
                          refine wa_aload_n (n := 0) rfl ?_
                          refine wa_aload_n (n := 0) rfl ?_
                          refine wa_ks ?_
                          refine wa_cv 237 rfl (wy_pr rfl) wt_237 (M2 := fun _ => False) rfl at_M_isWord ⟨_, rfl⟩ rfl rfl ⟨(Or.inr ⟨wy_pr rfl, fun q => q⟩), trivial, trivial, trivial, trivial⟩ ⟨(Or.inr ⟨wy_pr rfl, fun q => q⟩), trivial⟩ (fun _ _ q => False.elim q) (isWord_ok (S := Z) hE.1.1 (wx_25 hX) (by decide) (lx_I_hp hE.1)) (fun oq276 Sq276 hp277 q276 => ?_)
                          rcases q276 with ⟨rfl, ⟨rfl, gw275⟩ | ⟨rfl, gw275⟩⟩
                          · skip
                            rw [lx_E_w hE] at gw275
                            exact absurd (gw275.symm.trans hnw) (by decide)
                          · skip
                            show wJ _ _ _ _ _ _ _ _ _ _
                            rw [lx_E_w hE] at gw275
                            refine wa_ifeq (w_rg0 (by omega) (by omega)) ⟨_, rfl⟩ (fun c278 => ?_) (fun c278 => ?_)
                            · skip
                              refine wa_iconst ?_
                              refine wa_goto ⟨_, rfl⟩ ?_
                              refine wa_bipush (w_rg2 (by omega) (by omega)) ?_
                              refine wa_cv 237 rfl (wy_pr rfl) wt_237 (M2 := fun _ => False) rfl at_M_must ⟨_, rfl⟩ rfl rfl ⟨(Or.inr ⟨wy_pr rfl, fun q => q⟩), trivial, trivial, trivial, trivial⟩ trivial (fun _ _ q => False.elim q) (must_ok (S := Z) (g := 1) (n := 6) (Or.inr rfl) ⟨by omega, by omega⟩) (fun oq280 Sq280 hp281 q280 => ?_)
                              rcases q280 with ⟨_, rfl, rfl⟩ | ⟨m279, _, _⟩
                              · skip
                                show wJ _ _ _ _ _ _ _ _ _ _
                                refine wa_aload_n (n := 0) rfl ?_
                                refine wb_gf5 237 rfl (wy_pr rfl) wt_237 wf_15_15 (v := 241) (((hL 237 15 (by omega) (by omega)).trans hA15)) (fun r282 => ?_)
                                refine wb_gf4 241 rfl (wy_pr rfl) wt_241 wf_12_12 (v := 252) wl_241_12 ?_
                                refine wa_iload_n (n := 2) rfl ?_
                                refine wa_iload_n (n := 1) rfl ?_
                                refine wb_iast 252 rfl (wy_pr rfl) wt_252 (n := 400) ((ml_252 hE.1.1)) (by omega) (by omega) ⟨(by omega), (by omega)⟩ ?_
                                refine wa_aload_n (n := 0) rfl ?_
                                refine wb_gf5 237 rfl (wy_pr rfl) wt_237 wf_15_15 (v := 241) ((w_up_slot (by decide)).trans (((hL 237 15 (by omega) (by omega)).trans hA15))) (fun r283 => ?_)
                                refine wb_gf4 241 rfl (wy_pr rfl) wt_241 wf_12_14 (v := 254) wl_241_14 ?_
                                refine wa_iload_n (n := 2) rfl ?_
                                refine wa_iload_n (n := 3) rfl ?_
                                refine wb_zast 254 rfl (wy_pr rfl) wt_254 (n := 400) ((w_up_slot (by decide)).trans ((ml_254 hE.1.1))) (by omega) (by omega) ⟨(by omega), (by omega)⟩ ?_
                                refine wa_aload_n (n := 0) rfl ?_
                                refine wb_gf5 237 rfl (wy_pr rfl) wt_237 wf_15_15 (v := 241) ((w_up_slot (by decide)).trans ((w_up_slot (by decide)).trans (((hL 237 15 (by omega) (by omega)).trans hA15)))) (fun r284 => ?_)
                                refine wb_gf4 241 rfl (wy_pr rfl) wt_241 wf_12_19 (v := 259) wl_241_19 ?_
                                refine wa_iload_n (n := 2) rfl ?_
                                refine wa_aload_n (n := 0) rfl ?_
                                refine wb_gfi 237 rfl (wy_pr rfl) wt_237 wf_15_7 (v := p1) ((w_up_slot (by decide)).trans ((w_up_slot (by decide)).trans ((lx_E_7 hE)))) (fun r285 => ?_)
                                refine wb_iast 259 rfl (wy_pr rfl) wt_259 (n := 400) ((w_up_slot (by decide)).trans ((w_up_slot (by decide)).trans ((ml_259 hE.1.1)))) (by omega) (by omega) ⟨(by omega), (by omega)⟩ ?_
                                refine wa_aload_n (n := 0) rfl ?_
                                refine wb_gf5 237 rfl (wy_pr rfl) wt_237 wf_15_15 (v := 241) ((w_up_slot (by decide)).trans ((w_up_slot (by decide)).trans ((w_up_slot (by decide)).trans (((hL 237 15 (by omega) (by omega)).trans hA15))))) (fun r286 => ?_)
                                refine wb_gf4 241 rfl (wy_pr rfl) wt_241 wf_12_20 (v := 260) wl_241_20 ?_
                                refine wa_iload_n (n := 2) rfl ?_
                                refine wa_aload_n (n := 0) rfl ?_
                                refine wb_gfi 237 rfl (wy_pr rfl) wt_237 wf_15_7 (v := p1) ((w_up_slot (by decide)).trans ((w_up_slot (by decide)).trans ((w_up_slot (by decide)).trans ((lx_E_7 hE))))) (fun r287 => ?_)
                                refine wb_iast 260 rfl (wy_pr rfl) wt_260 (n := 400) ((w_up_slot (by decide)).trans ((w_up_slot (by decide)).trans ((w_up_slot (by decide)).trans ((ml_260 hE.1.1))))) (by omega) (by omega) ⟨(by omega), (by omega)⟩ ?_
                                refine wa_aload_n (n := 0) rfl ?_
                                refine wa_ks ?_
                                refine wa_cv 237 rfl (wy_pr rfl) wt_237 (M2 := fun _ => False) rfl at_M_isWord ⟨_, rfl⟩ rfl rfl ⟨(Or.inr ⟨wy_pr rfl, fun q => q⟩), trivial, trivial, trivial, trivial⟩ trivial (fun _ _ q => False.elim q) (isWord_ok (S := (w_up (w_up (w_up (w_up Z 252 m c) 254 m st) 259 m p1) 260 m p1)) (lx_E_up (lx_E_up (lx_E_up (lx_E_up hE (by decide) (by omega)) (by decide) (by omega)) (by decide) (by omega)) (by decide) (by omega)).1.1 (wx_25 hX) (by decide) (lx_I_hp (lx_E_up (lx_E_up (lx_E_up (lx_E_up hE (by decide) (by omega)) (by decide) (by omega)) (by decide) (by omega)) (by decide) (by omega)).1)) (fun oq289 Sq289 hp290 q289 => ?_)
                                rcases q289 with ⟨rfl, ⟨rfl, gw288⟩ | ⟨rfl, gw288⟩⟩
                                · skip
                                  rw [lx_E_w (lx_E_up (lx_E_up (lx_E_up (lx_E_up hE (by decide) (by omega)) (by decide) (by omega)) (by decide) (by omega)) (by decide) (by omega))] at gw288
                                  exact absurd (gw288.symm.trans hnw) (by decide)
                                · skip
                                  show wJ _ _ _ _ _ _ _ _ _ _
                                  rw [lx_E_w (lx_E_up (lx_E_up (lx_E_up (lx_E_up hE (by decide) (by omega)) (by decide) (by omega)) (by decide) (by omega)) (by decide) (by omega))] at gw288
                                  refine wa_ifeq (w_rg0 (by omega) (by omega)) ⟨_, rfl⟩ (fun c291 => ?_) (fun c291 => ?_)
                                  · skip
                                    refine wa_aload_n (n := 0) rfl ?_
                                    refine wb_gf5 237 rfl (wy_pr rfl) wt_237 wf_15_15 (v := 241) ((w_up_slot (by decide)).trans ((w_up_slot (by decide)).trans ((w_up_slot (by decide)).trans ((w_up_slot (by decide)).trans (((hL 237 15 (by omega) (by omega)).trans hA15)))))) (fun r292 => ?_)
                                    refine wb_gf4 241 rfl (wy_pr rfl) wt_241 wf_12_15 (v := 255) wl_241_15 ?_
                                    refine wa_iload_n (n := 2) rfl ?_
                                    refine wa_aload_n (n := 0) rfl ?_
                                    refine wa_iconst ?_
                                    refine wa_cv 237 rfl (wy_pr rfl) wt_237 (M2 := fun _ => False) rfl at_M_readsType ⟨_, rfl⟩ rfl rfl ⟨(Or.inr ⟨wy_pr rfl, fun q => q⟩), trivial, trivial, trivial, trivial⟩ ⟨trivial, (Or.inr ⟨wy_pr rfl, fun q => q⟩), trivial⟩ (fun _ _ q => False.elim q) (readsType_241 (S := (w_up (w_up (w_up (w_up Z 252 m c) 254 m st) 259 m p1) 260 m p1)) hX (lx_E_up (lx_E_up (lx_E_up (lx_E_up hE (by decide) (by omega)) (by decide) (by omega)) (by decide) (by omega)) (by decide) (by omega)).1 ((w_up_slot (by decide)).trans ((w_up_slot (by decide)).trans ((w_up_slot (by decide)).trans ((w_up_slot (by decide)).trans (((hL 237 15 (by omega) (by omega)).trans hA15)))))) (ho_nm_of hAn (((lx_ag_cg (lx_ag_cg (lx_ag_cg (lx_ag_cg hL)))) 241 1 (by omega) (by omega)).trans rfl) (funext fun i => ((lx_ag_cg (lx_ag_cg (lx_ag_cg (lx_ag_cg hL)))) 250 i (by omega) (by omega)).trans rfl) (funext fun i => ((lx_ag_cg (lx_ag_cg (lx_ag_cg (lx_ag_cg hL)))) 251 i (by omega) (by omega)).trans rfl)) (Or.inr rfl) rfl) (fun oq293 Sq293 hp294 q293 => ?_)
                                    rcases q293 with ⟨t, p2, ty, rfl, a1, a2⟩ | ⟨t, p2, ty, rfl, rfl⟩
                                    · skip
                                      rw [lx_E_type (b := 241) (lx_E_up (lx_E_up (lx_E_up (lx_E_up hE (by decide) (by omega)) (by decide) (by omega)) (by decide) (by omega)) (by decide) (by omega)) (by decide) (((lx_ag_cg (lx_ag_cg (lx_ag_cg (lx_ag_cg hL)))) 241 1 (by omega) (by omega)).trans rfl) (funext fun i => ((lx_ag_cg (lx_ag_cg (lx_ag_cg (lx_ag_cg hL)))) 250 i (by omega) (by omega)).trans rfl) (funext fun i => ((lx_ag_cg (lx_ag_cg (lx_ag_cg (lx_ag_cg hL)))) 251 i (by omega) (by omega)).trans rfl)] at ty
                                      show wJ _ _ _ _ _ _ _ _ _ _
                                      repeat (first | rw [if_pos (by omega)] at he | rw [if_neg (by omega)] at he)
                                      rw [ty] at he
                                      dsimp only at he
                                      obtain ⟨t0, t1, t2, t3⟩ := hy_type_rg (show zq A p1 241 1 ≤ 60 from hAn.1.2) ty
                                      have hE295 : lx_E Sq293 A p2 := lx_E_ag (lx_E_up (lx_E_up (lx_E_up (lx_E_up hE (by decide) (by omega)) (by decide) (by omega)) (by decide) (by omega)) (by decide) (by omega)) a1 a2
                                      have hL295 : lx_ag (w_up (w_up (w_up (w_up A 252 m c) 254 m st) 259 m p1) 260 m p1) Sq293 := lx_ag_tr (lx_ag_cg (lx_ag_cg (lx_ag_cg (lx_ag_cg hL)))) a1
                                      have bp2 := hE295.1.2.2.1
                                      have bn2 := hE295.1.2.1
                                      have b82 : 0 ≤ Sq293 237 8 ∧ Sq293 237 8 ≤ 65540 := (lx_I_hp hE295.1).2.2
                                      rw [lx_E_8 hE295] at b82
                                      have b83 : p2 ≤ zq A p2 237 8 := (lx_en_le (T := A 239) (h := A 237 5) (by rw [← hE295.2.2.1]; exact bp2.2)).1
                                      refine wb_iast 255 rfl (wy_pr rfl) wt_255 (n := 400) ((ml_255 hE295.1.1)) (by omega) (by omega) ⟨(by omega), (by omega)⟩ ?_
                                      refine wa_aload_n (n := 0) rfl ?_
                                      refine wa_aload_n (n := 0) rfl ?_
                                      refine wb_gfi 237 rfl (wy_pr rfl) wt_237 wf_15_6 (v := (zq A p2 237 6)) ((w_up_slot (by decide)).trans ((lx_E_6 hE295))) (fun r296 => ?_)
                                      refine wa_iconst ?_
                                      refine wa_icmpne (w_rg0 (by omega) (by omega)) (w_rg0 (by omega) (by omega)) ⟨_, rfl⟩ (fun c297 => ?_) (fun c297 => ?_)
                                      · skip
                                        refine wa_iconst ?_
                                        refine wa_fall ⟨_, rfl⟩ ?_
                                        refine wa_iconst ?_
                                        refine wa_cv 237 rfl (wy_pr rfl) wt_237 (M2 := fun _ => False) rfl at_M_must ⟨_, rfl⟩ rfl rfl ⟨(Or.inr ⟨wy_pr rfl, fun q => q⟩), trivial, trivial, trivial, trivial⟩ trivial (fun _ _ q => False.elim q) (must_ok (S := (w_up Sq293 255 m t)) (g := 0) (n := 1) (Or.inl rfl) ⟨by omega, by omega⟩) (fun oq299 Sq299 hp300 q299 => ?_)
                                        rcases q299 with ⟨m298, _, _⟩ | ⟨_, rfl, rfl⟩
                                        · skip
                                          exact absurd m298 (by decide)
                                        · skip
                                          refine ⟨rfl, ?_⟩
                                          repeat (first | rw [if_pos (by omega)] at he | rw [if_neg (by omega)] at he)
                                          first | (rw [ty] at he; dsimp only at he) | (rw [if_neg (by rw [gis]; decide)] at he) | skip
                                          first | (rw [if_pos (by omega), if_pos goo] at he) | skip
                                          exact Or.inr ⟨_, _, he.symm, rfl, hm_ag_hl (hm_ag_up (hm_ag_lx (hm_ag_up (hm_ag_up (hm_ag_up (hm_ag_up hm_ag_rf (by decide) (by omega) (by decide)) (by decide) (by omega) (by decide)) (by decide) (by omega) (by decide)) (by decide) (by omega) (by decide)) hL295) (by decide) (by omega) (by decide)), rfl, by first | rfl | exact (show (w_up Sq293 255 m t) 237 7 = p2 from ((w_up_slot (by decide)).trans ((lx_E_7 hE295))))⟩
                                      · skip
                                        refine wa_iconst ?_
                                        refine wa_goto ⟨_, rfl⟩ ?_
                                        refine wa_iconst ?_
                                        refine wa_cv 237 rfl (wy_pr rfl) wt_237 (M2 := fun _ => False) rfl at_M_must ⟨_, rfl⟩ rfl rfl ⟨(Or.inr ⟨wy_pr rfl, fun q => q⟩), trivial, trivial, trivial, trivial⟩ trivial (fun _ _ q => False.elim q) (must_ok (S := (w_up Sq293 255 m t)) (g := 1) (n := 1) (Or.inr rfl) ⟨by omega, by omega⟩) (fun oq302 Sq302 hp303 q302 => ?_)
                                        rcases q302 with ⟨_, rfl, rfl⟩ | ⟨m301, _, _⟩
                                        · skip
                                          show wJ _ _ _ _ _ _ _ _ _ _
                                          refine wa_aload_n (n := 0) rfl ?_
                                          refine wa_aload_n (n := 0) rfl ?_
                                          refine wa_ks ?_
                                          refine wa_cv 237 rfl (wy_pr rfl) wt_237 (M2 := fun _ => False) rfl at_M_isOneOf ⟨_, rfl⟩ rfl rfl ⟨(Or.inr ⟨wy_pr rfl, fun q => q⟩), trivial, trivial, trivial, trivial⟩ ⟨(Or.inr ⟨wy_pr rfl, fun q => q⟩), trivial⟩ (fun _ _ q => False.elim q) (isOneOf_ok (S := (w_up Sq293 255 m t)) (lx_E_up hE295 (by decide) (by omega)).1.1 (wx_21 hX) (by decide) (by decide) (lx_I_hp (lx_E_up hE295 (by decide) (by omega)).1) (by decide)) (fun oq305 Sq305 hp306 q305 => ?_)
                                          rcases q305 with ⟨rfl, ⟨rfl, go304⟩ | ⟨rfl, go304⟩⟩
                                          · skip
                                            show wJ _ _ _ _ _ _ _ _ _ _
                                            rw [lx_E_oo (lx_E_up hE295 (by decide) (by omega))] at go304
                                            have goo := go304
                                            refine wa_ifne (w_rg0 (by omega) (by omega)) ⟨_, rfl⟩ (fun c307 => ?_) (fun c307 => ?_)
                                            · skip
                                              refine wa_iconst ?_
                                              refine wa_fall ⟨_, rfl⟩ ?_
                                              refine wa_iconst ?_
                                              refine wa_cv 237 rfl (wy_pr rfl) wt_237 (M2 := fun _ => False) rfl at_M_must ⟨_, rfl⟩ rfl rfl ⟨(Or.inr ⟨wy_pr rfl, fun q => q⟩), trivial, trivial, trivial, trivial⟩ trivial (fun _ _ q => False.elim q) (must_ok (S := (w_up Sq293 255 m t)) (g := 0) (n := 2) (Or.inl rfl) ⟨by omega, by omega⟩) (fun oq309 Sq309 hp310 q309 => ?_)
                                              rcases q309 with ⟨m308, _, _⟩ | ⟨_, rfl, rfl⟩
                                              · skip
                                                exact absurd m308 (by decide)
                                              · skip
                                                refine ⟨rfl, ?_⟩
                                                repeat (first | rw [if_pos (by omega)] at he | rw [if_neg (by omega)] at he)
                                                first | (rw [ty] at he; dsimp only at he) | (rw [if_neg (by rw [gis]; decide)] at he) | skip
                                                first | (rw [if_pos (by omega), if_pos goo] at he) | skip
                                                exact Or.inr ⟨_, _, he.symm, rfl, hm_ag_hl (hm_ag_up (hm_ag_lx (hm_ag_up (hm_ag_up (hm_ag_up (hm_ag_up hm_ag_rf (by decide) (by omega) (by decide)) (by decide) (by omega) (by decide)) (by decide) (by omega) (by decide)) (by decide) (by omega) (by decide)) hL295) (by decide) (by omega) (by decide)), rfl, by first | rfl | exact (show (w_up Sq293 255 m t) 237 7 = p2 from ((w_up_slot (by decide)).trans ((lx_E_7 hE295))))⟩
                                            · skip
                                              exact absurd c307 (by omega)
                                          · skip
                                            show wJ _ _ _ _ _ _ _ _ _ _
                                            rw [lx_E_oo (lx_E_up hE295 (by decide) (by omega))] at go304
                                            have goo := go304
                                            refine wa_ifne (w_rg0 (by omega) (by omega)) ⟨_, rfl⟩ (fun c311 => ?_) (fun c311 => ?_)
                                            · skip
                                              exact absurd c311 (by omega)
                                            · skip
                                              refine wa_iconst ?_
                                              refine wa_goto ⟨_, rfl⟩ ?_
                                              refine wa_iconst ?_
                                              refine wa_cv 237 rfl (wy_pr rfl) wt_237 (M2 := fun _ => False) rfl at_M_must ⟨_, rfl⟩ rfl rfl ⟨(Or.inr ⟨wy_pr rfl, fun q => q⟩), trivial, trivial, trivial, trivial⟩ trivial (fun _ _ q => False.elim q) (must_ok (S := (w_up Sq293 255 m t)) (g := 1) (n := 2) (Or.inr rfl) ⟨by omega, by omega⟩) (fun oq313 Sq313 hp314 q313 => ?_)
                                              rcases q313 with ⟨_, rfl, rfl⟩ | ⟨m312, _, _⟩
                                              · skip
                                                show wJ _ _ _ _ _ _ _ _ _ _
                                                refine wa_aload_n (n := 0) rfl ?_
                                                refine wb_gfi 237 rfl (wy_pr rfl) wt_237 wf_15_7 (v := p2) ((w_up_slot (by decide)).trans ((lx_E_7 hE295))) (fun r315 => ?_)
                                                refine wa_istore (n := 4) rfl ?_
                                                refine wa_aload_n (n := 0) rfl ?_
                                                refine wb_gf5 237 rfl (wy_pr rfl) wt_237 wf_15_15 (v := 241) ((w_up_slot (by decide)).trans (((hL295 237 15 (by omega) (by omega)).trans hA15))) (fun r316 => ?_)
                                                refine wb_gf4 241 rfl (wy_pr rfl) wt_241 wf_12_19 (v := 259) wl_241_19 ?_
                                                refine wa_iload_n (n := 2) rfl ?_
                                                refine wa_aload_n (n := 0) rfl ?_
                                                refine wb_gfi 237 rfl (wy_pr rfl) wt_237 wf_15_7 (v := p2) ((w_up_slot (by decide)).trans ((lx_E_7 hE295))) (fun r317 => ?_)
                                                refine wb_iast 259 rfl (wy_pr rfl) wt_259 (n := 400) ((w_up_slot (by decide)).trans ((ml_259 hE295.1.1))) (by omega) (by omega) ⟨(by omega), (by omega)⟩ ?_
                                                refine wa_aload_n (n := 0) rfl ?_
                                                refine wb_gf5 237 rfl (wy_pr rfl) wt_237 wf_15_15 (v := 241) ((w_up_slot (by decide)).trans ((w_up_slot (by decide)).trans (((hL295 237 15 (by omega) (by omega)).trans hA15)))) (fun r318 => ?_)
                                                refine wb_gf4 241 rfl (wy_pr rfl) wt_241 wf_12_20 (v := 260) wl_241_20 ?_
                                                refine wa_iload_n (n := 2) rfl ?_
                                                refine wa_aload_n (n := 0) rfl ?_
                                                refine wb_gfi 237 rfl (wy_pr rfl) wt_237 wf_15_8 (v := (zq A p2 237 8)) ((w_up_slot (by decide)).trans ((w_up_slot (by decide)).trans ((lx_E_8 hE295)))) (fun r319 => ?_)
                                                refine wb_iast 260 rfl (wy_pr rfl) wt_260 (n := 400) ((w_up_slot (by decide)).trans ((w_up_slot (by decide)).trans ((ml_260 hE295.1.1)))) (by omega) (by omega) ⟨(by omega), (by omega)⟩ ?_
                                                refine wa_aload_n (n := 0) rfl ?_
                                                refine wa_cv 237 rfl (wy_pr rfl) wt_237 (M2 := fun _ => False) rfl at_M_next ⟨_, rfl⟩ rfl rfl ⟨trivial, (Or.inr ⟨wy_pr rfl, fun q => q⟩), trivial, trivial, trivial, trivial⟩ trivial (fun _ _ q => False.elim q) (nx_I (S := (w_up (w_up (w_up Sq293 255 m t) 259 m p2) 260 m (zq A p2 237 8))) (lx_E_up (lx_E_up (lx_E_up hE295 (by decide) (by omega)) (by decide) (by omega)) (by decide) (by omega)).1 (by have e6 : (w_up (w_up (w_up Sq293 255 m t) 259 m p2) 260 m (zq A p2 237 8)) 237 6 = (zq A p2 237 6) := ((w_up_slot (by decide)).trans ((w_up_slot (by decide)).trans ((w_up_slot (by decide)).trans ((lx_E_6 hE295))))); first | omega | (have := (lx_is4 gis).1; omega) | (have := lx_w1 hnw; omega))) (fun oq320 Sq320 hp321 q320 => ?_)
                                                rcases q320 with ⟨rfl, a1, a2⟩
                                                show wJ _ _ _ _ _ _ _ _ _ _
                                                rw [lx_E_ne (lx_E_up (lx_E_up (lx_E_up hE295 (by decide) (by omega)) (by decide) (by omega)) (by decide) (by omega))] at a2
                                                have hE322 : lx_E Sq320 A (lx_ne (zq A p2) p2) := lx_E_ag (lx_E_up (lx_E_up (lx_E_up hE295 (by decide) (by omega)) (by decide) (by omega)) (by decide) (by omega)) a1 a2
                                                have hL322 : lx_ag (w_up (w_up (w_up (w_up (w_up (w_up (w_up A 252 m c) 254 m st) 259 m p1) 260 m p1) 255 m t) 259 m p2) 260 m (zq A p2 237 8)) Sq320 := lx_ag_tr (lx_ag_cg (lx_ag_cg (lx_ag_cg hL295))) a1
                                                refine wa_aload_n (n := 0) rfl ?_
                                                refine wa_bipush (w_rg2 (by omega) (by omega)) ?_
                                                refine wa_cv 237 rfl (wy_pr rfl) wt_237 (M2 := fun _ => False) rfl at_M_isSign ⟨_, rfl⟩ rfl rfl ⟨trivial, (Or.inr ⟨wy_pr rfl, fun q => q⟩), trivial, trivial, trivial, trivial⟩ trivial (fun _ _ q => False.elim q) (isSign_ok (S := Sq320) ⟨by omega, by omega⟩) (fun oq324 Sq324 hp325 q324 => ?_)
                                                rcases q324 with ⟨rfl, ⟨rfl, gi323⟩ | ⟨rfl, gi323⟩⟩
                                                · skip
                                                  show wJ _ _ _ _ _ _ _ _ _ _
                                                  rw [lx_E_is hE322] at gi323
                                                  have gis := gi323
                                                  have gsv := gis
                                                  refine wa_ifeq (w_rg0 (by omega) (by omega)) ⟨_, rfl⟩ (fun c326 => ?_) (fun c326 => ?_)
                                                  · skip
                                                    exact absurd c326 (by omega)
                                                  · skip
                                                    refine wa_aload_n (n := 0) rfl ?_
                                                    refine wb_gf5 237 rfl (wy_pr rfl) wt_237 wf_15_15 (v := 241) (((hL322 237 15 (by omega) (by omega)).trans hA15)) (fun r327 => ?_)
                                                    refine wb_gf4 241 rfl (wy_pr rfl) wt_241 wf_12_13 (v := 253) wl_241_13 ?_
                                                    refine wa_iload_n (n := 2) rfl ?_
                                                    refine wa_iconst ?_
                                                    refine wb_iast 253 rfl (wy_pr rfl) wt_253 (n := 400) ((ml_253 hE322.1.1)) (by omega) (by omega) ⟨(by omega), (by omega)⟩ ?_
                                                    refine wa_aload_n (n := 0) rfl ?_
                                                    refine wa_cv 237 rfl (wy_pr rfl) wt_237 (M2 := fun _ => False) rfl at_M_next ⟨_, rfl⟩ rfl rfl ⟨trivial, (Or.inr ⟨wy_pr rfl, fun q => q⟩), trivial, trivial, trivial, trivial⟩ trivial (fun _ _ q => False.elim q) (nx_I (S := (w_up Sq320 253 m 1)) (lx_E_up hE322 (by decide) (by omega)).1 (by have e6 : (w_up Sq320 253 m 1) 237 6 = (zq A (lx_ne (zq A p2) p2) 237 6) := ((w_up_slot (by decide)).trans ((lx_E_6 hE322))); first | omega | (have := (lx_is4 gis).1; omega) | (have := lx_w1 hnw; omega))) (fun oq328 Sq328 hp329 q328 => ?_)
                                                    rcases q328 with ⟨rfl, a1, a2⟩
                                                    show wJ _ _ _ _ _ _ _ _ _ _
                                                    rw [lx_E_ne (lx_E_up hE322 (by decide) (by omega))] at a2
                                                    have hE330 : lx_E Sq328 A (lx_ne (zq A (lx_ne (zq A p2) p2)) (lx_ne (zq A p2) p2)) := lx_E_ag (lx_E_up hE322 (by decide) (by omega)) a1 a2
                                                    have hL330 : lx_ag (w_up (w_up (w_up (w_up (w_up (w_up (w_up (w_up A 252 m c) 254 m st) 259 m p1) 260 m p1) 255 m t) 259 m p2) 260 m (zq A p2 237 8)) 253 m 1) Sq328 := lx_ag_tr (lx_ag_cg hL322) a1
                                                    refine wa_aload_n (n := 0) rfl ?_
                                                    refine wa_iload_n (n := 1) rfl ?_
                                                    refine wa_iload_n (n := 2) rfl ?_
                                                    refine wa_cv 237 rfl (wy_pr rfl) wt_237 (M2 := fun _ => False) rfl at_M_readsParameters ⟨_, rfl⟩ rfl rfl ⟨trivial, (Or.inr ⟨wy_pr rfl, fun q => q⟩), trivial, trivial, trivial, trivial⟩ trivial (fun _ _ q => False.elim q) (readsParameters_241 (A := Sq328) (R := pq_k (w_up (w_up (w_up (w_up (w_up (w_up (w_up (w_up A 252 m c) 254 m st) 259 m p1) 260 m p1) 255 m t) 259 m p2) 260 m (zq A p2 237 8)) 253 m 1) 241 c m (pq_r (w_up (w_up (w_up (w_up (w_up (w_up (w_up (w_up A 252 m c) 254 m st) 259 m p1) 260 m p1) 255 m t) 259 m p2) 260 m (zq A p2 237 8)) 253 m 1) 241 (lx_ne (zq A (lx_ne (zq A p2) p2)) (lx_ne (zq A p2) p2)))) hX (((hL330 237 15 (by omega) (by omega)).trans hA15)) ⟨by omega, by omega⟩ (ho_mm_ag hm.1 (by decide) hmm (hm_ag_lx (hm_ag_up (hm_ag_up (hm_ag_up (hm_ag_up (hm_ag_up (hm_ag_up (hm_ag_up (hm_ag_up hm_ag_rf (by decide) (by omega) (by decide)) (by decide) (by omega) (by decide)) (by decide) (by omega) (by decide)) (by decide) (by omega) (by decide)) (by decide) (by omega) (by decide)) (by decide) (by omega) (by decide)) (by decide) (by omega) (by decide)) (by decide) (by omega) (by decide)) hL330)) (by have y1 : Sq328 259 m = p2 := (((hL330 259 m (by omega) (by omega)).trans ((w_up_slot (by decide)).trans ((w_up_slot (by decide)).trans (w_up_same _ _ _ _))))); have y2 : Sq328 260 m = (zq A p2 237 8) := (((hL330 260 m (by omega) (by omega)).trans ((w_up_slot (by decide)).trans (w_up_same _ _ _ _)))); omega) (by rw [show Sq328 248 c = A 248 c from (((hL330 248 c (by omega) (by omega)).trans ((w_up_slot (by decide)).trans ((w_up_slot (by decide)).trans ((w_up_slot (by decide)).trans ((w_up_slot (by decide)).trans ((w_up_slot (by decide)).trans ((w_up_slot (by decide)).trans ((w_up_slot (by decide)).trans (w_up_slot (by decide)))))))))))]; exact hfi) hcc (ho_nm_of hAn ((hL330 241 1 (by omega) (by omega)).trans rfl) (funext fun i => (hL330 250 i (by omega) (by omega)).trans rfl) (funext fun i => (hL330 251 i (by omega) (by omega)).trans rfl)) ⟨hE330.1, rfl, rfl, rfl⟩ (pq_ag hL330 (by decide))) (fun oq331 Sq331 hp332 q331 => ?_)
                                                    rcases q331 with ⟨q, v, l, hR, rfl, c1, c2, c3, c4⟩ | ⟨e, q, hR, rfl, c1, c2, c3⟩
                                                    · skip
                                                      repeat (first | rw [if_pos (by omega)] at he | rw [if_neg (by omega)] at he)
                                                      first | rw [if_neg (by rw [goo]; decide), if_pos gsv] at he | rw [if_pos gsv] at he | rw [if_neg (by rw [goo]; decide)] at he | skip
                                                      unfold rm_par at he
                                                      rw [hR] at he
                                                      dsimp only at he
                                                      show wJ _ _ _ _ _ _ _ _ _ _
                                                      refine wa_goto ⟨_, rfl⟩ ?_
                                                      exact wJ_S (mem_23_241 hA15 hAm ⟨by omega, by omega⟩ hcc hmy (hm_ag_tr (hm_ag_lx (hm_ag_up (hm_ag_up (hm_ag_up (hm_ag_up (hm_ag_up (hm_ag_up (hm_ag_up (hm_ag_up hm_ag_rf (by decide) (by omega) (by decide)) (by decide) (by omega) (by decide)) (by decide) (by omega) (by decide)) (by decide) (by omega) (by decide)) (by decide) (by omega) (by decide)) (by decide) (by omega) (by decide)) (by decide) (by omega) (by decide)) (by decide) (by omega) (by decide)) hL330) (hp_hm c1)) ⟨c2.1, c2.2.1.trans hE330.2.1, c2.2.2.1.trans hE330.2.2.1, c2.2.2.2.trans hE330.2.2.2⟩ ⟨(c1 252 m (by omega) (by omega) (by omega) (by omega)).trans (((hL330 252 m (by omega) (by omega)).trans ((w_up_slot (by decide)).trans ((w_up_slot (by decide)).trans ((w_up_slot (by decide)).trans ((w_up_slot (by decide)).trans ((w_up_slot (by decide)).trans ((w_up_slot (by decide)).trans ((w_up_slot (by decide)).trans (w_up_same _ _ _ _)))))))))), (c1 253 m (by omega) (by omega) (by omega) (by omega)).trans (((hL330 253 m (by omega) (by omega)).trans (w_up_same _ _ _ _))), (c1 254 m (by omega) (by omega) (by omega) (by omega)).trans (((hL330 254 m (by omega) (by omega)).trans ((w_up_slot (by decide)).trans ((w_up_slot (by decide)).trans ((w_up_slot (by decide)).trans ((w_up_slot (by decide)).trans ((w_up_slot (by decide)).trans ((w_up_slot (by decide)).trans (w_up_same _ _ _ _))))))))), (c1 255 m (by omega) (by omega) (by omega) (by omega)).trans (((hL330 255 m (by omega) (by omega)).trans ((w_up_slot (by decide)).trans ((w_up_slot (by decide)).trans ((w_up_slot (by decide)).trans (w_up_same _ _ _ _)))))), (c1 259 m (by omega) (by omega) (by omega) (by omega)).trans (((hL330 259 m (by omega) (by omega)).trans ((w_up_slot (by decide)).trans ((w_up_slot (by decide)).trans (w_up_same _ _ _ _))))), (c1 260 m (by omega) (by omega) (by omega) (by omega)).trans (((hL330 260 m (by omega) (by omega)).trans ((w_up_slot (by decide)).trans (w_up_same _ _ _ _))))⟩ c3 c4 he) ⟨rfl, rfl, rfl, trivial⟩
                                                    · skip
                                                      repeat (first | rw [if_pos (by omega)] at he | rw [if_neg (by omega)] at he)
                                                      first | rw [if_neg (by rw [goo]; decide), if_pos gsv] at he | rw [if_pos gsv] at he | rw [if_neg (by rw [goo]; decide)] at he | skip
                                                      unfold rm_par at he
                                                      rw [hR] at he
                                                      dsimp only at he
                                                      refine ⟨rfl, ?_⟩
                                                      exact Or.inr ⟨_, _, he.symm, rfl, (hm_ag_tr (hm_ag_lx (hm_ag_up (hm_ag_up (hm_ag_up (hm_ag_up (hm_ag_up (hm_ag_up (hm_ag_up (hm_ag_up hm_ag_rf (by decide) (by omega) (by decide)) (by decide) (by omega) (by decide)) (by decide) (by omega) (by decide)) (by decide) (by omega) (by decide)) (by decide) (by omega) (by decide)) (by decide) (by omega) (by decide)) (by decide) (by omega) (by decide)) (by decide) (by omega) (by decide)) hL330) (hp_hm c1)), c2, c3⟩
                                                · skip
                                                  show wJ _ _ _ _ _ _ _ _ _ _
                                                  rw [lx_E_is hE322] at gi323
                                                  have gis := gi323
                                                  have gsv := gis
                                                  refine wa_ifeq (w_rg0 (by omega) (by omega)) ⟨_, rfl⟩ (fun c334 => ?_) (fun c334 => ?_)
                                                  · skip
                                                    refine wa_aload_n (n := 0) rfl ?_
                                                    refine wa_iload_n (n := 1) rfl ?_
                                                    refine wa_iload_n (n := 2) rfl ?_
                                                    refine wa_iload (n := 4) rfl ?_
                                                    refine wa_cv 237 rfl (wy_pr rfl) wt_237 (M2 := fun _ => False) rfl at_M_readsField ⟨_, rfl⟩ rfl rfl ⟨trivial, (Or.inr ⟨wy_pr rfl, fun q => q⟩), trivial, trivial, trivial, trivial⟩ trivial (fun _ _ q => False.elim q) (readsField_241 (A := Sq320) (R := rf_of (w_up (w_up (w_up (w_up (w_up (w_up (w_up A 252 m c) 254 m st) 259 m p1) 260 m p1) 255 m t) 259 m p2) 260 m (zq A p2 237 8)) 241 c m (lx_ne (zq A p2) p2) p2) (((hL322 237 15 (by omega) (by omega)).trans hA15)) ⟨by omega, by omega⟩ (ho_mm_ag hm.1 (by decide) hmm (hm_ag_lx (hm_ag_up (hm_ag_up (hm_ag_up (hm_ag_up (hm_ag_up (hm_ag_up (hm_ag_up hm_ag_rf (by decide) (by omega) (by decide)) (by decide) (by omega) (by decide)) (by decide) (by omega) (by decide)) (by decide) (by omega) (by decide)) (by decide) (by omega) (by decide)) (by decide) (by omega) (by decide)) (by decide) (by omega) (by decide)) hL322)) (by have y1 : Sq320 259 m = p2 := (((hL322 259 m (by omega) (by omega)).trans ((w_up_slot (by decide)).trans (w_up_same _ _ _ _)))); have y2 : Sq320 260 m = (zq A p2 237 8) := (((hL322 260 m (by omega) (by omega)).trans (w_up_same _ _ _ _))); omega) (by rw [show Sq320 248 c = A 248 c from (((hL322 248 c (by omega) (by omega)).trans ((w_up_slot (by decide)).trans ((w_up_slot (by decide)).trans ((w_up_slot (by decide)).trans ((w_up_slot (by decide)).trans ((w_up_slot (by decide)).trans ((w_up_slot (by decide)).trans (w_up_slot (by decide))))))))))]; exact hfi) hcc ⟨hE322.1, rfl, rfl, rfl⟩ ⟨by omega, by omega⟩ (rf_ag hL322 (by decide))) (fun oq335 Sq335 hp336 q335 => ?_)
                                                    rcases q335 with ⟨hR, rfl, rfl⟩ | ⟨e, q, hR, rfl, c1, c2, c3⟩
                                                    · skip
                                                      repeat (first | rw [if_pos (by omega)] at he | rw [if_neg (by omega)] at he)
                                                      rw [if_neg (by rw [goo]; decide), if_neg (by rw [gis]; decide), hR] at he
                                                      dsimp only at he
                                                      show wJ _ _ _ _ _ _ _ _ _ _
                                                      refine wa_fall ⟨_, rfl⟩ ?_
                                                      exact wJ_S (mem_23_241 (l := []) (v := 0) hA15 hAm ⟨by omega, by omega⟩ hcc hmy (hm_ag_up (hm_ag_up (hm_ag_up (hm_ag_lx (hm_ag_up (hm_ag_up (hm_ag_up (hm_ag_up (hm_ag_up (hm_ag_up (hm_ag_up hm_ag_rf (by decide) (by omega) (by decide)) (by decide) (by omega) (by decide)) (by decide) (by omega) (by decide)) (by decide) (by omega) (by decide)) (by decide) (by omega) (by decide)) (by decide) (by omega) (by decide)) (by decide) (by omega) (by decide)) hL322) (by decide) (by omega) (by decide)) (by decide) (by omega) (by decide)) (by decide) (by omega) (by decide)) (lx_E_up (lx_E_up (lx_E_up hE322 (by decide) (by omega)) (by decide) (by omega)) (by decide) (by omega)) ⟨((w_up_slot (by decide)).trans ((w_up_slot (by decide)).trans ((w_up_slot (by decide)).trans (((hL322 252 m (by omega) (by omega)).trans ((w_up_slot (by decide)).trans ((w_up_slot (by decide)).trans ((w_up_slot (by decide)).trans ((w_up_slot (by decide)).trans ((w_up_slot (by decide)).trans ((w_up_slot (by decide)).trans (w_up_same _ _ _ _)))))))))))), ((w_up_slot (by decide)).trans ((w_up_slot (by decide)).trans (w_up_same _ _ _ _))), ((w_up_slot (by decide)).trans ((w_up_slot (by decide)).trans ((w_up_slot (by decide)).trans (((hL322 254 m (by omega) (by omega)).trans ((w_up_slot (by decide)).trans ((w_up_slot (by decide)).trans ((w_up_slot (by decide)).trans ((w_up_slot (by decide)).trans ((w_up_slot (by decide)).trans (w_up_same _ _ _ _))))))))))), ((w_up_slot (by decide)).trans ((w_up_slot (by decide)).trans ((w_up_slot (by decide)).trans (((hL322 255 m (by omega) (by omega)).trans ((w_up_slot (by decide)).trans ((w_up_slot (by decide)).trans (w_up_same _ _ _ _)))))))), ((w_up_slot (by decide)).trans ((w_up_slot (by decide)).trans ((w_up_slot (by decide)).trans (((hL322 259 m (by omega) (by omega)).trans ((w_up_slot (by decide)).trans (w_up_same _ _ _ _))))))), ((w_up_slot (by decide)).trans ((w_up_slot (by decide)).trans ((w_up_slot (by decide)).trans (((hL322 260 m (by omega) (by omega)).trans (w_up_same _ _ _ _))))))⟩ ⟨(w_up_slot (by decide)).trans (w_up_same _ _ _ _), w_up_same _ _ _ _, fun i hi => absurd hi (Nat.not_lt_zero i)⟩ (Nat.zero_le _) he) ⟨rfl, rfl, rfl, trivial⟩
                                                    · skip
                                                      repeat (first | rw [if_pos (by omega)] at he | rw [if_neg (by omega)] at he)
                                                      rw [if_neg (by rw [goo]; decide), if_neg (by rw [gis]; decide), hR] at he
                                                      dsimp only at he
                                                      refine ⟨rfl, ?_⟩
                                                      exact Or.inr ⟨_, _, he.symm, rfl, (hm_ag_tr (hm_ag_lx (hm_ag_up (hm_ag_up (hm_ag_up (hm_ag_up (hm_ag_up (hm_ag_up (hm_ag_up hm_ag_rf (by decide) (by omega) (by decide)) (by decide) (by omega) (by decide)) (by decide) (by omega) (by decide)) (by decide) (by omega) (by decide)) (by decide) (by omega) (by decide)) (by decide) (by omega) (by decide)) (by decide) (by omega) (by decide)) hL322) c1), c2, c3⟩
                                                  · skip
                                                    exact absurd c334 (by omega)
                                              · skip
                                                exact absurd m312 (by decide)
                                        · skip
                                          exact absurd m301 (by decide)
                                    · skip
                                      rw [lx_E_type (b := 241) (lx_E_up (lx_E_up (lx_E_up (lx_E_up hE (by decide) (by omega)) (by decide) (by omega)) (by decide) (by omega)) (by decide) (by omega)) (by decide) (((lx_ag_cg (lx_ag_cg (lx_ag_cg (lx_ag_cg hL)))) 241 1 (by omega) (by omega)).trans rfl) (funext fun i => ((lx_ag_cg (lx_ag_cg (lx_ag_cg (lx_ag_cg hL)))) 250 i (by omega) (by omega)).trans rfl) (funext fun i => ((lx_ag_cg (lx_ag_cg (lx_ag_cg (lx_ag_cg hL)))) 251 i (by omega) (by omega)).trans rfl)] at ty
                                      refine ⟨rfl, ?_⟩
                                      repeat (first | rw [if_pos (by omega)] at he | rw [if_neg (by omega)] at he)
                                      first | (rw [ty] at he; dsimp only at he) | (rw [if_neg (by rw [gis]; decide)] at he) | skip
                                      first | (rw [if_pos (by omega), if_pos goo] at he) | skip
                                      exact Or.inr ⟨_, _, he.symm, rfl, hm_ag_hl (hm_ag_up (hm_ag_up (hm_ag_up (hm_ag_up (hm_ag_lx hm_ag_rf hL) (by decide) (by omega) (by decide)) (by decide) (by omega) (by decide)) (by decide) (by omega) (by decide)) (by decide) (by omega) (by decide)), rfl, by first | rfl | exact (show (w_up (w_up (w_up (w_up Z 252 m c) 254 m st) 259 m p1) 260 m p1) 237 7 = p1 from ((w_up_slot (by decide)).trans ((w_up_slot (by decide)).trans ((w_up_slot (by decide)).trans ((w_up_slot (by decide)).trans ((lx_E_7 hE)))))))⟩
                                  · skip
                                    exact absurd c291 (by omega)
                              · skip
                                exact absurd m279 (by decide)
                            · skip
                              exact absurd c278 (by omega)
                        · skip
                          exact absurd m272 (by decide)
                    · skip
                      exact absurd m265 (by decide)
          · skip
            exact absurd m175 (by decide)
theorem rm_mk_261 {A : wS} {c m p1 st : Int} (h : lx_w (zq A p1) tx_25 = true) : rm_body_261 A c m p1 st = if zq A p1 237 6 = 1 ∧ st ≠ 1 then (if m < 400 then (if A 263 c = 0 then (if lx_is (zq A (lx_ne (zq A p1) p1)) 40 = true then rm_par A (w_up (w_up (w_up (w_up (w_up (w_up A 272 m c) 274 m st) 279 m p1) 280 m p1) 273 m 2) 275 m (9 + c)) 261 c m (lx_ne (zq A (lx_ne (zq A p1) p1)) (lx_ne (zq A p1) p1)) 2 st (9 + c) p1 p1 else .inl (1, (lx_ne (zq A p1) p1))) else .inl (6, p1)) else .inl (5, p1)) else .inl (1, p1) := by
  unfold rm_body_261
  rw [h]
  by_cases c1 : zq A p1 237 6 = 1 ∧ st ≠ 1
  · rw [if_pos ⟨c1.1, fun z => c1.2 z.1⟩, if_pos c1, if_pos (Or.inl rfl), if_pos rfl]
  · rw [if_neg (fun z => c1 ⟨z.1, fun y => z.2 ⟨y, rfl⟩⟩), if_neg c1]
theorem rm_ty_261 {A : wS} {c m p1 st : Int} (h : lx_w (zq A p1) tx_25 = false) : rm_body_261 A c m p1 st = if zq A p1 237 6 = 1 then (if 0 ≤ pl_of (zq A p1) tx_27 ∨ 0 ≤ ch_of (zq A p1) 261 then (if m < 400 then (match hy_type (zq A p1) 261 p1 1 with
    | .inl x => .inl x
    | .inr (t, p2) => if zq A p2 237 6 = 1 then (if lx_oo (zq A p2) tx_21 = true then .inl (2, p2) else (if lx_is (zq A (lx_ne (zq A p2) p2)) 40 = true then rm_par A (w_up (w_up (w_up (w_up (w_up (w_up (w_up (w_up A 272 m c) 274 m st) 279 m p1) 280 m p1) 275 m t) 279 m p2) 280 m (zq A p2 237 8)) 273 m 1) 261 c m (lx_ne (zq A (lx_ne (zq A p2) p2)) (lx_ne (zq A p2) p2)) 1 st t p2 (zq A p2 237 8) else (match rf_of (w_up (w_up (w_up (w_up (w_up (w_up (w_up A 272 m c) 274 m st) 279 m p1) 280 m p1) 275 m t) 279 m p2) 280 m (zq A p2 237 8)) 261 c m (lx_ne (zq A p2) p2) p2 with
      | some x => .inl x
      | none => rm_end A (lx_ne (zq A p2) p2) 0 st t [] 0 p2 (zq A p2 237 8)))) else .inl (1, p2)) else .inl (5, p1)) else .inl (3, p1)) else .inl (1, p1) := by
  unfold rm_body_261
  rw [h]
  by_cases c1 : zq A p1 237 6 = 1
  · rw [if_pos ⟨c1, fun z => absurd z.2 (by decide)⟩, if_pos c1]
    by_cases c2 : 0 ≤ pl_of (zq A p1) tx_27 ∨ 0 ≤ ch_of (zq A p1) 261
    · rw [if_pos (Or.inr c2), if_pos c2]
      by_cases c3 : m < 400
      · rw [if_pos c3, if_pos c3, if_neg (by decide)]; rfl
      · rw [if_neg c3, if_neg c3]
    · rw [if_neg (fun z => c2 (z.resolve_left (by decide))), if_neg c2]
  · rw [if_neg (fun z => c1 z.1), if_neg c1]
theorem mem_3_mk_261 {c m p1 st : Int} {R : hRM} {Z : wS} (hX : w_X xs) (hA15 : A 237 15 = 261) (hAm : A 261 11 = m) (hm : 0 ≤ m ∧ m ≤ 400) (hmm : ho_mm A 261 m) (hfi : 0 ≤ A 268 c ∧ A 268 c ≤ m) (hcc : 0 ≤ c ∧ c < 60) (hAn : ho_nm A 261) (hmy : 0 ≤ A 269 c ∧ A 269 c ≤ 400) (hst : st = 0 ∨ st = 1) (hE : lx_E Z A p1) (hL : lx_ag A Z) (hnw : lx_w (zq A p1) tx_25 = true) (he : rm_body_261 A c m p1 st = R) : wJ (pe_GA xs) wY0 M (d + 7) t_M_readsMember ((pe_at t_M_readsMember.bl 3).getD (0, [])).2 [(0, (2, 237)), (1, (0, c)), (2, (0, m)), (3, (0, st))] [] Z (fun o S2 => (∃ (p2 so st ty v f e : Int) (l : List Int), R = .inr (p2, so, st, ty, l, v, f, e) ∧ o = .inl none ∧ hM_ag 261 c m A S2 ∧ lx_E S2 A p2 ∧ S2 261 11 = m + 1 ∧ S2 269 c = A 269 c + 1 ∧ hm_rec 261 m S2 c so st ty f e ∧ hm_ps 261 m S2 l v ∧ l.length ≤ 8) ∨ (∃ e q : Int, R = .inl (e, q) ∧ o = .inr 238 ∧ hm_ag 261 m A S2 ∧ S2 238 5 = e ∧ S2 238 6 = q)) := by
  rw [rm_mk_261 hnw] at he
  have hpp := hE.1.2.2.1
  have hnn := hE.1.2.1
  have hp8 := lx_I_hp hE.1
  refine wa_aload_n (n := 0) rfl ?_
  refine wa_aload_n (n := 0) rfl ?_
  refine wb_gfi 237 rfl (wy_pr rfl) wt_237 wf_15_6 (v := (zq A p1 237 6)) ((lx_E_6 hE)) (fun r1 => ?_)
  refine wa_iconst ?_
  refine wa_icmpne (w_rg0 (by omega) (by omega)) (w_rg0 (by omega) (by omega)) ⟨_, rfl⟩ (fun c2 => ?_) (fun c2 => ?_)
  · skip
    refine wa_iconst ?_
    refine wa_fall ⟨_, rfl⟩ ?_
    refine wa_iconst ?_
    refine wa_cv 237 rfl (wy_pr rfl) wt_237 (M2 := fun _ => False) rfl at_M_must ⟨_, rfl⟩ rfl rfl ⟨(Or.inr ⟨wy_pr rfl, fun q => q⟩), trivial, trivial, trivial, trivial⟩ trivial (fun _ _ q => False.elim q) (must_ok (S := Z) (g := 0) (n := 1) (Or.inl rfl) ⟨by omega, by omega⟩) (fun oq4 Sq4 hp5 q4 => ?_)
    rcases q4 with ⟨m3, _, _⟩ | ⟨_, rfl, rfl⟩
    · skip
      exact absurd m3 (by decide)
    · skip
      refine ⟨rfl, ?_⟩
      repeat (first | rw [if_pos (by omega)] at he | rw [if_neg (by omega)] at he)
      first | (rw [ty] at he; dsimp only at he) | (rw [if_neg (by rw [gis]; decide)] at he) | skip
      first | (rw [if_pos (by omega), if_pos goo] at he) | skip
      exact Or.inr ⟨_, _, he.symm, rfl, hm_ag_hl (hm_ag_lx hm_ag_rf hL), rfl, by first | rfl | exact (show Z 237 7 = p1 from ((lx_E_7 hE)))⟩
  · skip
    refine wa_iload_n (n := 3) rfl ?_
    refine wa_ifeq (w_rg0 (by omega) (by omega)) ⟨_, rfl⟩ (fun c6 => ?_) (fun c6 => ?_)
    · skip
      refine wa_iconst ?_
      refine wa_goto ⟨_, rfl⟩ ?_
      refine wa_iconst ?_
      refine wa_cv 237 rfl (wy_pr rfl) wt_237 (M2 := fun _ => False) rfl at_M_must ⟨_, rfl⟩ rfl rfl ⟨(Or.inr ⟨wy_pr rfl, fun q => q⟩), trivial, trivial, trivial, trivial⟩ trivial (fun _ _ q => False.elim q) (must_ok (S := Z) (g := 1) (n := 1) (Or.inr rfl) ⟨by omega, by omega⟩) (fun oq8 Sq8 hp9 q8 => ?_)
      rcases q8 with ⟨_, rfl, rfl⟩ | ⟨m7, _, _⟩
      · skip
        show wJ _ _ _ _ _ _ _ _ _ _
        refine wa_aload_n (n := 0) rfl ?_
        refine wa_ks ?_
        refine wa_cv 237 rfl (wy_pr rfl) wt_237 (M2 := fun _ => False) rfl at_M_isWord ⟨_, rfl⟩ rfl rfl ⟨(Or.inr ⟨wy_pr rfl, fun q => q⟩), trivial, trivial, trivial, trivial⟩ trivial (fun _ _ q => False.elim q) (isWord_ok (S := Z) hE.1.1 (wx_25 hX) (by decide) (lx_I_hp hE.1)) (fun oq11 Sq11 hp12 q11 => ?_)
        rcases q11 with ⟨rfl, ⟨rfl, gw10⟩ | ⟨rfl, gw10⟩⟩
        · skip
          show wJ _ _ _ _ _ _ _ _ _ _
          rw [lx_E_w hE] at gw10
          refine wa_ifne (w_rg0 (by omega) (by omega)) ⟨_, rfl⟩ (fun c13 => ?_) (fun c13 => ?_)
          · skip
            refine wa_aload_n (n := 0) rfl ?_
            refine wa_iload_n (n := 2) rfl ?_
            refine wa_sipush (by omega) ?_
            refine wa_icmpge (w_rg0 (by omega) (by omega)) (w_rg0 (by omega) (by omega)) ⟨_, rfl⟩ (fun c14 => ?_) (fun c14 => ?_)
            · skip
              refine wa_iconst ?_
              refine wa_fall ⟨_, rfl⟩ ?_
              refine wa_iconst ?_
              refine wa_cv 237 rfl (wy_pr rfl) wt_237 (M2 := fun _ => False) rfl at_M_must ⟨_, rfl⟩ rfl rfl ⟨(Or.inr ⟨wy_pr rfl, fun q => q⟩), trivial, trivial, trivial, trivial⟩ trivial (fun _ _ q => False.elim q) (must_ok (S := Z) (g := 0) (n := 5) (Or.inl rfl) ⟨by omega, by omega⟩) (fun oq16 Sq16 hp17 q16 => ?_)
              rcases q16 with ⟨m15, _, _⟩ | ⟨_, rfl, rfl⟩
              · skip
                exact absurd m15 (by decide)
              · skip
                refine ⟨rfl, ?_⟩
                repeat (first | rw [if_pos (by omega)] at he | rw [if_neg (by omega)] at he)
                first | (rw [ty] at he; dsimp only at he) | (rw [if_neg (by rw [gis]; decide)] at he) | skip
                first | (rw [if_pos (by omega), if_pos goo] at he) | skip
                exact Or.inr ⟨_, _, he.symm, rfl, hm_ag_hl (hm_ag_lx hm_ag_rf hL), rfl, by first | rfl | exact (show Z 237 7 = p1 from ((lx_E_7 hE)))⟩
            · skip
              refine wa_iconst ?_
              refine wa_goto ⟨_, rfl⟩ ?_
              refine wa_iconst ?_
              refine wa_cv 237 rfl (wy_pr rfl) wt_237 (M2 := fun _ => False) rfl at_M_must ⟨_, rfl⟩ rfl rfl ⟨(Or.inr ⟨wy_pr rfl, fun q => q⟩), trivial, trivial, trivial, trivial⟩ trivial (fun _ _ q => False.elim q) (must_ok (S := Z) (g := 1) (n := 5) (Or.inr rfl) ⟨by omega, by omega⟩) (fun oq19 Sq19 hp20 q19 => ?_)
              rcases q19 with ⟨_, rfl, rfl⟩ | ⟨m18, _, _⟩
              · skip
                show wJ _ _ _ _ _ _ _ _ _ _
                refine wa_aload_n (n := 0) rfl ?_
                refine wa_aload_n (n := 0) rfl ?_
                refine wa_ks ?_
                refine wa_cv 237 rfl (wy_pr rfl) wt_237 (M2 := fun _ => False) rfl at_M_isWord ⟨_, rfl⟩ rfl rfl ⟨(Or.inr ⟨wy_pr rfl, fun q => q⟩), trivial, trivial, trivial, trivial⟩ ⟨(Or.inr ⟨wy_pr rfl, fun q => q⟩), trivial⟩ (fun _ _ q => False.elim q) (isWord_ok (S := Z) hE.1.1 (wx_25 hX) (by decide) (lx_I_hp hE.1)) (fun oq22 Sq22 hp23 q22 => ?_)
                rcases q22 with ⟨rfl, ⟨rfl, gw21⟩ | ⟨rfl, gw21⟩⟩
                · skip
                  show wJ _ _ _ _ _ _ _ _ _ _
                  rw [lx_E_w hE] at gw21
                  refine wa_ifeq (w_rg0 (by omega) (by omega)) ⟨_, rfl⟩ (fun c24 => ?_) (fun c24 => ?_)
                  · skip
                    exact absurd c24 (by omega)
                  · skip
                    refine wa_aload_n (n := 0) rfl ?_
                    refine wb_gf5 237 rfl (wy_pr rfl) wt_237 wf_15_15 (v := 261) (((hL 237 15 (by omega) (by omega)).trans hA15)) (fun r25 => ?_)
                    refine wb_gf4 261 rfl (wy_pr rfl) wt_261 wf_12_2 (v := 263) wl_261_2 ?_
                    refine wa_iload_n (n := 1) rfl ?_
                    refine wb_zald 263 rfl (wy_pr rfl) wt_263 (n := 60) ((ml_263 hE.1.1)) (by omega) (by omega) (v := (A 263 c)) (((hL 263 c (by omega) (by omega)).trans rfl)) (fun r26 => ?_)
                    refine wa_ifne (w_rg0 (by omega) (by omega)) ⟨_, rfl⟩ (fun c27 => ?_) (fun c27 => ?_)
                    · skip
                      refine wa_iconst ?_
                      refine wa_fall ⟨_, rfl⟩ ?_
                      refine wa_bipush (w_rg2 (by omega) (by omega)) ?_
                      refine wa_cv 237 rfl (wy_pr rfl) wt_237 (M2 := fun _ => False) rfl at_M_must ⟨_, rfl⟩ rfl rfl ⟨(Or.inr ⟨wy_pr rfl, fun q => q⟩), trivial, trivial, trivial, trivial⟩ trivial (fun _ _ q => False.elim q) (must_ok (S := Z) (g := 0) (n := 6) (Or.inl rfl) ⟨by omega, by omega⟩) (fun oq29 Sq29 hp30 q29 => ?_)
                      rcases q29 with ⟨m28, _, _⟩ | ⟨_, rfl, rfl⟩
                      · skip
                        exact absurd m28 (by decide)
                      · skip
                        refine ⟨rfl, ?_⟩
                        repeat (first | rw [if_pos (by omega)] at he | rw [if_neg (by omega)] at he)
                        first | (rw [ty] at he; dsimp only at he) | (rw [if_neg (by rw [gis]; decide)] at he) | skip
                        first | (rw [if_pos (by omega), if_pos goo] at he) | skip
                        exact Or.inr ⟨_, _, he.symm, rfl, hm_ag_hl (hm_ag_lx hm_ag_rf hL), rfl, by first | rfl | exact (show Z 237 7 = p1 from ((lx_E_7 hE)))⟩
                    · skip
                      refine wa_fall ⟨_, rfl⟩ ?_
                      refine wa_iconst ?_
                      refine wa_goto ⟨_, rfl⟩ ?_
                      refine wa_bipush (w_rg2 (by omega) (by omega)) ?_
                      refine wa_cv 237 rfl (wy_pr rfl) wt_237 (M2 := fun _ => False) rfl at_M_must ⟨_, rfl⟩ rfl rfl ⟨(Or.inr ⟨wy_pr rfl, fun q => q⟩), trivial, trivial, trivial, trivial⟩ trivial (fun _ _ q => False.elim q) (must_ok (S := Z) (g := 1) (n := 6) (Or.inr rfl) ⟨by omega, by omega⟩) (fun oq32 Sq32 hp33 q32 => ?_)
                      rcases q32 with ⟨_, rfl, rfl⟩ | ⟨m31, _, _⟩
                      · skip
                        show wJ _ _ _ _ _ _ _ _ _ _
                        refine wa_aload_n (n := 0) rfl ?_
                        refine wb_gf5 237 rfl (wy_pr rfl) wt_237 wf_15_15 (v := 261) (((hL 237 15 (by omega) (by omega)).trans hA15)) (fun r34 => ?_)
                        refine wb_gf4 261 rfl (wy_pr rfl) wt_261 wf_12_12 (v := 272) wl_261_12 ?_
                        refine wa_iload_n (n := 2) rfl ?_
                        refine wa_iload_n (n := 1) rfl ?_
                        refine wb_iast 272 rfl (wy_pr rfl) wt_272 (n := 400) ((ml_272 hE.1.1)) (by omega) (by omega) ⟨(by omega), (by omega)⟩ ?_
                        refine wa_aload_n (n := 0) rfl ?_
                        refine wb_gf5 237 rfl (wy_pr rfl) wt_237 wf_15_15 (v := 261) ((w_up_slot (by decide)).trans (((hL 237 15 (by omega) (by omega)).trans hA15))) (fun r35 => ?_)
                        refine wb_gf4 261 rfl (wy_pr rfl) wt_261 wf_12_14 (v := 274) wl_261_14 ?_
                        refine wa_iload_n (n := 2) rfl ?_
                        refine wa_iload_n (n := 3) rfl ?_
                        refine wb_zast 274 rfl (wy_pr rfl) wt_274 (n := 400) ((w_up_slot (by decide)).trans ((ml_274 hE.1.1))) (by omega) (by omega) ⟨(by omega), (by omega)⟩ ?_
                        refine wa_aload_n (n := 0) rfl ?_
                        refine wb_gf5 237 rfl (wy_pr rfl) wt_237 wf_15_15 (v := 261) ((w_up_slot (by decide)).trans ((w_up_slot (by decide)).trans (((hL 237 15 (by omega) (by omega)).trans hA15)))) (fun r36 => ?_)
                        refine wb_gf4 261 rfl (wy_pr rfl) wt_261 wf_12_19 (v := 279) wl_261_19 ?_
                        refine wa_iload_n (n := 2) rfl ?_
                        refine wa_aload_n (n := 0) rfl ?_
                        refine wb_gfi 237 rfl (wy_pr rfl) wt_237 wf_15_7 (v := p1) ((w_up_slot (by decide)).trans ((w_up_slot (by decide)).trans ((lx_E_7 hE)))) (fun r37 => ?_)
                        refine wb_iast 279 rfl (wy_pr rfl) wt_279 (n := 400) ((w_up_slot (by decide)).trans ((w_up_slot (by decide)).trans ((ml_279 hE.1.1)))) (by omega) (by omega) ⟨(by omega), (by omega)⟩ ?_
                        refine wa_aload_n (n := 0) rfl ?_
                        refine wb_gf5 237 rfl (wy_pr rfl) wt_237 wf_15_15 (v := 261) ((w_up_slot (by decide)).trans ((w_up_slot (by decide)).trans ((w_up_slot (by decide)).trans (((hL 237 15 (by omega) (by omega)).trans hA15))))) (fun r38 => ?_)
                        refine wb_gf4 261 rfl (wy_pr rfl) wt_261 wf_12_20 (v := 280) wl_261_20 ?_
                        refine wa_iload_n (n := 2) rfl ?_
                        refine wa_aload_n (n := 0) rfl ?_
                        refine wb_gfi 237 rfl (wy_pr rfl) wt_237 wf_15_7 (v := p1) ((w_up_slot (by decide)).trans ((w_up_slot (by decide)).trans ((w_up_slot (by decide)).trans ((lx_E_7 hE))))) (fun r39 => ?_)
                        refine wb_iast 280 rfl (wy_pr rfl) wt_280 (n := 400) ((w_up_slot (by decide)).trans ((w_up_slot (by decide)).trans ((w_up_slot (by decide)).trans ((ml_280 hE.1.1))))) (by omega) (by omega) ⟨(by omega), (by omega)⟩ ?_
                        refine wa_aload_n (n := 0) rfl ?_
                        refine wa_ks ?_
                        refine wa_cv 237 rfl (wy_pr rfl) wt_237 (M2 := fun _ => False) rfl at_M_isWord ⟨_, rfl⟩ rfl rfl ⟨(Or.inr ⟨wy_pr rfl, fun q => q⟩), trivial, trivial, trivial, trivial⟩ trivial (fun _ _ q => False.elim q) (isWord_ok (S := (w_up (w_up (w_up (w_up Z 272 m c) 274 m st) 279 m p1) 280 m p1)) (lx_E_up (lx_E_up (lx_E_up (lx_E_up hE (by decide) (by omega)) (by decide) (by omega)) (by decide) (by omega)) (by decide) (by omega)).1.1 (wx_25 hX) (by decide) (lx_I_hp (lx_E_up (lx_E_up (lx_E_up (lx_E_up hE (by decide) (by omega)) (by decide) (by omega)) (by decide) (by omega)) (by decide) (by omega)).1)) (fun oq41 Sq41 hp42 q41 => ?_)
                        rcases q41 with ⟨rfl, ⟨rfl, gw40⟩ | ⟨rfl, gw40⟩⟩
                        · skip
                          show wJ _ _ _ _ _ _ _ _ _ _
                          rw [lx_E_w (lx_E_up (lx_E_up (lx_E_up (lx_E_up hE (by decide) (by omega)) (by decide) (by omega)) (by decide) (by omega)) (by decide) (by omega))] at gw40
                          refine wa_ifeq (w_rg0 (by omega) (by omega)) ⟨_, rfl⟩ (fun c43 => ?_) (fun c43 => ?_)
                          · skip
                            exact absurd c43 (by omega)
                          · skip
                            refine wa_aload_n (n := 0) rfl ?_
                            refine wb_gf5 237 rfl (wy_pr rfl) wt_237 wf_15_15 (v := 261) ((w_up_slot (by decide)).trans ((w_up_slot (by decide)).trans ((w_up_slot (by decide)).trans ((w_up_slot (by decide)).trans (((hL 237 15 (by omega) (by omega)).trans hA15)))))) (fun r44 => ?_)
                            refine wb_gf4 261 rfl (wy_pr rfl) wt_261 wf_12_13 (v := 273) wl_261_13 ?_
                            refine wa_iload_n (n := 2) rfl ?_
                            refine wa_iconst ?_
                            refine wb_iast 273 rfl (wy_pr rfl) wt_273 (n := 400) ((w_up_slot (by decide)).trans ((w_up_slot (by decide)).trans ((w_up_slot (by decide)).trans ((w_up_slot (by decide)).trans ((ml_273 hE.1.1)))))) (by omega) (by omega) ⟨(by omega), (by omega)⟩ ?_
                            refine wa_aload_n (n := 0) rfl ?_
                            refine wb_gf5 237 rfl (wy_pr rfl) wt_237 wf_15_15 (v := 261) ((w_up_slot (by decide)).trans ((w_up_slot (by decide)).trans ((w_up_slot (by decide)).trans ((w_up_slot (by decide)).trans ((w_up_slot (by decide)).trans (((hL 237 15 (by omega) (by omega)).trans hA15))))))) (fun r45 => ?_)
                            refine wa_fall ⟨_, rfl⟩ ?_
                            refine wb_gf4 261 rfl (wy_pr rfl) wt_261 wf_12_15 (v := 275) wl_261_15 ?_
                            refine wa_iload_n (n := 2) rfl ?_
                            refine wa_bipush (w_rg2 (by omega) (by omega)) ?_
                            refine wa_iload_n (n := 1) rfl ?_
                            refine wa_iadd ?_
                            refine wb_iast 275 rfl (wy_pr rfl) wt_275 (n := 400) ((w_up_slot (by decide)).trans ((w_up_slot (by decide)).trans ((w_up_slot (by decide)).trans ((w_up_slot (by decide)).trans ((w_up_slot (by decide)).trans ((ml_275 hE.1.1))))))) (by omega) (by omega) ⟨(by omega), (by omega)⟩ ?_
                            refine wa_aload_n (n := 0) rfl ?_
                            refine wa_cv 237 rfl (wy_pr rfl) wt_237 (M2 := fun _ => False) rfl at_M_next ⟨_, rfl⟩ rfl rfl ⟨(Or.inr ⟨wy_pr rfl, fun q => q⟩), trivial, trivial, trivial, trivial⟩ trivial (fun _ _ q => False.elim q) (nx_I (S := (w_up (w_up (w_up (w_up (w_up (w_up Z 272 m c) 274 m st) 279 m p1) 280 m p1) 273 m 2) 275 m (9 + c))) (lx_E_up (lx_E_up (lx_E_up (lx_E_up (lx_E_up (lx_E_up hE (by decide) (by omega)) (by decide) (by omega)) (by decide) (by omega)) (by decide) (by omega)) (by decide) (by omega)) (by decide) (by omega)).1 (by have e6 : (w_up (w_up (w_up (w_up (w_up (w_up Z 272 m c) 274 m st) 279 m p1) 280 m p1) 273 m 2) 275 m (9 + c)) 237 6 = (zq A p1 237 6) := ((w_up_slot (by decide)).trans ((w_up_slot (by decide)).trans ((w_up_slot (by decide)).trans ((w_up_slot (by decide)).trans ((w_up_slot (by decide)).trans ((w_up_slot (by decide)).trans ((lx_E_6 hE)))))))); first | omega | (have := (lx_is4 gis).1; omega) | (have := lx_w1 hnw; omega))) (fun oq46 Sq46 hp47 q46 => ?_)
                            rcases q46 with ⟨rfl, a1, a2⟩
                            show wJ _ _ _ _ _ _ _ _ _ _
                            rw [lx_E_ne (lx_E_up (lx_E_up (lx_E_up (lx_E_up (lx_E_up (lx_E_up hE (by decide) (by omega)) (by decide) (by omega)) (by decide) (by omega)) (by decide) (by omega)) (by decide) (by omega)) (by decide) (by omega))] at a2
                            have hE48 : lx_E Sq46 A (lx_ne (zq A p1) p1) := lx_E_ag (lx_E_up (lx_E_up (lx_E_up (lx_E_up (lx_E_up (lx_E_up hE (by decide) (by omega)) (by decide) (by omega)) (by decide) (by omega)) (by decide) (by omega)) (by decide) (by omega)) (by decide) (by omega)) a1 a2
                            have hL48 : lx_ag (w_up (w_up (w_up (w_up (w_up (w_up A 272 m c) 274 m st) 279 m p1) 280 m p1) 273 m 2) 275 m (9 + c)) Sq46 := lx_ag_tr (lx_ag_cg (lx_ag_cg (lx_ag_cg (lx_ag_cg (lx_ag_cg (lx_ag_cg hL)))))) a1
                            refine wa_aload_n (n := 0) rfl ?_
                            refine wa_bipush (w_rg2 (by omega) (by omega)) ?_
                            refine wa_cv 237 rfl (wy_pr rfl) wt_237 (M2 := fun _ => False) rfl at_M_takes ⟨_, rfl⟩ rfl rfl ⟨(Or.inr ⟨wy_pr rfl, fun q => q⟩), trivial, trivial, trivial, trivial⟩ trivial (fun _ _ q => False.elim q) (takes_ok (S := Sq46) hE48.1 ⟨by omega, by omega⟩) (fun oq49 Sq49 hp50 q49 => ?_)
                            rcases q49 with ⟨rfl, gk, a1, a2⟩ | ⟨rfl, gk, rfl⟩
                            · skip
                              rw [lx_E_is hE48] at gk
                              have gis := gk
                              have gsv := gis
                              show wJ _ _ _ _ _ _ _ _ _ _
                              rw [lx_E_ne hE48] at a2
                              have hE51 : lx_E Sq49 A (lx_ne (zq A (lx_ne (zq A p1) p1)) (lx_ne (zq A p1) p1)) := lx_E_ag hE48 a1 a2
                              have hL51 : lx_ag (w_up (w_up (w_up (w_up (w_up (w_up A 272 m c) 274 m st) 279 m p1) 280 m p1) 273 m 2) 275 m (9 + c)) Sq49 := lx_ag_tr hL48 a1
                              refine wa_aload_n (n := 0) rfl ?_
                              refine wa_iload_n (n := 1) rfl ?_
                              refine wa_iload_n (n := 2) rfl ?_
                              refine wa_cv 237 rfl (wy_pr rfl) wt_237 (M2 := fun _ => False) rfl at_M_readsParameters ⟨_, rfl⟩ rfl rfl ⟨(Or.inr ⟨wy_pr rfl, fun q => q⟩), trivial, trivial, trivial, trivial⟩ trivial (fun _ _ q => False.elim q) (readsParameters_261 (A := Sq49) (R := pq_k (w_up (w_up (w_up (w_up (w_up (w_up A 272 m c) 274 m st) 279 m p1) 280 m p1) 273 m 2) 275 m (9 + c)) 261 c m (pq_r (w_up (w_up (w_up (w_up (w_up (w_up A 272 m c) 274 m st) 279 m p1) 280 m p1) 273 m 2) 275 m (9 + c)) 261 (lx_ne (zq A (lx_ne (zq A p1) p1)) (lx_ne (zq A p1) p1)))) hX (((hL51 237 15 (by omega) (by omega)).trans hA15)) ⟨by omega, by omega⟩ (ho_mm_ag hm.1 (by decide) hmm (hm_ag_lx (hm_ag_up (hm_ag_up (hm_ag_up (hm_ag_up (hm_ag_up (hm_ag_up hm_ag_rf (by decide) (by omega) (by decide)) (by decide) (by omega) (by decide)) (by decide) (by omega) (by decide)) (by decide) (by omega) (by decide)) (by decide) (by omega) (by decide)) (by decide) (by omega) (by decide)) hL51)) (by have y1 : Sq49 279 m = p1 := (((hL51 279 m (by omega) (by omega)).trans ((w_up_slot (by decide)).trans ((w_up_slot (by decide)).trans ((w_up_slot (by decide)).trans (w_up_same _ _ _ _)))))); have y2 : Sq49 280 m = p1 := (((hL51 280 m (by omega) (by omega)).trans ((w_up_slot (by decide)).trans ((w_up_slot (by decide)).trans (w_up_same _ _ _ _))))); omega) (by rw [show Sq49 268 c = A 268 c from (((hL51 268 c (by omega) (by omega)).trans ((w_up_slot (by decide)).trans ((w_up_slot (by decide)).trans ((w_up_slot (by decide)).trans ((w_up_slot (by decide)).trans ((w_up_slot (by decide)).trans (w_up_slot (by decide)))))))))]; exact hfi) hcc (ho_nm_of hAn ((hL51 261 1 (by omega) (by omega)).trans rfl) (funext fun i => (hL51 270 i (by omega) (by omega)).trans rfl) (funext fun i => (hL51 271 i (by omega) (by omega)).trans rfl)) ⟨hE51.1, rfl, rfl, rfl⟩ (pq_ag hL51 (by decide))) (fun oq52 Sq52 hp53 q52 => ?_)
                              rcases q52 with ⟨q, v, l, hR, rfl, c1, c2, c3, c4⟩ | ⟨e, q, hR, rfl, c1, c2, c3⟩
                              · skip
                                repeat (first | rw [if_pos (by omega)] at he | rw [if_neg (by omega)] at he)
                                first | rw [if_neg (by rw [goo]; decide), if_pos gsv] at he | rw [if_pos gsv] at he | rw [if_neg (by rw [goo]; decide)] at he | skip
                                unfold rm_par at he
                                rw [hR] at he
                                dsimp only at he
                                show wJ _ _ _ _ _ _ _ _ _ _
                                refine wa_goto ⟨_, rfl⟩ ?_
                                exact wJ_S (mem_23_261 hA15 hAm ⟨by omega, by omega⟩ hcc hmy (hm_ag_tr (hm_ag_lx (hm_ag_up (hm_ag_up (hm_ag_up (hm_ag_up (hm_ag_up (hm_ag_up hm_ag_rf (by decide) (by omega) (by decide)) (by decide) (by omega) (by decide)) (by decide) (by omega) (by decide)) (by decide) (by omega) (by decide)) (by decide) (by omega) (by decide)) (by decide) (by omega) (by decide)) hL51) (hp_hm c1)) ⟨c2.1, c2.2.1.trans hE51.2.1, c2.2.2.1.trans hE51.2.2.1, c2.2.2.2.trans hE51.2.2.2⟩ ⟨(c1 272 m (by omega) (by omega) (by omega) (by omega)).trans (((hL51 272 m (by omega) (by omega)).trans ((w_up_slot (by decide)).trans ((w_up_slot (by decide)).trans ((w_up_slot (by decide)).trans ((w_up_slot (by decide)).trans ((w_up_slot (by decide)).trans (w_up_same _ _ _ _)))))))), (c1 273 m (by omega) (by omega) (by omega) (by omega)).trans (((hL51 273 m (by omega) (by omega)).trans ((w_up_slot (by decide)).trans (w_up_same _ _ _ _)))), (c1 274 m (by omega) (by omega) (by omega) (by omega)).trans (((hL51 274 m (by omega) (by omega)).trans ((w_up_slot (by decide)).trans ((w_up_slot (by decide)).trans ((w_up_slot (by decide)).trans ((w_up_slot (by decide)).trans (w_up_same _ _ _ _))))))), (c1 275 m (by omega) (by omega) (by omega) (by omega)).trans (((hL51 275 m (by omega) (by omega)).trans (w_up_same _ _ _ _))), (c1 279 m (by omega) (by omega) (by omega) (by omega)).trans (((hL51 279 m (by omega) (by omega)).trans ((w_up_slot (by decide)).trans ((w_up_slot (by decide)).trans ((w_up_slot (by decide)).trans (w_up_same _ _ _ _)))))), (c1 280 m (by omega) (by omega) (by omega) (by omega)).trans (((hL51 280 m (by omega) (by omega)).trans ((w_up_slot (by decide)).trans ((w_up_slot (by decide)).trans (w_up_same _ _ _ _)))))⟩ c3 c4 he) ⟨rfl, rfl, rfl, trivial⟩
                              · skip
                                repeat (first | rw [if_pos (by omega)] at he | rw [if_neg (by omega)] at he)
                                first | rw [if_neg (by rw [goo]; decide), if_pos gsv] at he | rw [if_pos gsv] at he | rw [if_neg (by rw [goo]; decide)] at he | skip
                                unfold rm_par at he
                                rw [hR] at he
                                dsimp only at he
                                refine ⟨rfl, ?_⟩
                                exact Or.inr ⟨_, _, he.symm, rfl, (hm_ag_tr (hm_ag_lx (hm_ag_up (hm_ag_up (hm_ag_up (hm_ag_up (hm_ag_up (hm_ag_up hm_ag_rf (by decide) (by omega) (by decide)) (by decide) (by omega) (by decide)) (by decide) (by omega) (by decide)) (by decide) (by omega) (by decide)) (by decide) (by omega) (by decide)) (by decide) (by omega) (by decide)) hL51) (hp_hm c1)), c2, c3⟩
                            · skip
                              rw [lx_E_is hE48] at gk
                              have gis := gk
                              have gsv := gis
                              refine ⟨rfl, ?_⟩
                              repeat (first | rw [if_pos (by omega)] at he | rw [if_neg (by omega)] at he)
                              first | (rw [ty] at he; dsimp only at he) | (rw [if_neg (by rw [gis]; decide)] at he) | skip
                              first | (rw [if_pos (by omega), if_pos goo] at he) | skip
                              exact Or.inr ⟨_, _, he.symm, rfl, hm_ag_hl (hm_ag_lx (hm_ag_up (hm_ag_up (hm_ag_up (hm_ag_up (hm_ag_up (hm_ag_up hm_ag_rf (by decide) (by omega) (by decide)) (by decide) (by omega) (by decide)) (by decide) (by omega) (by decide)) (by decide) (by omega) (by decide)) (by decide) (by omega) (by decide)) (by decide) (by omega) (by decide)) hL48), rfl, by first | rfl | exact (show Sq46 237 7 = (lx_ne (zq A p1) p1) from ((lx_E_7 hE48)))⟩
                        · skip
                          rw [lx_E_w (lx_E_up (lx_E_up (lx_E_up (lx_E_up hE (by decide) (by omega)) (by decide) (by omega)) (by decide) (by omega)) (by decide) (by omega))] at gw40
                          exact absurd (gw40.symm.trans hnw) (by decide)
                      · skip
                        exact absurd m31 (by decide)
                · skip
                  rw [lx_E_w hE] at gw21
                  exact absurd (gw21.symm.trans hnw) (by decide)
              · skip
                exact absurd m18 (by decide)
          · skip
            exact absurd c13 (by omega)
        · skip
          rw [lx_E_w hE] at gw10
          exact absurd (gw10.symm.trans hnw) (by decide)
      · skip
        exact absurd m7 (by decide)
    · skip
      refine wa_aload_n (n := 0) rfl ?_
      refine wa_ks ?_
      refine wa_cv 237 rfl (wy_pr rfl) wt_237 (M2 := fun _ => False) rfl at_M_isWord ⟨_, rfl⟩ rfl rfl ⟨(Or.inr ⟨wy_pr rfl, fun q => q⟩), trivial, trivial, trivial, trivial⟩ ⟨(Or.inr ⟨wy_pr rfl, fun q => q⟩), trivial⟩ (fun _ _ q => False.elim q) (isWord_ok (S := Z) hE.1.1 (wx_25 hX) (by decide) (lx_I_hp hE.1)) (fun oq57 Sq57 hp58 q57 => ?_)
      rcases q57 with ⟨rfl, ⟨rfl, gw56⟩ | ⟨rfl, gw56⟩⟩
      · skip
        show wJ _ _ _ _ _ _ _ _ _ _
        rw [lx_E_w hE] at gw56
        refine wa_ifne (w_rg0 (by omega) (by omega)) ⟨_, rfl⟩ (fun c59 => ?_) (fun c59 => ?_)
        · skip
          refine wa_iconst ?_
          refine wa_fall ⟨_, rfl⟩ ?_
          refine wa_iconst ?_
          refine wa_cv 237 rfl (wy_pr rfl) wt_237 (M2 := fun _ => False) rfl at_M_must ⟨_, rfl⟩ rfl rfl ⟨(Or.inr ⟨wy_pr rfl, fun q => q⟩), trivial, trivial, trivial, trivial⟩ trivial (fun _ _ q => False.elim q) (must_ok (S := Z) (g := 0) (n := 1) (Or.inl rfl) ⟨by omega, by omega⟩) (fun oq61 Sq61 hp62 q61 => ?_)
          rcases q61 with ⟨m60, _, _⟩ | ⟨_, rfl, rfl⟩
          · skip
            exact absurd m60 (by decide)
          · skip
            refine ⟨rfl, ?_⟩
            repeat (first | rw [if_pos (by omega)] at he | rw [if_neg (by omega)] at he)
            first | (rw [ty] at he; dsimp only at he) | (rw [if_neg (by rw [gis]; decide)] at he) | skip
            first | (rw [if_pos (by omega), if_pos goo] at he) | skip
            exact Or.inr ⟨_, _, he.symm, rfl, hm_ag_hl (hm_ag_lx hm_ag_rf hL), rfl, by first | rfl | exact (show Z 237 7 = p1 from ((lx_E_7 hE)))⟩
        · skip
          exact absurd c59 (by omega)
      · skip
        rw [lx_E_w hE] at gw56
        exact absurd (gw56.symm.trans hnw) (by decide)
theorem mem_3_ty_261 {c m p1 st : Int} {R : hRM} {Z : wS} (hX : w_X xs) (hA15 : A 237 15 = 261) (hAm : A 261 11 = m) (hm : 0 ≤ m ∧ m ≤ 400) (hmm : ho_mm A 261 m) (hfi : 0 ≤ A 268 c ∧ A 268 c ≤ m) (hcc : 0 ≤ c ∧ c < 60) (hAn : ho_nm A 261) (hmy : 0 ≤ A 269 c ∧ A 269 c ≤ 400) (hst : st = 0 ∨ st = 1) (hE : lx_E Z A p1) (hL : lx_ag A Z) (hnw : lx_w (zq A p1) tx_25 = false) (he : rm_body_261 A c m p1 st = R) : wJ (pe_GA xs) wY0 M (d + 7) t_M_readsMember ((pe_at t_M_readsMember.bl 3).getD (0, [])).2 [(0, (2, 237)), (1, (0, c)), (2, (0, m)), (3, (0, st))] [] Z (fun o S2 => (∃ (p2 so st ty v f e : Int) (l : List Int), R = .inr (p2, so, st, ty, l, v, f, e) ∧ o = .inl none ∧ hM_ag 261 c m A S2 ∧ lx_E S2 A p2 ∧ S2 261 11 = m + 1 ∧ S2 269 c = A 269 c + 1 ∧ hm_rec 261 m S2 c so st ty f e ∧ hm_ps 261 m S2 l v ∧ l.length ≤ 8) ∨ (∃ e q : Int, R = .inl (e, q) ∧ o = .inr 238 ∧ hm_ag 261 m A S2 ∧ S2 238 5 = e ∧ S2 238 6 = q)) := by
  rw [rm_ty_261 hnw] at he
  have hpp := hE.1.2.2.1
  have hnn := hE.1.2.1
  have hp8 := lx_I_hp hE.1
  refine wa_aload_n (n := 0) rfl ?_
  refine wa_aload_n (n := 0) rfl ?_
  refine wb_gfi 237 rfl (wy_pr rfl) wt_237 wf_15_6 (v := (zq A p1 237 6)) ((lx_E_6 hE)) (fun r1 => ?_)
  refine wa_iconst ?_
  refine wa_icmpne (w_rg0 (by omega) (by omega)) (w_rg0 (by omega) (by omega)) ⟨_, rfl⟩ (fun c2 => ?_) (fun c2 => ?_)
  · skip
    refine wa_iconst ?_
    refine wa_fall ⟨_, rfl⟩ ?_
    refine wa_iconst ?_
    refine wa_cv 237 rfl (wy_pr rfl) wt_237 (M2 := fun _ => False) rfl at_M_must ⟨_, rfl⟩ rfl rfl ⟨(Or.inr ⟨wy_pr rfl, fun q => q⟩), trivial, trivial, trivial, trivial⟩ trivial (fun _ _ q => False.elim q) (must_ok (S := Z) (g := 0) (n := 1) (Or.inl rfl) ⟨by omega, by omega⟩) (fun oq4 Sq4 hp5 q4 => ?_)
    rcases q4 with ⟨m3, _, _⟩ | ⟨_, rfl, rfl⟩
    · skip
      exact absurd m3 (by decide)
    · skip
      refine ⟨rfl, ?_⟩
      repeat (first | rw [if_pos (by omega)] at he | rw [if_neg (by omega)] at he)
      first | (rw [ty] at he; dsimp only at he) | (rw [if_neg (by rw [gis]; decide)] at he) | skip
      first | (rw [if_pos (by omega), if_pos goo] at he) | skip
      exact Or.inr ⟨_, _, he.symm, rfl, hm_ag_hl (hm_ag_lx hm_ag_rf hL), rfl, by first | rfl | exact (show Z 237 7 = p1 from ((lx_E_7 hE)))⟩
  · skip
    refine wa_iload_n (n := 3) rfl ?_
    refine wa_ifeq (w_rg0 (by omega) (by omega)) ⟨_, rfl⟩ (fun c6 => ?_) (fun c6 => ?_)
    · skip
      refine wa_iconst ?_
      refine wa_goto ⟨_, rfl⟩ ?_
      refine wa_iconst ?_
      refine wa_cv 237 rfl (wy_pr rfl) wt_237 (M2 := fun _ => False) rfl at_M_must ⟨_, rfl⟩ rfl rfl ⟨(Or.inr ⟨wy_pr rfl, fun q => q⟩), trivial, trivial, trivial, trivial⟩ trivial (fun _ _ q => False.elim q) (must_ok (S := Z) (g := 1) (n := 1) (Or.inr rfl) ⟨by omega, by omega⟩) (fun oq8 Sq8 hp9 q8 => ?_)
      rcases q8 with ⟨_, rfl, rfl⟩ | ⟨m7, _, _⟩
      · skip
        show wJ _ _ _ _ _ _ _ _ _ _
        refine wa_aload_n (n := 0) rfl ?_
        refine wa_ks ?_
        refine wa_cv 237 rfl (wy_pr rfl) wt_237 (M2 := fun _ => False) rfl at_M_isWord ⟨_, rfl⟩ rfl rfl ⟨(Or.inr ⟨wy_pr rfl, fun q => q⟩), trivial, trivial, trivial, trivial⟩ trivial (fun _ _ q => False.elim q) (isWord_ok (S := Z) hE.1.1 (wx_25 hX) (by decide) (lx_I_hp hE.1)) (fun oq11 Sq11 hp12 q11 => ?_)
        rcases q11 with ⟨rfl, ⟨rfl, gw10⟩ | ⟨rfl, gw10⟩⟩
        · skip
          rw [lx_E_w hE] at gw10
          exact absurd (gw10.symm.trans hnw) (by decide)
        · skip
          show wJ _ _ _ _ _ _ _ _ _ _
          rw [lx_E_w hE] at gw10
          refine wa_ifne (w_rg0 (by omega) (by omega)) ⟨_, rfl⟩ (fun c13 => ?_) (fun c13 => ?_)
          · skip
            exact absurd c13 (by omega)
          · skip
            refine wa_aload_n (n := 0) rfl ?_
            refine wa_aload_n (n := 0) rfl ?_
            refine wa_ks ?_
            refine wa_cv 237 rfl (wy_pr rfl) wt_237 (M2 := fun _ => False) rfl at_M_place ⟨_, rfl⟩ rfl rfl ⟨(Or.inr ⟨wy_pr rfl, fun q => q⟩), trivial, trivial, trivial, trivial⟩ ⟨(Or.inr ⟨wy_pr rfl, fun q => q⟩), trivial⟩ (fun _ _ q => False.elim q) (place_ok (S := Z) hE.1.1 (wx_27 hX) (by decide) (by decide) (lx_I_hp hE.1) (by decide)) (fun oq14 Sq14 hp15 q14 => ?_)
            rcases q14 with ⟨rfl, rfl⟩
            show wJ _ _ _ _ _ _ _ _ _ _
            rw [lx_E_pl hE]
            have hpl := pl_of_rg (zq A p1) tx_27 (by decide)
            refine wa_ifge (w_rg0 (by omega) (by omega)) ⟨_, rfl⟩ (fun c16 => ?_) (fun c16 => ?_)
            · skip
              refine wa_iconst ?_
              refine wa_goto ⟨_, rfl⟩ ?_
              refine wa_iconst ?_
              refine wa_cv 237 rfl (wy_pr rfl) wt_237 (M2 := fun _ => False) rfl at_M_must ⟨_, rfl⟩ rfl rfl ⟨(Or.inr ⟨wy_pr rfl, fun q => q⟩), trivial, trivial, trivial, trivial⟩ trivial (fun _ _ q => False.elim q) (must_ok (S := Z) (g := 1) (n := 3) (Or.inr rfl) ⟨by omega, by omega⟩) (fun oq18 Sq18 hp19 q18 => ?_)
              rcases q18 with ⟨_, rfl, rfl⟩ | ⟨m17, _, _⟩
              · skip
                show wJ _ _ _ _ _ _ _ _ _ _
                refine wa_fall ⟨_, rfl⟩ ?_
                refine wa_aload_n (n := 0) rfl ?_
                refine wa_iload_n (n := 2) rfl ?_
                refine wa_sipush (by omega) ?_
                refine wa_icmpge (w_rg0 (by omega) (by omega)) (w_rg0 (by omega) (by omega)) ⟨_, rfl⟩ (fun c20 => ?_) (fun c20 => ?_)
                · skip
                  refine wa_iconst ?_
                  refine wa_fall ⟨_, rfl⟩ ?_
                  refine wa_iconst ?_
                  refine wa_cv 237 rfl (wy_pr rfl) wt_237 (M2 := fun _ => False) rfl at_M_must ⟨_, rfl⟩ rfl rfl ⟨(Or.inr ⟨wy_pr rfl, fun q => q⟩), trivial, trivial, trivial, trivial⟩ trivial (fun _ _ q => False.elim q) (must_ok (S := Z) (g := 0) (n := 5) (Or.inl rfl) ⟨by omega, by omega⟩) (fun oq22 Sq22 hp23 q22 => ?_)
                  rcases q22 with ⟨m21, _, _⟩ | ⟨_, rfl, rfl⟩
                  · skip
                    exact absurd m21 (by decide)
                  · skip
                    refine ⟨rfl, ?_⟩
                    repeat (first | rw [if_pos (by omega)] at he | rw [if_neg (by omega)] at he)
                    first | (rw [ty] at he; dsimp only at he) | (rw [if_neg (by rw [gis]; decide)] at he) | skip
                    first | (rw [if_pos (by omega), if_pos goo] at he) | skip
                    exact Or.inr ⟨_, _, he.symm, rfl, hm_ag_hl (hm_ag_lx hm_ag_rf hL), rfl, by first | rfl | exact (show Z 237 7 = p1 from ((lx_E_7 hE)))⟩
                · skip
                  refine wa_iconst ?_
                  refine wa_goto ⟨_, rfl⟩ ?_
                  refine wa_iconst ?_
                  refine wa_cv 237 rfl (wy_pr rfl) wt_237 (M2 := fun _ => False) rfl at_M_must ⟨_, rfl⟩ rfl rfl ⟨(Or.inr ⟨wy_pr rfl, fun q => q⟩), trivial, trivial, trivial, trivial⟩ trivial (fun _ _ q => False.elim q) (must_ok (S := Z) (g := 1) (n := 5) (Or.inr rfl) ⟨by omega, by omega⟩) (fun oq25 Sq25 hp26 q25 => ?_)
                  rcases q25 with ⟨_, rfl, rfl⟩ | ⟨m24, _, _⟩
                  · skip
                    show wJ _ _ _ _ _ _ _ _ _ _
                    refine wa_aload_n (n := 0) rfl ?_
                    refine wa_aload_n (n := 0) rfl ?_
                    refine wa_ks ?_
                    refine wa_cv 237 rfl (wy_pr rfl) wt_237 (M2 := fun _ => False) rfl at_M_isWord ⟨_, rfl⟩ rfl rfl ⟨(Or.inr ⟨wy_pr rfl, fun q => q⟩), trivial, trivial, trivial, trivial⟩ ⟨(Or.inr ⟨wy_pr rfl, fun q => q⟩), trivial⟩ (fun _ _ q => False.elim q) (isWord_ok (S := Z) hE.1.1 (wx_25 hX) (by decide) (lx_I_hp hE.1)) (fun oq28 Sq28 hp29 q28 => ?_)
                    rcases q28 with ⟨rfl, ⟨rfl, gw27⟩ | ⟨rfl, gw27⟩⟩
                    · skip
                      rw [lx_E_w hE] at gw27
                      exact absurd (gw27.symm.trans hnw) (by decide)
                    · skip
                      show wJ _ _ _ _ _ _ _ _ _ _
                      rw [lx_E_w hE] at gw27
                      refine wa_ifeq (w_rg0 (by omega) (by omega)) ⟨_, rfl⟩ (fun c30 => ?_) (fun c30 => ?_)
                      · skip
                        refine wa_iconst ?_
                        refine wa_goto ⟨_, rfl⟩ ?_
                        refine wa_bipush (w_rg2 (by omega) (by omega)) ?_
                        refine wa_cv 237 rfl (wy_pr rfl) wt_237 (M2 := fun _ => False) rfl at_M_must ⟨_, rfl⟩ rfl rfl ⟨(Or.inr ⟨wy_pr rfl, fun q => q⟩), trivial, trivial, trivial, trivial⟩ trivial (fun _ _ q => False.elim q) (must_ok (S := Z) (g := 1) (n := 6) (Or.inr rfl) ⟨by omega, by omega⟩) (fun oq32 Sq32 hp33 q32 => ?_)
                        rcases q32 with ⟨_, rfl, rfl⟩ | ⟨m31, _, _⟩
                        · skip
                          show wJ _ _ _ _ _ _ _ _ _ _
                          refine wa_aload_n (n := 0) rfl ?_
                          refine wb_gf5 237 rfl (wy_pr rfl) wt_237 wf_15_15 (v := 261) (((hL 237 15 (by omega) (by omega)).trans hA15)) (fun r34 => ?_)
                          refine wb_gf4 261 rfl (wy_pr rfl) wt_261 wf_12_12 (v := 272) wl_261_12 ?_
                          refine wa_iload_n (n := 2) rfl ?_
                          refine wa_iload_n (n := 1) rfl ?_
                          refine wb_iast 272 rfl (wy_pr rfl) wt_272 (n := 400) ((ml_272 hE.1.1)) (by omega) (by omega) ⟨(by omega), (by omega)⟩ ?_
                          refine wa_aload_n (n := 0) rfl ?_
                          refine wb_gf5 237 rfl (wy_pr rfl) wt_237 wf_15_15 (v := 261) ((w_up_slot (by decide)).trans (((hL 237 15 (by omega) (by omega)).trans hA15))) (fun r35 => ?_)
                          refine wb_gf4 261 rfl (wy_pr rfl) wt_261 wf_12_14 (v := 274) wl_261_14 ?_
                          refine wa_iload_n (n := 2) rfl ?_
                          refine wa_iload_n (n := 3) rfl ?_
                          refine wb_zast 274 rfl (wy_pr rfl) wt_274 (n := 400) ((w_up_slot (by decide)).trans ((ml_274 hE.1.1))) (by omega) (by omega) ⟨(by omega), (by omega)⟩ ?_
                          refine wa_aload_n (n := 0) rfl ?_
                          refine wb_gf5 237 rfl (wy_pr rfl) wt_237 wf_15_15 (v := 261) ((w_up_slot (by decide)).trans ((w_up_slot (by decide)).trans (((hL 237 15 (by omega) (by omega)).trans hA15)))) (fun r36 => ?_)
                          refine wb_gf4 261 rfl (wy_pr rfl) wt_261 wf_12_19 (v := 279) wl_261_19 ?_
                          refine wa_iload_n (n := 2) rfl ?_
                          refine wa_aload_n (n := 0) rfl ?_
                          refine wb_gfi 237 rfl (wy_pr rfl) wt_237 wf_15_7 (v := p1) ((w_up_slot (by decide)).trans ((w_up_slot (by decide)).trans ((lx_E_7 hE)))) (fun r37 => ?_)
                          refine wb_iast 279 rfl (wy_pr rfl) wt_279 (n := 400) ((w_up_slot (by decide)).trans ((w_up_slot (by decide)).trans ((ml_279 hE.1.1)))) (by omega) (by omega) ⟨(by omega), (by omega)⟩ ?_
                          refine wa_aload_n (n := 0) rfl ?_
                          refine wb_gf5 237 rfl (wy_pr rfl) wt_237 wf_15_15 (v := 261) ((w_up_slot (by decide)).trans ((w_up_slot (by decide)).trans ((w_up_slot (by decide)).trans (((hL 237 15 (by omega) (by omega)).trans hA15))))) (fun r38 => ?_)
                          refine wb_gf4 261 rfl (wy_pr rfl) wt_261 wf_12_20 (v := 280) wl_261_20 ?_
                          refine wa_iload_n (n := 2) rfl ?_
                          refine wa_aload_n (n := 0) rfl ?_
                          refine wb_gfi 237 rfl (wy_pr rfl) wt_237 wf_15_7 (v := p1) ((w_up_slot (by decide)).trans ((w_up_slot (by decide)).trans ((w_up_slot (by decide)).trans ((lx_E_7 hE))))) (fun r39 => ?_)
                          refine wb_iast 280 rfl (wy_pr rfl) wt_280 (n := 400) ((w_up_slot (by decide)).trans ((w_up_slot (by decide)).trans ((w_up_slot (by decide)).trans ((ml_280 hE.1.1))))) (by omega) (by omega) ⟨(by omega), (by omega)⟩ ?_
                          refine wa_aload_n (n := 0) rfl ?_
                          refine wa_ks ?_
                          refine wa_cv 237 rfl (wy_pr rfl) wt_237 (M2 := fun _ => False) rfl at_M_isWord ⟨_, rfl⟩ rfl rfl ⟨(Or.inr ⟨wy_pr rfl, fun q => q⟩), trivial, trivial, trivial, trivial⟩ trivial (fun _ _ q => False.elim q) (isWord_ok (S := (w_up (w_up (w_up (w_up Z 272 m c) 274 m st) 279 m p1) 280 m p1)) (lx_E_up (lx_E_up (lx_E_up (lx_E_up hE (by decide) (by omega)) (by decide) (by omega)) (by decide) (by omega)) (by decide) (by omega)).1.1 (wx_25 hX) (by decide) (lx_I_hp (lx_E_up (lx_E_up (lx_E_up (lx_E_up hE (by decide) (by omega)) (by decide) (by omega)) (by decide) (by omega)) (by decide) (by omega)).1)) (fun oq41 Sq41 hp42 q41 => ?_)
                          rcases q41 with ⟨rfl, ⟨rfl, gw40⟩ | ⟨rfl, gw40⟩⟩
                          · skip
                            rw [lx_E_w (lx_E_up (lx_E_up (lx_E_up (lx_E_up hE (by decide) (by omega)) (by decide) (by omega)) (by decide) (by omega)) (by decide) (by omega))] at gw40
                            exact absurd (gw40.symm.trans hnw) (by decide)
                          · skip
                            show wJ _ _ _ _ _ _ _ _ _ _
                            rw [lx_E_w (lx_E_up (lx_E_up (lx_E_up (lx_E_up hE (by decide) (by omega)) (by decide) (by omega)) (by decide) (by omega)) (by decide) (by omega))] at gw40
                            refine wa_ifeq (w_rg0 (by omega) (by omega)) ⟨_, rfl⟩ (fun c43 => ?_) (fun c43 => ?_)
                            · skip
                              refine wa_aload_n (n := 0) rfl ?_
                              refine wb_gf5 237 rfl (wy_pr rfl) wt_237 wf_15_15 (v := 261) ((w_up_slot (by decide)).trans ((w_up_slot (by decide)).trans ((w_up_slot (by decide)).trans ((w_up_slot (by decide)).trans (((hL 237 15 (by omega) (by omega)).trans hA15)))))) (fun r44 => ?_)
                              refine wb_gf4 261 rfl (wy_pr rfl) wt_261 wf_12_15 (v := 275) wl_261_15 ?_
                              refine wa_iload_n (n := 2) rfl ?_
                              refine wa_aload_n (n := 0) rfl ?_
                              refine wa_iconst ?_
                              refine wa_cv 237 rfl (wy_pr rfl) wt_237 (M2 := fun _ => False) rfl at_M_readsType ⟨_, rfl⟩ rfl rfl ⟨(Or.inr ⟨wy_pr rfl, fun q => q⟩), trivial, trivial, trivial, trivial⟩ ⟨trivial, (Or.inr ⟨wy_pr rfl, fun q => q⟩), trivial⟩ (fun _ _ q => False.elim q) (readsType_261 (S := (w_up (w_up (w_up (w_up Z 272 m c) 274 m st) 279 m p1) 280 m p1)) hX (lx_E_up (lx_E_up (lx_E_up (lx_E_up hE (by decide) (by omega)) (by decide) (by omega)) (by decide) (by omega)) (by decide) (by omega)).1 ((w_up_slot (by decide)).trans ((w_up_slot (by decide)).trans ((w_up_slot (by decide)).trans ((w_up_slot (by decide)).trans (((hL 237 15 (by omega) (by omega)).trans hA15)))))) (ho_nm_of hAn (((lx_ag_cg (lx_ag_cg (lx_ag_cg (lx_ag_cg hL)))) 261 1 (by omega) (by omega)).trans rfl) (funext fun i => ((lx_ag_cg (lx_ag_cg (lx_ag_cg (lx_ag_cg hL)))) 270 i (by omega) (by omega)).trans rfl) (funext fun i => ((lx_ag_cg (lx_ag_cg (lx_ag_cg (lx_ag_cg hL)))) 271 i (by omega) (by omega)).trans rfl)) (Or.inr rfl) rfl) (fun oq45 Sq45 hp46 q45 => ?_)
                              rcases q45 with ⟨t, p2, ty, rfl, a1, a2⟩ | ⟨t, p2, ty, rfl, rfl⟩
                              · skip
                                rw [lx_E_type (b := 261) (lx_E_up (lx_E_up (lx_E_up (lx_E_up hE (by decide) (by omega)) (by decide) (by omega)) (by decide) (by omega)) (by decide) (by omega)) (by decide) (((lx_ag_cg (lx_ag_cg (lx_ag_cg (lx_ag_cg hL)))) 261 1 (by omega) (by omega)).trans rfl) (funext fun i => ((lx_ag_cg (lx_ag_cg (lx_ag_cg (lx_ag_cg hL)))) 270 i (by omega) (by omega)).trans rfl) (funext fun i => ((lx_ag_cg (lx_ag_cg (lx_ag_cg (lx_ag_cg hL)))) 271 i (by omega) (by omega)).trans rfl)] at ty
                                show wJ _ _ _ _ _ _ _ _ _ _
                                repeat (first | rw [if_pos (by omega)] at he | rw [if_neg (by omega)] at he)
                                rw [ty] at he
                                dsimp only at he
                                obtain ⟨t0, t1, t2, t3⟩ := hy_type_rg (show zq A p1 261 1 ≤ 60 from hAn.1.2) ty
                                have hE47 : lx_E Sq45 A p2 := lx_E_ag (lx_E_up (lx_E_up (lx_E_up (lx_E_up hE (by decide) (by omega)) (by decide) (by omega)) (by decide) (by omega)) (by decide) (by omega)) a1 a2
                                have hL47 : lx_ag (w_up (w_up (w_up (w_up A 272 m c) 274 m st) 279 m p1) 280 m p1) Sq45 := lx_ag_tr (lx_ag_cg (lx_ag_cg (lx_ag_cg (lx_ag_cg hL)))) a1
                                have bp2 := hE47.1.2.2.1
                                have bn2 := hE47.1.2.1
                                have b82 : 0 ≤ Sq45 237 8 ∧ Sq45 237 8 ≤ 65540 := (lx_I_hp hE47.1).2.2
                                rw [lx_E_8 hE47] at b82
                                have b83 : p2 ≤ zq A p2 237 8 := (lx_en_le (T := A 239) (h := A 237 5) (by rw [← hE47.2.2.1]; exact bp2.2)).1
                                refine wb_iast 275 rfl (wy_pr rfl) wt_275 (n := 400) ((ml_275 hE47.1.1)) (by omega) (by omega) ⟨(by omega), (by omega)⟩ ?_
                                refine wa_aload_n (n := 0) rfl ?_
                                refine wa_aload_n (n := 0) rfl ?_
                                refine wb_gfi 237 rfl (wy_pr rfl) wt_237 wf_15_6 (v := (zq A p2 237 6)) ((w_up_slot (by decide)).trans ((lx_E_6 hE47))) (fun r48 => ?_)
                                refine wa_iconst ?_
                                refine wa_icmpne (w_rg0 (by omega) (by omega)) (w_rg0 (by omega) (by omega)) ⟨_, rfl⟩ (fun c49 => ?_) (fun c49 => ?_)
                                · skip
                                  refine wa_iconst ?_
                                  refine wa_fall ⟨_, rfl⟩ ?_
                                  refine wa_iconst ?_
                                  refine wa_cv 237 rfl (wy_pr rfl) wt_237 (M2 := fun _ => False) rfl at_M_must ⟨_, rfl⟩ rfl rfl ⟨(Or.inr ⟨wy_pr rfl, fun q => q⟩), trivial, trivial, trivial, trivial⟩ trivial (fun _ _ q => False.elim q) (must_ok (S := (w_up Sq45 275 m t)) (g := 0) (n := 1) (Or.inl rfl) ⟨by omega, by omega⟩) (fun oq51 Sq51 hp52 q51 => ?_)
                                  rcases q51 with ⟨m50, _, _⟩ | ⟨_, rfl, rfl⟩
                                  · skip
                                    exact absurd m50 (by decide)
                                  · skip
                                    refine ⟨rfl, ?_⟩
                                    repeat (first | rw [if_pos (by omega)] at he | rw [if_neg (by omega)] at he)
                                    first | (rw [ty] at he; dsimp only at he) | (rw [if_neg (by rw [gis]; decide)] at he) | skip
                                    first | (rw [if_pos (by omega), if_pos goo] at he) | skip
                                    exact Or.inr ⟨_, _, he.symm, rfl, hm_ag_hl (hm_ag_up (hm_ag_lx (hm_ag_up (hm_ag_up (hm_ag_up (hm_ag_up hm_ag_rf (by decide) (by omega) (by decide)) (by decide) (by omega) (by decide)) (by decide) (by omega) (by decide)) (by decide) (by omega) (by decide)) hL47) (by decide) (by omega) (by decide)), rfl, by first | rfl | exact (show (w_up Sq45 275 m t) 237 7 = p2 from ((w_up_slot (by decide)).trans ((lx_E_7 hE47))))⟩
                                · skip
                                  refine wa_iconst ?_
                                  refine wa_goto ⟨_, rfl⟩ ?_
                                  refine wa_iconst ?_
                                  refine wa_cv 237 rfl (wy_pr rfl) wt_237 (M2 := fun _ => False) rfl at_M_must ⟨_, rfl⟩ rfl rfl ⟨(Or.inr ⟨wy_pr rfl, fun q => q⟩), trivial, trivial, trivial, trivial⟩ trivial (fun _ _ q => False.elim q) (must_ok (S := (w_up Sq45 275 m t)) (g := 1) (n := 1) (Or.inr rfl) ⟨by omega, by omega⟩) (fun oq54 Sq54 hp55 q54 => ?_)
                                  rcases q54 with ⟨_, rfl, rfl⟩ | ⟨m53, _, _⟩
                                  · skip
                                    show wJ _ _ _ _ _ _ _ _ _ _
                                    refine wa_aload_n (n := 0) rfl ?_
                                    refine wa_aload_n (n := 0) rfl ?_
                                    refine wa_ks ?_
                                    refine wa_cv 237 rfl (wy_pr rfl) wt_237 (M2 := fun _ => False) rfl at_M_isOneOf ⟨_, rfl⟩ rfl rfl ⟨(Or.inr ⟨wy_pr rfl, fun q => q⟩), trivial, trivial, trivial, trivial⟩ ⟨(Or.inr ⟨wy_pr rfl, fun q => q⟩), trivial⟩ (fun _ _ q => False.elim q) (isOneOf_ok (S := (w_up Sq45 275 m t)) (lx_E_up hE47 (by decide) (by omega)).1.1 (wx_21 hX) (by decide) (by decide) (lx_I_hp (lx_E_up hE47 (by decide) (by omega)).1) (by decide)) (fun oq57 Sq57 hp58 q57 => ?_)
                                    rcases q57 with ⟨rfl, ⟨rfl, go56⟩ | ⟨rfl, go56⟩⟩
                                    · skip
                                      show wJ _ _ _ _ _ _ _ _ _ _
                                      rw [lx_E_oo (lx_E_up hE47 (by decide) (by omega))] at go56
                                      have goo := go56
                                      refine wa_ifne (w_rg0 (by omega) (by omega)) ⟨_, rfl⟩ (fun c59 => ?_) (fun c59 => ?_)
                                      · skip
                                        refine wa_iconst ?_
                                        refine wa_fall ⟨_, rfl⟩ ?_
                                        refine wa_iconst ?_
                                        refine wa_cv 237 rfl (wy_pr rfl) wt_237 (M2 := fun _ => False) rfl at_M_must ⟨_, rfl⟩ rfl rfl ⟨(Or.inr ⟨wy_pr rfl, fun q => q⟩), trivial, trivial, trivial, trivial⟩ trivial (fun _ _ q => False.elim q) (must_ok (S := (w_up Sq45 275 m t)) (g := 0) (n := 2) (Or.inl rfl) ⟨by omega, by omega⟩) (fun oq61 Sq61 hp62 q61 => ?_)
                                        rcases q61 with ⟨m60, _, _⟩ | ⟨_, rfl, rfl⟩
                                        · skip
                                          exact absurd m60 (by decide)
                                        · skip
                                          refine ⟨rfl, ?_⟩
                                          repeat (first | rw [if_pos (by omega)] at he | rw [if_neg (by omega)] at he)
                                          first | (rw [ty] at he; dsimp only at he) | (rw [if_neg (by rw [gis]; decide)] at he) | skip
                                          first | (rw [if_pos (by omega), if_pos goo] at he) | skip
                                          exact Or.inr ⟨_, _, he.symm, rfl, hm_ag_hl (hm_ag_up (hm_ag_lx (hm_ag_up (hm_ag_up (hm_ag_up (hm_ag_up hm_ag_rf (by decide) (by omega) (by decide)) (by decide) (by omega) (by decide)) (by decide) (by omega) (by decide)) (by decide) (by omega) (by decide)) hL47) (by decide) (by omega) (by decide)), rfl, by first | rfl | exact (show (w_up Sq45 275 m t) 237 7 = p2 from ((w_up_slot (by decide)).trans ((lx_E_7 hE47))))⟩
                                      · skip
                                        exact absurd c59 (by omega)
                                    · skip
                                      show wJ _ _ _ _ _ _ _ _ _ _
                                      rw [lx_E_oo (lx_E_up hE47 (by decide) (by omega))] at go56
                                      have goo := go56
                                      refine wa_ifne (w_rg0 (by omega) (by omega)) ⟨_, rfl⟩ (fun c63 => ?_) (fun c63 => ?_)
                                      · skip
                                        exact absurd c63 (by omega)
                                      · skip
                                        refine wa_iconst ?_
                                        refine wa_goto ⟨_, rfl⟩ ?_
                                        refine wa_iconst ?_
                                        refine wa_cv 237 rfl (wy_pr rfl) wt_237 (M2 := fun _ => False) rfl at_M_must ⟨_, rfl⟩ rfl rfl ⟨(Or.inr ⟨wy_pr rfl, fun q => q⟩), trivial, trivial, trivial, trivial⟩ trivial (fun _ _ q => False.elim q) (must_ok (S := (w_up Sq45 275 m t)) (g := 1) (n := 2) (Or.inr rfl) ⟨by omega, by omega⟩) (fun oq65 Sq65 hp66 q65 => ?_)
                                        rcases q65 with ⟨_, rfl, rfl⟩ | ⟨m64, _, _⟩
                                        · skip
                                          show wJ _ _ _ _ _ _ _ _ _ _
                                          refine wa_aload_n (n := 0) rfl ?_
                                          refine wb_gfi 237 rfl (wy_pr rfl) wt_237 wf_15_7 (v := p2) ((w_up_slot (by decide)).trans ((lx_E_7 hE47))) (fun r67 => ?_)
                                          refine wa_istore (n := 4) rfl ?_
                                          refine wa_aload_n (n := 0) rfl ?_
                                          refine wb_gf5 237 rfl (wy_pr rfl) wt_237 wf_15_15 (v := 261) ((w_up_slot (by decide)).trans (((hL47 237 15 (by omega) (by omega)).trans hA15))) (fun r68 => ?_)
                                          refine wb_gf4 261 rfl (wy_pr rfl) wt_261 wf_12_19 (v := 279) wl_261_19 ?_
                                          refine wa_iload_n (n := 2) rfl ?_
                                          refine wa_aload_n (n := 0) rfl ?_
                                          refine wb_gfi 237 rfl (wy_pr rfl) wt_237 wf_15_7 (v := p2) ((w_up_slot (by decide)).trans ((lx_E_7 hE47))) (fun r69 => ?_)
                                          refine wb_iast 279 rfl (wy_pr rfl) wt_279 (n := 400) ((w_up_slot (by decide)).trans ((ml_279 hE47.1.1))) (by omega) (by omega) ⟨(by omega), (by omega)⟩ ?_
                                          refine wa_aload_n (n := 0) rfl ?_
                                          refine wb_gf5 237 rfl (wy_pr rfl) wt_237 wf_15_15 (v := 261) ((w_up_slot (by decide)).trans ((w_up_slot (by decide)).trans (((hL47 237 15 (by omega) (by omega)).trans hA15)))) (fun r70 => ?_)
                                          refine wb_gf4 261 rfl (wy_pr rfl) wt_261 wf_12_20 (v := 280) wl_261_20 ?_
                                          refine wa_iload_n (n := 2) rfl ?_
                                          refine wa_aload_n (n := 0) rfl ?_
                                          refine wb_gfi 237 rfl (wy_pr rfl) wt_237 wf_15_8 (v := (zq A p2 237 8)) ((w_up_slot (by decide)).trans ((w_up_slot (by decide)).trans ((lx_E_8 hE47)))) (fun r71 => ?_)
                                          refine wb_iast 280 rfl (wy_pr rfl) wt_280 (n := 400) ((w_up_slot (by decide)).trans ((w_up_slot (by decide)).trans ((ml_280 hE47.1.1)))) (by omega) (by omega) ⟨(by omega), (by omega)⟩ ?_
                                          refine wa_aload_n (n := 0) rfl ?_
                                          refine wa_cv 237 rfl (wy_pr rfl) wt_237 (M2 := fun _ => False) rfl at_M_next ⟨_, rfl⟩ rfl rfl ⟨trivial, (Or.inr ⟨wy_pr rfl, fun q => q⟩), trivial, trivial, trivial, trivial⟩ trivial (fun _ _ q => False.elim q) (nx_I (S := (w_up (w_up (w_up Sq45 275 m t) 279 m p2) 280 m (zq A p2 237 8))) (lx_E_up (lx_E_up (lx_E_up hE47 (by decide) (by omega)) (by decide) (by omega)) (by decide) (by omega)).1 (by have e6 : (w_up (w_up (w_up Sq45 275 m t) 279 m p2) 280 m (zq A p2 237 8)) 237 6 = (zq A p2 237 6) := ((w_up_slot (by decide)).trans ((w_up_slot (by decide)).trans ((w_up_slot (by decide)).trans ((lx_E_6 hE47))))); first | omega | (have := (lx_is4 gis).1; omega) | (have := lx_w1 hnw; omega))) (fun oq72 Sq72 hp73 q72 => ?_)
                                          rcases q72 with ⟨rfl, a1, a2⟩
                                          show wJ _ _ _ _ _ _ _ _ _ _
                                          rw [lx_E_ne (lx_E_up (lx_E_up (lx_E_up hE47 (by decide) (by omega)) (by decide) (by omega)) (by decide) (by omega))] at a2
                                          have hE74 : lx_E Sq72 A (lx_ne (zq A p2) p2) := lx_E_ag (lx_E_up (lx_E_up (lx_E_up hE47 (by decide) (by omega)) (by decide) (by omega)) (by decide) (by omega)) a1 a2
                                          have hL74 : lx_ag (w_up (w_up (w_up (w_up (w_up (w_up (w_up A 272 m c) 274 m st) 279 m p1) 280 m p1) 275 m t) 279 m p2) 280 m (zq A p2 237 8)) Sq72 := lx_ag_tr (lx_ag_cg (lx_ag_cg (lx_ag_cg hL47))) a1
                                          refine wa_aload_n (n := 0) rfl ?_
                                          refine wa_bipush (w_rg2 (by omega) (by omega)) ?_
                                          refine wa_cv 237 rfl (wy_pr rfl) wt_237 (M2 := fun _ => False) rfl at_M_isSign ⟨_, rfl⟩ rfl rfl ⟨trivial, (Or.inr ⟨wy_pr rfl, fun q => q⟩), trivial, trivial, trivial, trivial⟩ trivial (fun _ _ q => False.elim q) (isSign_ok (S := Sq72) ⟨by omega, by omega⟩) (fun oq76 Sq76 hp77 q76 => ?_)
                                          rcases q76 with ⟨rfl, ⟨rfl, gi75⟩ | ⟨rfl, gi75⟩⟩
                                          · skip
                                            show wJ _ _ _ _ _ _ _ _ _ _
                                            rw [lx_E_is hE74] at gi75
                                            have gis := gi75
                                            have gsv := gis
                                            refine wa_ifeq (w_rg0 (by omega) (by omega)) ⟨_, rfl⟩ (fun c78 => ?_) (fun c78 => ?_)
                                            · skip
                                              exact absurd c78 (by omega)
                                            · skip
                                              refine wa_aload_n (n := 0) rfl ?_
                                              refine wb_gf5 237 rfl (wy_pr rfl) wt_237 wf_15_15 (v := 261) (((hL74 237 15 (by omega) (by omega)).trans hA15)) (fun r79 => ?_)
                                              refine wb_gf4 261 rfl (wy_pr rfl) wt_261 wf_12_13 (v := 273) wl_261_13 ?_
                                              refine wa_iload_n (n := 2) rfl ?_
                                              refine wa_iconst ?_
                                              refine wb_iast 273 rfl (wy_pr rfl) wt_273 (n := 400) ((ml_273 hE74.1.1)) (by omega) (by omega) ⟨(by omega), (by omega)⟩ ?_
                                              refine wa_aload_n (n := 0) rfl ?_
                                              refine wa_cv 237 rfl (wy_pr rfl) wt_237 (M2 := fun _ => False) rfl at_M_next ⟨_, rfl⟩ rfl rfl ⟨trivial, (Or.inr ⟨wy_pr rfl, fun q => q⟩), trivial, trivial, trivial, trivial⟩ trivial (fun _ _ q => False.elim q) (nx_I (S := (w_up Sq72 273 m 1)) (lx_E_up hE74 (by decide) (by omega)).1 (by have e6 : (w_up Sq72 273 m 1) 237 6 = (zq A (lx_ne (zq A p2) p2) 237 6) := ((w_up_slot (by decide)).trans ((lx_E_6 hE74))); first | omega | (have := (lx_is4 gis).1; omega) | (have := lx_w1 hnw; omega))) (fun oq80 Sq80 hp81 q80 => ?_)
                                              rcases q80 with ⟨rfl, a1, a2⟩
                                              show wJ _ _ _ _ _ _ _ _ _ _
                                              rw [lx_E_ne (lx_E_up hE74 (by decide) (by omega))] at a2
                                              have hE82 : lx_E Sq80 A (lx_ne (zq A (lx_ne (zq A p2) p2)) (lx_ne (zq A p2) p2)) := lx_E_ag (lx_E_up hE74 (by decide) (by omega)) a1 a2
                                              have hL82 : lx_ag (w_up (w_up (w_up (w_up (w_up (w_up (w_up (w_up A 272 m c) 274 m st) 279 m p1) 280 m p1) 275 m t) 279 m p2) 280 m (zq A p2 237 8)) 273 m 1) Sq80 := lx_ag_tr (lx_ag_cg hL74) a1
                                              refine wa_aload_n (n := 0) rfl ?_
                                              refine wa_iload_n (n := 1) rfl ?_
                                              refine wa_iload_n (n := 2) rfl ?_
                                              refine wa_cv 237 rfl (wy_pr rfl) wt_237 (M2 := fun _ => False) rfl at_M_readsParameters ⟨_, rfl⟩ rfl rfl ⟨trivial, (Or.inr ⟨wy_pr rfl, fun q => q⟩), trivial, trivial, trivial, trivial⟩ trivial (fun _ _ q => False.elim q) (readsParameters_261 (A := Sq80) (R := pq_k (w_up (w_up (w_up (w_up (w_up (w_up (w_up (w_up A 272 m c) 274 m st) 279 m p1) 280 m p1) 275 m t) 279 m p2) 280 m (zq A p2 237 8)) 273 m 1) 261 c m (pq_r (w_up (w_up (w_up (w_up (w_up (w_up (w_up (w_up A 272 m c) 274 m st) 279 m p1) 280 m p1) 275 m t) 279 m p2) 280 m (zq A p2 237 8)) 273 m 1) 261 (lx_ne (zq A (lx_ne (zq A p2) p2)) (lx_ne (zq A p2) p2)))) hX (((hL82 237 15 (by omega) (by omega)).trans hA15)) ⟨by omega, by omega⟩ (ho_mm_ag hm.1 (by decide) hmm (hm_ag_lx (hm_ag_up (hm_ag_up (hm_ag_up (hm_ag_up (hm_ag_up (hm_ag_up (hm_ag_up (hm_ag_up hm_ag_rf (by decide) (by omega) (by decide)) (by decide) (by omega) (by decide)) (by decide) (by omega) (by decide)) (by decide) (by omega) (by decide)) (by decide) (by omega) (by decide)) (by decide) (by omega) (by decide)) (by decide) (by omega) (by decide)) (by decide) (by omega) (by decide)) hL82)) (by have y1 : Sq80 279 m = p2 := (((hL82 279 m (by omega) (by omega)).trans ((w_up_slot (by decide)).trans ((w_up_slot (by decide)).trans (w_up_same _ _ _ _))))); have y2 : Sq80 280 m = (zq A p2 237 8) := (((hL82 280 m (by omega) (by omega)).trans ((w_up_slot (by decide)).trans (w_up_same _ _ _ _)))); omega) (by rw [show Sq80 268 c = A 268 c from (((hL82 268 c (by omega) (by omega)).trans ((w_up_slot (by decide)).trans ((w_up_slot (by decide)).trans ((w_up_slot (by decide)).trans ((w_up_slot (by decide)).trans ((w_up_slot (by decide)).trans ((w_up_slot (by decide)).trans ((w_up_slot (by decide)).trans (w_up_slot (by decide)))))))))))]; exact hfi) hcc (ho_nm_of hAn ((hL82 261 1 (by omega) (by omega)).trans rfl) (funext fun i => (hL82 270 i (by omega) (by omega)).trans rfl) (funext fun i => (hL82 271 i (by omega) (by omega)).trans rfl)) ⟨hE82.1, rfl, rfl, rfl⟩ (pq_ag hL82 (by decide))) (fun oq83 Sq83 hp84 q83 => ?_)
                                              rcases q83 with ⟨q, v, l, hR, rfl, c1, c2, c3, c4⟩ | ⟨e, q, hR, rfl, c1, c2, c3⟩
                                              · skip
                                                repeat (first | rw [if_pos (by omega)] at he | rw [if_neg (by omega)] at he)
                                                first | rw [if_neg (by rw [goo]; decide), if_pos gsv] at he | rw [if_pos gsv] at he | rw [if_neg (by rw [goo]; decide)] at he | skip
                                                unfold rm_par at he
                                                rw [hR] at he
                                                dsimp only at he
                                                show wJ _ _ _ _ _ _ _ _ _ _
                                                refine wa_goto ⟨_, rfl⟩ ?_
                                                exact wJ_S (mem_23_261 hA15 hAm ⟨by omega, by omega⟩ hcc hmy (hm_ag_tr (hm_ag_lx (hm_ag_up (hm_ag_up (hm_ag_up (hm_ag_up (hm_ag_up (hm_ag_up (hm_ag_up (hm_ag_up hm_ag_rf (by decide) (by omega) (by decide)) (by decide) (by omega) (by decide)) (by decide) (by omega) (by decide)) (by decide) (by omega) (by decide)) (by decide) (by omega) (by decide)) (by decide) (by omega) (by decide)) (by decide) (by omega) (by decide)) (by decide) (by omega) (by decide)) hL82) (hp_hm c1)) ⟨c2.1, c2.2.1.trans hE82.2.1, c2.2.2.1.trans hE82.2.2.1, c2.2.2.2.trans hE82.2.2.2⟩ ⟨(c1 272 m (by omega) (by omega) (by omega) (by omega)).trans (((hL82 272 m (by omega) (by omega)).trans ((w_up_slot (by decide)).trans ((w_up_slot (by decide)).trans ((w_up_slot (by decide)).trans ((w_up_slot (by decide)).trans ((w_up_slot (by decide)).trans ((w_up_slot (by decide)).trans ((w_up_slot (by decide)).trans (w_up_same _ _ _ _)))))))))), (c1 273 m (by omega) (by omega) (by omega) (by omega)).trans (((hL82 273 m (by omega) (by omega)).trans (w_up_same _ _ _ _))), (c1 274 m (by omega) (by omega) (by omega) (by omega)).trans (((hL82 274 m (by omega) (by omega)).trans ((w_up_slot (by decide)).trans ((w_up_slot (by decide)).trans ((w_up_slot (by decide)).trans ((w_up_slot (by decide)).trans ((w_up_slot (by decide)).trans ((w_up_slot (by decide)).trans (w_up_same _ _ _ _))))))))), (c1 275 m (by omega) (by omega) (by omega) (by omega)).trans (((hL82 275 m (by omega) (by omega)).trans ((w_up_slot (by decide)).trans ((w_up_slot (by decide)).trans ((w_up_slot (by decide)).trans (w_up_same _ _ _ _)))))), (c1 279 m (by omega) (by omega) (by omega) (by omega)).trans (((hL82 279 m (by omega) (by omega)).trans ((w_up_slot (by decide)).trans ((w_up_slot (by decide)).trans (w_up_same _ _ _ _))))), (c1 280 m (by omega) (by omega) (by omega) (by omega)).trans (((hL82 280 m (by omega) (by omega)).trans ((w_up_slot (by decide)).trans (w_up_same _ _ _ _))))⟩ c3 c4 he) ⟨rfl, rfl, rfl, trivial⟩
                                              · skip
                                                repeat (first | rw [if_pos (by omega)] at he | rw [if_neg (by omega)] at he)
                                                first | rw [if_neg (by rw [goo]; decide), if_pos gsv] at he | rw [if_pos gsv] at he | rw [if_neg (by rw [goo]; decide)] at he | skip
                                                unfold rm_par at he
                                                rw [hR] at he
                                                dsimp only at he
                                                refine ⟨rfl, ?_⟩
                                                exact Or.inr ⟨_, _, he.symm, rfl, (hm_ag_tr (hm_ag_lx (hm_ag_up (hm_ag_up (hm_ag_up (hm_ag_up (hm_ag_up (hm_ag_up (hm_ag_up (hm_ag_up hm_ag_rf (by decide) (by omega) (by decide)) (by decide) (by omega) (by decide)) (by decide) (by omega) (by decide)) (by decide) (by omega) (by decide)) (by decide) (by omega) (by decide)) (by decide) (by omega) (by decide)) (by decide) (by omega) (by decide)) (by decide) (by omega) (by decide)) hL82) (hp_hm c1)), c2, c3⟩
                                          · skip
                                            show wJ _ _ _ _ _ _ _ _ _ _
                                            rw [lx_E_is hE74] at gi75
                                            have gis := gi75
                                            have gsv := gis
                                            refine wa_ifeq (w_rg0 (by omega) (by omega)) ⟨_, rfl⟩ (fun c86 => ?_) (fun c86 => ?_)
                                            · skip
                                              refine wa_aload_n (n := 0) rfl ?_
                                              refine wa_iload_n (n := 1) rfl ?_
                                              refine wa_iload_n (n := 2) rfl ?_
                                              refine wa_iload (n := 4) rfl ?_
                                              refine wa_cv 237 rfl (wy_pr rfl) wt_237 (M2 := fun _ => False) rfl at_M_readsField ⟨_, rfl⟩ rfl rfl ⟨trivial, (Or.inr ⟨wy_pr rfl, fun q => q⟩), trivial, trivial, trivial, trivial⟩ trivial (fun _ _ q => False.elim q) (readsField_261 (A := Sq72) (R := rf_of (w_up (w_up (w_up (w_up (w_up (w_up (w_up A 272 m c) 274 m st) 279 m p1) 280 m p1) 275 m t) 279 m p2) 280 m (zq A p2 237 8)) 261 c m (lx_ne (zq A p2) p2) p2) (((hL74 237 15 (by omega) (by omega)).trans hA15)) ⟨by omega, by omega⟩ (ho_mm_ag hm.1 (by decide) hmm (hm_ag_lx (hm_ag_up (hm_ag_up (hm_ag_up (hm_ag_up (hm_ag_up (hm_ag_up (hm_ag_up hm_ag_rf (by decide) (by omega) (by decide)) (by decide) (by omega) (by decide)) (by decide) (by omega) (by decide)) (by decide) (by omega) (by decide)) (by decide) (by omega) (by decide)) (by decide) (by omega) (by decide)) (by decide) (by omega) (by decide)) hL74)) (by have y1 : Sq72 279 m = p2 := (((hL74 279 m (by omega) (by omega)).trans ((w_up_slot (by decide)).trans (w_up_same _ _ _ _)))); have y2 : Sq72 280 m = (zq A p2 237 8) := (((hL74 280 m (by omega) (by omega)).trans (w_up_same _ _ _ _))); omega) (by rw [show Sq72 268 c = A 268 c from (((hL74 268 c (by omega) (by omega)).trans ((w_up_slot (by decide)).trans ((w_up_slot (by decide)).trans ((w_up_slot (by decide)).trans ((w_up_slot (by decide)).trans ((w_up_slot (by decide)).trans ((w_up_slot (by decide)).trans (w_up_slot (by decide))))))))))]; exact hfi) hcc ⟨hE74.1, rfl, rfl, rfl⟩ ⟨by omega, by omega⟩ (rf_ag hL74 (by decide))) (fun oq87 Sq87 hp88 q87 => ?_)
                                              rcases q87 with ⟨hR, rfl, rfl⟩ | ⟨e, q, hR, rfl, c1, c2, c3⟩
                                              · skip
                                                repeat (first | rw [if_pos (by omega)] at he | rw [if_neg (by omega)] at he)
                                                rw [if_neg (by rw [goo]; decide), if_neg (by rw [gis]; decide), hR] at he
                                                dsimp only at he
                                                show wJ _ _ _ _ _ _ _ _ _ _
                                                refine wa_fall ⟨_, rfl⟩ ?_
                                                exact wJ_S (mem_23_261 (l := []) (v := 0) hA15 hAm ⟨by omega, by omega⟩ hcc hmy (hm_ag_up (hm_ag_up (hm_ag_up (hm_ag_lx (hm_ag_up (hm_ag_up (hm_ag_up (hm_ag_up (hm_ag_up (hm_ag_up (hm_ag_up hm_ag_rf (by decide) (by omega) (by decide)) (by decide) (by omega) (by decide)) (by decide) (by omega) (by decide)) (by decide) (by omega) (by decide)) (by decide) (by omega) (by decide)) (by decide) (by omega) (by decide)) (by decide) (by omega) (by decide)) hL74) (by decide) (by omega) (by decide)) (by decide) (by omega) (by decide)) (by decide) (by omega) (by decide)) (lx_E_up (lx_E_up (lx_E_up hE74 (by decide) (by omega)) (by decide) (by omega)) (by decide) (by omega)) ⟨((w_up_slot (by decide)).trans ((w_up_slot (by decide)).trans ((w_up_slot (by decide)).trans (((hL74 272 m (by omega) (by omega)).trans ((w_up_slot (by decide)).trans ((w_up_slot (by decide)).trans ((w_up_slot (by decide)).trans ((w_up_slot (by decide)).trans ((w_up_slot (by decide)).trans ((w_up_slot (by decide)).trans (w_up_same _ _ _ _)))))))))))), ((w_up_slot (by decide)).trans ((w_up_slot (by decide)).trans (w_up_same _ _ _ _))), ((w_up_slot (by decide)).trans ((w_up_slot (by decide)).trans ((w_up_slot (by decide)).trans (((hL74 274 m (by omega) (by omega)).trans ((w_up_slot (by decide)).trans ((w_up_slot (by decide)).trans ((w_up_slot (by decide)).trans ((w_up_slot (by decide)).trans ((w_up_slot (by decide)).trans (w_up_same _ _ _ _))))))))))), ((w_up_slot (by decide)).trans ((w_up_slot (by decide)).trans ((w_up_slot (by decide)).trans (((hL74 275 m (by omega) (by omega)).trans ((w_up_slot (by decide)).trans ((w_up_slot (by decide)).trans (w_up_same _ _ _ _)))))))), ((w_up_slot (by decide)).trans ((w_up_slot (by decide)).trans ((w_up_slot (by decide)).trans (((hL74 279 m (by omega) (by omega)).trans ((w_up_slot (by decide)).trans (w_up_same _ _ _ _))))))), ((w_up_slot (by decide)).trans ((w_up_slot (by decide)).trans ((w_up_slot (by decide)).trans (((hL74 280 m (by omega) (by omega)).trans (w_up_same _ _ _ _))))))⟩ ⟨(w_up_slot (by decide)).trans (w_up_same _ _ _ _), w_up_same _ _ _ _, fun i hi => absurd hi (Nat.not_lt_zero i)⟩ (Nat.zero_le _) he) ⟨rfl, rfl, rfl, trivial⟩
                                              · skip
                                                repeat (first | rw [if_pos (by omega)] at he | rw [if_neg (by omega)] at he)
                                                rw [if_neg (by rw [goo]; decide), if_neg (by rw [gis]; decide), hR] at he
                                                dsimp only at he
                                                refine ⟨rfl, ?_⟩
                                                exact Or.inr ⟨_, _, he.symm, rfl, (hm_ag_tr (hm_ag_lx (hm_ag_up (hm_ag_up (hm_ag_up (hm_ag_up (hm_ag_up (hm_ag_up (hm_ag_up hm_ag_rf (by decide) (by omega) (by decide)) (by decide) (by omega) (by decide)) (by decide) (by omega) (by decide)) (by decide) (by omega) (by decide)) (by decide) (by omega) (by decide)) (by decide) (by omega) (by decide)) (by decide) (by omega) (by decide)) hL74) c1), c2, c3⟩
                                            · skip
                                              exact absurd c86 (by omega)
                                        · skip
                                          exact absurd m64 (by decide)
                                  · skip
                                    exact absurd m53 (by decide)
                              · skip
                                rw [lx_E_type (b := 261) (lx_E_up (lx_E_up (lx_E_up (lx_E_up hE (by decide) (by omega)) (by decide) (by omega)) (by decide) (by omega)) (by decide) (by omega)) (by decide) (((lx_ag_cg (lx_ag_cg (lx_ag_cg (lx_ag_cg hL)))) 261 1 (by omega) (by omega)).trans rfl) (funext fun i => ((lx_ag_cg (lx_ag_cg (lx_ag_cg (lx_ag_cg hL)))) 270 i (by omega) (by omega)).trans rfl) (funext fun i => ((lx_ag_cg (lx_ag_cg (lx_ag_cg (lx_ag_cg hL)))) 271 i (by omega) (by omega)).trans rfl)] at ty
                                refine ⟨rfl, ?_⟩
                                repeat (first | rw [if_pos (by omega)] at he | rw [if_neg (by omega)] at he)
                                first | (rw [ty] at he; dsimp only at he) | (rw [if_neg (by rw [gis]; decide)] at he) | skip
                                first | (rw [if_pos (by omega), if_pos goo] at he) | skip
                                exact Or.inr ⟨_, _, he.symm, rfl, hm_ag_hl (hm_ag_up (hm_ag_up (hm_ag_up (hm_ag_up (hm_ag_lx hm_ag_rf hL) (by decide) (by omega) (by decide)) (by decide) (by omega) (by decide)) (by decide) (by omega) (by decide)) (by decide) (by omega) (by decide)), rfl, by first | rfl | exact (show (w_up (w_up (w_up (w_up Z 272 m c) 274 m st) 279 m p1) 280 m p1) 237 7 = p1 from ((w_up_slot (by decide)).trans ((w_up_slot (by decide)).trans ((w_up_slot (by decide)).trans ((w_up_slot (by decide)).trans ((lx_E_7 hE)))))))⟩
                            · skip
                              exact absurd c43 (by omega)
                        · skip
                          exact absurd m31 (by decide)
                      · skip
                        exact absurd c30 (by omega)
                  · skip
                    exact absurd m24 (by decide)
              · skip
                exact absurd m17 (by decide)
            · skip
              refine wa_aload_n (n := 0) rfl ?_
              refine wa_cv 237 rfl (wy_pr rfl) wt_237 (M2 := fun _ => False) rfl at_M_classHere ⟨_, rfl⟩ rfl rfl ⟨(Or.inr ⟨wy_pr rfl, fun q => q⟩), trivial, trivial, trivial, trivial⟩ ⟨(Or.inr ⟨wy_pr rfl, fun q => q⟩), trivial⟩ (fun _ _ q => False.elim q) (classHere_261 (S := Z) hE.1.1 (((hL 237 15 (by omega) (by omega)).trans hA15)) (ho_nm_of hAn ((hL 261 1 (by omega) (by omega)).trans rfl) (funext fun i => (hL 270 i (by omega) (by omega)).trans rfl) (funext fun i => (hL 271 i (by omega) (by omega)).trans rfl)) (lx_I_hp hE.1)) (fun oq91 Sq91 hp92 q91 => ?_)
              rcases q91 with ⟨rfl, rfl⟩
              show wJ _ _ _ _ _ _ _ _ _ _
              rw [lx_E_ch (b := 261) hE (by decide) ((hL 261 1 (by omega) (by omega)).trans rfl) (funext fun i => (hL 270 i (by omega) (by omega)).trans rfl) (funext fun i => (hL 271 i (by omega) (by omega)).trans rfl)]
              have hch := ch_of_rg (zq A p1) 261 (show A 261 1 ≤ 60 from hAn.1.2)
              refine wa_iflt (w_rg0 (by omega) (by omega)) ⟨_, rfl⟩ (fun c93 => ?_) (fun c93 => ?_)
              · skip
                refine wa_iconst ?_
                refine wa_fall ⟨_, rfl⟩ ?_
                refine wa_iconst ?_
                refine wa_cv 237 rfl (wy_pr rfl) wt_237 (M2 := fun _ => False) rfl at_M_must ⟨_, rfl⟩ rfl rfl ⟨(Or.inr ⟨wy_pr rfl, fun q => q⟩), trivial, trivial, trivial, trivial⟩ trivial (fun _ _ q => False.elim q) (must_ok (S := Z) (g := 0) (n := 3) (Or.inl rfl) ⟨by omega, by omega⟩) (fun oq95 Sq95 hp96 q95 => ?_)
                rcases q95 with ⟨m94, _, _⟩ | ⟨_, rfl, rfl⟩
                · skip
                  exact absurd m94 (by decide)
                · skip
                  refine ⟨rfl, ?_⟩
                  repeat (first | rw [if_pos (by omega)] at he | rw [if_neg (by omega)] at he)
                  first | (rw [ty] at he; dsimp only at he) | (rw [if_neg (by rw [gis]; decide)] at he) | skip
                  first | (rw [if_pos (by omega), if_pos goo] at he) | skip
                  exact Or.inr ⟨_, _, he.symm, rfl, hm_ag_hl (hm_ag_lx hm_ag_rf hL), rfl, by first | rfl | exact (show Z 237 7 = p1 from ((lx_E_7 hE)))⟩
              · skip
                refine wa_fall ⟨_, rfl⟩ ?_
                refine wa_iconst ?_
                refine wa_goto ⟨_, rfl⟩ ?_
                refine wa_iconst ?_
                refine wa_cv 237 rfl (wy_pr rfl) wt_237 (M2 := fun _ => False) rfl at_M_must ⟨_, rfl⟩ rfl rfl ⟨(Or.inr ⟨wy_pr rfl, fun q => q⟩), trivial, trivial, trivial, trivial⟩ trivial (fun _ _ q => False.elim q) (must_ok (S := Z) (g := 1) (n := 3) (Or.inr rfl) ⟨by omega, by omega⟩) (fun oq98 Sq98 hp99 q98 => ?_)
                rcases q98 with ⟨_, rfl, rfl⟩ | ⟨m97, _, _⟩
                · skip
                  show wJ _ _ _ _ _ _ _ _ _ _
                  refine wa_fall ⟨_, rfl⟩ ?_
                  refine wa_aload_n (n := 0) rfl ?_
                  refine wa_iload_n (n := 2) rfl ?_
                  refine wa_sipush (by omega) ?_
                  refine wa_icmpge (w_rg0 (by omega) (by omega)) (w_rg0 (by omega) (by omega)) ⟨_, rfl⟩ (fun c100 => ?_) (fun c100 => ?_)
                  · skip
                    refine wa_iconst ?_
                    refine wa_fall ⟨_, rfl⟩ ?_
                    refine wa_iconst ?_
                    refine wa_cv 237 rfl (wy_pr rfl) wt_237 (M2 := fun _ => False) rfl at_M_must ⟨_, rfl⟩ rfl rfl ⟨(Or.inr ⟨wy_pr rfl, fun q => q⟩), trivial, trivial, trivial, trivial⟩ trivial (fun _ _ q => False.elim q) (must_ok (S := Z) (g := 0) (n := 5) (Or.inl rfl) ⟨by omega, by omega⟩) (fun oq102 Sq102 hp103 q102 => ?_)
                    rcases q102 with ⟨m101, _, _⟩ | ⟨_, rfl, rfl⟩
                    · skip
                      exact absurd m101 (by decide)
                    · skip
                      refine ⟨rfl, ?_⟩
                      repeat (first | rw [if_pos (by omega)] at he | rw [if_neg (by omega)] at he)
                      first | (rw [ty] at he; dsimp only at he) | (rw [if_neg (by rw [gis]; decide)] at he) | skip
                      first | (rw [if_pos (by omega), if_pos goo] at he) | skip
                      exact Or.inr ⟨_, _, he.symm, rfl, hm_ag_hl (hm_ag_lx hm_ag_rf hL), rfl, by first | rfl | exact (show Z 237 7 = p1 from ((lx_E_7 hE)))⟩
                  · skip
                    refine wa_iconst ?_
                    refine wa_goto ⟨_, rfl⟩ ?_
                    refine wa_iconst ?_
                    refine wa_cv 237 rfl (wy_pr rfl) wt_237 (M2 := fun _ => False) rfl at_M_must ⟨_, rfl⟩ rfl rfl ⟨(Or.inr ⟨wy_pr rfl, fun q => q⟩), trivial, trivial, trivial, trivial⟩ trivial (fun _ _ q => False.elim q) (must_ok (S := Z) (g := 1) (n := 5) (Or.inr rfl) ⟨by omega, by omega⟩) (fun oq105 Sq105 hp106 q105 => ?_)
                    rcases q105 with ⟨_, rfl, rfl⟩ | ⟨m104, _, _⟩
                    · skip
                      show wJ _ _ _ _ _ _ _ _ _ _
                      refine wa_aload_n (n := 0) rfl ?_
                      refine wa_aload_n (n := 0) rfl ?_
                      refine wa_ks ?_
                      refine wa_cv 237 rfl (wy_pr rfl) wt_237 (M2 := fun _ => False) rfl at_M_isWord ⟨_, rfl⟩ rfl rfl ⟨(Or.inr ⟨wy_pr rfl, fun q => q⟩), trivial, trivial, trivial, trivial⟩ ⟨(Or.inr ⟨wy_pr rfl, fun q => q⟩), trivial⟩ (fun _ _ q => False.elim q) (isWord_ok (S := Z) hE.1.1 (wx_25 hX) (by decide) (lx_I_hp hE.1)) (fun oq108 Sq108 hp109 q108 => ?_)
                      rcases q108 with ⟨rfl, ⟨rfl, gw107⟩ | ⟨rfl, gw107⟩⟩
                      · skip
                        rw [lx_E_w hE] at gw107
                        exact absurd (gw107.symm.trans hnw) (by decide)
                      · skip
                        show wJ _ _ _ _ _ _ _ _ _ _
                        rw [lx_E_w hE] at gw107
                        refine wa_ifeq (w_rg0 (by omega) (by omega)) ⟨_, rfl⟩ (fun c110 => ?_) (fun c110 => ?_)
                        · skip
                          refine wa_iconst ?_
                          refine wa_goto ⟨_, rfl⟩ ?_
                          refine wa_bipush (w_rg2 (by omega) (by omega)) ?_
                          refine wa_cv 237 rfl (wy_pr rfl) wt_237 (M2 := fun _ => False) rfl at_M_must ⟨_, rfl⟩ rfl rfl ⟨(Or.inr ⟨wy_pr rfl, fun q => q⟩), trivial, trivial, trivial, trivial⟩ trivial (fun _ _ q => False.elim q) (must_ok (S := Z) (g := 1) (n := 6) (Or.inr rfl) ⟨by omega, by omega⟩) (fun oq112 Sq112 hp113 q112 => ?_)
                          rcases q112 with ⟨_, rfl, rfl⟩ | ⟨m111, _, _⟩
                          · skip
                            show wJ _ _ _ _ _ _ _ _ _ _
                            refine wa_aload_n (n := 0) rfl ?_
                            refine wb_gf5 237 rfl (wy_pr rfl) wt_237 wf_15_15 (v := 261) (((hL 237 15 (by omega) (by omega)).trans hA15)) (fun r114 => ?_)
                            refine wb_gf4 261 rfl (wy_pr rfl) wt_261 wf_12_12 (v := 272) wl_261_12 ?_
                            refine wa_iload_n (n := 2) rfl ?_
                            refine wa_iload_n (n := 1) rfl ?_
                            refine wb_iast 272 rfl (wy_pr rfl) wt_272 (n := 400) ((ml_272 hE.1.1)) (by omega) (by omega) ⟨(by omega), (by omega)⟩ ?_
                            refine wa_aload_n (n := 0) rfl ?_
                            refine wb_gf5 237 rfl (wy_pr rfl) wt_237 wf_15_15 (v := 261) ((w_up_slot (by decide)).trans (((hL 237 15 (by omega) (by omega)).trans hA15))) (fun r115 => ?_)
                            refine wb_gf4 261 rfl (wy_pr rfl) wt_261 wf_12_14 (v := 274) wl_261_14 ?_
                            refine wa_iload_n (n := 2) rfl ?_
                            refine wa_iload_n (n := 3) rfl ?_
                            refine wb_zast 274 rfl (wy_pr rfl) wt_274 (n := 400) ((w_up_slot (by decide)).trans ((ml_274 hE.1.1))) (by omega) (by omega) ⟨(by omega), (by omega)⟩ ?_
                            refine wa_aload_n (n := 0) rfl ?_
                            refine wb_gf5 237 rfl (wy_pr rfl) wt_237 wf_15_15 (v := 261) ((w_up_slot (by decide)).trans ((w_up_slot (by decide)).trans (((hL 237 15 (by omega) (by omega)).trans hA15)))) (fun r116 => ?_)
                            refine wb_gf4 261 rfl (wy_pr rfl) wt_261 wf_12_19 (v := 279) wl_261_19 ?_
                            refine wa_iload_n (n := 2) rfl ?_
                            refine wa_aload_n (n := 0) rfl ?_
                            refine wb_gfi 237 rfl (wy_pr rfl) wt_237 wf_15_7 (v := p1) ((w_up_slot (by decide)).trans ((w_up_slot (by decide)).trans ((lx_E_7 hE)))) (fun r117 => ?_)
                            refine wb_iast 279 rfl (wy_pr rfl) wt_279 (n := 400) ((w_up_slot (by decide)).trans ((w_up_slot (by decide)).trans ((ml_279 hE.1.1)))) (by omega) (by omega) ⟨(by omega), (by omega)⟩ ?_
                            refine wa_aload_n (n := 0) rfl ?_
                            refine wb_gf5 237 rfl (wy_pr rfl) wt_237 wf_15_15 (v := 261) ((w_up_slot (by decide)).trans ((w_up_slot (by decide)).trans ((w_up_slot (by decide)).trans (((hL 237 15 (by omega) (by omega)).trans hA15))))) (fun r118 => ?_)
                            refine wb_gf4 261 rfl (wy_pr rfl) wt_261 wf_12_20 (v := 280) wl_261_20 ?_
                            refine wa_iload_n (n := 2) rfl ?_
                            refine wa_aload_n (n := 0) rfl ?_
                            refine wb_gfi 237 rfl (wy_pr rfl) wt_237 wf_15_7 (v := p1) ((w_up_slot (by decide)).trans ((w_up_slot (by decide)).trans ((w_up_slot (by decide)).trans ((lx_E_7 hE))))) (fun r119 => ?_)
                            refine wb_iast 280 rfl (wy_pr rfl) wt_280 (n := 400) ((w_up_slot (by decide)).trans ((w_up_slot (by decide)).trans ((w_up_slot (by decide)).trans ((ml_280 hE.1.1))))) (by omega) (by omega) ⟨(by omega), (by omega)⟩ ?_
                            refine wa_aload_n (n := 0) rfl ?_
                            refine wa_ks ?_
                            refine wa_cv 237 rfl (wy_pr rfl) wt_237 (M2 := fun _ => False) rfl at_M_isWord ⟨_, rfl⟩ rfl rfl ⟨(Or.inr ⟨wy_pr rfl, fun q => q⟩), trivial, trivial, trivial, trivial⟩ trivial (fun _ _ q => False.elim q) (isWord_ok (S := (w_up (w_up (w_up (w_up Z 272 m c) 274 m st) 279 m p1) 280 m p1)) (lx_E_up (lx_E_up (lx_E_up (lx_E_up hE (by decide) (by omega)) (by decide) (by omega)) (by decide) (by omega)) (by decide) (by omega)).1.1 (wx_25 hX) (by decide) (lx_I_hp (lx_E_up (lx_E_up (lx_E_up (lx_E_up hE (by decide) (by omega)) (by decide) (by omega)) (by decide) (by omega)) (by decide) (by omega)).1)) (fun oq121 Sq121 hp122 q121 => ?_)
                            rcases q121 with ⟨rfl, ⟨rfl, gw120⟩ | ⟨rfl, gw120⟩⟩
                            · skip
                              rw [lx_E_w (lx_E_up (lx_E_up (lx_E_up (lx_E_up hE (by decide) (by omega)) (by decide) (by omega)) (by decide) (by omega)) (by decide) (by omega))] at gw120
                              exact absurd (gw120.symm.trans hnw) (by decide)
                            · skip
                              show wJ _ _ _ _ _ _ _ _ _ _
                              rw [lx_E_w (lx_E_up (lx_E_up (lx_E_up (lx_E_up hE (by decide) (by omega)) (by decide) (by omega)) (by decide) (by omega)) (by decide) (by omega))] at gw120
                              refine wa_ifeq (w_rg0 (by omega) (by omega)) ⟨_, rfl⟩ (fun c123 => ?_) (fun c123 => ?_)
                              · skip
                                refine wa_aload_n (n := 0) rfl ?_
                                refine wb_gf5 237 rfl (wy_pr rfl) wt_237 wf_15_15 (v := 261) ((w_up_slot (by decide)).trans ((w_up_slot (by decide)).trans ((w_up_slot (by decide)).trans ((w_up_slot (by decide)).trans (((hL 237 15 (by omega) (by omega)).trans hA15)))))) (fun r124 => ?_)
                                refine wb_gf4 261 rfl (wy_pr rfl) wt_261 wf_12_15 (v := 275) wl_261_15 ?_
                                refine wa_iload_n (n := 2) rfl ?_
                                refine wa_aload_n (n := 0) rfl ?_
                                refine wa_iconst ?_
                                refine wa_cv 237 rfl (wy_pr rfl) wt_237 (M2 := fun _ => False) rfl at_M_readsType ⟨_, rfl⟩ rfl rfl ⟨(Or.inr ⟨wy_pr rfl, fun q => q⟩), trivial, trivial, trivial, trivial⟩ ⟨trivial, (Or.inr ⟨wy_pr rfl, fun q => q⟩), trivial⟩ (fun _ _ q => False.elim q) (readsType_261 (S := (w_up (w_up (w_up (w_up Z 272 m c) 274 m st) 279 m p1) 280 m p1)) hX (lx_E_up (lx_E_up (lx_E_up (lx_E_up hE (by decide) (by omega)) (by decide) (by omega)) (by decide) (by omega)) (by decide) (by omega)).1 ((w_up_slot (by decide)).trans ((w_up_slot (by decide)).trans ((w_up_slot (by decide)).trans ((w_up_slot (by decide)).trans (((hL 237 15 (by omega) (by omega)).trans hA15)))))) (ho_nm_of hAn (((lx_ag_cg (lx_ag_cg (lx_ag_cg (lx_ag_cg hL)))) 261 1 (by omega) (by omega)).trans rfl) (funext fun i => ((lx_ag_cg (lx_ag_cg (lx_ag_cg (lx_ag_cg hL)))) 270 i (by omega) (by omega)).trans rfl) (funext fun i => ((lx_ag_cg (lx_ag_cg (lx_ag_cg (lx_ag_cg hL)))) 271 i (by omega) (by omega)).trans rfl)) (Or.inr rfl) rfl) (fun oq125 Sq125 hp126 q125 => ?_)
                                rcases q125 with ⟨t, p2, ty, rfl, a1, a2⟩ | ⟨t, p2, ty, rfl, rfl⟩
                                · skip
                                  rw [lx_E_type (b := 261) (lx_E_up (lx_E_up (lx_E_up (lx_E_up hE (by decide) (by omega)) (by decide) (by omega)) (by decide) (by omega)) (by decide) (by omega)) (by decide) (((lx_ag_cg (lx_ag_cg (lx_ag_cg (lx_ag_cg hL)))) 261 1 (by omega) (by omega)).trans rfl) (funext fun i => ((lx_ag_cg (lx_ag_cg (lx_ag_cg (lx_ag_cg hL)))) 270 i (by omega) (by omega)).trans rfl) (funext fun i => ((lx_ag_cg (lx_ag_cg (lx_ag_cg (lx_ag_cg hL)))) 271 i (by omega) (by omega)).trans rfl)] at ty
                                  show wJ _ _ _ _ _ _ _ _ _ _
                                  repeat (first | rw [if_pos (by omega)] at he | rw [if_neg (by omega)] at he)
                                  rw [ty] at he
                                  dsimp only at he
                                  obtain ⟨t0, t1, t2, t3⟩ := hy_type_rg (show zq A p1 261 1 ≤ 60 from hAn.1.2) ty
                                  have hE127 : lx_E Sq125 A p2 := lx_E_ag (lx_E_up (lx_E_up (lx_E_up (lx_E_up hE (by decide) (by omega)) (by decide) (by omega)) (by decide) (by omega)) (by decide) (by omega)) a1 a2
                                  have hL127 : lx_ag (w_up (w_up (w_up (w_up A 272 m c) 274 m st) 279 m p1) 280 m p1) Sq125 := lx_ag_tr (lx_ag_cg (lx_ag_cg (lx_ag_cg (lx_ag_cg hL)))) a1
                                  have bp2 := hE127.1.2.2.1
                                  have bn2 := hE127.1.2.1
                                  have b82 : 0 ≤ Sq125 237 8 ∧ Sq125 237 8 ≤ 65540 := (lx_I_hp hE127.1).2.2
                                  rw [lx_E_8 hE127] at b82
                                  have b83 : p2 ≤ zq A p2 237 8 := (lx_en_le (T := A 239) (h := A 237 5) (by rw [← hE127.2.2.1]; exact bp2.2)).1
                                  refine wb_iast 275 rfl (wy_pr rfl) wt_275 (n := 400) ((ml_275 hE127.1.1)) (by omega) (by omega) ⟨(by omega), (by omega)⟩ ?_
                                  refine wa_aload_n (n := 0) rfl ?_
                                  refine wa_aload_n (n := 0) rfl ?_
                                  refine wb_gfi 237 rfl (wy_pr rfl) wt_237 wf_15_6 (v := (zq A p2 237 6)) ((w_up_slot (by decide)).trans ((lx_E_6 hE127))) (fun r128 => ?_)
                                  refine wa_iconst ?_
                                  refine wa_icmpne (w_rg0 (by omega) (by omega)) (w_rg0 (by omega) (by omega)) ⟨_, rfl⟩ (fun c129 => ?_) (fun c129 => ?_)
                                  · skip
                                    refine wa_iconst ?_
                                    refine wa_fall ⟨_, rfl⟩ ?_
                                    refine wa_iconst ?_
                                    refine wa_cv 237 rfl (wy_pr rfl) wt_237 (M2 := fun _ => False) rfl at_M_must ⟨_, rfl⟩ rfl rfl ⟨(Or.inr ⟨wy_pr rfl, fun q => q⟩), trivial, trivial, trivial, trivial⟩ trivial (fun _ _ q => False.elim q) (must_ok (S := (w_up Sq125 275 m t)) (g := 0) (n := 1) (Or.inl rfl) ⟨by omega, by omega⟩) (fun oq131 Sq131 hp132 q131 => ?_)
                                    rcases q131 with ⟨m130, _, _⟩ | ⟨_, rfl, rfl⟩
                                    · skip
                                      exact absurd m130 (by decide)
                                    · skip
                                      refine ⟨rfl, ?_⟩
                                      repeat (first | rw [if_pos (by omega)] at he | rw [if_neg (by omega)] at he)
                                      first | (rw [ty] at he; dsimp only at he) | (rw [if_neg (by rw [gis]; decide)] at he) | skip
                                      first | (rw [if_pos (by omega), if_pos goo] at he) | skip
                                      exact Or.inr ⟨_, _, he.symm, rfl, hm_ag_hl (hm_ag_up (hm_ag_lx (hm_ag_up (hm_ag_up (hm_ag_up (hm_ag_up hm_ag_rf (by decide) (by omega) (by decide)) (by decide) (by omega) (by decide)) (by decide) (by omega) (by decide)) (by decide) (by omega) (by decide)) hL127) (by decide) (by omega) (by decide)), rfl, by first | rfl | exact (show (w_up Sq125 275 m t) 237 7 = p2 from ((w_up_slot (by decide)).trans ((lx_E_7 hE127))))⟩
                                  · skip
                                    refine wa_iconst ?_
                                    refine wa_goto ⟨_, rfl⟩ ?_
                                    refine wa_iconst ?_
                                    refine wa_cv 237 rfl (wy_pr rfl) wt_237 (M2 := fun _ => False) rfl at_M_must ⟨_, rfl⟩ rfl rfl ⟨(Or.inr ⟨wy_pr rfl, fun q => q⟩), trivial, trivial, trivial, trivial⟩ trivial (fun _ _ q => False.elim q) (must_ok (S := (w_up Sq125 275 m t)) (g := 1) (n := 1) (Or.inr rfl) ⟨by omega, by omega⟩) (fun oq134 Sq134 hp135 q134 => ?_)
                                    rcases q134 with ⟨_, rfl, rfl⟩ | ⟨m133, _, _⟩
                                    · skip
                                      show wJ _ _ _ _ _ _ _ _ _ _
                                      refine wa_aload_n (n := 0) rfl ?_
                                      refine wa_aload_n (n := 0) rfl ?_
                                      refine wa_ks ?_
                                      refine wa_cv 237 rfl (wy_pr rfl) wt_237 (M2 := fun _ => False) rfl at_M_isOneOf ⟨_, rfl⟩ rfl rfl ⟨(Or.inr ⟨wy_pr rfl, fun q => q⟩), trivial, trivial, trivial, trivial⟩ ⟨(Or.inr ⟨wy_pr rfl, fun q => q⟩), trivial⟩ (fun _ _ q => False.elim q) (isOneOf_ok (S := (w_up Sq125 275 m t)) (lx_E_up hE127 (by decide) (by omega)).1.1 (wx_21 hX) (by decide) (by decide) (lx_I_hp (lx_E_up hE127 (by decide) (by omega)).1) (by decide)) (fun oq137 Sq137 hp138 q137 => ?_)
                                      rcases q137 with ⟨rfl, ⟨rfl, go136⟩ | ⟨rfl, go136⟩⟩
                                      · skip
                                        show wJ _ _ _ _ _ _ _ _ _ _
                                        rw [lx_E_oo (lx_E_up hE127 (by decide) (by omega))] at go136
                                        have goo := go136
                                        refine wa_ifne (w_rg0 (by omega) (by omega)) ⟨_, rfl⟩ (fun c139 => ?_) (fun c139 => ?_)
                                        · skip
                                          refine wa_iconst ?_
                                          refine wa_fall ⟨_, rfl⟩ ?_
                                          refine wa_iconst ?_
                                          refine wa_cv 237 rfl (wy_pr rfl) wt_237 (M2 := fun _ => False) rfl at_M_must ⟨_, rfl⟩ rfl rfl ⟨(Or.inr ⟨wy_pr rfl, fun q => q⟩), trivial, trivial, trivial, trivial⟩ trivial (fun _ _ q => False.elim q) (must_ok (S := (w_up Sq125 275 m t)) (g := 0) (n := 2) (Or.inl rfl) ⟨by omega, by omega⟩) (fun oq141 Sq141 hp142 q141 => ?_)
                                          rcases q141 with ⟨m140, _, _⟩ | ⟨_, rfl, rfl⟩
                                          · skip
                                            exact absurd m140 (by decide)
                                          · skip
                                            refine ⟨rfl, ?_⟩
                                            repeat (first | rw [if_pos (by omega)] at he | rw [if_neg (by omega)] at he)
                                            first | (rw [ty] at he; dsimp only at he) | (rw [if_neg (by rw [gis]; decide)] at he) | skip
                                            first | (rw [if_pos (by omega), if_pos goo] at he) | skip
                                            exact Or.inr ⟨_, _, he.symm, rfl, hm_ag_hl (hm_ag_up (hm_ag_lx (hm_ag_up (hm_ag_up (hm_ag_up (hm_ag_up hm_ag_rf (by decide) (by omega) (by decide)) (by decide) (by omega) (by decide)) (by decide) (by omega) (by decide)) (by decide) (by omega) (by decide)) hL127) (by decide) (by omega) (by decide)), rfl, by first | rfl | exact (show (w_up Sq125 275 m t) 237 7 = p2 from ((w_up_slot (by decide)).trans ((lx_E_7 hE127))))⟩
                                        · skip
                                          exact absurd c139 (by omega)
                                      · skip
                                        show wJ _ _ _ _ _ _ _ _ _ _
                                        rw [lx_E_oo (lx_E_up hE127 (by decide) (by omega))] at go136
                                        have goo := go136
                                        refine wa_ifne (w_rg0 (by omega) (by omega)) ⟨_, rfl⟩ (fun c143 => ?_) (fun c143 => ?_)
                                        · skip
                                          exact absurd c143 (by omega)
                                        · skip
                                          refine wa_iconst ?_
                                          refine wa_goto ⟨_, rfl⟩ ?_
                                          refine wa_iconst ?_
                                          refine wa_cv 237 rfl (wy_pr rfl) wt_237 (M2 := fun _ => False) rfl at_M_must ⟨_, rfl⟩ rfl rfl ⟨(Or.inr ⟨wy_pr rfl, fun q => q⟩), trivial, trivial, trivial, trivial⟩ trivial (fun _ _ q => False.elim q) (must_ok (S := (w_up Sq125 275 m t)) (g := 1) (n := 2) (Or.inr rfl) ⟨by omega, by omega⟩) (fun oq145 Sq145 hp146 q145 => ?_)
                                          rcases q145 with ⟨_, rfl, rfl⟩ | ⟨m144, _, _⟩
                                          · skip
                                            show wJ _ _ _ _ _ _ _ _ _ _
                                            refine wa_aload_n (n := 0) rfl ?_
                                            refine wb_gfi 237 rfl (wy_pr rfl) wt_237 wf_15_7 (v := p2) ((w_up_slot (by decide)).trans ((lx_E_7 hE127))) (fun r147 => ?_)
                                            refine wa_istore (n := 4) rfl ?_
                                            refine wa_aload_n (n := 0) rfl ?_
                                            refine wb_gf5 237 rfl (wy_pr rfl) wt_237 wf_15_15 (v := 261) ((w_up_slot (by decide)).trans (((hL127 237 15 (by omega) (by omega)).trans hA15))) (fun r148 => ?_)
                                            refine wb_gf4 261 rfl (wy_pr rfl) wt_261 wf_12_19 (v := 279) wl_261_19 ?_
                                            refine wa_iload_n (n := 2) rfl ?_
                                            refine wa_aload_n (n := 0) rfl ?_
                                            refine wb_gfi 237 rfl (wy_pr rfl) wt_237 wf_15_7 (v := p2) ((w_up_slot (by decide)).trans ((lx_E_7 hE127))) (fun r149 => ?_)
                                            refine wb_iast 279 rfl (wy_pr rfl) wt_279 (n := 400) ((w_up_slot (by decide)).trans ((ml_279 hE127.1.1))) (by omega) (by omega) ⟨(by omega), (by omega)⟩ ?_
                                            refine wa_aload_n (n := 0) rfl ?_
                                            refine wb_gf5 237 rfl (wy_pr rfl) wt_237 wf_15_15 (v := 261) ((w_up_slot (by decide)).trans ((w_up_slot (by decide)).trans (((hL127 237 15 (by omega) (by omega)).trans hA15)))) (fun r150 => ?_)
                                            refine wb_gf4 261 rfl (wy_pr rfl) wt_261 wf_12_20 (v := 280) wl_261_20 ?_
                                            refine wa_iload_n (n := 2) rfl ?_
                                            refine wa_aload_n (n := 0) rfl ?_
                                            refine wb_gfi 237 rfl (wy_pr rfl) wt_237 wf_15_8 (v := (zq A p2 237 8)) ((w_up_slot (by decide)).trans ((w_up_slot (by decide)).trans ((lx_E_8 hE127)))) (fun r151 => ?_)
                                            refine wb_iast 280 rfl (wy_pr rfl) wt_280 (n := 400) ((w_up_slot (by decide)).trans ((w_up_slot (by decide)).trans ((ml_280 hE127.1.1)))) (by omega) (by omega) ⟨(by omega), (by omega)⟩ ?_
                                            refine wa_aload_n (n := 0) rfl ?_
                                            refine wa_cv 237 rfl (wy_pr rfl) wt_237 (M2 := fun _ => False) rfl at_M_next ⟨_, rfl⟩ rfl rfl ⟨trivial, (Or.inr ⟨wy_pr rfl, fun q => q⟩), trivial, trivial, trivial, trivial⟩ trivial (fun _ _ q => False.elim q) (nx_I (S := (w_up (w_up (w_up Sq125 275 m t) 279 m p2) 280 m (zq A p2 237 8))) (lx_E_up (lx_E_up (lx_E_up hE127 (by decide) (by omega)) (by decide) (by omega)) (by decide) (by omega)).1 (by have e6 : (w_up (w_up (w_up Sq125 275 m t) 279 m p2) 280 m (zq A p2 237 8)) 237 6 = (zq A p2 237 6) := ((w_up_slot (by decide)).trans ((w_up_slot (by decide)).trans ((w_up_slot (by decide)).trans ((lx_E_6 hE127))))); first | omega | (have := (lx_is4 gis).1; omega) | (have := lx_w1 hnw; omega))) (fun oq152 Sq152 hp153 q152 => ?_)
                                            rcases q152 with ⟨rfl, a1, a2⟩
                                            show wJ _ _ _ _ _ _ _ _ _ _
                                            rw [lx_E_ne (lx_E_up (lx_E_up (lx_E_up hE127 (by decide) (by omega)) (by decide) (by omega)) (by decide) (by omega))] at a2
                                            have hE154 : lx_E Sq152 A (lx_ne (zq A p2) p2) := lx_E_ag (lx_E_up (lx_E_up (lx_E_up hE127 (by decide) (by omega)) (by decide) (by omega)) (by decide) (by omega)) a1 a2
                                            have hL154 : lx_ag (w_up (w_up (w_up (w_up (w_up (w_up (w_up A 272 m c) 274 m st) 279 m p1) 280 m p1) 275 m t) 279 m p2) 280 m (zq A p2 237 8)) Sq152 := lx_ag_tr (lx_ag_cg (lx_ag_cg (lx_ag_cg hL127))) a1
                                            refine wa_aload_n (n := 0) rfl ?_
                                            refine wa_bipush (w_rg2 (by omega) (by omega)) ?_
                                            refine wa_cv 237 rfl (wy_pr rfl) wt_237 (M2 := fun _ => False) rfl at_M_isSign ⟨_, rfl⟩ rfl rfl ⟨trivial, (Or.inr ⟨wy_pr rfl, fun q => q⟩), trivial, trivial, trivial, trivial⟩ trivial (fun _ _ q => False.elim q) (isSign_ok (S := Sq152) ⟨by omega, by omega⟩) (fun oq156 Sq156 hp157 q156 => ?_)
                                            rcases q156 with ⟨rfl, ⟨rfl, gi155⟩ | ⟨rfl, gi155⟩⟩
                                            · skip
                                              show wJ _ _ _ _ _ _ _ _ _ _
                                              rw [lx_E_is hE154] at gi155
                                              have gis := gi155
                                              have gsv := gis
                                              refine wa_ifeq (w_rg0 (by omega) (by omega)) ⟨_, rfl⟩ (fun c158 => ?_) (fun c158 => ?_)
                                              · skip
                                                exact absurd c158 (by omega)
                                              · skip
                                                refine wa_aload_n (n := 0) rfl ?_
                                                refine wb_gf5 237 rfl (wy_pr rfl) wt_237 wf_15_15 (v := 261) (((hL154 237 15 (by omega) (by omega)).trans hA15)) (fun r159 => ?_)
                                                refine wb_gf4 261 rfl (wy_pr rfl) wt_261 wf_12_13 (v := 273) wl_261_13 ?_
                                                refine wa_iload_n (n := 2) rfl ?_
                                                refine wa_iconst ?_
                                                refine wb_iast 273 rfl (wy_pr rfl) wt_273 (n := 400) ((ml_273 hE154.1.1)) (by omega) (by omega) ⟨(by omega), (by omega)⟩ ?_
                                                refine wa_aload_n (n := 0) rfl ?_
                                                refine wa_cv 237 rfl (wy_pr rfl) wt_237 (M2 := fun _ => False) rfl at_M_next ⟨_, rfl⟩ rfl rfl ⟨trivial, (Or.inr ⟨wy_pr rfl, fun q => q⟩), trivial, trivial, trivial, trivial⟩ trivial (fun _ _ q => False.elim q) (nx_I (S := (w_up Sq152 273 m 1)) (lx_E_up hE154 (by decide) (by omega)).1 (by have e6 : (w_up Sq152 273 m 1) 237 6 = (zq A (lx_ne (zq A p2) p2) 237 6) := ((w_up_slot (by decide)).trans ((lx_E_6 hE154))); first | omega | (have := (lx_is4 gis).1; omega) | (have := lx_w1 hnw; omega))) (fun oq160 Sq160 hp161 q160 => ?_)
                                                rcases q160 with ⟨rfl, a1, a2⟩
                                                show wJ _ _ _ _ _ _ _ _ _ _
                                                rw [lx_E_ne (lx_E_up hE154 (by decide) (by omega))] at a2
                                                have hE162 : lx_E Sq160 A (lx_ne (zq A (lx_ne (zq A p2) p2)) (lx_ne (zq A p2) p2)) := lx_E_ag (lx_E_up hE154 (by decide) (by omega)) a1 a2
                                                have hL162 : lx_ag (w_up (w_up (w_up (w_up (w_up (w_up (w_up (w_up A 272 m c) 274 m st) 279 m p1) 280 m p1) 275 m t) 279 m p2) 280 m (zq A p2 237 8)) 273 m 1) Sq160 := lx_ag_tr (lx_ag_cg hL154) a1
                                                refine wa_aload_n (n := 0) rfl ?_
                                                refine wa_iload_n (n := 1) rfl ?_
                                                refine wa_iload_n (n := 2) rfl ?_
                                                refine wa_cv 237 rfl (wy_pr rfl) wt_237 (M2 := fun _ => False) rfl at_M_readsParameters ⟨_, rfl⟩ rfl rfl ⟨trivial, (Or.inr ⟨wy_pr rfl, fun q => q⟩), trivial, trivial, trivial, trivial⟩ trivial (fun _ _ q => False.elim q) (readsParameters_261 (A := Sq160) (R := pq_k (w_up (w_up (w_up (w_up (w_up (w_up (w_up (w_up A 272 m c) 274 m st) 279 m p1) 280 m p1) 275 m t) 279 m p2) 280 m (zq A p2 237 8)) 273 m 1) 261 c m (pq_r (w_up (w_up (w_up (w_up (w_up (w_up (w_up (w_up A 272 m c) 274 m st) 279 m p1) 280 m p1) 275 m t) 279 m p2) 280 m (zq A p2 237 8)) 273 m 1) 261 (lx_ne (zq A (lx_ne (zq A p2) p2)) (lx_ne (zq A p2) p2)))) hX (((hL162 237 15 (by omega) (by omega)).trans hA15)) ⟨by omega, by omega⟩ (ho_mm_ag hm.1 (by decide) hmm (hm_ag_lx (hm_ag_up (hm_ag_up (hm_ag_up (hm_ag_up (hm_ag_up (hm_ag_up (hm_ag_up (hm_ag_up hm_ag_rf (by decide) (by omega) (by decide)) (by decide) (by omega) (by decide)) (by decide) (by omega) (by decide)) (by decide) (by omega) (by decide)) (by decide) (by omega) (by decide)) (by decide) (by omega) (by decide)) (by decide) (by omega) (by decide)) (by decide) (by omega) (by decide)) hL162)) (by have y1 : Sq160 279 m = p2 := (((hL162 279 m (by omega) (by omega)).trans ((w_up_slot (by decide)).trans ((w_up_slot (by decide)).trans (w_up_same _ _ _ _))))); have y2 : Sq160 280 m = (zq A p2 237 8) := (((hL162 280 m (by omega) (by omega)).trans ((w_up_slot (by decide)).trans (w_up_same _ _ _ _)))); omega) (by rw [show Sq160 268 c = A 268 c from (((hL162 268 c (by omega) (by omega)).trans ((w_up_slot (by decide)).trans ((w_up_slot (by decide)).trans ((w_up_slot (by decide)).trans ((w_up_slot (by decide)).trans ((w_up_slot (by decide)).trans ((w_up_slot (by decide)).trans ((w_up_slot (by decide)).trans (w_up_slot (by decide)))))))))))]; exact hfi) hcc (ho_nm_of hAn ((hL162 261 1 (by omega) (by omega)).trans rfl) (funext fun i => (hL162 270 i (by omega) (by omega)).trans rfl) (funext fun i => (hL162 271 i (by omega) (by omega)).trans rfl)) ⟨hE162.1, rfl, rfl, rfl⟩ (pq_ag hL162 (by decide))) (fun oq163 Sq163 hp164 q163 => ?_)
                                                rcases q163 with ⟨q, v, l, hR, rfl, c1, c2, c3, c4⟩ | ⟨e, q, hR, rfl, c1, c2, c3⟩
                                                · skip
                                                  repeat (first | rw [if_pos (by omega)] at he | rw [if_neg (by omega)] at he)
                                                  first | rw [if_neg (by rw [goo]; decide), if_pos gsv] at he | rw [if_pos gsv] at he | rw [if_neg (by rw [goo]; decide)] at he | skip
                                                  unfold rm_par at he
                                                  rw [hR] at he
                                                  dsimp only at he
                                                  show wJ _ _ _ _ _ _ _ _ _ _
                                                  refine wa_goto ⟨_, rfl⟩ ?_
                                                  exact wJ_S (mem_23_261 hA15 hAm ⟨by omega, by omega⟩ hcc hmy (hm_ag_tr (hm_ag_lx (hm_ag_up (hm_ag_up (hm_ag_up (hm_ag_up (hm_ag_up (hm_ag_up (hm_ag_up (hm_ag_up hm_ag_rf (by decide) (by omega) (by decide)) (by decide) (by omega) (by decide)) (by decide) (by omega) (by decide)) (by decide) (by omega) (by decide)) (by decide) (by omega) (by decide)) (by decide) (by omega) (by decide)) (by decide) (by omega) (by decide)) (by decide) (by omega) (by decide)) hL162) (hp_hm c1)) ⟨c2.1, c2.2.1.trans hE162.2.1, c2.2.2.1.trans hE162.2.2.1, c2.2.2.2.trans hE162.2.2.2⟩ ⟨(c1 272 m (by omega) (by omega) (by omega) (by omega)).trans (((hL162 272 m (by omega) (by omega)).trans ((w_up_slot (by decide)).trans ((w_up_slot (by decide)).trans ((w_up_slot (by decide)).trans ((w_up_slot (by decide)).trans ((w_up_slot (by decide)).trans ((w_up_slot (by decide)).trans ((w_up_slot (by decide)).trans (w_up_same _ _ _ _)))))))))), (c1 273 m (by omega) (by omega) (by omega) (by omega)).trans (((hL162 273 m (by omega) (by omega)).trans (w_up_same _ _ _ _))), (c1 274 m (by omega) (by omega) (by omega) (by omega)).trans (((hL162 274 m (by omega) (by omega)).trans ((w_up_slot (by decide)).trans ((w_up_slot (by decide)).trans ((w_up_slot (by decide)).trans ((w_up_slot (by decide)).trans ((w_up_slot (by decide)).trans ((w_up_slot (by decide)).trans (w_up_same _ _ _ _))))))))), (c1 275 m (by omega) (by omega) (by omega) (by omega)).trans (((hL162 275 m (by omega) (by omega)).trans ((w_up_slot (by decide)).trans ((w_up_slot (by decide)).trans ((w_up_slot (by decide)).trans (w_up_same _ _ _ _)))))), (c1 279 m (by omega) (by omega) (by omega) (by omega)).trans (((hL162 279 m (by omega) (by omega)).trans ((w_up_slot (by decide)).trans ((w_up_slot (by decide)).trans (w_up_same _ _ _ _))))), (c1 280 m (by omega) (by omega) (by omega) (by omega)).trans (((hL162 280 m (by omega) (by omega)).trans ((w_up_slot (by decide)).trans (w_up_same _ _ _ _))))⟩ c3 c4 he) ⟨rfl, rfl, rfl, trivial⟩
                                                · skip
                                                  repeat (first | rw [if_pos (by omega)] at he | rw [if_neg (by omega)] at he)
                                                  first | rw [if_neg (by rw [goo]; decide), if_pos gsv] at he | rw [if_pos gsv] at he | rw [if_neg (by rw [goo]; decide)] at he | skip
                                                  unfold rm_par at he
                                                  rw [hR] at he
                                                  dsimp only at he
                                                  refine ⟨rfl, ?_⟩
                                                  exact Or.inr ⟨_, _, he.symm, rfl, (hm_ag_tr (hm_ag_lx (hm_ag_up (hm_ag_up (hm_ag_up (hm_ag_up (hm_ag_up (hm_ag_up (hm_ag_up (hm_ag_up hm_ag_rf (by decide) (by omega) (by decide)) (by decide) (by omega) (by decide)) (by decide) (by omega) (by decide)) (by decide) (by omega) (by decide)) (by decide) (by omega) (by decide)) (by decide) (by omega) (by decide)) (by decide) (by omega) (by decide)) (by decide) (by omega) (by decide)) hL162) (hp_hm c1)), c2, c3⟩
                                            · skip
                                              show wJ _ _ _ _ _ _ _ _ _ _
                                              rw [lx_E_is hE154] at gi155
                                              have gis := gi155
                                              have gsv := gis
                                              refine wa_ifeq (w_rg0 (by omega) (by omega)) ⟨_, rfl⟩ (fun c166 => ?_) (fun c166 => ?_)
                                              · skip
                                                refine wa_aload_n (n := 0) rfl ?_
                                                refine wa_iload_n (n := 1) rfl ?_
                                                refine wa_iload_n (n := 2) rfl ?_
                                                refine wa_iload (n := 4) rfl ?_
                                                refine wa_cv 237 rfl (wy_pr rfl) wt_237 (M2 := fun _ => False) rfl at_M_readsField ⟨_, rfl⟩ rfl rfl ⟨trivial, (Or.inr ⟨wy_pr rfl, fun q => q⟩), trivial, trivial, trivial, trivial⟩ trivial (fun _ _ q => False.elim q) (readsField_261 (A := Sq152) (R := rf_of (w_up (w_up (w_up (w_up (w_up (w_up (w_up A 272 m c) 274 m st) 279 m p1) 280 m p1) 275 m t) 279 m p2) 280 m (zq A p2 237 8)) 261 c m (lx_ne (zq A p2) p2) p2) (((hL154 237 15 (by omega) (by omega)).trans hA15)) ⟨by omega, by omega⟩ (ho_mm_ag hm.1 (by decide) hmm (hm_ag_lx (hm_ag_up (hm_ag_up (hm_ag_up (hm_ag_up (hm_ag_up (hm_ag_up (hm_ag_up hm_ag_rf (by decide) (by omega) (by decide)) (by decide) (by omega) (by decide)) (by decide) (by omega) (by decide)) (by decide) (by omega) (by decide)) (by decide) (by omega) (by decide)) (by decide) (by omega) (by decide)) (by decide) (by omega) (by decide)) hL154)) (by have y1 : Sq152 279 m = p2 := (((hL154 279 m (by omega) (by omega)).trans ((w_up_slot (by decide)).trans (w_up_same _ _ _ _)))); have y2 : Sq152 280 m = (zq A p2 237 8) := (((hL154 280 m (by omega) (by omega)).trans (w_up_same _ _ _ _))); omega) (by rw [show Sq152 268 c = A 268 c from (((hL154 268 c (by omega) (by omega)).trans ((w_up_slot (by decide)).trans ((w_up_slot (by decide)).trans ((w_up_slot (by decide)).trans ((w_up_slot (by decide)).trans ((w_up_slot (by decide)).trans ((w_up_slot (by decide)).trans (w_up_slot (by decide))))))))))]; exact hfi) hcc ⟨hE154.1, rfl, rfl, rfl⟩ ⟨by omega, by omega⟩ (rf_ag hL154 (by decide))) (fun oq167 Sq167 hp168 q167 => ?_)
                                                rcases q167 with ⟨hR, rfl, rfl⟩ | ⟨e, q, hR, rfl, c1, c2, c3⟩
                                                · skip
                                                  repeat (first | rw [if_pos (by omega)] at he | rw [if_neg (by omega)] at he)
                                                  rw [if_neg (by rw [goo]; decide), if_neg (by rw [gis]; decide), hR] at he
                                                  dsimp only at he
                                                  show wJ _ _ _ _ _ _ _ _ _ _
                                                  refine wa_fall ⟨_, rfl⟩ ?_
                                                  exact wJ_S (mem_23_261 (l := []) (v := 0) hA15 hAm ⟨by omega, by omega⟩ hcc hmy (hm_ag_up (hm_ag_up (hm_ag_up (hm_ag_lx (hm_ag_up (hm_ag_up (hm_ag_up (hm_ag_up (hm_ag_up (hm_ag_up (hm_ag_up hm_ag_rf (by decide) (by omega) (by decide)) (by decide) (by omega) (by decide)) (by decide) (by omega) (by decide)) (by decide) (by omega) (by decide)) (by decide) (by omega) (by decide)) (by decide) (by omega) (by decide)) (by decide) (by omega) (by decide)) hL154) (by decide) (by omega) (by decide)) (by decide) (by omega) (by decide)) (by decide) (by omega) (by decide)) (lx_E_up (lx_E_up (lx_E_up hE154 (by decide) (by omega)) (by decide) (by omega)) (by decide) (by omega)) ⟨((w_up_slot (by decide)).trans ((w_up_slot (by decide)).trans ((w_up_slot (by decide)).trans (((hL154 272 m (by omega) (by omega)).trans ((w_up_slot (by decide)).trans ((w_up_slot (by decide)).trans ((w_up_slot (by decide)).trans ((w_up_slot (by decide)).trans ((w_up_slot (by decide)).trans ((w_up_slot (by decide)).trans (w_up_same _ _ _ _)))))))))))), ((w_up_slot (by decide)).trans ((w_up_slot (by decide)).trans (w_up_same _ _ _ _))), ((w_up_slot (by decide)).trans ((w_up_slot (by decide)).trans ((w_up_slot (by decide)).trans (((hL154 274 m (by omega) (by omega)).trans ((w_up_slot (by decide)).trans ((w_up_slot (by decide)).trans ((w_up_slot (by decide)).trans ((w_up_slot (by decide)).trans ((w_up_slot (by decide)).trans (w_up_same _ _ _ _))))))))))), ((w_up_slot (by decide)).trans ((w_up_slot (by decide)).trans ((w_up_slot (by decide)).trans (((hL154 275 m (by omega) (by omega)).trans ((w_up_slot (by decide)).trans ((w_up_slot (by decide)).trans (w_up_same _ _ _ _)))))))), ((w_up_slot (by decide)).trans ((w_up_slot (by decide)).trans ((w_up_slot (by decide)).trans (((hL154 279 m (by omega) (by omega)).trans ((w_up_slot (by decide)).trans (w_up_same _ _ _ _))))))), ((w_up_slot (by decide)).trans ((w_up_slot (by decide)).trans ((w_up_slot (by decide)).trans (((hL154 280 m (by omega) (by omega)).trans (w_up_same _ _ _ _))))))⟩ ⟨(w_up_slot (by decide)).trans (w_up_same _ _ _ _), w_up_same _ _ _ _, fun i hi => absurd hi (Nat.not_lt_zero i)⟩ (Nat.zero_le _) he) ⟨rfl, rfl, rfl, trivial⟩
                                                · skip
                                                  repeat (first | rw [if_pos (by omega)] at he | rw [if_neg (by omega)] at he)
                                                  rw [if_neg (by rw [goo]; decide), if_neg (by rw [gis]; decide), hR] at he
                                                  dsimp only at he
                                                  refine ⟨rfl, ?_⟩
                                                  exact Or.inr ⟨_, _, he.symm, rfl, (hm_ag_tr (hm_ag_lx (hm_ag_up (hm_ag_up (hm_ag_up (hm_ag_up (hm_ag_up (hm_ag_up (hm_ag_up hm_ag_rf (by decide) (by omega) (by decide)) (by decide) (by omega) (by decide)) (by decide) (by omega) (by decide)) (by decide) (by omega) (by decide)) (by decide) (by omega) (by decide)) (by decide) (by omega) (by decide)) (by decide) (by omega) (by decide)) hL154) c1), c2, c3⟩
                                              · skip
                                                exact absurd c166 (by omega)
                                          · skip
                                            exact absurd m144 (by decide)
                                    · skip
                                      exact absurd m133 (by decide)
                                · skip
                                  rw [lx_E_type (b := 261) (lx_E_up (lx_E_up (lx_E_up (lx_E_up hE (by decide) (by omega)) (by decide) (by omega)) (by decide) (by omega)) (by decide) (by omega)) (by decide) (((lx_ag_cg (lx_ag_cg (lx_ag_cg (lx_ag_cg hL)))) 261 1 (by omega) (by omega)).trans rfl) (funext fun i => ((lx_ag_cg (lx_ag_cg (lx_ag_cg (lx_ag_cg hL)))) 270 i (by omega) (by omega)).trans rfl) (funext fun i => ((lx_ag_cg (lx_ag_cg (lx_ag_cg (lx_ag_cg hL)))) 271 i (by omega) (by omega)).trans rfl)] at ty
                                  refine ⟨rfl, ?_⟩
                                  repeat (first | rw [if_pos (by omega)] at he | rw [if_neg (by omega)] at he)
                                  first | (rw [ty] at he; dsimp only at he) | (rw [if_neg (by rw [gis]; decide)] at he) | skip
                                  first | (rw [if_pos (by omega), if_pos goo] at he) | skip
                                  exact Or.inr ⟨_, _, he.symm, rfl, hm_ag_hl (hm_ag_up (hm_ag_up (hm_ag_up (hm_ag_up (hm_ag_lx hm_ag_rf hL) (by decide) (by omega) (by decide)) (by decide) (by omega) (by decide)) (by decide) (by omega) (by decide)) (by decide) (by omega) (by decide)), rfl, by first | rfl | exact (show (w_up (w_up (w_up (w_up Z 272 m c) 274 m st) 279 m p1) 280 m p1) 237 7 = p1 from ((w_up_slot (by decide)).trans ((w_up_slot (by decide)).trans ((w_up_slot (by decide)).trans ((w_up_slot (by decide)).trans ((lx_E_7 hE)))))))⟩
                              · skip
                                exact absurd c123 (by omega)
                          · skip
                            exact absurd m111 (by decide)
                        · skip
                          exact absurd c110 (by omega)
                    · skip
                      exact absurd m104 (by decide)
                · skip
                  exact absurd m97 (by decide)
      · skip
        exact absurd m7 (by decide)
    · skip
      refine wa_aload_n (n := 0) rfl ?_
      refine wa_ks ?_
      refine wa_cv 237 rfl (wy_pr rfl) wt_237 (M2 := fun _ => False) rfl at_M_isWord ⟨_, rfl⟩ rfl rfl ⟨(Or.inr ⟨wy_pr rfl, fun q => q⟩), trivial, trivial, trivial, trivial⟩ ⟨(Or.inr ⟨wy_pr rfl, fun q => q⟩), trivial⟩ (fun _ _ q => False.elim q) (isWord_ok (S := Z) hE.1.1 (wx_25 hX) (by decide) (lx_I_hp hE.1)) (fun oq172 Sq172 hp173 q172 => ?_)
      rcases q172 with ⟨rfl, ⟨rfl, gw171⟩ | ⟨rfl, gw171⟩⟩
      · skip
        rw [lx_E_w hE] at gw171
        exact absurd (gw171.symm.trans hnw) (by decide)
      · skip
        show wJ _ _ _ _ _ _ _ _ _ _
        rw [lx_E_w hE] at gw171
        refine wa_ifne (w_rg0 (by omega) (by omega)) ⟨_, rfl⟩ (fun c174 => ?_) (fun c174 => ?_)
        · skip
          exact absurd c174 (by omega)
        · skip
          refine wa_fall ⟨_, rfl⟩ ?_
          refine wa_iconst ?_
          refine wa_goto ⟨_, rfl⟩ ?_
          refine wa_iconst ?_
          refine wa_cv 237 rfl (wy_pr rfl) wt_237 (M2 := fun _ => False) rfl at_M_must ⟨_, rfl⟩ rfl rfl ⟨(Or.inr ⟨wy_pr rfl, fun q => q⟩), trivial, trivial, trivial, trivial⟩ trivial (fun _ _ q => False.elim q) (must_ok (S := Z) (g := 1) (n := 1) (Or.inr rfl) ⟨by omega, by omega⟩) (fun oq176 Sq176 hp177 q176 => ?_)
          rcases q176 with ⟨_, rfl, rfl⟩ | ⟨m175, _, _⟩
          · skip
            show wJ _ _ _ _ _ _ _ _ _ _
            refine wa_aload_n (n := 0) rfl ?_
            refine wa_ks ?_
            refine wa_cv 237 rfl (wy_pr rfl) wt_237 (M2 := fun _ => False) rfl at_M_isWord ⟨_, rfl⟩ rfl rfl ⟨(Or.inr ⟨wy_pr rfl, fun q => q⟩), trivial, trivial, trivial, trivial⟩ trivial (fun _ _ q => False.elim q) (isWord_ok (S := Z) hE.1.1 (wx_25 hX) (by decide) (lx_I_hp hE.1)) (fun oq179 Sq179 hp180 q179 => ?_)
            rcases q179 with ⟨rfl, ⟨rfl, gw178⟩ | ⟨rfl, gw178⟩⟩
            · skip
              rw [lx_E_w hE] at gw178
              exact absurd (gw178.symm.trans hnw) (by decide)
            · skip
              show wJ _ _ _ _ _ _ _ _ _ _
              rw [lx_E_w hE] at gw178
              refine wa_ifne (w_rg0 (by omega) (by omega)) ⟨_, rfl⟩ (fun c181 => ?_) (fun c181 => ?_)
              · skip
                exact absurd c181 (by omega)
              · skip
                refine wa_aload_n (n := 0) rfl ?_
                refine wa_aload_n (n := 0) rfl ?_
                refine wa_ks ?_
                refine wa_cv 237 rfl (wy_pr rfl) wt_237 (M2 := fun _ => False) rfl at_M_place ⟨_, rfl⟩ rfl rfl ⟨(Or.inr ⟨wy_pr rfl, fun q => q⟩), trivial, trivial, trivial, trivial⟩ ⟨(Or.inr ⟨wy_pr rfl, fun q => q⟩), trivial⟩ (fun _ _ q => False.elim q) (place_ok (S := Z) hE.1.1 (wx_27 hX) (by decide) (by decide) (lx_I_hp hE.1) (by decide)) (fun oq182 Sq182 hp183 q182 => ?_)
                rcases q182 with ⟨rfl, rfl⟩
                show wJ _ _ _ _ _ _ _ _ _ _
                rw [lx_E_pl hE]
                have hpl := pl_of_rg (zq A p1) tx_27 (by decide)
                refine wa_ifge (w_rg0 (by omega) (by omega)) ⟨_, rfl⟩ (fun c184 => ?_) (fun c184 => ?_)
                · skip
                  refine wa_iconst ?_
                  refine wa_goto ⟨_, rfl⟩ ?_
                  refine wa_iconst ?_
                  refine wa_cv 237 rfl (wy_pr rfl) wt_237 (M2 := fun _ => False) rfl at_M_must ⟨_, rfl⟩ rfl rfl ⟨(Or.inr ⟨wy_pr rfl, fun q => q⟩), trivial, trivial, trivial, trivial⟩ trivial (fun _ _ q => False.elim q) (must_ok (S := Z) (g := 1) (n := 3) (Or.inr rfl) ⟨by omega, by omega⟩) (fun oq186 Sq186 hp187 q186 => ?_)
                  rcases q186 with ⟨_, rfl, rfl⟩ | ⟨m185, _, _⟩
                  · skip
                    show wJ _ _ _ _ _ _ _ _ _ _
                    refine wa_fall ⟨_, rfl⟩ ?_
                    refine wa_aload_n (n := 0) rfl ?_
                    refine wa_iload_n (n := 2) rfl ?_
                    refine wa_sipush (by omega) ?_
                    refine wa_icmpge (w_rg0 (by omega) (by omega)) (w_rg0 (by omega) (by omega)) ⟨_, rfl⟩ (fun c188 => ?_) (fun c188 => ?_)
                    · skip
                      refine wa_iconst ?_
                      refine wa_fall ⟨_, rfl⟩ ?_
                      refine wa_iconst ?_
                      refine wa_cv 237 rfl (wy_pr rfl) wt_237 (M2 := fun _ => False) rfl at_M_must ⟨_, rfl⟩ rfl rfl ⟨(Or.inr ⟨wy_pr rfl, fun q => q⟩), trivial, trivial, trivial, trivial⟩ trivial (fun _ _ q => False.elim q) (must_ok (S := Z) (g := 0) (n := 5) (Or.inl rfl) ⟨by omega, by omega⟩) (fun oq190 Sq190 hp191 q190 => ?_)
                      rcases q190 with ⟨m189, _, _⟩ | ⟨_, rfl, rfl⟩
                      · skip
                        exact absurd m189 (by decide)
                      · skip
                        refine ⟨rfl, ?_⟩
                        repeat (first | rw [if_pos (by omega)] at he | rw [if_neg (by omega)] at he)
                        first | (rw [ty] at he; dsimp only at he) | (rw [if_neg (by rw [gis]; decide)] at he) | skip
                        first | (rw [if_pos (by omega), if_pos goo] at he) | skip
                        exact Or.inr ⟨_, _, he.symm, rfl, hm_ag_hl (hm_ag_lx hm_ag_rf hL), rfl, by first | rfl | exact (show Z 237 7 = p1 from ((lx_E_7 hE)))⟩
                    · skip
                      refine wa_iconst ?_
                      refine wa_goto ⟨_, rfl⟩ ?_
                      refine wa_iconst ?_
                      refine wa_cv 237 rfl (wy_pr rfl) wt_237 (M2 := fun _ => False) rfl at_M_must ⟨_, rfl⟩ rfl rfl ⟨(Or.inr ⟨wy_pr rfl, fun q => q⟩), trivial, trivial, trivial, trivial⟩ trivial (fun _ _ q => False.elim q) (must_ok (S := Z) (g := 1) (n := 5) (Or.inr rfl) ⟨by omega, by omega⟩) (fun oq193 Sq193 hp194 q193 => ?_)
                      rcases q193 with ⟨_, rfl, rfl⟩ | ⟨m192, _, _⟩
                      · skip
                        show wJ _ _ _ _ _ _ _ _ _ _
                        refine wa_aload_n (n := 0) rfl ?_
                        refine wa_aload_n (n := 0) rfl ?_
                        refine wa_ks ?_
                        refine wa_cv 237 rfl (wy_pr rfl) wt_237 (M2 := fun _ => False) rfl at_M_isWord ⟨_, rfl⟩ rfl rfl ⟨(Or.inr ⟨wy_pr rfl, fun q => q⟩), trivial, trivial, trivial, trivial⟩ ⟨(Or.inr ⟨wy_pr rfl, fun q => q⟩), trivial⟩ (fun _ _ q => False.elim q) (isWord_ok (S := Z) hE.1.1 (wx_25 hX) (by decide) (lx_I_hp hE.1)) (fun oq196 Sq196 hp197 q196 => ?_)
                        rcases q196 with ⟨rfl, ⟨rfl, gw195⟩ | ⟨rfl, gw195⟩⟩
                        · skip
                          rw [lx_E_w hE] at gw195
                          exact absurd (gw195.symm.trans hnw) (by decide)
                        · skip
                          show wJ _ _ _ _ _ _ _ _ _ _
                          rw [lx_E_w hE] at gw195
                          refine wa_ifeq (w_rg0 (by omega) (by omega)) ⟨_, rfl⟩ (fun c198 => ?_) (fun c198 => ?_)
                          · skip
                            refine wa_iconst ?_
                            refine wa_goto ⟨_, rfl⟩ ?_
                            refine wa_bipush (w_rg2 (by omega) (by omega)) ?_
                            refine wa_cv 237 rfl (wy_pr rfl) wt_237 (M2 := fun _ => False) rfl at_M_must ⟨_, rfl⟩ rfl rfl ⟨(Or.inr ⟨wy_pr rfl, fun q => q⟩), trivial, trivial, trivial, trivial⟩ trivial (fun _ _ q => False.elim q) (must_ok (S := Z) (g := 1) (n := 6) (Or.inr rfl) ⟨by omega, by omega⟩) (fun oq200 Sq200 hp201 q200 => ?_)
                            rcases q200 with ⟨_, rfl, rfl⟩ | ⟨m199, _, _⟩
                            · skip
                              show wJ _ _ _ _ _ _ _ _ _ _
                              refine wa_aload_n (n := 0) rfl ?_
                              refine wb_gf5 237 rfl (wy_pr rfl) wt_237 wf_15_15 (v := 261) (((hL 237 15 (by omega) (by omega)).trans hA15)) (fun r202 => ?_)
                              refine wb_gf4 261 rfl (wy_pr rfl) wt_261 wf_12_12 (v := 272) wl_261_12 ?_
                              refine wa_iload_n (n := 2) rfl ?_
                              refine wa_iload_n (n := 1) rfl ?_
                              refine wb_iast 272 rfl (wy_pr rfl) wt_272 (n := 400) ((ml_272 hE.1.1)) (by omega) (by omega) ⟨(by omega), (by omega)⟩ ?_
                              refine wa_aload_n (n := 0) rfl ?_
                              refine wb_gf5 237 rfl (wy_pr rfl) wt_237 wf_15_15 (v := 261) ((w_up_slot (by decide)).trans (((hL 237 15 (by omega) (by omega)).trans hA15))) (fun r203 => ?_)
                              refine wb_gf4 261 rfl (wy_pr rfl) wt_261 wf_12_14 (v := 274) wl_261_14 ?_
                              refine wa_iload_n (n := 2) rfl ?_
                              refine wa_iload_n (n := 3) rfl ?_
                              refine wb_zast 274 rfl (wy_pr rfl) wt_274 (n := 400) ((w_up_slot (by decide)).trans ((ml_274 hE.1.1))) (by omega) (by omega) ⟨(by omega), (by omega)⟩ ?_
                              refine wa_aload_n (n := 0) rfl ?_
                              refine wb_gf5 237 rfl (wy_pr rfl) wt_237 wf_15_15 (v := 261) ((w_up_slot (by decide)).trans ((w_up_slot (by decide)).trans (((hL 237 15 (by omega) (by omega)).trans hA15)))) (fun r204 => ?_)
                              refine wb_gf4 261 rfl (wy_pr rfl) wt_261 wf_12_19 (v := 279) wl_261_19 ?_
                              refine wa_iload_n (n := 2) rfl ?_
                              refine wa_aload_n (n := 0) rfl ?_
                              refine wb_gfi 237 rfl (wy_pr rfl) wt_237 wf_15_7 (v := p1) ((w_up_slot (by decide)).trans ((w_up_slot (by decide)).trans ((lx_E_7 hE)))) (fun r205 => ?_)
                              refine wb_iast 279 rfl (wy_pr rfl) wt_279 (n := 400) ((w_up_slot (by decide)).trans ((w_up_slot (by decide)).trans ((ml_279 hE.1.1)))) (by omega) (by omega) ⟨(by omega), (by omega)⟩ ?_
                              refine wa_aload_n (n := 0) rfl ?_
                              refine wb_gf5 237 rfl (wy_pr rfl) wt_237 wf_15_15 (v := 261) ((w_up_slot (by decide)).trans ((w_up_slot (by decide)).trans ((w_up_slot (by decide)).trans (((hL 237 15 (by omega) (by omega)).trans hA15))))) (fun r206 => ?_)
                              refine wb_gf4 261 rfl (wy_pr rfl) wt_261 wf_12_20 (v := 280) wl_261_20 ?_
                              refine wa_iload_n (n := 2) rfl ?_
                              refine wa_aload_n (n := 0) rfl ?_
                              refine wb_gfi 237 rfl (wy_pr rfl) wt_237 wf_15_7 (v := p1) ((w_up_slot (by decide)).trans ((w_up_slot (by decide)).trans ((w_up_slot (by decide)).trans ((lx_E_7 hE))))) (fun r207 => ?_)
                              refine wb_iast 280 rfl (wy_pr rfl) wt_280 (n := 400) ((w_up_slot (by decide)).trans ((w_up_slot (by decide)).trans ((w_up_slot (by decide)).trans ((ml_280 hE.1.1))))) (by omega) (by omega) ⟨(by omega), (by omega)⟩ ?_
                              refine wa_aload_n (n := 0) rfl ?_
                              refine wa_ks ?_
                              refine wa_cv 237 rfl (wy_pr rfl) wt_237 (M2 := fun _ => False) rfl at_M_isWord ⟨_, rfl⟩ rfl rfl ⟨(Or.inr ⟨wy_pr rfl, fun q => q⟩), trivial, trivial, trivial, trivial⟩ trivial (fun _ _ q => False.elim q) (isWord_ok (S := (w_up (w_up (w_up (w_up Z 272 m c) 274 m st) 279 m p1) 280 m p1)) (lx_E_up (lx_E_up (lx_E_up (lx_E_up hE (by decide) (by omega)) (by decide) (by omega)) (by decide) (by omega)) (by decide) (by omega)).1.1 (wx_25 hX) (by decide) (lx_I_hp (lx_E_up (lx_E_up (lx_E_up (lx_E_up hE (by decide) (by omega)) (by decide) (by omega)) (by decide) (by omega)) (by decide) (by omega)).1)) (fun oq209 Sq209 hp210 q209 => ?_)
                              rcases q209 with ⟨rfl, ⟨rfl, gw208⟩ | ⟨rfl, gw208⟩⟩
                              · skip
                                rw [lx_E_w (lx_E_up (lx_E_up (lx_E_up (lx_E_up hE (by decide) (by omega)) (by decide) (by omega)) (by decide) (by omega)) (by decide) (by omega))] at gw208
                                exact absurd (gw208.symm.trans hnw) (by decide)
                              · skip
                                show wJ _ _ _ _ _ _ _ _ _ _
                                rw [lx_E_w (lx_E_up (lx_E_up (lx_E_up (lx_E_up hE (by decide) (by omega)) (by decide) (by omega)) (by decide) (by omega)) (by decide) (by omega))] at gw208
                                refine wa_ifeq (w_rg0 (by omega) (by omega)) ⟨_, rfl⟩ (fun c211 => ?_) (fun c211 => ?_)
                                · skip
                                  refine wa_aload_n (n := 0) rfl ?_
                                  refine wb_gf5 237 rfl (wy_pr rfl) wt_237 wf_15_15 (v := 261) ((w_up_slot (by decide)).trans ((w_up_slot (by decide)).trans ((w_up_slot (by decide)).trans ((w_up_slot (by decide)).trans (((hL 237 15 (by omega) (by omega)).trans hA15)))))) (fun r212 => ?_)
                                  refine wb_gf4 261 rfl (wy_pr rfl) wt_261 wf_12_15 (v := 275) wl_261_15 ?_
                                  refine wa_iload_n (n := 2) rfl ?_
                                  refine wa_aload_n (n := 0) rfl ?_
                                  refine wa_iconst ?_
                                  refine wa_cv 237 rfl (wy_pr rfl) wt_237 (M2 := fun _ => False) rfl at_M_readsType ⟨_, rfl⟩ rfl rfl ⟨(Or.inr ⟨wy_pr rfl, fun q => q⟩), trivial, trivial, trivial, trivial⟩ ⟨trivial, (Or.inr ⟨wy_pr rfl, fun q => q⟩), trivial⟩ (fun _ _ q => False.elim q) (readsType_261 (S := (w_up (w_up (w_up (w_up Z 272 m c) 274 m st) 279 m p1) 280 m p1)) hX (lx_E_up (lx_E_up (lx_E_up (lx_E_up hE (by decide) (by omega)) (by decide) (by omega)) (by decide) (by omega)) (by decide) (by omega)).1 ((w_up_slot (by decide)).trans ((w_up_slot (by decide)).trans ((w_up_slot (by decide)).trans ((w_up_slot (by decide)).trans (((hL 237 15 (by omega) (by omega)).trans hA15)))))) (ho_nm_of hAn (((lx_ag_cg (lx_ag_cg (lx_ag_cg (lx_ag_cg hL)))) 261 1 (by omega) (by omega)).trans rfl) (funext fun i => ((lx_ag_cg (lx_ag_cg (lx_ag_cg (lx_ag_cg hL)))) 270 i (by omega) (by omega)).trans rfl) (funext fun i => ((lx_ag_cg (lx_ag_cg (lx_ag_cg (lx_ag_cg hL)))) 271 i (by omega) (by omega)).trans rfl)) (Or.inr rfl) rfl) (fun oq213 Sq213 hp214 q213 => ?_)
                                  rcases q213 with ⟨t, p2, ty, rfl, a1, a2⟩ | ⟨t, p2, ty, rfl, rfl⟩
                                  · skip
                                    rw [lx_E_type (b := 261) (lx_E_up (lx_E_up (lx_E_up (lx_E_up hE (by decide) (by omega)) (by decide) (by omega)) (by decide) (by omega)) (by decide) (by omega)) (by decide) (((lx_ag_cg (lx_ag_cg (lx_ag_cg (lx_ag_cg hL)))) 261 1 (by omega) (by omega)).trans rfl) (funext fun i => ((lx_ag_cg (lx_ag_cg (lx_ag_cg (lx_ag_cg hL)))) 270 i (by omega) (by omega)).trans rfl) (funext fun i => ((lx_ag_cg (lx_ag_cg (lx_ag_cg (lx_ag_cg hL)))) 271 i (by omega) (by omega)).trans rfl)] at ty
                                    show wJ _ _ _ _ _ _ _ _ _ _
                                    repeat (first | rw [if_pos (by omega)] at he | rw [if_neg (by omega)] at he)
                                    rw [ty] at he
                                    dsimp only at he
                                    obtain ⟨t0, t1, t2, t3⟩ := hy_type_rg (show zq A p1 261 1 ≤ 60 from hAn.1.2) ty
                                    have hE215 : lx_E Sq213 A p2 := lx_E_ag (lx_E_up (lx_E_up (lx_E_up (lx_E_up hE (by decide) (by omega)) (by decide) (by omega)) (by decide) (by omega)) (by decide) (by omega)) a1 a2
                                    have hL215 : lx_ag (w_up (w_up (w_up (w_up A 272 m c) 274 m st) 279 m p1) 280 m p1) Sq213 := lx_ag_tr (lx_ag_cg (lx_ag_cg (lx_ag_cg (lx_ag_cg hL)))) a1
                                    have bp2 := hE215.1.2.2.1
                                    have bn2 := hE215.1.2.1
                                    have b82 : 0 ≤ Sq213 237 8 ∧ Sq213 237 8 ≤ 65540 := (lx_I_hp hE215.1).2.2
                                    rw [lx_E_8 hE215] at b82
                                    have b83 : p2 ≤ zq A p2 237 8 := (lx_en_le (T := A 239) (h := A 237 5) (by rw [← hE215.2.2.1]; exact bp2.2)).1
                                    refine wb_iast 275 rfl (wy_pr rfl) wt_275 (n := 400) ((ml_275 hE215.1.1)) (by omega) (by omega) ⟨(by omega), (by omega)⟩ ?_
                                    refine wa_aload_n (n := 0) rfl ?_
                                    refine wa_aload_n (n := 0) rfl ?_
                                    refine wb_gfi 237 rfl (wy_pr rfl) wt_237 wf_15_6 (v := (zq A p2 237 6)) ((w_up_slot (by decide)).trans ((lx_E_6 hE215))) (fun r216 => ?_)
                                    refine wa_iconst ?_
                                    refine wa_icmpne (w_rg0 (by omega) (by omega)) (w_rg0 (by omega) (by omega)) ⟨_, rfl⟩ (fun c217 => ?_) (fun c217 => ?_)
                                    · skip
                                      refine wa_iconst ?_
                                      refine wa_fall ⟨_, rfl⟩ ?_
                                      refine wa_iconst ?_
                                      refine wa_cv 237 rfl (wy_pr rfl) wt_237 (M2 := fun _ => False) rfl at_M_must ⟨_, rfl⟩ rfl rfl ⟨(Or.inr ⟨wy_pr rfl, fun q => q⟩), trivial, trivial, trivial, trivial⟩ trivial (fun _ _ q => False.elim q) (must_ok (S := (w_up Sq213 275 m t)) (g := 0) (n := 1) (Or.inl rfl) ⟨by omega, by omega⟩) (fun oq219 Sq219 hp220 q219 => ?_)
                                      rcases q219 with ⟨m218, _, _⟩ | ⟨_, rfl, rfl⟩
                                      · skip
                                        exact absurd m218 (by decide)
                                      · skip
                                        refine ⟨rfl, ?_⟩
                                        repeat (first | rw [if_pos (by omega)] at he | rw [if_neg (by omega)] at he)
                                        first | (rw [ty] at he; dsimp only at he) | (rw [if_neg (by rw [gis]; decide)] at he) | skip
                                        first | (rw [if_pos (by omega), if_pos goo] at he) | skip
                                        exact Or.inr ⟨_, _, he.symm, rfl, hm_ag_hl (hm_ag_up (hm_ag_lx (hm_ag_up (hm_ag_up (hm_ag_up (hm_ag_up hm_ag_rf (by decide) (by omega) (by decide)) (by decide) (by omega) (by decide)) (by decide) (by omega) (by decide)) (by decide) (by omega) (by decide)) hL215) (by decide) (by omega) (by decide)), rfl, by first | rfl | exact (show (w_up Sq213 275 m t) 237 7 = p2 from ((w_up_slot (by decide)).trans ((lx_E_7 hE215))))⟩
                                    · skip
                                      refine wa_iconst ?_
                                      refine wa_goto ⟨_, rfl⟩ ?_
                                      refine wa_iconst ?_
                                      refine wa_cv 237 rfl (wy_pr rfl) wt_237 (M2 := fun _ => False) rfl at_M_must ⟨_, rfl⟩ rfl rfl ⟨(Or.inr ⟨wy_pr rfl, fun q => q⟩), trivial, trivial, trivial, trivial⟩ trivial (fun _ _ q => False.elim q) (must_ok (S := (w_up Sq213 275 m t)) (g := 1) (n := 1) (Or.inr rfl) ⟨by omega, by omega⟩) (fun oq222 Sq222 hp223 q222 => ?_)
                                      rcases q222 with ⟨_, rfl, rfl⟩ | ⟨m221, _, _⟩
                                      · skip
                                        show wJ _ _ _ _ _ _ _ _ _ _
                                        refine wa_aload_n (n := 0) rfl ?_
                                        refine wa_aload_n (n := 0) rfl ?_
                                        refine wa_ks ?_
                                        refine wa_cv 237 rfl (wy_pr rfl) wt_237 (M2 := fun _ => False) rfl at_M_isOneOf ⟨_, rfl⟩ rfl rfl ⟨(Or.inr ⟨wy_pr rfl, fun q => q⟩), trivial, trivial, trivial, trivial⟩ ⟨(Or.inr ⟨wy_pr rfl, fun q => q⟩), trivial⟩ (fun _ _ q => False.elim q) (isOneOf_ok (S := (w_up Sq213 275 m t)) (lx_E_up hE215 (by decide) (by omega)).1.1 (wx_21 hX) (by decide) (by decide) (lx_I_hp (lx_E_up hE215 (by decide) (by omega)).1) (by decide)) (fun oq225 Sq225 hp226 q225 => ?_)
                                        rcases q225 with ⟨rfl, ⟨rfl, go224⟩ | ⟨rfl, go224⟩⟩
                                        · skip
                                          show wJ _ _ _ _ _ _ _ _ _ _
                                          rw [lx_E_oo (lx_E_up hE215 (by decide) (by omega))] at go224
                                          have goo := go224
                                          refine wa_ifne (w_rg0 (by omega) (by omega)) ⟨_, rfl⟩ (fun c227 => ?_) (fun c227 => ?_)
                                          · skip
                                            refine wa_iconst ?_
                                            refine wa_fall ⟨_, rfl⟩ ?_
                                            refine wa_iconst ?_
                                            refine wa_cv 237 rfl (wy_pr rfl) wt_237 (M2 := fun _ => False) rfl at_M_must ⟨_, rfl⟩ rfl rfl ⟨(Or.inr ⟨wy_pr rfl, fun q => q⟩), trivial, trivial, trivial, trivial⟩ trivial (fun _ _ q => False.elim q) (must_ok (S := (w_up Sq213 275 m t)) (g := 0) (n := 2) (Or.inl rfl) ⟨by omega, by omega⟩) (fun oq229 Sq229 hp230 q229 => ?_)
                                            rcases q229 with ⟨m228, _, _⟩ | ⟨_, rfl, rfl⟩
                                            · skip
                                              exact absurd m228 (by decide)
                                            · skip
                                              refine ⟨rfl, ?_⟩
                                              repeat (first | rw [if_pos (by omega)] at he | rw [if_neg (by omega)] at he)
                                              first | (rw [ty] at he; dsimp only at he) | (rw [if_neg (by rw [gis]; decide)] at he) | skip
                                              first | (rw [if_pos (by omega), if_pos goo] at he) | skip
                                              exact Or.inr ⟨_, _, he.symm, rfl, hm_ag_hl (hm_ag_up (hm_ag_lx (hm_ag_up (hm_ag_up (hm_ag_up (hm_ag_up hm_ag_rf (by decide) (by omega) (by decide)) (by decide) (by omega) (by decide)) (by decide) (by omega) (by decide)) (by decide) (by omega) (by decide)) hL215) (by decide) (by omega) (by decide)), rfl, by first | rfl | exact (show (w_up Sq213 275 m t) 237 7 = p2 from ((w_up_slot (by decide)).trans ((lx_E_7 hE215))))⟩
                                          · skip
                                            exact absurd c227 (by omega)
                                        · skip
                                          show wJ _ _ _ _ _ _ _ _ _ _
                                          rw [lx_E_oo (lx_E_up hE215 (by decide) (by omega))] at go224
                                          have goo := go224
                                          refine wa_ifne (w_rg0 (by omega) (by omega)) ⟨_, rfl⟩ (fun c231 => ?_) (fun c231 => ?_)
                                          · skip
                                            exact absurd c231 (by omega)
                                          · skip
                                            refine wa_iconst ?_
                                            refine wa_goto ⟨_, rfl⟩ ?_
                                            refine wa_iconst ?_
                                            refine wa_cv 237 rfl (wy_pr rfl) wt_237 (M2 := fun _ => False) rfl at_M_must ⟨_, rfl⟩ rfl rfl ⟨(Or.inr ⟨wy_pr rfl, fun q => q⟩), trivial, trivial, trivial, trivial⟩ trivial (fun _ _ q => False.elim q) (must_ok (S := (w_up Sq213 275 m t)) (g := 1) (n := 2) (Or.inr rfl) ⟨by omega, by omega⟩) (fun oq233 Sq233 hp234 q233 => ?_)
                                            rcases q233 with ⟨_, rfl, rfl⟩ | ⟨m232, _, _⟩
                                            · skip
                                              show wJ _ _ _ _ _ _ _ _ _ _
                                              refine wa_aload_n (n := 0) rfl ?_
                                              refine wb_gfi 237 rfl (wy_pr rfl) wt_237 wf_15_7 (v := p2) ((w_up_slot (by decide)).trans ((lx_E_7 hE215))) (fun r235 => ?_)
                                              refine wa_istore (n := 4) rfl ?_
                                              refine wa_aload_n (n := 0) rfl ?_
                                              refine wb_gf5 237 rfl (wy_pr rfl) wt_237 wf_15_15 (v := 261) ((w_up_slot (by decide)).trans (((hL215 237 15 (by omega) (by omega)).trans hA15))) (fun r236 => ?_)
                                              refine wb_gf4 261 rfl (wy_pr rfl) wt_261 wf_12_19 (v := 279) wl_261_19 ?_
                                              refine wa_iload_n (n := 2) rfl ?_
                                              refine wa_aload_n (n := 0) rfl ?_
                                              refine wb_gfi 237 rfl (wy_pr rfl) wt_237 wf_15_7 (v := p2) ((w_up_slot (by decide)).trans ((lx_E_7 hE215))) (fun r237 => ?_)
                                              refine wb_iast 279 rfl (wy_pr rfl) wt_279 (n := 400) ((w_up_slot (by decide)).trans ((ml_279 hE215.1.1))) (by omega) (by omega) ⟨(by omega), (by omega)⟩ ?_
                                              refine wa_aload_n (n := 0) rfl ?_
                                              refine wb_gf5 237 rfl (wy_pr rfl) wt_237 wf_15_15 (v := 261) ((w_up_slot (by decide)).trans ((w_up_slot (by decide)).trans (((hL215 237 15 (by omega) (by omega)).trans hA15)))) (fun r238 => ?_)
                                              refine wb_gf4 261 rfl (wy_pr rfl) wt_261 wf_12_20 (v := 280) wl_261_20 ?_
                                              refine wa_iload_n (n := 2) rfl ?_
                                              refine wa_aload_n (n := 0) rfl ?_
                                              refine wb_gfi 237 rfl (wy_pr rfl) wt_237 wf_15_8 (v := (zq A p2 237 8)) ((w_up_slot (by decide)).trans ((w_up_slot (by decide)).trans ((lx_E_8 hE215)))) (fun r239 => ?_)
                                              refine wb_iast 280 rfl (wy_pr rfl) wt_280 (n := 400) ((w_up_slot (by decide)).trans ((w_up_slot (by decide)).trans ((ml_280 hE215.1.1)))) (by omega) (by omega) ⟨(by omega), (by omega)⟩ ?_
                                              refine wa_aload_n (n := 0) rfl ?_
                                              refine wa_cv 237 rfl (wy_pr rfl) wt_237 (M2 := fun _ => False) rfl at_M_next ⟨_, rfl⟩ rfl rfl ⟨trivial, (Or.inr ⟨wy_pr rfl, fun q => q⟩), trivial, trivial, trivial, trivial⟩ trivial (fun _ _ q => False.elim q) (nx_I (S := (w_up (w_up (w_up Sq213 275 m t) 279 m p2) 280 m (zq A p2 237 8))) (lx_E_up (lx_E_up (lx_E_up hE215 (by decide) (by omega)) (by decide) (by omega)) (by decide) (by omega)).1 (by have e6 : (w_up (w_up (w_up Sq213 275 m t) 279 m p2) 280 m (zq A p2 237 8)) 237 6 = (zq A p2 237 6) := ((w_up_slot (by decide)).trans ((w_up_slot (by decide)).trans ((w_up_slot (by decide)).trans ((lx_E_6 hE215))))); first | omega | (have := (lx_is4 gis).1; omega) | (have := lx_w1 hnw; omega))) (fun oq240 Sq240 hp241 q240 => ?_)
                                              rcases q240 with ⟨rfl, a1, a2⟩
                                              show wJ _ _ _ _ _ _ _ _ _ _
                                              rw [lx_E_ne (lx_E_up (lx_E_up (lx_E_up hE215 (by decide) (by omega)) (by decide) (by omega)) (by decide) (by omega))] at a2
                                              have hE242 : lx_E Sq240 A (lx_ne (zq A p2) p2) := lx_E_ag (lx_E_up (lx_E_up (lx_E_up hE215 (by decide) (by omega)) (by decide) (by omega)) (by decide) (by omega)) a1 a2
                                              have hL242 : lx_ag (w_up (w_up (w_up (w_up (w_up (w_up (w_up A 272 m c) 274 m st) 279 m p1) 280 m p1) 275 m t) 279 m p2) 280 m (zq A p2 237 8)) Sq240 := lx_ag_tr (lx_ag_cg (lx_ag_cg (lx_ag_cg hL215))) a1
                                              refine wa_aload_n (n := 0) rfl ?_
                                              refine wa_bipush (w_rg2 (by omega) (by omega)) ?_
                                              refine wa_cv 237 rfl (wy_pr rfl) wt_237 (M2 := fun _ => False) rfl at_M_isSign ⟨_, rfl⟩ rfl rfl ⟨trivial, (Or.inr ⟨wy_pr rfl, fun q => q⟩), trivial, trivial, trivial, trivial⟩ trivial (fun _ _ q => False.elim q) (isSign_ok (S := Sq240) ⟨by omega, by omega⟩) (fun oq244 Sq244 hp245 q244 => ?_)
                                              rcases q244 with ⟨rfl, ⟨rfl, gi243⟩ | ⟨rfl, gi243⟩⟩
                                              · skip
                                                show wJ _ _ _ _ _ _ _ _ _ _
                                                rw [lx_E_is hE242] at gi243
                                                have gis := gi243
                                                have gsv := gis
                                                refine wa_ifeq (w_rg0 (by omega) (by omega)) ⟨_, rfl⟩ (fun c246 => ?_) (fun c246 => ?_)
                                                · skip
                                                  exact absurd c246 (by omega)
                                                · skip
                                                  refine wa_aload_n (n := 0) rfl ?_
                                                  refine wb_gf5 237 rfl (wy_pr rfl) wt_237 wf_15_15 (v := 261) (((hL242 237 15 (by omega) (by omega)).trans hA15)) (fun r247 => ?_)
                                                  refine wb_gf4 261 rfl (wy_pr rfl) wt_261 wf_12_13 (v := 273) wl_261_13 ?_
                                                  refine wa_iload_n (n := 2) rfl ?_
                                                  refine wa_iconst ?_
                                                  refine wb_iast 273 rfl (wy_pr rfl) wt_273 (n := 400) ((ml_273 hE242.1.1)) (by omega) (by omega) ⟨(by omega), (by omega)⟩ ?_
                                                  refine wa_aload_n (n := 0) rfl ?_
                                                  refine wa_cv 237 rfl (wy_pr rfl) wt_237 (M2 := fun _ => False) rfl at_M_next ⟨_, rfl⟩ rfl rfl ⟨trivial, (Or.inr ⟨wy_pr rfl, fun q => q⟩), trivial, trivial, trivial, trivial⟩ trivial (fun _ _ q => False.elim q) (nx_I (S := (w_up Sq240 273 m 1)) (lx_E_up hE242 (by decide) (by omega)).1 (by have e6 : (w_up Sq240 273 m 1) 237 6 = (zq A (lx_ne (zq A p2) p2) 237 6) := ((w_up_slot (by decide)).trans ((lx_E_6 hE242))); first | omega | (have := (lx_is4 gis).1; omega) | (have := lx_w1 hnw; omega))) (fun oq248 Sq248 hp249 q248 => ?_)
                                                  rcases q248 with ⟨rfl, a1, a2⟩
                                                  show wJ _ _ _ _ _ _ _ _ _ _
                                                  rw [lx_E_ne (lx_E_up hE242 (by decide) (by omega))] at a2
                                                  have hE250 : lx_E Sq248 A (lx_ne (zq A (lx_ne (zq A p2) p2)) (lx_ne (zq A p2) p2)) := lx_E_ag (lx_E_up hE242 (by decide) (by omega)) a1 a2
                                                  have hL250 : lx_ag (w_up (w_up (w_up (w_up (w_up (w_up (w_up (w_up A 272 m c) 274 m st) 279 m p1) 280 m p1) 275 m t) 279 m p2) 280 m (zq A p2 237 8)) 273 m 1) Sq248 := lx_ag_tr (lx_ag_cg hL242) a1
                                                  refine wa_aload_n (n := 0) rfl ?_
                                                  refine wa_iload_n (n := 1) rfl ?_
                                                  refine wa_iload_n (n := 2) rfl ?_
                                                  refine wa_cv 237 rfl (wy_pr rfl) wt_237 (M2 := fun _ => False) rfl at_M_readsParameters ⟨_, rfl⟩ rfl rfl ⟨trivial, (Or.inr ⟨wy_pr rfl, fun q => q⟩), trivial, trivial, trivial, trivial⟩ trivial (fun _ _ q => False.elim q) (readsParameters_261 (A := Sq248) (R := pq_k (w_up (w_up (w_up (w_up (w_up (w_up (w_up (w_up A 272 m c) 274 m st) 279 m p1) 280 m p1) 275 m t) 279 m p2) 280 m (zq A p2 237 8)) 273 m 1) 261 c m (pq_r (w_up (w_up (w_up (w_up (w_up (w_up (w_up (w_up A 272 m c) 274 m st) 279 m p1) 280 m p1) 275 m t) 279 m p2) 280 m (zq A p2 237 8)) 273 m 1) 261 (lx_ne (zq A (lx_ne (zq A p2) p2)) (lx_ne (zq A p2) p2)))) hX (((hL250 237 15 (by omega) (by omega)).trans hA15)) ⟨by omega, by omega⟩ (ho_mm_ag hm.1 (by decide) hmm (hm_ag_lx (hm_ag_up (hm_ag_up (hm_ag_up (hm_ag_up (hm_ag_up (hm_ag_up (hm_ag_up (hm_ag_up hm_ag_rf (by decide) (by omega) (by decide)) (by decide) (by omega) (by decide)) (by decide) (by omega) (by decide)) (by decide) (by omega) (by decide)) (by decide) (by omega) (by decide)) (by decide) (by omega) (by decide)) (by decide) (by omega) (by decide)) (by decide) (by omega) (by decide)) hL250)) (by have y1 : Sq248 279 m = p2 := (((hL250 279 m (by omega) (by omega)).trans ((w_up_slot (by decide)).trans ((w_up_slot (by decide)).trans (w_up_same _ _ _ _))))); have y2 : Sq248 280 m = (zq A p2 237 8) := (((hL250 280 m (by omega) (by omega)).trans ((w_up_slot (by decide)).trans (w_up_same _ _ _ _)))); omega) (by rw [show Sq248 268 c = A 268 c from (((hL250 268 c (by omega) (by omega)).trans ((w_up_slot (by decide)).trans ((w_up_slot (by decide)).trans ((w_up_slot (by decide)).trans ((w_up_slot (by decide)).trans ((w_up_slot (by decide)).trans ((w_up_slot (by decide)).trans ((w_up_slot (by decide)).trans (w_up_slot (by decide)))))))))))]; exact hfi) hcc (ho_nm_of hAn ((hL250 261 1 (by omega) (by omega)).trans rfl) (funext fun i => (hL250 270 i (by omega) (by omega)).trans rfl) (funext fun i => (hL250 271 i (by omega) (by omega)).trans rfl)) ⟨hE250.1, rfl, rfl, rfl⟩ (pq_ag hL250 (by decide))) (fun oq251 Sq251 hp252 q251 => ?_)
                                                  rcases q251 with ⟨q, v, l, hR, rfl, c1, c2, c3, c4⟩ | ⟨e, q, hR, rfl, c1, c2, c3⟩
                                                  · skip
                                                    repeat (first | rw [if_pos (by omega)] at he | rw [if_neg (by omega)] at he)
                                                    first | rw [if_neg (by rw [goo]; decide), if_pos gsv] at he | rw [if_pos gsv] at he | rw [if_neg (by rw [goo]; decide)] at he | skip
                                                    unfold rm_par at he
                                                    rw [hR] at he
                                                    dsimp only at he
                                                    show wJ _ _ _ _ _ _ _ _ _ _
                                                    refine wa_goto ⟨_, rfl⟩ ?_
                                                    exact wJ_S (mem_23_261 hA15 hAm ⟨by omega, by omega⟩ hcc hmy (hm_ag_tr (hm_ag_lx (hm_ag_up (hm_ag_up (hm_ag_up (hm_ag_up (hm_ag_up (hm_ag_up (hm_ag_up (hm_ag_up hm_ag_rf (by decide) (by omega) (by decide)) (by decide) (by omega) (by decide)) (by decide) (by omega) (by decide)) (by decide) (by omega) (by decide)) (by decide) (by omega) (by decide)) (by decide) (by omega) (by decide)) (by decide) (by omega) (by decide)) (by decide) (by omega) (by decide)) hL250) (hp_hm c1)) ⟨c2.1, c2.2.1.trans hE250.2.1, c2.2.2.1.trans hE250.2.2.1, c2.2.2.2.trans hE250.2.2.2⟩ ⟨(c1 272 m (by omega) (by omega) (by omega) (by omega)).trans (((hL250 272 m (by omega) (by omega)).trans ((w_up_slot (by decide)).trans ((w_up_slot (by decide)).trans ((w_up_slot (by decide)).trans ((w_up_slot (by decide)).trans ((w_up_slot (by decide)).trans ((w_up_slot (by decide)).trans ((w_up_slot (by decide)).trans (w_up_same _ _ _ _)))))))))), (c1 273 m (by omega) (by omega) (by omega) (by omega)).trans (((hL250 273 m (by omega) (by omega)).trans (w_up_same _ _ _ _))), (c1 274 m (by omega) (by omega) (by omega) (by omega)).trans (((hL250 274 m (by omega) (by omega)).trans ((w_up_slot (by decide)).trans ((w_up_slot (by decide)).trans ((w_up_slot (by decide)).trans ((w_up_slot (by decide)).trans ((w_up_slot (by decide)).trans ((w_up_slot (by decide)).trans (w_up_same _ _ _ _))))))))), (c1 275 m (by omega) (by omega) (by omega) (by omega)).trans (((hL250 275 m (by omega) (by omega)).trans ((w_up_slot (by decide)).trans ((w_up_slot (by decide)).trans ((w_up_slot (by decide)).trans (w_up_same _ _ _ _)))))), (c1 279 m (by omega) (by omega) (by omega) (by omega)).trans (((hL250 279 m (by omega) (by omega)).trans ((w_up_slot (by decide)).trans ((w_up_slot (by decide)).trans (w_up_same _ _ _ _))))), (c1 280 m (by omega) (by omega) (by omega) (by omega)).trans (((hL250 280 m (by omega) (by omega)).trans ((w_up_slot (by decide)).trans (w_up_same _ _ _ _))))⟩ c3 c4 he) ⟨rfl, rfl, rfl, trivial⟩
                                                  · skip
                                                    repeat (first | rw [if_pos (by omega)] at he | rw [if_neg (by omega)] at he)
                                                    first | rw [if_neg (by rw [goo]; decide), if_pos gsv] at he | rw [if_pos gsv] at he | rw [if_neg (by rw [goo]; decide)] at he | skip
                                                    unfold rm_par at he
                                                    rw [hR] at he
                                                    dsimp only at he
                                                    refine ⟨rfl, ?_⟩
                                                    exact Or.inr ⟨_, _, he.symm, rfl, (hm_ag_tr (hm_ag_lx (hm_ag_up (hm_ag_up (hm_ag_up (hm_ag_up (hm_ag_up (hm_ag_up (hm_ag_up (hm_ag_up hm_ag_rf (by decide) (by omega) (by decide)) (by decide) (by omega) (by decide)) (by decide) (by omega) (by decide)) (by decide) (by omega) (by decide)) (by decide) (by omega) (by decide)) (by decide) (by omega) (by decide)) (by decide) (by omega) (by decide)) (by decide) (by omega) (by decide)) hL250) (hp_hm c1)), c2, c3⟩
                                              · skip
                                                show wJ _ _ _ _ _ _ _ _ _ _
                                                rw [lx_E_is hE242] at gi243
                                                have gis := gi243
                                                have gsv := gis
                                                refine wa_ifeq (w_rg0 (by omega) (by omega)) ⟨_, rfl⟩ (fun c254 => ?_) (fun c254 => ?_)
                                                · skip
                                                  refine wa_aload_n (n := 0) rfl ?_
                                                  refine wa_iload_n (n := 1) rfl ?_
                                                  refine wa_iload_n (n := 2) rfl ?_
                                                  refine wa_iload (n := 4) rfl ?_
                                                  refine wa_cv 237 rfl (wy_pr rfl) wt_237 (M2 := fun _ => False) rfl at_M_readsField ⟨_, rfl⟩ rfl rfl ⟨trivial, (Or.inr ⟨wy_pr rfl, fun q => q⟩), trivial, trivial, trivial, trivial⟩ trivial (fun _ _ q => False.elim q) (readsField_261 (A := Sq240) (R := rf_of (w_up (w_up (w_up (w_up (w_up (w_up (w_up A 272 m c) 274 m st) 279 m p1) 280 m p1) 275 m t) 279 m p2) 280 m (zq A p2 237 8)) 261 c m (lx_ne (zq A p2) p2) p2) (((hL242 237 15 (by omega) (by omega)).trans hA15)) ⟨by omega, by omega⟩ (ho_mm_ag hm.1 (by decide) hmm (hm_ag_lx (hm_ag_up (hm_ag_up (hm_ag_up (hm_ag_up (hm_ag_up (hm_ag_up (hm_ag_up hm_ag_rf (by decide) (by omega) (by decide)) (by decide) (by omega) (by decide)) (by decide) (by omega) (by decide)) (by decide) (by omega) (by decide)) (by decide) (by omega) (by decide)) (by decide) (by omega) (by decide)) (by decide) (by omega) (by decide)) hL242)) (by have y1 : Sq240 279 m = p2 := (((hL242 279 m (by omega) (by omega)).trans ((w_up_slot (by decide)).trans (w_up_same _ _ _ _)))); have y2 : Sq240 280 m = (zq A p2 237 8) := (((hL242 280 m (by omega) (by omega)).trans (w_up_same _ _ _ _))); omega) (by rw [show Sq240 268 c = A 268 c from (((hL242 268 c (by omega) (by omega)).trans ((w_up_slot (by decide)).trans ((w_up_slot (by decide)).trans ((w_up_slot (by decide)).trans ((w_up_slot (by decide)).trans ((w_up_slot (by decide)).trans ((w_up_slot (by decide)).trans (w_up_slot (by decide))))))))))]; exact hfi) hcc ⟨hE242.1, rfl, rfl, rfl⟩ ⟨by omega, by omega⟩ (rf_ag hL242 (by decide))) (fun oq255 Sq255 hp256 q255 => ?_)
                                                  rcases q255 with ⟨hR, rfl, rfl⟩ | ⟨e, q, hR, rfl, c1, c2, c3⟩
                                                  · skip
                                                    repeat (first | rw [if_pos (by omega)] at he | rw [if_neg (by omega)] at he)
                                                    rw [if_neg (by rw [goo]; decide), if_neg (by rw [gis]; decide), hR] at he
                                                    dsimp only at he
                                                    show wJ _ _ _ _ _ _ _ _ _ _
                                                    refine wa_fall ⟨_, rfl⟩ ?_
                                                    exact wJ_S (mem_23_261 (l := []) (v := 0) hA15 hAm ⟨by omega, by omega⟩ hcc hmy (hm_ag_up (hm_ag_up (hm_ag_up (hm_ag_lx (hm_ag_up (hm_ag_up (hm_ag_up (hm_ag_up (hm_ag_up (hm_ag_up (hm_ag_up hm_ag_rf (by decide) (by omega) (by decide)) (by decide) (by omega) (by decide)) (by decide) (by omega) (by decide)) (by decide) (by omega) (by decide)) (by decide) (by omega) (by decide)) (by decide) (by omega) (by decide)) (by decide) (by omega) (by decide)) hL242) (by decide) (by omega) (by decide)) (by decide) (by omega) (by decide)) (by decide) (by omega) (by decide)) (lx_E_up (lx_E_up (lx_E_up hE242 (by decide) (by omega)) (by decide) (by omega)) (by decide) (by omega)) ⟨((w_up_slot (by decide)).trans ((w_up_slot (by decide)).trans ((w_up_slot (by decide)).trans (((hL242 272 m (by omega) (by omega)).trans ((w_up_slot (by decide)).trans ((w_up_slot (by decide)).trans ((w_up_slot (by decide)).trans ((w_up_slot (by decide)).trans ((w_up_slot (by decide)).trans ((w_up_slot (by decide)).trans (w_up_same _ _ _ _)))))))))))), ((w_up_slot (by decide)).trans ((w_up_slot (by decide)).trans (w_up_same _ _ _ _))), ((w_up_slot (by decide)).trans ((w_up_slot (by decide)).trans ((w_up_slot (by decide)).trans (((hL242 274 m (by omega) (by omega)).trans ((w_up_slot (by decide)).trans ((w_up_slot (by decide)).trans ((w_up_slot (by decide)).trans ((w_up_slot (by decide)).trans ((w_up_slot (by decide)).trans (w_up_same _ _ _ _))))))))))), ((w_up_slot (by decide)).trans ((w_up_slot (by decide)).trans ((w_up_slot (by decide)).trans (((hL242 275 m (by omega) (by omega)).trans ((w_up_slot (by decide)).trans ((w_up_slot (by decide)).trans (w_up_same _ _ _ _)))))))), ((w_up_slot (by decide)).trans ((w_up_slot (by decide)).trans ((w_up_slot (by decide)).trans (((hL242 279 m (by omega) (by omega)).trans ((w_up_slot (by decide)).trans (w_up_same _ _ _ _))))))), ((w_up_slot (by decide)).trans ((w_up_slot (by decide)).trans ((w_up_slot (by decide)).trans (((hL242 280 m (by omega) (by omega)).trans (w_up_same _ _ _ _))))))⟩ ⟨(w_up_slot (by decide)).trans (w_up_same _ _ _ _), w_up_same _ _ _ _, fun i hi => absurd hi (Nat.not_lt_zero i)⟩ (Nat.zero_le _) he) ⟨rfl, rfl, rfl, trivial⟩
                                                  · skip
                                                    repeat (first | rw [if_pos (by omega)] at he | rw [if_neg (by omega)] at he)
                                                    rw [if_neg (by rw [goo]; decide), if_neg (by rw [gis]; decide), hR] at he
                                                    dsimp only at he
                                                    refine ⟨rfl, ?_⟩
                                                    exact Or.inr ⟨_, _, he.symm, rfl, (hm_ag_tr (hm_ag_lx (hm_ag_up (hm_ag_up (hm_ag_up (hm_ag_up (hm_ag_up (hm_ag_up (hm_ag_up hm_ag_rf (by decide) (by omega) (by decide)) (by decide) (by omega) (by decide)) (by decide) (by omega) (by decide)) (by decide) (by omega) (by decide)) (by decide) (by omega) (by decide)) (by decide) (by omega) (by decide)) (by decide) (by omega) (by decide)) hL242) c1), c2, c3⟩
                                                · skip
                                                  exact absurd c254 (by omega)
                                            · skip
                                              exact absurd m232 (by decide)
                                      · skip
                                        exact absurd m221 (by decide)
                                  · skip
                                    rw [lx_E_type (b := 261) (lx_E_up (lx_E_up (lx_E_up (lx_E_up hE (by decide) (by omega)) (by decide) (by omega)) (by decide) (by omega)) (by decide) (by omega)) (by decide) (((lx_ag_cg (lx_ag_cg (lx_ag_cg (lx_ag_cg hL)))) 261 1 (by omega) (by omega)).trans rfl) (funext fun i => ((lx_ag_cg (lx_ag_cg (lx_ag_cg (lx_ag_cg hL)))) 270 i (by omega) (by omega)).trans rfl) (funext fun i => ((lx_ag_cg (lx_ag_cg (lx_ag_cg (lx_ag_cg hL)))) 271 i (by omega) (by omega)).trans rfl)] at ty
                                    refine ⟨rfl, ?_⟩
                                    repeat (first | rw [if_pos (by omega)] at he | rw [if_neg (by omega)] at he)
                                    first | (rw [ty] at he; dsimp only at he) | (rw [if_neg (by rw [gis]; decide)] at he) | skip
                                    first | (rw [if_pos (by omega), if_pos goo] at he) | skip
                                    exact Or.inr ⟨_, _, he.symm, rfl, hm_ag_hl (hm_ag_up (hm_ag_up (hm_ag_up (hm_ag_up (hm_ag_lx hm_ag_rf hL) (by decide) (by omega) (by decide)) (by decide) (by omega) (by decide)) (by decide) (by omega) (by decide)) (by decide) (by omega) (by decide)), rfl, by first | rfl | exact (show (w_up (w_up (w_up (w_up Z 272 m c) 274 m st) 279 m p1) 280 m p1) 237 7 = p1 from ((w_up_slot (by decide)).trans ((w_up_slot (by decide)).trans ((w_up_slot (by decide)).trans ((w_up_slot (by decide)).trans ((lx_E_7 hE)))))))⟩
                                · skip
                                  exact absurd c211 (by omega)
                            · skip
                              exact absurd m199 (by decide)
                          · skip
                            exact absurd c198 (by omega)
                      · skip
                        exact absurd m192 (by decide)
                  · skip
                    exact absurd m185 (by decide)
                · skip
                  refine wa_aload_n (n := 0) rfl ?_
                  refine wa_cv 237 rfl (wy_pr rfl) wt_237 (M2 := fun _ => False) rfl at_M_classHere ⟨_, rfl⟩ rfl rfl ⟨(Or.inr ⟨wy_pr rfl, fun q => q⟩), trivial, trivial, trivial, trivial⟩ ⟨(Or.inr ⟨wy_pr rfl, fun q => q⟩), trivial⟩ (fun _ _ q => False.elim q) (classHere_261 (S := Z) hE.1.1 (((hL 237 15 (by omega) (by omega)).trans hA15)) (ho_nm_of hAn ((hL 261 1 (by omega) (by omega)).trans rfl) (funext fun i => (hL 270 i (by omega) (by omega)).trans rfl) (funext fun i => (hL 271 i (by omega) (by omega)).trans rfl)) (lx_I_hp hE.1)) (fun oq259 Sq259 hp260 q259 => ?_)
                  rcases q259 with ⟨rfl, rfl⟩
                  show wJ _ _ _ _ _ _ _ _ _ _
                  rw [lx_E_ch (b := 261) hE (by decide) ((hL 261 1 (by omega) (by omega)).trans rfl) (funext fun i => (hL 270 i (by omega) (by omega)).trans rfl) (funext fun i => (hL 271 i (by omega) (by omega)).trans rfl)]
                  have hch := ch_of_rg (zq A p1) 261 (show A 261 1 ≤ 60 from hAn.1.2)
                  refine wa_iflt (w_rg0 (by omega) (by omega)) ⟨_, rfl⟩ (fun c261 => ?_) (fun c261 => ?_)
                  · skip
                    refine wa_iconst ?_
                    refine wa_fall ⟨_, rfl⟩ ?_
                    refine wa_iconst ?_
                    refine wa_cv 237 rfl (wy_pr rfl) wt_237 (M2 := fun _ => False) rfl at_M_must ⟨_, rfl⟩ rfl rfl ⟨(Or.inr ⟨wy_pr rfl, fun q => q⟩), trivial, trivial, trivial, trivial⟩ trivial (fun _ _ q => False.elim q) (must_ok (S := Z) (g := 0) (n := 3) (Or.inl rfl) ⟨by omega, by omega⟩) (fun oq263 Sq263 hp264 q263 => ?_)
                    rcases q263 with ⟨m262, _, _⟩ | ⟨_, rfl, rfl⟩
                    · skip
                      exact absurd m262 (by decide)
                    · skip
                      refine ⟨rfl, ?_⟩
                      repeat (first | rw [if_pos (by omega)] at he | rw [if_neg (by omega)] at he)
                      first | (rw [ty] at he; dsimp only at he) | (rw [if_neg (by rw [gis]; decide)] at he) | skip
                      first | (rw [if_pos (by omega), if_pos goo] at he) | skip
                      exact Or.inr ⟨_, _, he.symm, rfl, hm_ag_hl (hm_ag_lx hm_ag_rf hL), rfl, by first | rfl | exact (show Z 237 7 = p1 from ((lx_E_7 hE)))⟩
                  · skip
                    refine wa_fall ⟨_, rfl⟩ ?_
                    refine wa_iconst ?_
                    refine wa_goto ⟨_, rfl⟩ ?_
                    refine wa_iconst ?_
                    refine wa_cv 237 rfl (wy_pr rfl) wt_237 (M2 := fun _ => False) rfl at_M_must ⟨_, rfl⟩ rfl rfl ⟨(Or.inr ⟨wy_pr rfl, fun q => q⟩), trivial, trivial, trivial, trivial⟩ trivial (fun _ _ q => False.elim q) (must_ok (S := Z) (g := 1) (n := 3) (Or.inr rfl) ⟨by omega, by omega⟩) (fun oq266 Sq266 hp267 q266 => ?_)
                    rcases q266 with ⟨_, rfl, rfl⟩ | ⟨m265, _, _⟩
                    · skip
                      show wJ _ _ _ _ _ _ _ _ _ _
                      refine wa_fall ⟨_, rfl⟩ ?_
                      refine wa_aload_n (n := 0) rfl ?_
                      refine wa_iload_n (n := 2) rfl ?_
                      refine wa_sipush (by omega) ?_
                      refine wa_icmpge (w_rg0 (by omega) (by omega)) (w_rg0 (by omega) (by omega)) ⟨_, rfl⟩ (fun c268 => ?_) (fun c268 => ?_)
                      · skip
                        refine wa_iconst ?_
                        refine wa_fall ⟨_, rfl⟩ ?_
                        refine wa_iconst ?_
                        refine wa_cv 237 rfl (wy_pr rfl) wt_237 (M2 := fun _ => False) rfl at_M_must ⟨_, rfl⟩ rfl rfl ⟨(Or.inr ⟨wy_pr rfl, fun q => q⟩), trivial, trivial, trivial, trivial⟩ trivial (fun _ _ q => False.elim q) (must_ok (S := Z) (g := 0) (n := 5) (Or.inl rfl) ⟨by omega, by omega⟩) (fun oq270 Sq270 hp271 q270 => ?_)
                        rcases q270 with ⟨m269, _, _⟩ | ⟨_, rfl, rfl⟩
                        · skip
                          exact absurd m269 (by decide)
                        · skip
                          refine ⟨rfl, ?_⟩
                          repeat (first | rw [if_pos (by omega)] at he | rw [if_neg (by omega)] at he)
                          first | (rw [ty] at he; dsimp only at he) | (rw [if_neg (by rw [gis]; decide)] at he) | skip
                          first | (rw [if_pos (by omega), if_pos goo] at he) | skip
                          exact Or.inr ⟨_, _, he.symm, rfl, hm_ag_hl (hm_ag_lx hm_ag_rf hL), rfl, by first | rfl | exact (show Z 237 7 = p1 from ((lx_E_7 hE)))⟩
                      · skip
                        refine wa_iconst ?_
                        refine wa_goto ⟨_, rfl⟩ ?_
                        refine wa_iconst ?_
                        refine wa_cv 237 rfl (wy_pr rfl) wt_237 (M2 := fun _ => False) rfl at_M_must ⟨_, rfl⟩ rfl rfl ⟨(Or.inr ⟨wy_pr rfl, fun q => q⟩), trivial, trivial, trivial, trivial⟩ trivial (fun _ _ q => False.elim q) (must_ok (S := Z) (g := 1) (n := 5) (Or.inr rfl) ⟨by omega, by omega⟩) (fun oq273 Sq273 hp274 q273 => ?_)
                        rcases q273 with ⟨_, rfl, rfl⟩ | ⟨m272, _, _⟩
                        · skip
                          show wJ _ _ _ _ _ _ _ _ _ _
                          refine wa_aload_n (n := 0) rfl ?_
                          refine wa_aload_n (n := 0) rfl ?_
                          refine wa_ks ?_
                          refine wa_cv 237 rfl (wy_pr rfl) wt_237 (M2 := fun _ => False) rfl at_M_isWord ⟨_, rfl⟩ rfl rfl ⟨(Or.inr ⟨wy_pr rfl, fun q => q⟩), trivial, trivial, trivial, trivial⟩ ⟨(Or.inr ⟨wy_pr rfl, fun q => q⟩), trivial⟩ (fun _ _ q => False.elim q) (isWord_ok (S := Z) hE.1.1 (wx_25 hX) (by decide) (lx_I_hp hE.1)) (fun oq276 Sq276 hp277 q276 => ?_)
                          rcases q276 with ⟨rfl, ⟨rfl, gw275⟩ | ⟨rfl, gw275⟩⟩
                          · skip
                            rw [lx_E_w hE] at gw275
                            exact absurd (gw275.symm.trans hnw) (by decide)
                          · skip
                            show wJ _ _ _ _ _ _ _ _ _ _
                            rw [lx_E_w hE] at gw275
                            refine wa_ifeq (w_rg0 (by omega) (by omega)) ⟨_, rfl⟩ (fun c278 => ?_) (fun c278 => ?_)
                            · skip
                              refine wa_iconst ?_
                              refine wa_goto ⟨_, rfl⟩ ?_
                              refine wa_bipush (w_rg2 (by omega) (by omega)) ?_
                              refine wa_cv 237 rfl (wy_pr rfl) wt_237 (M2 := fun _ => False) rfl at_M_must ⟨_, rfl⟩ rfl rfl ⟨(Or.inr ⟨wy_pr rfl, fun q => q⟩), trivial, trivial, trivial, trivial⟩ trivial (fun _ _ q => False.elim q) (must_ok (S := Z) (g := 1) (n := 6) (Or.inr rfl) ⟨by omega, by omega⟩) (fun oq280 Sq280 hp281 q280 => ?_)
                              rcases q280 with ⟨_, rfl, rfl⟩ | ⟨m279, _, _⟩
                              · skip
                                show wJ _ _ _ _ _ _ _ _ _ _
                                refine wa_aload_n (n := 0) rfl ?_
                                refine wb_gf5 237 rfl (wy_pr rfl) wt_237 wf_15_15 (v := 261) (((hL 237 15 (by omega) (by omega)).trans hA15)) (fun r282 => ?_)
                                refine wb_gf4 261 rfl (wy_pr rfl) wt_261 wf_12_12 (v := 272) wl_261_12 ?_
                                refine wa_iload_n (n := 2) rfl ?_
                                refine wa_iload_n (n := 1) rfl ?_
                                refine wb_iast 272 rfl (wy_pr rfl) wt_272 (n := 400) ((ml_272 hE.1.1)) (by omega) (by omega) ⟨(by omega), (by omega)⟩ ?_
                                refine wa_aload_n (n := 0) rfl ?_
                                refine wb_gf5 237 rfl (wy_pr rfl) wt_237 wf_15_15 (v := 261) ((w_up_slot (by decide)).trans (((hL 237 15 (by omega) (by omega)).trans hA15))) (fun r283 => ?_)
                                refine wb_gf4 261 rfl (wy_pr rfl) wt_261 wf_12_14 (v := 274) wl_261_14 ?_
                                refine wa_iload_n (n := 2) rfl ?_
                                refine wa_iload_n (n := 3) rfl ?_
                                refine wb_zast 274 rfl (wy_pr rfl) wt_274 (n := 400) ((w_up_slot (by decide)).trans ((ml_274 hE.1.1))) (by omega) (by omega) ⟨(by omega), (by omega)⟩ ?_
                                refine wa_aload_n (n := 0) rfl ?_
                                refine wb_gf5 237 rfl (wy_pr rfl) wt_237 wf_15_15 (v := 261) ((w_up_slot (by decide)).trans ((w_up_slot (by decide)).trans (((hL 237 15 (by omega) (by omega)).trans hA15)))) (fun r284 => ?_)
                                refine wb_gf4 261 rfl (wy_pr rfl) wt_261 wf_12_19 (v := 279) wl_261_19 ?_
                                refine wa_iload_n (n := 2) rfl ?_
                                refine wa_aload_n (n := 0) rfl ?_
                                refine wb_gfi 237 rfl (wy_pr rfl) wt_237 wf_15_7 (v := p1) ((w_up_slot (by decide)).trans ((w_up_slot (by decide)).trans ((lx_E_7 hE)))) (fun r285 => ?_)
                                refine wb_iast 279 rfl (wy_pr rfl) wt_279 (n := 400) ((w_up_slot (by decide)).trans ((w_up_slot (by decide)).trans ((ml_279 hE.1.1)))) (by omega) (by omega) ⟨(by omega), (by omega)⟩ ?_
                                refine wa_aload_n (n := 0) rfl ?_
                                refine wb_gf5 237 rfl (wy_pr rfl) wt_237 wf_15_15 (v := 261) ((w_up_slot (by decide)).trans ((w_up_slot (by decide)).trans ((w_up_slot (by decide)).trans (((hL 237 15 (by omega) (by omega)).trans hA15))))) (fun r286 => ?_)
                                refine wb_gf4 261 rfl (wy_pr rfl) wt_261 wf_12_20 (v := 280) wl_261_20 ?_
                                refine wa_iload_n (n := 2) rfl ?_
                                refine wa_aload_n (n := 0) rfl ?_
                                refine wb_gfi 237 rfl (wy_pr rfl) wt_237 wf_15_7 (v := p1) ((w_up_slot (by decide)).trans ((w_up_slot (by decide)).trans ((w_up_slot (by decide)).trans ((lx_E_7 hE))))) (fun r287 => ?_)
                                refine wb_iast 280 rfl (wy_pr rfl) wt_280 (n := 400) ((w_up_slot (by decide)).trans ((w_up_slot (by decide)).trans ((w_up_slot (by decide)).trans ((ml_280 hE.1.1))))) (by omega) (by omega) ⟨(by omega), (by omega)⟩ ?_
                                refine wa_aload_n (n := 0) rfl ?_
                                refine wa_ks ?_
                                refine wa_cv 237 rfl (wy_pr rfl) wt_237 (M2 := fun _ => False) rfl at_M_isWord ⟨_, rfl⟩ rfl rfl ⟨(Or.inr ⟨wy_pr rfl, fun q => q⟩), trivial, trivial, trivial, trivial⟩ trivial (fun _ _ q => False.elim q) (isWord_ok (S := (w_up (w_up (w_up (w_up Z 272 m c) 274 m st) 279 m p1) 280 m p1)) (lx_E_up (lx_E_up (lx_E_up (lx_E_up hE (by decide) (by omega)) (by decide) (by omega)) (by decide) (by omega)) (by decide) (by omega)).1.1 (wx_25 hX) (by decide) (lx_I_hp (lx_E_up (lx_E_up (lx_E_up (lx_E_up hE (by decide) (by omega)) (by decide) (by omega)) (by decide) (by omega)) (by decide) (by omega)).1)) (fun oq289 Sq289 hp290 q289 => ?_)
                                rcases q289 with ⟨rfl, ⟨rfl, gw288⟩ | ⟨rfl, gw288⟩⟩
                                · skip
                                  rw [lx_E_w (lx_E_up (lx_E_up (lx_E_up (lx_E_up hE (by decide) (by omega)) (by decide) (by omega)) (by decide) (by omega)) (by decide) (by omega))] at gw288
                                  exact absurd (gw288.symm.trans hnw) (by decide)
                                · skip
                                  show wJ _ _ _ _ _ _ _ _ _ _
                                  rw [lx_E_w (lx_E_up (lx_E_up (lx_E_up (lx_E_up hE (by decide) (by omega)) (by decide) (by omega)) (by decide) (by omega)) (by decide) (by omega))] at gw288
                                  refine wa_ifeq (w_rg0 (by omega) (by omega)) ⟨_, rfl⟩ (fun c291 => ?_) (fun c291 => ?_)
                                  · skip
                                    refine wa_aload_n (n := 0) rfl ?_
                                    refine wb_gf5 237 rfl (wy_pr rfl) wt_237 wf_15_15 (v := 261) ((w_up_slot (by decide)).trans ((w_up_slot (by decide)).trans ((w_up_slot (by decide)).trans ((w_up_slot (by decide)).trans (((hL 237 15 (by omega) (by omega)).trans hA15)))))) (fun r292 => ?_)
                                    refine wb_gf4 261 rfl (wy_pr rfl) wt_261 wf_12_15 (v := 275) wl_261_15 ?_
                                    refine wa_iload_n (n := 2) rfl ?_
                                    refine wa_aload_n (n := 0) rfl ?_
                                    refine wa_iconst ?_
                                    refine wa_cv 237 rfl (wy_pr rfl) wt_237 (M2 := fun _ => False) rfl at_M_readsType ⟨_, rfl⟩ rfl rfl ⟨(Or.inr ⟨wy_pr rfl, fun q => q⟩), trivial, trivial, trivial, trivial⟩ ⟨trivial, (Or.inr ⟨wy_pr rfl, fun q => q⟩), trivial⟩ (fun _ _ q => False.elim q) (readsType_261 (S := (w_up (w_up (w_up (w_up Z 272 m c) 274 m st) 279 m p1) 280 m p1)) hX (lx_E_up (lx_E_up (lx_E_up (lx_E_up hE (by decide) (by omega)) (by decide) (by omega)) (by decide) (by omega)) (by decide) (by omega)).1 ((w_up_slot (by decide)).trans ((w_up_slot (by decide)).trans ((w_up_slot (by decide)).trans ((w_up_slot (by decide)).trans (((hL 237 15 (by omega) (by omega)).trans hA15)))))) (ho_nm_of hAn (((lx_ag_cg (lx_ag_cg (lx_ag_cg (lx_ag_cg hL)))) 261 1 (by omega) (by omega)).trans rfl) (funext fun i => ((lx_ag_cg (lx_ag_cg (lx_ag_cg (lx_ag_cg hL)))) 270 i (by omega) (by omega)).trans rfl) (funext fun i => ((lx_ag_cg (lx_ag_cg (lx_ag_cg (lx_ag_cg hL)))) 271 i (by omega) (by omega)).trans rfl)) (Or.inr rfl) rfl) (fun oq293 Sq293 hp294 q293 => ?_)
                                    rcases q293 with ⟨t, p2, ty, rfl, a1, a2⟩ | ⟨t, p2, ty, rfl, rfl⟩
                                    · skip
                                      rw [lx_E_type (b := 261) (lx_E_up (lx_E_up (lx_E_up (lx_E_up hE (by decide) (by omega)) (by decide) (by omega)) (by decide) (by omega)) (by decide) (by omega)) (by decide) (((lx_ag_cg (lx_ag_cg (lx_ag_cg (lx_ag_cg hL)))) 261 1 (by omega) (by omega)).trans rfl) (funext fun i => ((lx_ag_cg (lx_ag_cg (lx_ag_cg (lx_ag_cg hL)))) 270 i (by omega) (by omega)).trans rfl) (funext fun i => ((lx_ag_cg (lx_ag_cg (lx_ag_cg (lx_ag_cg hL)))) 271 i (by omega) (by omega)).trans rfl)] at ty
                                      show wJ _ _ _ _ _ _ _ _ _ _
                                      repeat (first | rw [if_pos (by omega)] at he | rw [if_neg (by omega)] at he)
                                      rw [ty] at he
                                      dsimp only at he
                                      obtain ⟨t0, t1, t2, t3⟩ := hy_type_rg (show zq A p1 261 1 ≤ 60 from hAn.1.2) ty
                                      have hE295 : lx_E Sq293 A p2 := lx_E_ag (lx_E_up (lx_E_up (lx_E_up (lx_E_up hE (by decide) (by omega)) (by decide) (by omega)) (by decide) (by omega)) (by decide) (by omega)) a1 a2
                                      have hL295 : lx_ag (w_up (w_up (w_up (w_up A 272 m c) 274 m st) 279 m p1) 280 m p1) Sq293 := lx_ag_tr (lx_ag_cg (lx_ag_cg (lx_ag_cg (lx_ag_cg hL)))) a1
                                      have bp2 := hE295.1.2.2.1
                                      have bn2 := hE295.1.2.1
                                      have b82 : 0 ≤ Sq293 237 8 ∧ Sq293 237 8 ≤ 65540 := (lx_I_hp hE295.1).2.2
                                      rw [lx_E_8 hE295] at b82
                                      have b83 : p2 ≤ zq A p2 237 8 := (lx_en_le (T := A 239) (h := A 237 5) (by rw [← hE295.2.2.1]; exact bp2.2)).1
                                      refine wb_iast 275 rfl (wy_pr rfl) wt_275 (n := 400) ((ml_275 hE295.1.1)) (by omega) (by omega) ⟨(by omega), (by omega)⟩ ?_
                                      refine wa_aload_n (n := 0) rfl ?_
                                      refine wa_aload_n (n := 0) rfl ?_
                                      refine wb_gfi 237 rfl (wy_pr rfl) wt_237 wf_15_6 (v := (zq A p2 237 6)) ((w_up_slot (by decide)).trans ((lx_E_6 hE295))) (fun r296 => ?_)
                                      refine wa_iconst ?_
                                      refine wa_icmpne (w_rg0 (by omega) (by omega)) (w_rg0 (by omega) (by omega)) ⟨_, rfl⟩ (fun c297 => ?_) (fun c297 => ?_)
                                      · skip
                                        refine wa_iconst ?_
                                        refine wa_fall ⟨_, rfl⟩ ?_
                                        refine wa_iconst ?_
                                        refine wa_cv 237 rfl (wy_pr rfl) wt_237 (M2 := fun _ => False) rfl at_M_must ⟨_, rfl⟩ rfl rfl ⟨(Or.inr ⟨wy_pr rfl, fun q => q⟩), trivial, trivial, trivial, trivial⟩ trivial (fun _ _ q => False.elim q) (must_ok (S := (w_up Sq293 275 m t)) (g := 0) (n := 1) (Or.inl rfl) ⟨by omega, by omega⟩) (fun oq299 Sq299 hp300 q299 => ?_)
                                        rcases q299 with ⟨m298, _, _⟩ | ⟨_, rfl, rfl⟩
                                        · skip
                                          exact absurd m298 (by decide)
                                        · skip
                                          refine ⟨rfl, ?_⟩
                                          repeat (first | rw [if_pos (by omega)] at he | rw [if_neg (by omega)] at he)
                                          first | (rw [ty] at he; dsimp only at he) | (rw [if_neg (by rw [gis]; decide)] at he) | skip
                                          first | (rw [if_pos (by omega), if_pos goo] at he) | skip
                                          exact Or.inr ⟨_, _, he.symm, rfl, hm_ag_hl (hm_ag_up (hm_ag_lx (hm_ag_up (hm_ag_up (hm_ag_up (hm_ag_up hm_ag_rf (by decide) (by omega) (by decide)) (by decide) (by omega) (by decide)) (by decide) (by omega) (by decide)) (by decide) (by omega) (by decide)) hL295) (by decide) (by omega) (by decide)), rfl, by first | rfl | exact (show (w_up Sq293 275 m t) 237 7 = p2 from ((w_up_slot (by decide)).trans ((lx_E_7 hE295))))⟩
                                      · skip
                                        refine wa_iconst ?_
                                        refine wa_goto ⟨_, rfl⟩ ?_
                                        refine wa_iconst ?_
                                        refine wa_cv 237 rfl (wy_pr rfl) wt_237 (M2 := fun _ => False) rfl at_M_must ⟨_, rfl⟩ rfl rfl ⟨(Or.inr ⟨wy_pr rfl, fun q => q⟩), trivial, trivial, trivial, trivial⟩ trivial (fun _ _ q => False.elim q) (must_ok (S := (w_up Sq293 275 m t)) (g := 1) (n := 1) (Or.inr rfl) ⟨by omega, by omega⟩) (fun oq302 Sq302 hp303 q302 => ?_)
                                        rcases q302 with ⟨_, rfl, rfl⟩ | ⟨m301, _, _⟩
                                        · skip
                                          show wJ _ _ _ _ _ _ _ _ _ _
                                          refine wa_aload_n (n := 0) rfl ?_
                                          refine wa_aload_n (n := 0) rfl ?_
                                          refine wa_ks ?_
                                          refine wa_cv 237 rfl (wy_pr rfl) wt_237 (M2 := fun _ => False) rfl at_M_isOneOf ⟨_, rfl⟩ rfl rfl ⟨(Or.inr ⟨wy_pr rfl, fun q => q⟩), trivial, trivial, trivial, trivial⟩ ⟨(Or.inr ⟨wy_pr rfl, fun q => q⟩), trivial⟩ (fun _ _ q => False.elim q) (isOneOf_ok (S := (w_up Sq293 275 m t)) (lx_E_up hE295 (by decide) (by omega)).1.1 (wx_21 hX) (by decide) (by decide) (lx_I_hp (lx_E_up hE295 (by decide) (by omega)).1) (by decide)) (fun oq305 Sq305 hp306 q305 => ?_)
                                          rcases q305 with ⟨rfl, ⟨rfl, go304⟩ | ⟨rfl, go304⟩⟩
                                          · skip
                                            show wJ _ _ _ _ _ _ _ _ _ _
                                            rw [lx_E_oo (lx_E_up hE295 (by decide) (by omega))] at go304
                                            have goo := go304
                                            refine wa_ifne (w_rg0 (by omega) (by omega)) ⟨_, rfl⟩ (fun c307 => ?_) (fun c307 => ?_)
                                            · skip
                                              refine wa_iconst ?_
                                              refine wa_fall ⟨_, rfl⟩ ?_
                                              refine wa_iconst ?_
                                              refine wa_cv 237 rfl (wy_pr rfl) wt_237 (M2 := fun _ => False) rfl at_M_must ⟨_, rfl⟩ rfl rfl ⟨(Or.inr ⟨wy_pr rfl, fun q => q⟩), trivial, trivial, trivial, trivial⟩ trivial (fun _ _ q => False.elim q) (must_ok (S := (w_up Sq293 275 m t)) (g := 0) (n := 2) (Or.inl rfl) ⟨by omega, by omega⟩) (fun oq309 Sq309 hp310 q309 => ?_)
                                              rcases q309 with ⟨m308, _, _⟩ | ⟨_, rfl, rfl⟩
                                              · skip
                                                exact absurd m308 (by decide)
                                              · skip
                                                refine ⟨rfl, ?_⟩
                                                repeat (first | rw [if_pos (by omega)] at he | rw [if_neg (by omega)] at he)
                                                first | (rw [ty] at he; dsimp only at he) | (rw [if_neg (by rw [gis]; decide)] at he) | skip
                                                first | (rw [if_pos (by omega), if_pos goo] at he) | skip
                                                exact Or.inr ⟨_, _, he.symm, rfl, hm_ag_hl (hm_ag_up (hm_ag_lx (hm_ag_up (hm_ag_up (hm_ag_up (hm_ag_up hm_ag_rf (by decide) (by omega) (by decide)) (by decide) (by omega) (by decide)) (by decide) (by omega) (by decide)) (by decide) (by omega) (by decide)) hL295) (by decide) (by omega) (by decide)), rfl, by first | rfl | exact (show (w_up Sq293 275 m t) 237 7 = p2 from ((w_up_slot (by decide)).trans ((lx_E_7 hE295))))⟩
                                            · skip
                                              exact absurd c307 (by omega)
                                          · skip
                                            show wJ _ _ _ _ _ _ _ _ _ _
                                            rw [lx_E_oo (lx_E_up hE295 (by decide) (by omega))] at go304
                                            have goo := go304
                                            refine wa_ifne (w_rg0 (by omega) (by omega)) ⟨_, rfl⟩ (fun c311 => ?_) (fun c311 => ?_)
                                            · skip
                                              exact absurd c311 (by omega)
                                            · skip
                                              refine wa_iconst ?_
                                              refine wa_goto ⟨_, rfl⟩ ?_
                                              refine wa_iconst ?_
                                              refine wa_cv 237 rfl (wy_pr rfl) wt_237 (M2 := fun _ => False) rfl at_M_must ⟨_, rfl⟩ rfl rfl ⟨(Or.inr ⟨wy_pr rfl, fun q => q⟩), trivial, trivial, trivial, trivial⟩ trivial (fun _ _ q => False.elim q) (must_ok (S := (w_up Sq293 275 m t)) (g := 1) (n := 2) (Or.inr rfl) ⟨by omega, by omega⟩) (fun oq313 Sq313 hp314 q313 => ?_)
                                              rcases q313 with ⟨_, rfl, rfl⟩ | ⟨m312, _, _⟩
                                              · skip
                                                show wJ _ _ _ _ _ _ _ _ _ _
                                                refine wa_aload_n (n := 0) rfl ?_
                                                refine wb_gfi 237 rfl (wy_pr rfl) wt_237 wf_15_7 (v := p2) ((w_up_slot (by decide)).trans ((lx_E_7 hE295))) (fun r315 => ?_)
                                                refine wa_istore (n := 4) rfl ?_
                                                refine wa_aload_n (n := 0) rfl ?_
                                                refine wb_gf5 237 rfl (wy_pr rfl) wt_237 wf_15_15 (v := 261) ((w_up_slot (by decide)).trans (((hL295 237 15 (by omega) (by omega)).trans hA15))) (fun r316 => ?_)
                                                refine wb_gf4 261 rfl (wy_pr rfl) wt_261 wf_12_19 (v := 279) wl_261_19 ?_
                                                refine wa_iload_n (n := 2) rfl ?_
                                                refine wa_aload_n (n := 0) rfl ?_
                                                refine wb_gfi 237 rfl (wy_pr rfl) wt_237 wf_15_7 (v := p2) ((w_up_slot (by decide)).trans ((lx_E_7 hE295))) (fun r317 => ?_)
                                                refine wb_iast 279 rfl (wy_pr rfl) wt_279 (n := 400) ((w_up_slot (by decide)).trans ((ml_279 hE295.1.1))) (by omega) (by omega) ⟨(by omega), (by omega)⟩ ?_
                                                refine wa_aload_n (n := 0) rfl ?_
                                                refine wb_gf5 237 rfl (wy_pr rfl) wt_237 wf_15_15 (v := 261) ((w_up_slot (by decide)).trans ((w_up_slot (by decide)).trans (((hL295 237 15 (by omega) (by omega)).trans hA15)))) (fun r318 => ?_)
                                                refine wb_gf4 261 rfl (wy_pr rfl) wt_261 wf_12_20 (v := 280) wl_261_20 ?_
                                                refine wa_iload_n (n := 2) rfl ?_
                                                refine wa_aload_n (n := 0) rfl ?_
                                                refine wb_gfi 237 rfl (wy_pr rfl) wt_237 wf_15_8 (v := (zq A p2 237 8)) ((w_up_slot (by decide)).trans ((w_up_slot (by decide)).trans ((lx_E_8 hE295)))) (fun r319 => ?_)
                                                refine wb_iast 280 rfl (wy_pr rfl) wt_280 (n := 400) ((w_up_slot (by decide)).trans ((w_up_slot (by decide)).trans ((ml_280 hE295.1.1)))) (by omega) (by omega) ⟨(by omega), (by omega)⟩ ?_
                                                refine wa_aload_n (n := 0) rfl ?_
                                                refine wa_cv 237 rfl (wy_pr rfl) wt_237 (M2 := fun _ => False) rfl at_M_next ⟨_, rfl⟩ rfl rfl ⟨trivial, (Or.inr ⟨wy_pr rfl, fun q => q⟩), trivial, trivial, trivial, trivial⟩ trivial (fun _ _ q => False.elim q) (nx_I (S := (w_up (w_up (w_up Sq293 275 m t) 279 m p2) 280 m (zq A p2 237 8))) (lx_E_up (lx_E_up (lx_E_up hE295 (by decide) (by omega)) (by decide) (by omega)) (by decide) (by omega)).1 (by have e6 : (w_up (w_up (w_up Sq293 275 m t) 279 m p2) 280 m (zq A p2 237 8)) 237 6 = (zq A p2 237 6) := ((w_up_slot (by decide)).trans ((w_up_slot (by decide)).trans ((w_up_slot (by decide)).trans ((lx_E_6 hE295))))); first | omega | (have := (lx_is4 gis).1; omega) | (have := lx_w1 hnw; omega))) (fun oq320 Sq320 hp321 q320 => ?_)
                                                rcases q320 with ⟨rfl, a1, a2⟩
                                                show wJ _ _ _ _ _ _ _ _ _ _
                                                rw [lx_E_ne (lx_E_up (lx_E_up (lx_E_up hE295 (by decide) (by omega)) (by decide) (by omega)) (by decide) (by omega))] at a2
                                                have hE322 : lx_E Sq320 A (lx_ne (zq A p2) p2) := lx_E_ag (lx_E_up (lx_E_up (lx_E_up hE295 (by decide) (by omega)) (by decide) (by omega)) (by decide) (by omega)) a1 a2
                                                have hL322 : lx_ag (w_up (w_up (w_up (w_up (w_up (w_up (w_up A 272 m c) 274 m st) 279 m p1) 280 m p1) 275 m t) 279 m p2) 280 m (zq A p2 237 8)) Sq320 := lx_ag_tr (lx_ag_cg (lx_ag_cg (lx_ag_cg hL295))) a1
                                                refine wa_aload_n (n := 0) rfl ?_
                                                refine wa_bipush (w_rg2 (by omega) (by omega)) ?_
                                                refine wa_cv 237 rfl (wy_pr rfl) wt_237 (M2 := fun _ => False) rfl at_M_isSign ⟨_, rfl⟩ rfl rfl ⟨trivial, (Or.inr ⟨wy_pr rfl, fun q => q⟩), trivial, trivial, trivial, trivial⟩ trivial (fun _ _ q => False.elim q) (isSign_ok (S := Sq320) ⟨by omega, by omega⟩) (fun oq324 Sq324 hp325 q324 => ?_)
                                                rcases q324 with ⟨rfl, ⟨rfl, gi323⟩ | ⟨rfl, gi323⟩⟩
                                                · skip
                                                  show wJ _ _ _ _ _ _ _ _ _ _
                                                  rw [lx_E_is hE322] at gi323
                                                  have gis := gi323
                                                  have gsv := gis
                                                  refine wa_ifeq (w_rg0 (by omega) (by omega)) ⟨_, rfl⟩ (fun c326 => ?_) (fun c326 => ?_)
                                                  · skip
                                                    exact absurd c326 (by omega)
                                                  · skip
                                                    refine wa_aload_n (n := 0) rfl ?_
                                                    refine wb_gf5 237 rfl (wy_pr rfl) wt_237 wf_15_15 (v := 261) (((hL322 237 15 (by omega) (by omega)).trans hA15)) (fun r327 => ?_)
                                                    refine wb_gf4 261 rfl (wy_pr rfl) wt_261 wf_12_13 (v := 273) wl_261_13 ?_
                                                    refine wa_iload_n (n := 2) rfl ?_
                                                    refine wa_iconst ?_
                                                    refine wb_iast 273 rfl (wy_pr rfl) wt_273 (n := 400) ((ml_273 hE322.1.1)) (by omega) (by omega) ⟨(by omega), (by omega)⟩ ?_
                                                    refine wa_aload_n (n := 0) rfl ?_
                                                    refine wa_cv 237 rfl (wy_pr rfl) wt_237 (M2 := fun _ => False) rfl at_M_next ⟨_, rfl⟩ rfl rfl ⟨trivial, (Or.inr ⟨wy_pr rfl, fun q => q⟩), trivial, trivial, trivial, trivial⟩ trivial (fun _ _ q => False.elim q) (nx_I (S := (w_up Sq320 273 m 1)) (lx_E_up hE322 (by decide) (by omega)).1 (by have e6 : (w_up Sq320 273 m 1) 237 6 = (zq A (lx_ne (zq A p2) p2) 237 6) := ((w_up_slot (by decide)).trans ((lx_E_6 hE322))); first | omega | (have := (lx_is4 gis).1; omega) | (have := lx_w1 hnw; omega))) (fun oq328 Sq328 hp329 q328 => ?_)
                                                    rcases q328 with ⟨rfl, a1, a2⟩
                                                    show wJ _ _ _ _ _ _ _ _ _ _
                                                    rw [lx_E_ne (lx_E_up hE322 (by decide) (by omega))] at a2
                                                    have hE330 : lx_E Sq328 A (lx_ne (zq A (lx_ne (zq A p2) p2)) (lx_ne (zq A p2) p2)) := lx_E_ag (lx_E_up hE322 (by decide) (by omega)) a1 a2
                                                    have hL330 : lx_ag (w_up (w_up (w_up (w_up (w_up (w_up (w_up (w_up A 272 m c) 274 m st) 279 m p1) 280 m p1) 275 m t) 279 m p2) 280 m (zq A p2 237 8)) 273 m 1) Sq328 := lx_ag_tr (lx_ag_cg hL322) a1
                                                    refine wa_aload_n (n := 0) rfl ?_
                                                    refine wa_iload_n (n := 1) rfl ?_
                                                    refine wa_iload_n (n := 2) rfl ?_
                                                    refine wa_cv 237 rfl (wy_pr rfl) wt_237 (M2 := fun _ => False) rfl at_M_readsParameters ⟨_, rfl⟩ rfl rfl ⟨trivial, (Or.inr ⟨wy_pr rfl, fun q => q⟩), trivial, trivial, trivial, trivial⟩ trivial (fun _ _ q => False.elim q) (readsParameters_261 (A := Sq328) (R := pq_k (w_up (w_up (w_up (w_up (w_up (w_up (w_up (w_up A 272 m c) 274 m st) 279 m p1) 280 m p1) 275 m t) 279 m p2) 280 m (zq A p2 237 8)) 273 m 1) 261 c m (pq_r (w_up (w_up (w_up (w_up (w_up (w_up (w_up (w_up A 272 m c) 274 m st) 279 m p1) 280 m p1) 275 m t) 279 m p2) 280 m (zq A p2 237 8)) 273 m 1) 261 (lx_ne (zq A (lx_ne (zq A p2) p2)) (lx_ne (zq A p2) p2)))) hX (((hL330 237 15 (by omega) (by omega)).trans hA15)) ⟨by omega, by omega⟩ (ho_mm_ag hm.1 (by decide) hmm (hm_ag_lx (hm_ag_up (hm_ag_up (hm_ag_up (hm_ag_up (hm_ag_up (hm_ag_up (hm_ag_up (hm_ag_up hm_ag_rf (by decide) (by omega) (by decide)) (by decide) (by omega) (by decide)) (by decide) (by omega) (by decide)) (by decide) (by omega) (by decide)) (by decide) (by omega) (by decide)) (by decide) (by omega) (by decide)) (by decide) (by omega) (by decide)) (by decide) (by omega) (by decide)) hL330)) (by have y1 : Sq328 279 m = p2 := (((hL330 279 m (by omega) (by omega)).trans ((w_up_slot (by decide)).trans ((w_up_slot (by decide)).trans (w_up_same _ _ _ _))))); have y2 : Sq328 280 m = (zq A p2 237 8) := (((hL330 280 m (by omega) (by omega)).trans ((w_up_slot (by decide)).trans (w_up_same _ _ _ _)))); omega) (by rw [show Sq328 268 c = A 268 c from (((hL330 268 c (by omega) (by omega)).trans ((w_up_slot (by decide)).trans ((w_up_slot (by decide)).trans ((w_up_slot (by decide)).trans ((w_up_slot (by decide)).trans ((w_up_slot (by decide)).trans ((w_up_slot (by decide)).trans ((w_up_slot (by decide)).trans (w_up_slot (by decide)))))))))))]; exact hfi) hcc (ho_nm_of hAn ((hL330 261 1 (by omega) (by omega)).trans rfl) (funext fun i => (hL330 270 i (by omega) (by omega)).trans rfl) (funext fun i => (hL330 271 i (by omega) (by omega)).trans rfl)) ⟨hE330.1, rfl, rfl, rfl⟩ (pq_ag hL330 (by decide))) (fun oq331 Sq331 hp332 q331 => ?_)
                                                    rcases q331 with ⟨q, v, l, hR, rfl, c1, c2, c3, c4⟩ | ⟨e, q, hR, rfl, c1, c2, c3⟩
                                                    · skip
                                                      repeat (first | rw [if_pos (by omega)] at he | rw [if_neg (by omega)] at he)
                                                      first | rw [if_neg (by rw [goo]; decide), if_pos gsv] at he | rw [if_pos gsv] at he | rw [if_neg (by rw [goo]; decide)] at he | skip
                                                      unfold rm_par at he
                                                      rw [hR] at he
                                                      dsimp only at he
                                                      show wJ _ _ _ _ _ _ _ _ _ _
                                                      refine wa_goto ⟨_, rfl⟩ ?_
                                                      exact wJ_S (mem_23_261 hA15 hAm ⟨by omega, by omega⟩ hcc hmy (hm_ag_tr (hm_ag_lx (hm_ag_up (hm_ag_up (hm_ag_up (hm_ag_up (hm_ag_up (hm_ag_up (hm_ag_up (hm_ag_up hm_ag_rf (by decide) (by omega) (by decide)) (by decide) (by omega) (by decide)) (by decide) (by omega) (by decide)) (by decide) (by omega) (by decide)) (by decide) (by omega) (by decide)) (by decide) (by omega) (by decide)) (by decide) (by omega) (by decide)) (by decide) (by omega) (by decide)) hL330) (hp_hm c1)) ⟨c2.1, c2.2.1.trans hE330.2.1, c2.2.2.1.trans hE330.2.2.1, c2.2.2.2.trans hE330.2.2.2⟩ ⟨(c1 272 m (by omega) (by omega) (by omega) (by omega)).trans (((hL330 272 m (by omega) (by omega)).trans ((w_up_slot (by decide)).trans ((w_up_slot (by decide)).trans ((w_up_slot (by decide)).trans ((w_up_slot (by decide)).trans ((w_up_slot (by decide)).trans ((w_up_slot (by decide)).trans ((w_up_slot (by decide)).trans (w_up_same _ _ _ _)))))))))), (c1 273 m (by omega) (by omega) (by omega) (by omega)).trans (((hL330 273 m (by omega) (by omega)).trans (w_up_same _ _ _ _))), (c1 274 m (by omega) (by omega) (by omega) (by omega)).trans (((hL330 274 m (by omega) (by omega)).trans ((w_up_slot (by decide)).trans ((w_up_slot (by decide)).trans ((w_up_slot (by decide)).trans ((w_up_slot (by decide)).trans ((w_up_slot (by decide)).trans ((w_up_slot (by decide)).trans (w_up_same _ _ _ _))))))))), (c1 275 m (by omega) (by omega) (by omega) (by omega)).trans (((hL330 275 m (by omega) (by omega)).trans ((w_up_slot (by decide)).trans ((w_up_slot (by decide)).trans ((w_up_slot (by decide)).trans (w_up_same _ _ _ _)))))), (c1 279 m (by omega) (by omega) (by omega) (by omega)).trans (((hL330 279 m (by omega) (by omega)).trans ((w_up_slot (by decide)).trans ((w_up_slot (by decide)).trans (w_up_same _ _ _ _))))), (c1 280 m (by omega) (by omega) (by omega) (by omega)).trans (((hL330 280 m (by omega) (by omega)).trans ((w_up_slot (by decide)).trans (w_up_same _ _ _ _))))⟩ c3 c4 he) ⟨rfl, rfl, rfl, trivial⟩
                                                    · skip
                                                      repeat (first | rw [if_pos (by omega)] at he | rw [if_neg (by omega)] at he)
                                                      first | rw [if_neg (by rw [goo]; decide), if_pos gsv] at he | rw [if_pos gsv] at he | rw [if_neg (by rw [goo]; decide)] at he | skip
                                                      unfold rm_par at he
                                                      rw [hR] at he
                                                      dsimp only at he
                                                      refine ⟨rfl, ?_⟩
                                                      exact Or.inr ⟨_, _, he.symm, rfl, (hm_ag_tr (hm_ag_lx (hm_ag_up (hm_ag_up (hm_ag_up (hm_ag_up (hm_ag_up (hm_ag_up (hm_ag_up (hm_ag_up hm_ag_rf (by decide) (by omega) (by decide)) (by decide) (by omega) (by decide)) (by decide) (by omega) (by decide)) (by decide) (by omega) (by decide)) (by decide) (by omega) (by decide)) (by decide) (by omega) (by decide)) (by decide) (by omega) (by decide)) (by decide) (by omega) (by decide)) hL330) (hp_hm c1)), c2, c3⟩
                                                · skip
                                                  show wJ _ _ _ _ _ _ _ _ _ _
                                                  rw [lx_E_is hE322] at gi323
                                                  have gis := gi323
                                                  have gsv := gis
                                                  refine wa_ifeq (w_rg0 (by omega) (by omega)) ⟨_, rfl⟩ (fun c334 => ?_) (fun c334 => ?_)
                                                  · skip
                                                    refine wa_aload_n (n := 0) rfl ?_
                                                    refine wa_iload_n (n := 1) rfl ?_
                                                    refine wa_iload_n (n := 2) rfl ?_
                                                    refine wa_iload (n := 4) rfl ?_
                                                    refine wa_cv 237 rfl (wy_pr rfl) wt_237 (M2 := fun _ => False) rfl at_M_readsField ⟨_, rfl⟩ rfl rfl ⟨trivial, (Or.inr ⟨wy_pr rfl, fun q => q⟩), trivial, trivial, trivial, trivial⟩ trivial (fun _ _ q => False.elim q) (readsField_261 (A := Sq320) (R := rf_of (w_up (w_up (w_up (w_up (w_up (w_up (w_up A 272 m c) 274 m st) 279 m p1) 280 m p1) 275 m t) 279 m p2) 280 m (zq A p2 237 8)) 261 c m (lx_ne (zq A p2) p2) p2) (((hL322 237 15 (by omega) (by omega)).trans hA15)) ⟨by omega, by omega⟩ (ho_mm_ag hm.1 (by decide) hmm (hm_ag_lx (hm_ag_up (hm_ag_up (hm_ag_up (hm_ag_up (hm_ag_up (hm_ag_up (hm_ag_up hm_ag_rf (by decide) (by omega) (by decide)) (by decide) (by omega) (by decide)) (by decide) (by omega) (by decide)) (by decide) (by omega) (by decide)) (by decide) (by omega) (by decide)) (by decide) (by omega) (by decide)) (by decide) (by omega) (by decide)) hL322)) (by have y1 : Sq320 279 m = p2 := (((hL322 279 m (by omega) (by omega)).trans ((w_up_slot (by decide)).trans (w_up_same _ _ _ _)))); have y2 : Sq320 280 m = (zq A p2 237 8) := (((hL322 280 m (by omega) (by omega)).trans (w_up_same _ _ _ _))); omega) (by rw [show Sq320 268 c = A 268 c from (((hL322 268 c (by omega) (by omega)).trans ((w_up_slot (by decide)).trans ((w_up_slot (by decide)).trans ((w_up_slot (by decide)).trans ((w_up_slot (by decide)).trans ((w_up_slot (by decide)).trans ((w_up_slot (by decide)).trans (w_up_slot (by decide))))))))))]; exact hfi) hcc ⟨hE322.1, rfl, rfl, rfl⟩ ⟨by omega, by omega⟩ (rf_ag hL322 (by decide))) (fun oq335 Sq335 hp336 q335 => ?_)
                                                    rcases q335 with ⟨hR, rfl, rfl⟩ | ⟨e, q, hR, rfl, c1, c2, c3⟩
                                                    · skip
                                                      repeat (first | rw [if_pos (by omega)] at he | rw [if_neg (by omega)] at he)
                                                      rw [if_neg (by rw [goo]; decide), if_neg (by rw [gis]; decide), hR] at he
                                                      dsimp only at he
                                                      show wJ _ _ _ _ _ _ _ _ _ _
                                                      refine wa_fall ⟨_, rfl⟩ ?_
                                                      exact wJ_S (mem_23_261 (l := []) (v := 0) hA15 hAm ⟨by omega, by omega⟩ hcc hmy (hm_ag_up (hm_ag_up (hm_ag_up (hm_ag_lx (hm_ag_up (hm_ag_up (hm_ag_up (hm_ag_up (hm_ag_up (hm_ag_up (hm_ag_up hm_ag_rf (by decide) (by omega) (by decide)) (by decide) (by omega) (by decide)) (by decide) (by omega) (by decide)) (by decide) (by omega) (by decide)) (by decide) (by omega) (by decide)) (by decide) (by omega) (by decide)) (by decide) (by omega) (by decide)) hL322) (by decide) (by omega) (by decide)) (by decide) (by omega) (by decide)) (by decide) (by omega) (by decide)) (lx_E_up (lx_E_up (lx_E_up hE322 (by decide) (by omega)) (by decide) (by omega)) (by decide) (by omega)) ⟨((w_up_slot (by decide)).trans ((w_up_slot (by decide)).trans ((w_up_slot (by decide)).trans (((hL322 272 m (by omega) (by omega)).trans ((w_up_slot (by decide)).trans ((w_up_slot (by decide)).trans ((w_up_slot (by decide)).trans ((w_up_slot (by decide)).trans ((w_up_slot (by decide)).trans ((w_up_slot (by decide)).trans (w_up_same _ _ _ _)))))))))))), ((w_up_slot (by decide)).trans ((w_up_slot (by decide)).trans (w_up_same _ _ _ _))), ((w_up_slot (by decide)).trans ((w_up_slot (by decide)).trans ((w_up_slot (by decide)).trans (((hL322 274 m (by omega) (by omega)).trans ((w_up_slot (by decide)).trans ((w_up_slot (by decide)).trans ((w_up_slot (by decide)).trans ((w_up_slot (by decide)).trans ((w_up_slot (by decide)).trans (w_up_same _ _ _ _))))))))))), ((w_up_slot (by decide)).trans ((w_up_slot (by decide)).trans ((w_up_slot (by decide)).trans (((hL322 275 m (by omega) (by omega)).trans ((w_up_slot (by decide)).trans ((w_up_slot (by decide)).trans (w_up_same _ _ _ _)))))))), ((w_up_slot (by decide)).trans ((w_up_slot (by decide)).trans ((w_up_slot (by decide)).trans (((hL322 279 m (by omega) (by omega)).trans ((w_up_slot (by decide)).trans (w_up_same _ _ _ _))))))), ((w_up_slot (by decide)).trans ((w_up_slot (by decide)).trans ((w_up_slot (by decide)).trans (((hL322 280 m (by omega) (by omega)).trans (w_up_same _ _ _ _))))))⟩ ⟨(w_up_slot (by decide)).trans (w_up_same _ _ _ _), w_up_same _ _ _ _, fun i hi => absurd hi (Nat.not_lt_zero i)⟩ (Nat.zero_le _) he) ⟨rfl, rfl, rfl, trivial⟩
                                                    · skip
                                                      repeat (first | rw [if_pos (by omega)] at he | rw [if_neg (by omega)] at he)
                                                      rw [if_neg (by rw [goo]; decide), if_neg (by rw [gis]; decide), hR] at he
                                                      dsimp only at he
                                                      refine ⟨rfl, ?_⟩
                                                      exact Or.inr ⟨_, _, he.symm, rfl, (hm_ag_tr (hm_ag_lx (hm_ag_up (hm_ag_up (hm_ag_up (hm_ag_up (hm_ag_up (hm_ag_up (hm_ag_up hm_ag_rf (by decide) (by omega) (by decide)) (by decide) (by omega) (by decide)) (by decide) (by omega) (by decide)) (by decide) (by omega) (by decide)) (by decide) (by omega) (by decide)) (by decide) (by omega) (by decide)) (by decide) (by omega) (by decide)) hL322) c1), c2, c3⟩
                                                  · skip
                                                    exact absurd c334 (by omega)
                                              · skip
                                                exact absurd m312 (by decide)
                                        · skip
                                          exact absurd m301 (by decide)
                                    · skip
                                      rw [lx_E_type (b := 261) (lx_E_up (lx_E_up (lx_E_up (lx_E_up hE (by decide) (by omega)) (by decide) (by omega)) (by decide) (by omega)) (by decide) (by omega)) (by decide) (((lx_ag_cg (lx_ag_cg (lx_ag_cg (lx_ag_cg hL)))) 261 1 (by omega) (by omega)).trans rfl) (funext fun i => ((lx_ag_cg (lx_ag_cg (lx_ag_cg (lx_ag_cg hL)))) 270 i (by omega) (by omega)).trans rfl) (funext fun i => ((lx_ag_cg (lx_ag_cg (lx_ag_cg (lx_ag_cg hL)))) 271 i (by omega) (by omega)).trans rfl)] at ty
                                      refine ⟨rfl, ?_⟩
                                      repeat (first | rw [if_pos (by omega)] at he | rw [if_neg (by omega)] at he)
                                      first | (rw [ty] at he; dsimp only at he) | (rw [if_neg (by rw [gis]; decide)] at he) | skip
                                      first | (rw [if_pos (by omega), if_pos goo] at he) | skip
                                      exact Or.inr ⟨_, _, he.symm, rfl, hm_ag_hl (hm_ag_up (hm_ag_up (hm_ag_up (hm_ag_up (hm_ag_lx hm_ag_rf hL) (by decide) (by omega) (by decide)) (by decide) (by omega) (by decide)) (by decide) (by omega) (by decide)) (by decide) (by omega) (by decide)), rfl, by first | rfl | exact (show (w_up (w_up (w_up (w_up Z 272 m c) 274 m st) 279 m p1) 280 m p1) 237 7 = p1 from ((w_up_slot (by decide)).trans ((w_up_slot (by decide)).trans ((w_up_slot (by decide)).trans ((w_up_slot (by decide)).trans ((lx_E_7 hE)))))))⟩
                                  · skip
                                    exact absurd c291 (by omega)
                              · skip
                                exact absurd m279 (by decide)
                            · skip
                              exact absurd c278 (by omega)
                        · skip
                          exact absurd m272 (by decide)
                    · skip
                      exact absurd m265 (by decide)
          · skip
            exact absurd m175 (by decide)
end W83
