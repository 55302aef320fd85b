/-! PART 84: the reference's readsMember. -/
section W84
variable {xs : List (Nat × List Int32)} {M : Nat → Prop} {d : Nat} {S A B : wS} {Q : wO → wS → Prop} {p : Int}
theorem mem_3_241 {c m p1 st : Int} {R : hRM} {Z : wS} (hX : w_X xs) (hA15 : A 237 15 = 241) (hAm : A 241 11 = m) (hm : 0 ≤ m ∧ m ≤ 400) (hmm : ho_mm A 241 m) (hfi : 0 ≤ A 248 c ∧ A 248 c ≤ m) (hcc : 0 ≤ c ∧ c < 60) (hAn : ho_nm A 241) (hmy : 0 ≤ A 249 c ∧ A 249 c ≤ 400) (hst : st = 0 ∨ st = 1) (hE : lx_E Z A p1) (hL : lx_ag A Z) (he : rm_body_241 A c m p1 st = R) : wJ (pe_GA xs) wY0 M (d + 7) t_M_readsMember ((pe_at t_M_readsMember.bl 3).getD (0, [])).2 [(0, (2, 237)), (1, (0, c)), (2, (0, m)), (3, (0, st))] [] Z (fun o S2 => (∃ (p2 so st ty v f e : Int) (l : List Int), R = .inr (p2, so, st, ty, l, v, f, e) ∧ o = .inl none ∧ hM_ag 241 c m A S2 ∧ lx_E S2 A p2 ∧ S2 241 11 = m + 1 ∧ S2 249 c = A 249 c + 1 ∧ hm_rec 241 m S2 c so st ty f e ∧ hm_ps 241 m S2 l v ∧ l.length ≤ 8) ∨ (∃ e q : Int, R = .inl (e, q) ∧ o = .inr 238 ∧ hm_ag 241 m A S2 ∧ S2 238 5 = e ∧ S2 238 6 = q)) := by
  cases hnw : lx_w (zq A p1) tx_25 with
  | true => exact mem_3_mk_241 hX hA15 hAm hm hmm hfi hcc hAn hmy hst hE hL hnw he
  | false => exact mem_3_ty_241 hX hA15 hAm hm hmm hfi hcc hAn hmy hst hE hL hnw he
theorem readsMember_241 {c m p : Int} {R : hRM} (hX : w_X xs) (hA15 : A 237 15 = 241) (hAm : A 241 11 = m) (hm : 0 ≤ m ∧ m ≤ 400) (hmm : ho_mm A 241 m) (hfi : 0 ≤ A 248 c ∧ A 248 c ≤ m) (hcc : 0 ≤ c ∧ c < 60) (hAn : ho_nm A 241) (hmy : 0 ≤ A 249 c ∧ A 249 c ≤ 400) (hE : lx_E A A p) (he : rm_of_241 A c m p = R) : wJ (pe_GA xs) wY0 M (d + 7) t_M_readsMember ((pe_at t_M_readsMember.bl 0).getD (0, [])).2 [(0, (2, 237)), (1, (0, c))] [] A (fun o S2 => (∃ (p2 so st ty v f e : Int) (l : List Int), R = .inr (p2, so, st, ty, l, v, f, e) ∧ o = .inl none ∧ hM_ag 241 c m A S2 ∧ lx_E S2 A p2 ∧ S2 241 11 = m + 1 ∧ S2 249 c = A 249 c + 1 ∧ hm_rec 241 m S2 c so st ty f e ∧ hm_ps 241 m S2 l v ∧ l.length ≤ 8) ∨ (∃ e q : Int, R = .inl (e, q) ∧ o = .inr 238 ∧ hm_ag 241 m A S2 ∧ S2 238 5 = e ∧ S2 238 6 = q)) := by
  have hL : lx_ag A A := lx_ag_rf
  unfold rm_of_241 at he
  refine wa_aload_n (n := 0) rfl ?_
  refine wb_gf5 237 rfl (wy_pr rfl) wt_237 wf_15_15 (v := 241) (((hL 237 15 (by omega) (by omega)).trans hA15)) (fun r1 => ?_)
  refine wb_gfi 241 rfl (wy_pr rfl) wt_241 wf_12_11 (v := m) (hAm) (fun r2 => ?_)
  refine wa_istore_n (n := 2) rfl ?_
  refine wa_aload_n (n := 0) rfl ?_
  refine wa_ks ?_
  refine wa_cv 237 rfl (wy_pr rfl) wt_237 (M2 := fun _ => False) rfl at_M_isWord ⟨_, rfl⟩ rfl rfl ⟨trivial, (Or.inr ⟨wy_pr rfl, fun q => q⟩), trivial, trivial⟩ trivial (fun _ _ q => False.elim q) (isWord_ok (S := A) hE.1.1 (wx_23 hX) (by decide) (lx_I_hp hE.1)) (fun oq4 Sq4 hp5 q4 => ?_)
  rcases q4 with ⟨rfl, ⟨rfl, gw3⟩ | ⟨rfl, gw3⟩⟩
  · skip
    show wJ _ _ _ _ _ _ _ _ _ _
    rw [lx_E_w hE] at gw3
    have gw := gw3
    refine wa_istore_n (n := 3) rfl ?_
    refine wa_iload_n (n := 3) rfl ?_
    refine wa_ifeq (w_rg0 (by omega) (by omega)) ⟨_, rfl⟩ (fun c6 => ?_) (fun c6 => ?_)
    · skip
      exact absurd c6 (by omega)
    · skip
      refine wa_aload_n (n := 0) rfl ?_
      refine wa_aload_n (n := 0) rfl ?_
      refine wb_gf5 237 rfl (wy_pr rfl) wt_237 wf_15_15 (v := 241) (((hL 237 15 (by omega) (by omega)).trans hA15)) (fun r7 => ?_)
      refine wb_gf4 241 rfl (wy_pr rfl) wt_241 wf_12_2 (v := 243) wl_241_2 ?_
      refine wa_iload_n (n := 1) rfl ?_
      refine wb_zald 243 rfl (wy_pr rfl) wt_243 (n := 60) ((ml_243 hE.1.1)) (by omega) (by omega) (v := (A 243 c)) (((hL 243 c (by omega) (by omega)).trans rfl)) (fun r8 => ?_)
      refine wa_ifne (w_rg0 (by omega) (by omega)) ⟨_, rfl⟩ (fun c9 => ?_) (fun c9 => ?_)
      · skip
        refine wa_iconst ?_
        refine wa_fall ⟨_, rfl⟩ ?_
        refine wa_bipush (w_rg2 (by omega) (by omega)) ?_
        refine wa_cv 237 rfl (wy_pr rfl) wt_237 (M2 := fun _ => False) rfl at_M_must ⟨_, rfl⟩ rfl rfl ⟨trivial, trivial, (Or.inr ⟨wy_pr rfl, fun q => q⟩), trivial, trivial⟩ trivial (fun _ _ q => False.elim q) (must_ok (S := A) (g := 0) (n := 6) (Or.inl rfl) ⟨by omega, by omega⟩) (fun oq11 Sq11 hp12 q11 => ?_)
        rcases q11 with ⟨m10, _, _⟩ | ⟨_, rfl, rfl⟩
        · skip
          exact absurd m10 (by decide)
        · skip
          refine ⟨rfl, ?_⟩
          rw [if_pos gw, if_neg (by omega)] at he
          exact Or.inr ⟨_, _, he.symm, rfl, hm_ag_hl (hm_ag_lx hm_ag_rf hL), rfl, by first | rfl | exact (show A 237 7 = p from ((lx_E_7 hE)))⟩
      · skip
        refine wa_iconst ?_
        refine wa_goto ⟨_, rfl⟩ ?_
        refine wa_bipush (w_rg2 (by omega) (by omega)) ?_
        refine wa_cv 237 rfl (wy_pr rfl) wt_237 (M2 := fun _ => False) rfl at_M_must ⟨_, rfl⟩ rfl rfl ⟨trivial, trivial, (Or.inr ⟨wy_pr rfl, fun q => q⟩), trivial, trivial⟩ trivial (fun _ _ q => False.elim q) (must_ok (S := A) (g := 1) (n := 6) (Or.inr rfl) ⟨by omega, by omega⟩) (fun oq14 Sq14 hp15 q14 => ?_)
        rcases q14 with ⟨_, rfl, rfl⟩ | ⟨m13, _, _⟩
        · skip
          show wJ _ _ _ _ _ _ _ _ _ _
          refine wa_aload_n (n := 0) rfl ?_
          refine wa_cv 237 rfl (wy_pr rfl) wt_237 (M2 := fun _ => False) rfl at_M_next ⟨_, rfl⟩ rfl rfl ⟨trivial, trivial, (Or.inr ⟨wy_pr rfl, fun q => q⟩), trivial, trivial⟩ trivial (fun _ _ q => False.elim q) (nx_I (S := A) hE.1 (by have e6 : A 237 6 = (zq A p 237 6) := ((lx_E_6 hE)); (have := lx_w1 gw; omega))) (fun oq16 Sq16 hp17 q16 => ?_)
          rcases q16 with ⟨rfl, a1, a2⟩
          show wJ _ _ _ _ _ _ _ _ _ _
          rw [lx_E_ne hE] at a2
          have hE18 : lx_E Sq16 A (lx_ne (zq A p) p) := lx_E_ag hE a1 a2
          have hL18 : lx_ag A Sq16 := lx_ag_tr hL a1
          refine wa_fall ⟨_, rfl⟩ ?_
          rw [if_pos gw, if_pos (by omega)] at he
          exact wJ_S (mem_3_241 hX hA15 hAm hm hmm hfi hcc hAn hmy (Or.inr rfl) hE18 hL18 he) ⟨rfl, rfl, rfl, rfl, trivial⟩
        · skip
          exact absurd m13 (by decide)
  · skip
    show wJ _ _ _ _ _ _ _ _ _ _
    rw [lx_E_w hE] at gw3
    have gw := gw3
    refine wa_istore_n (n := 3) rfl ?_
    refine wa_iload_n (n := 3) rfl ?_
    refine wa_ifeq (w_rg0 (by omega) (by omega)) ⟨_, rfl⟩ (fun c20 => ?_) (fun c20 => ?_)
    · skip
      rw [if_neg (by rw [gw]; decide)] at he
      exact wJ_S (mem_3_241 hX hA15 hAm hm hmm hfi hcc hAn hmy (Or.inl rfl) hE hL he) ⟨rfl, rfl, rfl, rfl, trivial⟩
    · skip
      exact absurd c20 (by omega)
theorem mem_3_261 {c m p1 st : Int} {R : hRM} {Z : wS} (hX : w_X xs) (hA15 : A 237 15 = 261) (hAm : A 261 11 = m) (hm : 0 ≤ m ∧ m ≤ 400) (hmm : ho_mm A 261 m) (hfi : 0 ≤ A 268 c ∧ A 268 c ≤ m) (hcc : 0 ≤ c ∧ c < 60) (hAn : ho_nm A 261) (hmy : 0 ≤ A 269 c ∧ A 269 c ≤ 400) (hst : st = 0 ∨ st = 1) (hE : lx_E Z A p1) (hL : lx_ag A Z) (he : rm_body_261 A c m p1 st = R) : wJ (pe_GA xs) wY0 M (d + 7) t_M_readsMember ((pe_at t_M_readsMember.bl 3).getD (0, [])).2 [(0, (2, 237)), (1, (0, c)), (2, (0, m)), (3, (0, st))] [] Z (fun o S2 => (∃ (p2 so st ty v f e : Int) (l : List Int), R = .inr (p2, so, st, ty, l, v, f, e) ∧ o = .inl none ∧ hM_ag 261 c m A S2 ∧ lx_E S2 A p2 ∧ S2 261 11 = m + 1 ∧ S2 269 c = A 269 c + 1 ∧ hm_rec 261 m S2 c so st ty f e ∧ hm_ps 261 m S2 l v ∧ l.length ≤ 8) ∨ (∃ e q : Int, R = .inl (e, q) ∧ o = .inr 238 ∧ hm_ag 261 m A S2 ∧ S2 238 5 = e ∧ S2 238 6 = q)) := by
  cases hnw : lx_w (zq A p1) tx_25 with
  | true => exact mem_3_mk_261 hX hA15 hAm hm hmm hfi hcc hAn hmy hst hE hL hnw he
  | false => exact mem_3_ty_261 hX hA15 hAm hm hmm hfi hcc hAn hmy hst hE hL hnw he
theorem readsMember_261 {c m p : Int} {R : hRM} (hX : w_X xs) (hA15 : A 237 15 = 261) (hAm : A 261 11 = m) (hm : 0 ≤ m ∧ m ≤ 400) (hmm : ho_mm A 261 m) (hfi : 0 ≤ A 268 c ∧ A 268 c ≤ m) (hcc : 0 ≤ c ∧ c < 60) (hAn : ho_nm A 261) (hmy : 0 ≤ A 269 c ∧ A 269 c ≤ 400) (hE : lx_E A A p) (he : rm_of_261 A c m p = R) : wJ (pe_GA xs) wY0 M (d + 7) t_M_readsMember ((pe_at t_M_readsMember.bl 0).getD (0, [])).2 [(0, (2, 237)), (1, (0, c))] [] A (fun o S2 => (∃ (p2 so st ty v f e : Int) (l : List Int), R = .inr (p2, so, st, ty, l, v, f, e) ∧ o = .inl none ∧ hM_ag 261 c m A S2 ∧ lx_E S2 A p2 ∧ S2 261 11 = m + 1 ∧ S2 269 c = A 269 c + 1 ∧ hm_rec 261 m S2 c so st ty f e ∧ hm_ps 261 m S2 l v ∧ l.length ≤ 8) ∨ (∃ e q : Int, R = .inl (e, q) ∧ o = .inr 238 ∧ hm_ag 261 m A S2 ∧ S2 238 5 = e ∧ S2 238 6 = q)) := by
  have hL : lx_ag A A := lx_ag_rf
  unfold rm_of_261 at he
  refine wa_aload_n (n := 0) rfl ?_
  refine wb_gf5 237 rfl (wy_pr rfl) wt_237 wf_15_15 (v := 261) (((hL 237 15 (by omega) (by omega)).trans hA15)) (fun r1 => ?_)
  refine wb_gfi 261 rfl (wy_pr rfl) wt_261 wf_12_11 (v := m) (hAm) (fun r2 => ?_)
  refine wa_istore_n (n := 2) rfl ?_
  refine wa_aload_n (n := 0) rfl ?_
  refine wa_ks ?_
  refine wa_cv 237 rfl (wy_pr rfl) wt_237 (M2 := fun _ => False) rfl at_M_isWord ⟨_, rfl⟩ rfl rfl ⟨trivial, (Or.inr ⟨wy_pr rfl, fun q => q⟩), trivial, trivial⟩ trivial (fun _ _ q => False.elim q) (isWord_ok (S := A) hE.1.1 (wx_23 hX) (by decide) (lx_I_hp hE.1)) (fun oq4 Sq4 hp5 q4 => ?_)
  rcases q4 with ⟨rfl, ⟨rfl, gw3⟩ | ⟨rfl, gw3⟩⟩
  · skip
    show wJ _ _ _ _ _ _ _ _ _ _
    rw [lx_E_w hE] at gw3
    have gw := gw3
    refine wa_istore_n (n := 3) rfl ?_
    refine wa_iload_n (n := 3) rfl ?_
    refine wa_ifeq (w_rg0 (by omega) (by omega)) ⟨_, rfl⟩ (fun c6 => ?_) (fun c6 => ?_)
    · skip
      exact absurd c6 (by omega)
    · skip
      refine wa_aload_n (n := 0) rfl ?_
      refine wa_aload_n (n := 0) rfl ?_
      refine wb_gf5 237 rfl (wy_pr rfl) wt_237 wf_15_15 (v := 261) (((hL 237 15 (by omega) (by omega)).trans hA15)) (fun r7 => ?_)
      refine wb_gf4 261 rfl (wy_pr rfl) wt_261 wf_12_2 (v := 263) wl_261_2 ?_
      refine wa_iload_n (n := 1) rfl ?_
      refine wb_zald 263 rfl (wy_pr rfl) wt_263 (n := 60) ((ml_263 hE.1.1)) (by omega) (by omega) (v := (A 263 c)) (((hL 263 c (by omega) (by omega)).trans rfl)) (fun r8 => ?_)
      refine wa_ifne (w_rg0 (by omega) (by omega)) ⟨_, rfl⟩ (fun c9 => ?_) (fun c9 => ?_)
      · skip
        refine wa_iconst ?_
        refine wa_fall ⟨_, rfl⟩ ?_
        refine wa_bipush (w_rg2 (by omega) (by omega)) ?_
        refine wa_cv 237 rfl (wy_pr rfl) wt_237 (M2 := fun _ => False) rfl at_M_must ⟨_, rfl⟩ rfl rfl ⟨trivial, trivial, (Or.inr ⟨wy_pr rfl, fun q => q⟩), trivial, trivial⟩ trivial (fun _ _ q => False.elim q) (must_ok (S := A) (g := 0) (n := 6) (Or.inl rfl) ⟨by omega, by omega⟩) (fun oq11 Sq11 hp12 q11 => ?_)
        rcases q11 with ⟨m10, _, _⟩ | ⟨_, rfl, rfl⟩
        · skip
          exact absurd m10 (by decide)
        · skip
          refine ⟨rfl, ?_⟩
          rw [if_pos gw, if_neg (by omega)] at he
          exact Or.inr ⟨_, _, he.symm, rfl, hm_ag_hl (hm_ag_lx hm_ag_rf hL), rfl, by first | rfl | exact (show A 237 7 = p from ((lx_E_7 hE)))⟩
      · skip
        refine wa_iconst ?_
        refine wa_goto ⟨_, rfl⟩ ?_
        refine wa_bipush (w_rg2 (by omega) (by omega)) ?_
        refine wa_cv 237 rfl (wy_pr rfl) wt_237 (M2 := fun _ => False) rfl at_M_must ⟨_, rfl⟩ rfl rfl ⟨trivial, trivial, (Or.inr ⟨wy_pr rfl, fun q => q⟩), trivial, trivial⟩ trivial (fun _ _ q => False.elim q) (must_ok (S := A) (g := 1) (n := 6) (Or.inr rfl) ⟨by omega, by omega⟩) (fun oq14 Sq14 hp15 q14 => ?_)
        rcases q14 with ⟨_, rfl, rfl⟩ | ⟨m13, _, _⟩
        · skip
          show wJ _ _ _ _ _ _ _ _ _ _
          refine wa_aload_n (n := 0) rfl ?_
          refine wa_cv 237 rfl (wy_pr rfl) wt_237 (M2 := fun _ => False) rfl at_M_next ⟨_, rfl⟩ rfl rfl ⟨trivial, trivial, (Or.inr ⟨wy_pr rfl, fun q => q⟩), trivial, trivial⟩ trivial (fun _ _ q => False.elim q) (nx_I (S := A) hE.1 (by have e6 : A 237 6 = (zq A p 237 6) := ((lx_E_6 hE)); (have := lx_w1 gw; omega))) (fun oq16 Sq16 hp17 q16 => ?_)
          rcases q16 with ⟨rfl, a1, a2⟩
          show wJ _ _ _ _ _ _ _ _ _ _
          rw [lx_E_ne hE] at a2
          have hE18 : lx_E Sq16 A (lx_ne (zq A p) p) := lx_E_ag hE a1 a2
          have hL18 : lx_ag A Sq16 := lx_ag_tr hL a1
          refine wa_fall ⟨_, rfl⟩ ?_
          rw [if_pos gw, if_pos (by omega)] at he
          exact wJ_S (mem_3_261 hX hA15 hAm hm hmm hfi hcc hAn hmy (Or.inr rfl) hE18 hL18 he) ⟨rfl, rfl, rfl, rfl, trivial⟩
        · skip
          exact absurd m13 (by decide)
  · skip
    show wJ _ _ _ _ _ _ _ _ _ _
    rw [lx_E_w hE] at gw3
    have gw := gw3
    refine wa_istore_n (n := 3) rfl ?_
    refine wa_iload_n (n := 3) rfl ?_
    refine wa_ifeq (w_rg0 (by omega) (by omega)) ⟨_, rfl⟩ (fun c20 => ?_) (fun c20 => ?_)
    · skip
      rw [if_neg (by rw [gw]; decide)] at he
      exact wJ_S (mem_3_261 hX hA15 hAm hm hmm hfi hcc hAn hmy (Or.inl rfl) hE hL he) ⟨rfl, rfl, rfl, rfl, trivial⟩
    · skip
      exact absurd c20 (by omega)
end W84
