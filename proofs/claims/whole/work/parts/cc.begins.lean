/-! PART cc: what can begin a value. -/
section Wcc
variable {xs : List (Nat × List Int32)} {M : Nat → Prop} {d : Nat} {A B C S Z S0 : wS} {Q : wO → wS → Prop} {T : Int → Int} {n f0 u dp b0 b1 : Int} {N X : List (List Int)} {c i k pm : Nat} {I : List pz_I} {F : List pz_F} {o : pz_O}
variable {PA : Nat → Int}
theorem pl_47_w (S : wS) : pl_of S tx_47 = if lx_w S (kwl 0) = true then 0 else if lx_w S (kwl 2) = true then 1 else if lx_w S (kwl 3) = true then 2 else if lx_w S (kwl 4) = true then 3 else if lx_w S (kwl 5) = true then 4 else if lx_w S (kwl 6) = true then 5 else if lx_w S (kwl 7) = true then 6 else if lx_w S (kwl 8) = true then 7 else -1 := by
  show pl_f S tx_47 43 0 1 = _
  rw [show (43 : Nat) = 42 + 1 from rfl, pl_f_s, if_pos (show (1 : Int) < (tx_47.length : Int) by decide), show pl_e tx_47 tx_47.length 1 = 4 by decide +kernel, pl_q_w (k := 1) (e := 4) (ty := kwl 0) (by decide) (by decide +kernel)]
  refine congrArg (fun z => if lx_w S (kwl 0) = true then (0 : Int) else z) ?_
  show pl_f S tx_47 42 1 5 = _
  rw [show (42 : Nat) = 41 + 1 from rfl, pl_f_s, if_pos (show (5 : Int) < (tx_47.length : Int) by decide), show pl_e tx_47 tx_47.length 5 = 7 by decide +kernel, pl_q_w (k := 5) (e := 7) (ty := kwl 2) (by decide) (by decide +kernel)]
  refine congrArg (fun z => if lx_w S (kwl 2) = true then (1 : Int) else z) ?_
  show pl_f S tx_47 41 2 8 = _
  rw [show (41 : Nat) = 40 + 1 from rfl, pl_f_s, if_pos (show (8 : Int) < (tx_47.length : Int) by decide), show pl_e tx_47 tx_47.length 8 = 12 by decide +kernel, pl_q_w (k := 8) (e := 12) (ty := kwl 3) (by decide) (by decide +kernel)]
  refine congrArg (fun z => if lx_w S (kwl 3) = true then (2 : Int) else z) ?_
  show pl_f S tx_47 40 3 13 = _
  rw [show (40 : Nat) = 39 + 1 from rfl, pl_f_s, if_pos (show (13 : Int) < (tx_47.length : Int) by decide), show pl_e tx_47 tx_47.length 13 = 18 by decide +kernel, pl_q_w (k := 13) (e := 18) (ty := kwl 4) (by decide) (by decide +kernel)]
  refine congrArg (fun z => if lx_w S (kwl 4) = true then (3 : Int) else z) ?_
  show pl_f S tx_47 39 4 19 = _
  rw [show (39 : Nat) = 38 + 1 from rfl, pl_f_s, if_pos (show (19 : Int) < (tx_47.length : Int) by decide), show pl_e tx_47 tx_47.length 19 = 25 by decide +kernel, pl_q_w (k := 19) (e := 25) (ty := kwl 5) (by decide) (by decide +kernel)]
  refine congrArg (fun z => if lx_w S (kwl 5) = true then (4 : Int) else z) ?_
  show pl_f S tx_47 38 5 26 = _
  rw [show (38 : Nat) = 37 + 1 from rfl, pl_f_s, if_pos (show (26 : Int) < (tx_47.length : Int) by decide), show pl_e tx_47 tx_47.length 26 = 31 by decide +kernel, pl_q_w (k := 26) (e := 31) (ty := kwl 6) (by decide) (by decide +kernel)]
  refine congrArg (fun z => if lx_w S (kwl 6) = true then (5 : Int) else z) ?_
  show pl_f S tx_47 37 6 32 = _
  rw [show (37 : Nat) = 36 + 1 from rfl, pl_f_s, if_pos (show (32 : Int) < (tx_47.length : Int) by decide), show pl_e tx_47 tx_47.length 32 = 35 by decide +kernel, pl_q_w (k := 32) (e := 35) (ty := kwl 7) (by decide) (by decide +kernel)]
  refine congrArg (fun z => if lx_w S (kwl 7) = true then (6 : Int) else z) ?_
  show pl_f S tx_47 36 7 36 = _
  rw [show (36 : Nat) = 35 + 1 from rfl, pl_f_s, if_pos (show (36 : Int) < (tx_47.length : Int) by decide), show pl_e tx_47 tx_47.length 36 = 41 by decide +kernel, pl_q_w (k := 36) (e := 41) (ty := kwl 8) (by decide) (by decide +kernel)]
  refine congrArg (fun z => if lx_w S (kwl 8) = true then (7 : Int) else z) ?_
  show pl_f S tx_47 35 8 42 = _
  rw [show (35 : Nat) = 34 + 1 from rfl, pl_f_s, if_neg (show ¬ (42 : Int) < (tx_47.length : Int) by decide)]
theorem pl_105_w (S : wS) : pl_of S tx_105 = if lx_w S (kwl 14) = true then 0 else if lx_w S (kwl 15) = true then 1 else if lx_w S (kwl 16) = true then 2 else if lx_w S (kwl 17) = true then 3 else if lx_w S (kwl 18) = true then 4 else if lx_w S (kwl 19) = true then 5 else if lx_w S (kwl 20) = true then 6 else if lx_w S (kwl 21) = true then 7 else -1 := by
  show pl_f S tx_105 43 0 1 = _
  rw [show (43 : Nat) = 42 + 1 from rfl, pl_f_s, if_pos (show (1 : Int) < (tx_105.length : Int) by decide), show pl_e tx_105 tx_105.length 1 = 6 by decide +kernel, pl_q_w (k := 1) (e := 6) (ty := kwl 14) (by decide) (by decide +kernel)]
  refine congrArg (fun z => if lx_w S (kwl 14) = true then (0 : Int) else z) ?_
  show pl_f S tx_105 42 1 7 = _
  rw [show (42 : Nat) = 41 + 1 from rfl, pl_f_s, if_pos (show (7 : Int) < (tx_105.length : Int) by decide), show pl_e tx_105 tx_105.length 7 = 11 by decide +kernel, pl_q_w (k := 7) (e := 11) (ty := kwl 15) (by decide) (by decide +kernel)]
  refine congrArg (fun z => if lx_w S (kwl 15) = true then (1 : Int) else z) ?_
  show pl_f S tx_105 41 2 12 = _
  rw [show (41 : Nat) = 40 + 1 from rfl, pl_f_s, if_pos (show (12 : Int) < (tx_105.length : Int) by decide), show pl_e tx_105 tx_105.length 12 = 17 by decide +kernel, pl_q_w (k := 12) (e := 17) (ty := kwl 16) (by decide) (by decide +kernel)]
  refine congrArg (fun z => if lx_w S (kwl 16) = true then (2 : Int) else z) ?_
  show pl_f S tx_105 40 3 18 = _
  rw [show (40 : Nat) = 39 + 1 from rfl, pl_f_s, if_pos (show (18 : Int) < (tx_105.length : Int) by decide), show pl_e tx_105 tx_105.length 18 = 22 by decide +kernel, pl_q_w (k := 18) (e := 22) (ty := kwl 17) (by decide) (by decide +kernel)]
  refine congrArg (fun z => if lx_w S (kwl 17) = true then (3 : Int) else z) ?_
  show pl_f S tx_105 39 4 23 = _
  rw [show (39 : Nat) = 38 + 1 from rfl, pl_f_s, if_pos (show (23 : Int) < (tx_105.length : Int) by decide), show pl_e tx_105 tx_105.length 23 = 27 by decide +kernel, pl_q_w (k := 23) (e := 27) (ty := kwl 18) (by decide) (by decide +kernel)]
  refine congrArg (fun z => if lx_w S (kwl 18) = true then (4 : Int) else z) ?_
  show pl_f S tx_105 38 5 28 = _
  rw [show (38 : Nat) = 37 + 1 from rfl, pl_f_s, if_pos (show (28 : Int) < (tx_105.length : Int) by decide), show pl_e tx_105 tx_105.length 28 = 31 by decide +kernel, pl_q_w (k := 28) (e := 31) (ty := kwl 19) (by decide) (by decide +kernel)]
  refine congrArg (fun z => if lx_w S (kwl 19) = true then (5 : Int) else z) ?_
  show pl_f S tx_105 37 6 32 = _
  rw [show (37 : Nat) = 36 + 1 from rfl, pl_f_s, if_pos (show (32 : Int) < (tx_105.length : Int) by decide), show pl_e tx_105 tx_105.length 32 = 36 by decide +kernel, pl_q_w (k := 32) (e := 36) (ty := kwl 20) (by decide) (by decide +kernel)]
  refine congrArg (fun z => if lx_w S (kwl 20) = true then (6 : Int) else z) ?_
  show pl_f S tx_105 36 7 37 = _
  rw [show (36 : Nat) = 35 + 1 from rfl, pl_f_s, if_pos (show (37 : Int) < (tx_105.length : Int) by decide), show pl_e tx_105 tx_105.length 37 = 41 by decide +kernel, pl_q_w (k := 37) (e := 41) (ty := kwl 21) (by decide) (by decide +kernel)]
  refine congrArg (fun z => if lx_w S (kwl 21) = true then (7 : Int) else z) ?_
  show pl_f S tx_105 35 8 42 = _
  rw [show (35 : Nat) = 34 + 1 from rfl, pl_f_s, if_neg (show ¬ (42 : Int) < (tx_105.length : Int) by decide)]
theorem oo_47 (h : rL T n i S) (h1 : S 237 6 = 1) : lx_oo S tx_47 = true ↔ (kq T n N X i = 40 ∨ (42 ≤ kq T n N X i ∧ kq T n N X i ≤ 48)) := by
  have e0 : lx_w S (kwl 0) = true ↔ kq T n N X i = 40 := rL_wd (N := N) (X := X) h (k := 0) (by decide)
  have e2 : lx_w S (kwl 2) = true ↔ kq T n N X i = 42 := rL_wd (N := N) (X := X) h (k := 2) (by decide)
  have e3 : lx_w S (kwl 3) = true ↔ kq T n N X i = 43 := rL_wd (N := N) (X := X) h (k := 3) (by decide)
  have e4 : lx_w S (kwl 4) = true ↔ kq T n N X i = 44 := rL_wd (N := N) (X := X) h (k := 4) (by decide)
  have e5 : lx_w S (kwl 5) = true ↔ kq T n N X i = 45 := rL_wd (N := N) (X := X) h (k := 5) (by decide)
  have e6 : lx_w S (kwl 6) = true ↔ kq T n N X i = 46 := rL_wd (N := N) (X := X) h (k := 6) (by decide)
  have e7 : lx_w S (kwl 7) = true ↔ kq T n N X i = 47 := rL_wd (N := N) (X := X) h (k := 7) (by decide)
  have e8 : lx_w S (kwl 8) = true ↔ kq T n N X i = 48 := rL_wd (N := N) (X := X) h (k := 8) (by decide)
  unfold lx_oo
  rw [decide_eq_true_iff, pl_47_w]
  constructor
  · rintro ⟨-, z⟩
    refine Classical.byContradiction (fun q => ?_)
    rw [if_neg (fun y => q (by have := e0.1 y; clear e0 e2 e3 e4 e5 e6 e7 e8; omega)), if_neg (fun y => q (by have := e2.1 y; clear e0 e2 e3 e4 e5 e6 e7 e8; omega)), if_neg (fun y => q (by have := e3.1 y; clear e0 e2 e3 e4 e5 e6 e7 e8; omega)), if_neg (fun y => q (by have := e4.1 y; clear e0 e2 e3 e4 e5 e6 e7 e8; omega)), if_neg (fun y => q (by have := e5.1 y; clear e0 e2 e3 e4 e5 e6 e7 e8; omega)), if_neg (fun y => q (by have := e6.1 y; clear e0 e2 e3 e4 e5 e6 e7 e8; omega)), if_neg (fun y => q (by have := e7.1 y; clear e0 e2 e3 e4 e5 e6 e7 e8; omega)), if_neg (fun y => q (by have := e8.1 y; clear e0 e2 e3 e4 e5 e6 e7 e8; omega))] at z
    omega
  · intro q
    refine ⟨h1, ?_⟩
    by_cases c0 : lx_w S (kwl 0) = true
    · rw [if_pos c0]; decide
    rw [if_neg c0]
    by_cases c2 : lx_w S (kwl 2) = true
    · rw [if_pos c2]; decide
    rw [if_neg c2]
    by_cases c3 : lx_w S (kwl 3) = true
    · rw [if_pos c3]; decide
    rw [if_neg c3]
    by_cases c4 : lx_w S (kwl 4) = true
    · rw [if_pos c4]; decide
    rw [if_neg c4]
    by_cases c5 : lx_w S (kwl 5) = true
    · rw [if_pos c5]; decide
    rw [if_neg c5]
    by_cases c6 : lx_w S (kwl 6) = true
    · rw [if_pos c6]; decide
    rw [if_neg c6]
    by_cases c7 : lx_w S (kwl 7) = true
    · rw [if_pos c7]; decide
    rw [if_neg c7]
    by_cases c8 : lx_w S (kwl 8) = true
    · rw [if_pos c8]; decide
    rw [if_neg c8]
    have n0 : kq T n N X i ≠ 40 := fun z => c0 (e0.2 z)
    have n2 : kq T n N X i ≠ 42 := fun z => c2 (e2.2 z)
    have n3 : kq T n N X i ≠ 43 := fun z => c3 (e3.2 z)
    have n4 : kq T n N X i ≠ 44 := fun z => c4 (e4.2 z)
    have n5 : kq T n N X i ≠ 45 := fun z => c5 (e5.2 z)
    have n6 : kq T n N X i ≠ 46 := fun z => c6 (e6.2 z)
    have n7 : kq T n N X i ≠ 47 := fun z => c7 (e7.2 z)
    have n8 : kq T n N X i ≠ 48 := fun z => c8 (e8.2 z)
    clear e0 c0 e2 c2 e3 c3 e4 c4 e5 c5 e6 c6 e7 c7 e8 c8
    omega
theorem cbw (hX : w_X xs) (h : rQ T n N X f0 b0 b1 S0 u dp i I F PA S) : wJ (pe_GA xs) wY0 M (d + 6) t_M_canBeginValue ((pe_at t_M_canBeginValue.bl 0).getD (0, [])).2 [(0, (2, 237))] [] S (fun o Z => S = Z ∧ ((o = .inl (some (0, 1)) ∧ pz_bx (kq T n N X i)) ∨ (o = .inl (some (0, 0)) ∧ ¬ pz_bx (kq T n N X i)))) := by
  obtain ⟨t6, t7, t8, t9⟩ := rL_tk h.1
  have hq := kq_cs T n N X i
  have hs := sk_rx (lx_si T n 0 (tp T n 0 i))
  have h7 := rL_7 h.1
  unfold pz_bx
  refine wa_aload_n (n := 0) rfl ?_
  refine wb_gfi 237 rfl (wy_pr rfl) wt_237 wf_15_6 (v := (S 237 6)) rfl (fun r101 => ?_)
  refine wa_iconst ?_
  refine wa_icmpeq (w_rg0 (by omega) (by omega)) (w_rg0 (by omega) (by omega)) ⟨_, rfl⟩ (fun c102 => ?_) (fun c102 => ?_)
  · skip
    refine wa_iconst ?_
    refine wa_zreturn rfl (Or.inr rfl) ?_
    first
      | (exfalso; omega)
      | exact ⟨rfl, Or.inl ⟨rfl, by omega⟩⟩
  · skip
    refine wa_aload_n (n := 0) rfl ?_
    refine wb_gfi 237 rfl (wy_pr rfl) wt_237 wf_15_6 (v := (S 237 6)) rfl (fun r103 => ?_)
    refine wa_iconst ?_
    refine wa_icmpne (w_rg0 (by omega) (by omega)) (w_rg0 (by omega) (by omega)) ⟨_, rfl⟩ (fun c104 => ?_) (fun c104 => ?_)
    · skip
      refine wa_aload_n (n := 0) rfl ?_
      refine wb_gfi 237 rfl (wy_pr rfl) wt_237 wf_15_6 (v := (S 237 6)) rfl (fun r105 => ?_)
      refine wa_iconst ?_
      refine wa_icmpne (w_rg0 (by omega) (by omega)) (w_rg0 (by omega) (by omega)) ⟨_, rfl⟩ (fun c106 => ?_) (fun c106 => ?_)
      · skip
        refine wa_aload_n (n := 0) rfl ?_
        refine wa_bipush (w_rg2 (by omega) (by omega)) ?_
        refine wa_cv 237 rfl (wy_pr rfl) wt_237 (M2 := fun _ => False) rfl at_M_isSign ⟨_, rfl⟩ rfl rfl ⟨(Or.inr ⟨wy_pr rfl, fun q => q⟩), trivial⟩ trivial (fun _ _ q => False.elim q) (isw (S := S) h (fun _ => sk_40) ⟨by decide, by decide⟩ ⟨by decide, by decide⟩) (fun oq108 Sq108 hp109 q108 => ?_)
        rcases q108 with ⟨rfl, ⟨rfl, ks107⟩ | ⟨rfl, ks107⟩⟩
        · skip
          show wJ _ _ _ _ _ _ _ _ _ _
          refine wa_ifne (w_rg0 (by omega) (by omega)) ⟨_, rfl⟩ (fun c110 => ?_) (fun c110 => ?_)
          · skip
            refine wa_iconst ?_
            refine wa_goto ⟨_, rfl⟩ ?_
            refine wa_zreturn rfl (Or.inr rfl) ?_
            first
              | (exfalso; omega)
              | exact ⟨rfl, Or.inl ⟨rfl, by omega⟩⟩
          · skip
            exact absurd c110 (by omega)
        · skip
          show wJ _ _ _ _ _ _ _ _ _ _
          refine wa_ifne (w_rg0 (by omega) (by omega)) ⟨_, rfl⟩ (fun c111 => ?_) (fun c111 => ?_)
          · skip
            exact absurd c111 (by omega)
          · skip
            refine wa_aload_n (n := 0) rfl ?_
            refine wa_bipush (w_rg2 (by omega) (by omega)) ?_
            refine wa_cv 237 rfl (wy_pr rfl) wt_237 (M2 := fun _ => False) rfl at_M_isSign ⟨_, rfl⟩ rfl rfl ⟨(Or.inr ⟨wy_pr rfl, fun q => q⟩), trivial⟩ trivial (fun _ _ q => False.elim q) (isw (S := S) h (fun _ => sk_91) ⟨by decide, by decide⟩ ⟨by decide, by decide⟩) (fun oq113 Sq113 hp114 q113 => ?_)
            rcases q113 with ⟨rfl, ⟨rfl, ks112⟩ | ⟨rfl, ks112⟩⟩
            · skip
              show wJ _ _ _ _ _ _ _ _ _ _
              refine wa_ifne (w_rg0 (by omega) (by omega)) ⟨_, rfl⟩ (fun c115 => ?_) (fun c115 => ?_)
              · skip
                refine wa_iconst ?_
                refine wa_goto ⟨_, rfl⟩ ?_
                refine wa_zreturn rfl (Or.inr rfl) ?_
                first
                  | (exfalso; omega)
                  | exact ⟨rfl, Or.inl ⟨rfl, by omega⟩⟩
              · skip
                exact absurd c115 (by omega)
            · skip
              show wJ _ _ _ _ _ _ _ _ _ _
              refine wa_ifne (w_rg0 (by omega) (by omega)) ⟨_, rfl⟩ (fun c116 => ?_) (fun c116 => ?_)
              · skip
                exact absurd c116 (by omega)
              · skip
                refine wa_aload_n (n := 0) rfl ?_
                refine wa_bipush (w_rg2 (by omega) (by omega)) ?_
                refine wa_cv 237 rfl (wy_pr rfl) wt_237 (M2 := fun _ => False) rfl at_M_isSign ⟨_, rfl⟩ rfl rfl ⟨(Or.inr ⟨wy_pr rfl, fun q => q⟩), trivial⟩ trivial (fun _ _ q => False.elim q) (isw (S := S) h (fun _ => sk_123) ⟨by decide, by decide⟩ ⟨by decide, by decide⟩) (fun oq118 Sq118 hp119 q118 => ?_)
                rcases q118 with ⟨rfl, ⟨rfl, ks117⟩ | ⟨rfl, ks117⟩⟩
                · skip
                  show wJ _ _ _ _ _ _ _ _ _ _
                  refine wa_ifne (w_rg0 (by omega) (by omega)) ⟨_, rfl⟩ (fun c120 => ?_) (fun c120 => ?_)
                  · skip
                    refine wa_iconst ?_
                    refine wa_goto ⟨_, rfl⟩ ?_
                    refine wa_zreturn rfl (Or.inr rfl) ?_
                    first
                      | (exfalso; omega)
                      | exact ⟨rfl, Or.inl ⟨rfl, by omega⟩⟩
                  · skip
                    exact absurd c120 (by omega)
                · skip
                  show wJ _ _ _ _ _ _ _ _ _ _
                  refine wa_ifne (w_rg0 (by omega) (by omega)) ⟨_, rfl⟩ (fun c121 => ?_) (fun c121 => ?_)
                  · skip
                    exact absurd c121 (by omega)
                  · skip
                    refine wa_aload_n (n := 0) rfl ?_
                    refine wa_bipush (w_rg2 (by omega) (by omega)) ?_
                    refine wa_cv 237 rfl (wy_pr rfl) wt_237 (M2 := fun _ => False) rfl at_M_isSign ⟨_, rfl⟩ rfl rfl ⟨(Or.inr ⟨wy_pr rfl, fun q => q⟩), trivial⟩ trivial (fun _ _ q => False.elim q) (isw (S := S) h (fun _ => sk_45) ⟨by decide, by decide⟩ ⟨by decide, by decide⟩) (fun oq123 Sq123 hp124 q123 => ?_)
                    rcases q123 with ⟨rfl, ⟨rfl, ks122⟩ | ⟨rfl, ks122⟩⟩
                    · skip
                      show wJ _ _ _ _ _ _ _ _ _ _
                      refine wa_ifne (w_rg0 (by omega) (by omega)) ⟨_, rfl⟩ (fun c125 => ?_) (fun c125 => ?_)
                      · skip
                        refine wa_iconst ?_
                        refine wa_goto ⟨_, rfl⟩ ?_
                        refine wa_zreturn rfl (Or.inr rfl) ?_
                        first
                          | (exfalso; omega)
                          | exact ⟨rfl, Or.inl ⟨rfl, by omega⟩⟩
                      · skip
                        exact absurd c125 (by omega)
                    · skip
                      show wJ _ _ _ _ _ _ _ _ _ _
                      refine wa_ifne (w_rg0 (by omega) (by omega)) ⟨_, rfl⟩ (fun c126 => ?_) (fun c126 => ?_)
                      · skip
                        exact absurd c126 (by omega)
                      · skip
                        refine wa_aload_n (n := 0) rfl ?_
                        refine wa_bipush (w_rg2 (by omega) (by omega)) ?_
                        refine wa_cv 237 rfl (wy_pr rfl) wt_237 (M2 := fun _ => False) rfl at_M_isSign ⟨_, rfl⟩ rfl rfl ⟨(Or.inr ⟨wy_pr rfl, fun q => q⟩), trivial⟩ trivial (fun _ _ q => False.elim q) (isw (S := S) h (fun _ => sk_33) ⟨by decide, by decide⟩ ⟨by decide, by decide⟩) (fun oq128 Sq128 hp129 q128 => ?_)
                        rcases q128 with ⟨rfl, ⟨rfl, ks127⟩ | ⟨rfl, ks127⟩⟩
                        · skip
                          show wJ _ _ _ _ _ _ _ _ _ _
                          refine wa_ifeq (w_rg0 (by omega) (by omega)) ⟨_, rfl⟩ (fun c130 => ?_) (fun c130 => ?_)
                          · skip
                            exact absurd c130 (by omega)
                          · skip
                            refine wa_fall ⟨_, rfl⟩ ?_
                            refine wa_iconst ?_
                            refine wa_goto ⟨_, rfl⟩ ?_
                            refine wa_zreturn rfl (Or.inr rfl) ?_
                            first
                              | (exfalso; omega)
                              | exact ⟨rfl, Or.inl ⟨rfl, by omega⟩⟩
                        · skip
                          show wJ _ _ _ _ _ _ _ _ _ _
                          refine wa_ifeq (w_rg0 (by omega) (by omega)) ⟨_, rfl⟩ (fun c131 => ?_) (fun c131 => ?_)
                          · skip
                            refine wa_iconst ?_
                            refine wa_fall ⟨_, rfl⟩ ?_
                            refine wa_zreturn rfl (Or.inl rfl) ?_
                            first
                              | (exfalso; omega)
                              | exact ⟨rfl, Or.inr ⟨rfl, by omega⟩⟩
                          · skip
                            exact absurd c131 (by omega)
      · skip
        refine wa_aload_n (n := 0) rfl ?_
        refine wa_ks ?_
        refine wa_cv 237 rfl (wy_pr rfl) wt_237 (M2 := fun _ => False) rfl at_M_isOneOf ⟨_, rfl⟩ rfl rfl ⟨(Or.inr ⟨wy_pr rfl, fun q => q⟩), trivial⟩ trivial (fun _ _ q => False.elim q) (isOneOf_ok (S := S) h.1.2.2.2.1 (wx_47 hX) (by decide) (by decide) ⟨h7.1.1, h7.1.2, h7.2.1, h7.2.2⟩ (by decide)) (fun oq133 Sq133 hp134 q133 => ?_)
        rcases q133 with ⟨rfl, ⟨rfl, ho132⟩ | ⟨rfl, ho132⟩⟩
        · skip
          show wJ _ _ _ _ _ _ _ _ _ _
          have kho132 := (oo_47 (N := N) (X := X) h.1 (by omega)).1 ho132
          refine wa_ifne (w_rg0 (by omega) (by omega)) ⟨_, rfl⟩ (fun c135 => ?_) (fun c135 => ?_)
          · skip
            refine wa_iconst ?_
            refine wa_fall ⟨_, rfl⟩ ?_
            refine wa_zreturn rfl (Or.inl rfl) ?_
            first
              | (exfalso; omega)
              | exact ⟨rfl, Or.inr ⟨rfl, by omega⟩⟩
          · skip
            exact absurd c135 (by omega)
        · skip
          show wJ _ _ _ _ _ _ _ _ _ _
          have kho132 : ¬ (kq T n N X i = 40 ∨ (42 ≤ kq T n N X i ∧ kq T n N X i ≤ 48)) := fun z => by rw [(oo_47 (N := N) (X := X) h.1 (by omega)).2 z] at ho132; cases ho132
          refine wa_ifne (w_rg0 (by omega) (by omega)) ⟨_, rfl⟩ (fun c136 => ?_) (fun c136 => ?_)
          · skip
            exact absurd c136 (by omega)
          · skip
            refine wa_iconst ?_
            refine wa_goto ⟨_, rfl⟩ ?_
            refine wa_zreturn rfl (Or.inr rfl) ?_
            first
              | (exfalso; omega)
              | exact ⟨rfl, Or.inl ⟨rfl, by omega⟩⟩
    · skip
      refine wa_fall ⟨_, rfl⟩ ?_
      refine wa_iconst ?_
      refine wa_zreturn rfl (Or.inr rfl) ?_
      first
        | (exfalso; omega)
        | exact ⟨rfl, Or.inl ⟨rfl, by omega⟩⟩
end Wcc
