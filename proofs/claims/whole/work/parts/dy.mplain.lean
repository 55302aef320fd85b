/-! PART dy: instructions of the reference: plain ones, numbers, comparisons. -/
section Wdy
variable {xs : List (Nat × List Int32)} {M : Nat → Prop} {d : Nat} {S Z : wS}
/-- where an instruction of the reference begins: task t, c calls, the next instruction p, h values on the pile, the latest call at tp -/
def mP (t c p h tp : Int) (S : wS) : Prop := w_ML S ∧ (S 237 151 = t ∧ 0 ≤ t ∧ t ≤ 1) ∧ S 237 152 = 2100 * t ∧ S 237 153 = 200 * t ∧ (S 358 t = c ∧ 1 ≤ c ∧ c ≤ 200) ∧ (S 237 154 = tp ∧ tp = 200 * t + c - 1) ∧ (S 237 155 = p + 1 ∧ 0 ≤ p ∧ p ≤ 20000) ∧ S 359 t = h ∧ 0 ≤ h ∧ h ≤ 2001
/-- a value is pushed -/
def pUZ (t h k v : Int) (S : wS) : wS := w_up (w_up (w_up S 363 (2100 * t + h) k) 364 (2100 * t + h) v) 359 t (h + 1)
/-- an error is thrown -/
def hZ (n : Int) (S : wS) : wS := w_up (w_up S 238 5 n) 238 6 0
/-- two values give one -/
def pXZ (t h k v : Int) (S : wS) : wS := w_up (w_up (w_up (w_up (w_up S 237 110 k) 237 111 v) 359 t (h - 1)) 363 (2100 * t + h - 1 - 1) k) 364 (2100 * t + h - 1 - 1) v
theorem y0 {t c p h tp a b : Int} (hP : mP t c p h tp S) (hab : (-2147483648 ≤ a ∧ a ≤ 2147483647) ∧ (-2147483648 ≤ b ∧ b ≤ 2147483647)) (ha3 : 0 ≤ a ∧ a ≤ 4) : wJ (pe_GA xs) wY0 M (d + 11) t_M_variables ((pe_at t_M_variables.bl 0).getD (0, [])).2 [(0, (2, 237)), (1, (0, 0)), (2, (0, a)), (3, (0, b))] [] S (fun o Z => (if h < 2000 then o = .inl none ∧ pUZ t h (if a = 0 then 0 else if a = 3 then 2 else if a = 4 then 3 else 1) (if a = 2 then 1 else if a = 3 then b else if a = 4 then b else 0) S = Z else o = .inr 238 ∧ hZ 11 S = Z)) := by
  obtain ⟨hM, ⟨mt, mt0, mt1⟩, mp, mf, ⟨mc, mc0, mc1⟩, ⟨mtp, mtq⟩, ⟨mpa, mp0, mp1⟩, mh, mh0, mh1⟩ := hP
  refine wa_iload_n (n := 1) rfl ?_
  refine wa_iconst ?_
  refine wa_icmpeq (w_rg0 (by omega) (by omega)) (w_rg0 (by omega) (by omega)) ⟨_, rfl⟩ (fun c1 => ?_) (fun c1 => ?_)
  · skip
    exact absurd c1 (by omega)
  · skip
    refine wa_iload_n (n := 1) rfl ?_
    refine wa_iconst ?_
    refine wa_icmpne (w_rg0 (by omega) (by omega)) (w_rg0 (by omega) (by omega)) ⟨_, rfl⟩ (fun c2 => ?_) (fun c2 => ?_)
    · skip
      refine wa_iconst ?_
      refine wa_fall ⟨_, rfl⟩ ?_
      refine wa_istore (n := 4) rfl ?_
      refine wa_aload_n (n := 0) rfl ?_
      refine wa_cv 237 rfl (wy_pr rfl) wt_237 (M2 := fun _ => False) rfl at_M_h ⟨_, rfl⟩ rfl rfl ⟨trivial, (Or.inr ⟨wy_pr rfl, fun q => q⟩), trivial, trivial, trivial, trivial⟩ trivial (fun _ _ q => False.elim q) ?_ (fun _ _ _ q => q)
      refine wa_aload_n (n := 0) rfl ?_
      refine wb_gfi 237 rfl (wy_pr rfl) wt_237 wf_15_152 (v := (2100 * t)) (mp) (fun r3 => ?_)
      refine wa_aload_n (n := 0) rfl ?_
      refine wb_gf4 237 rfl (wy_pr rfl) wt_237 wf_15_134 (v := 359) wl_237_134 ?_
      refine wa_aload_n (n := 0) rfl ?_
      refine wb_gfi 237 rfl (wy_pr rfl) wt_237 wf_15_151 (v := t) (mt) (fun r4 => ?_)
      refine wb_iald 359 rfl (wy_pr rfl) wt_359 (n := 2) ((ml_359 hM)) (by omega) (by omega) (v := h) (mh) (fun r5 => ?_)
      refine wa_iadd ?_
      refine wa_ireturn rfl ?_
      show wJ _ _ _ _ _ _ _ _ _ _
      refine wa_iconst ?_
      refine wa_isub ?_
      refine wa_istore (n := 5) rfl ?_
      refine wa_iload_n (n := 1) rfl ?_
      refine wb_sw (w_rg0 (by omega) (by omega)) (tb := 4) rfl ⟨_, rfl⟩ ?_
      refine wa_aload_n (n := 0) rfl ?_
      refine wa_cv 237 rfl (wy_pr rfl) wt_237 (M2 := fun _ => False) rfl at_M_mayPile ⟨_, rfl⟩ rfl rfl ⟨trivial, trivial, (Or.inr ⟨wy_pr rfl, fun q => q⟩), trivial, trivial, trivial, trivial⟩ trivial (fun _ _ q => False.elim q) ?_ (fun _ _ _ q => q)
      refine wa_aload_n (n := 0) rfl ?_
      refine wb_gf4 237 rfl (wy_pr rfl) wt_237 wf_15_134 (v := 359) wl_237_134 ?_
      refine wa_aload_n (n := 0) rfl ?_
      refine wb_gfi 237 rfl (wy_pr rfl) wt_237 wf_15_151 (v := t) (mt) (fun r6 => ?_)
      refine wb_iald 359 rfl (wy_pr rfl) wt_359 (n := 2) ((ml_359 hM)) (by omega) (by omega) (v := h) (mh) (fun r7 => ?_)
      refine wa_sipush (by omega) ?_
      refine wa_icmplt (w_rg0 (by omega) (by omega)) (w_rg0 (by omega) (by omega)) ⟨_, rfl⟩ (fun c8 => ?_) (fun c8 => ?_)
      · skip
        refine wa_return rfl ?_
        show wJ _ _ _ _ _ _ _ _ _ _
        refine wa_aload_n (n := 0) rfl ?_
        refine wa_iload_n (n := 2) rfl ?_
        refine wa_ifne (w_rg0 (by omega) (by omega)) ⟨_, rfl⟩ (fun c9 => ?_) (fun c9 => ?_)
        · skip
          refine wa_iload_n (n := 2) rfl ?_
          refine wa_iconst ?_
          refine wa_icmpge (w_rg0 (by omega) (by omega)) (w_rg0 (by omega) (by omega)) ⟨_, rfl⟩ (fun c10 => ?_) (fun c10 => ?_)
          · skip
            refine wa_iload_n (n := 2) rfl ?_
            refine wa_iconst ?_
            refine wa_icmpne (w_rg0 (by omega) (by omega)) (w_rg0 (by omega) (by omega)) ⟨_, rfl⟩ (fun c11 => ?_) (fun c11 => ?_)
            · skip
              refine wa_iconst ?_
              refine wa_fall ⟨_, rfl⟩ ?_
              refine wa_iload_n (n := 2) rfl ?_
              refine wa_iconst ?_
              refine wa_icmpne (w_rg0 (by omega) (by omega)) (w_rg0 (by omega) (by omega)) ⟨_, rfl⟩ (fun c12 => ?_) (fun c12 => ?_)
              · skip
                refine wa_iload_n (n := 2) rfl ?_
                refine wa_iconst ?_
                refine wa_icmple (w_rg0 (by omega) (by omega)) (w_rg0 (by omega) (by omega)) ⟨_, rfl⟩ (fun c13 => ?_) (fun c13 => ?_)
                · skip
                  exact absurd c13 (by omega)
                · skip
                  refine wa_iload_n (n := 3) rfl ?_
                  refine wa_i2l (w_rg0 (by omega) (by omega)) ?_
                  refine wa_goto ⟨_, rfl⟩ ?_
                  refine wa_cv 237 rfl (wy_pr rfl) wt_237 (M2 := fun _ => False) rfl at_M_push ⟨_, rfl⟩ rfl rfl ⟨trivial, trivial, (Or.inr ⟨wy_pr rfl, fun q => q⟩), trivial, trivial, trivial, trivial⟩ trivial (fun _ _ q => False.elim q) ?_ (fun _ _ _ q => q)
                  refine wa_aload_n (n := 0) rfl ?_
                  refine wb_gf4 237 rfl (wy_pr rfl) wt_237 wf_15_138 (v := 363) wl_237_138 ?_
                  refine wa_aload_n (n := 0) rfl ?_
                  refine wa_cv 237 rfl (wy_pr rfl) wt_237 (M2 := fun _ => False) rfl at_M_h ⟨_, rfl⟩ rfl rfl ⟨(Or.inr ⟨wy_pr rfl, fun q => q⟩), trivial, trivial, trivial⟩ ⟨(Or.inr ⟨wy_pr rfl, fun q => q⟩), trivial⟩ (fun _ _ q => False.elim q) ?_ (fun _ _ _ q => q)
                  refine wa_aload_n (n := 0) rfl ?_
                  refine wb_gfi 237 rfl (wy_pr rfl) wt_237 wf_15_152 (v := (2100 * t)) (mp) (fun r14 => ?_)
                  refine wa_aload_n (n := 0) rfl ?_
                  refine wb_gf4 237 rfl (wy_pr rfl) wt_237 wf_15_134 (v := 359) wl_237_134 ?_
                  refine wa_aload_n (n := 0) rfl ?_
                  refine wb_gfi 237 rfl (wy_pr rfl) wt_237 wf_15_151 (v := t) (mt) (fun r15 => ?_)
                  refine wb_iald 359 rfl (wy_pr rfl) wt_359 (n := 2) ((ml_359 hM)) (by omega) (by omega) (v := h) (mh) (fun r16 => ?_)
                  refine wa_iadd ?_
                  refine wa_ireturn rfl ?_
                  show wJ _ _ _ _ _ _ _ _ _ _
                  refine wa_iload_n (n := 1) rfl ?_
                  refine wb_iast 363 rfl (wy_pr rfl) wt_363 (n := 4200) ((ml_363 hM)) (by omega) (by omega) ⟨(by omega), (by omega)⟩ ?_
                  refine wa_aload_n (n := 0) rfl ?_
                  refine wb_gf4 237 rfl (wy_pr rfl) wt_237 wf_15_139 (v := 364) wl_237_139 ?_
                  refine wa_aload_n (n := 0) rfl ?_
                  refine wa_cv 237 rfl (wy_pr rfl) wt_237 (M2 := fun _ => False) rfl at_M_h ⟨_, rfl⟩ rfl rfl ⟨(Or.inr ⟨wy_pr rfl, fun q => q⟩), trivial, trivial, trivial⟩ ⟨(Or.inr ⟨wy_pr rfl, fun q => q⟩), trivial⟩ (fun _ _ q => False.elim q) ?_ (fun _ _ _ q => q)
                  refine wa_aload_n (n := 0) rfl ?_
                  refine wb_gfi 237 rfl (wy_pr rfl) wt_237 wf_15_152 (v := (2100 * t)) ((w_up_slot (by decide)).trans (mp)) (fun r17 => ?_)
                  refine wa_aload_n (n := 0) rfl ?_
                  refine wb_gf4 237 rfl (wy_pr rfl) wt_237 wf_15_134 (v := 359) wl_237_134 ?_
                  refine wa_aload_n (n := 0) rfl ?_
                  refine wb_gfi 237 rfl (wy_pr rfl) wt_237 wf_15_151 (v := t) ((w_up_slot (by decide)).trans (mt)) (fun r18 => ?_)
                  refine wb_iald 359 rfl (wy_pr rfl) wt_359 (n := 2) ((w_up_slot (by decide)).trans ((ml_359 hM))) (by omega) (by omega) (v := h) ((w_up_slot (by decide)).trans (mh)) (fun r19 => ?_)
                  refine wa_iadd ?_
                  refine wa_ireturn rfl ?_
                  show wJ _ _ _ _ _ _ _ _ _ _
                  refine wa_lload_n (n := 2) rfl ?_
                  refine wb_last 364 rfl (wy_pr rfl) wt_364 (n := 4200) ((w_up_slot (by decide)).trans ((ml_364 hM))) (by omega) (by omega) ⟨(by omega), (by omega)⟩ ?_
                  refine wa_aload_n (n := 0) rfl ?_
                  refine wb_gf4 237 rfl (wy_pr rfl) wt_237 wf_15_134 (v := 359) wl_237_134 ?_
                  refine wa_aload_n (n := 0) rfl ?_
                  refine wb_gfi 237 rfl (wy_pr rfl) wt_237 wf_15_151 (v := t) ((w_up_slot (by decide)).trans ((w_up_slot (by decide)).trans (mt))) (fun r20 => ?_)
                  refine wa_dup2 (by decide) (by decide) ?_
                  refine wb_iald 359 rfl (wy_pr rfl) wt_359 (n := 2) ((w_up_slot (by decide)).trans ((w_up_slot (by decide)).trans ((ml_359 hM)))) (by omega) (by omega) (v := h) ((w_up_slot (by decide)).trans ((w_up_slot (by decide)).trans (mh))) (fun r21 => ?_)
                  refine wa_iconst ?_
                  refine wa_iadd ?_
                  refine wb_iast 359 rfl (wy_pr rfl) wt_359 (n := 2) ((w_up_slot (by decide)).trans ((w_up_slot (by decide)).trans ((ml_359 hM)))) (by omega) (by omega) ⟨(by omega), (by omega)⟩ ?_
                  refine wa_return rfl ?_
                  show wJ _ _ _ _ _ _ _ _ _ _
                  refine wa_goto ⟨_, rfl⟩ ?_
                  refine wa_return rfl ?_
                  try dsimp only
                  rw [if_pos (by omega)]
                  refine ⟨rfl, ?_⟩
                  repeat (first | rw [if_pos (by omega)] | rw [if_neg (by omega)])
                  rfl
              · skip
                exact absurd c12 (by omega)
            · skip
              refine wa_iconst ?_
              refine wa_goto ⟨_, rfl⟩ ?_
              refine wa_iload_n (n := 2) rfl ?_
              refine wa_iconst ?_
              refine wa_icmpne (w_rg0 (by omega) (by omega)) (w_rg0 (by omega) (by omega)) ⟨_, rfl⟩ (fun c22 => ?_) (fun c22 => ?_)
              · skip
                refine wa_iload_n (n := 2) rfl ?_
                refine wa_iconst ?_
                refine wa_icmple (w_rg0 (by omega) (by omega)) (w_rg0 (by omega) (by omega)) ⟨_, rfl⟩ (fun c23 => ?_) (fun c23 => ?_)
                · skip
                  exact absurd c23 (by omega)
                · skip
                  refine wa_iload_n (n := 3) rfl ?_
                  refine wa_i2l (w_rg0 (by omega) (by omega)) ?_
                  refine wa_goto ⟨_, rfl⟩ ?_
                  refine wa_cv 237 rfl (wy_pr rfl) wt_237 (M2 := fun _ => False) rfl at_M_push ⟨_, rfl⟩ rfl rfl ⟨trivial, trivial, (Or.inr ⟨wy_pr rfl, fun q => q⟩), trivial, trivial, trivial, trivial⟩ trivial (fun _ _ q => False.elim q) ?_ (fun _ _ _ q => q)
                  refine wa_aload_n (n := 0) rfl ?_
                  refine wb_gf4 237 rfl (wy_pr rfl) wt_237 wf_15_138 (v := 363) wl_237_138 ?_
                  refine wa_aload_n (n := 0) rfl ?_
                  refine wa_cv 237 rfl (wy_pr rfl) wt_237 (M2 := fun _ => False) rfl at_M_h ⟨_, rfl⟩ rfl rfl ⟨(Or.inr ⟨wy_pr rfl, fun q => q⟩), trivial, trivial, trivial⟩ ⟨(Or.inr ⟨wy_pr rfl, fun q => q⟩), trivial⟩ (fun _ _ q => False.elim q) ?_ (fun _ _ _ q => q)
                  refine wa_aload_n (n := 0) rfl ?_
                  refine wb_gfi 237 rfl (wy_pr rfl) wt_237 wf_15_152 (v := (2100 * t)) (mp) (fun r24 => ?_)
                  refine wa_aload_n (n := 0) rfl ?_
                  refine wb_gf4 237 rfl (wy_pr rfl) wt_237 wf_15_134 (v := 359) wl_237_134 ?_
                  refine wa_aload_n (n := 0) rfl ?_
                  refine wb_gfi 237 rfl (wy_pr rfl) wt_237 wf_15_151 (v := t) (mt) (fun r25 => ?_)
                  refine wb_iald 359 rfl (wy_pr rfl) wt_359 (n := 2) ((ml_359 hM)) (by omega) (by omega) (v := h) (mh) (fun r26 => ?_)
                  refine wa_iadd ?_
                  refine wa_ireturn rfl ?_
                  show wJ _ _ _ _ _ _ _ _ _ _
                  refine wa_iload_n (n := 1) rfl ?_
                  refine wb_iast 363 rfl (wy_pr rfl) wt_363 (n := 4200) ((ml_363 hM)) (by omega) (by omega) ⟨(by omega), (by omega)⟩ ?_
                  refine wa_aload_n (n := 0) rfl ?_
                  refine wb_gf4 237 rfl (wy_pr rfl) wt_237 wf_15_139 (v := 364) wl_237_139 ?_
                  refine wa_aload_n (n := 0) rfl ?_
                  refine wa_cv 237 rfl (wy_pr rfl) wt_237 (M2 := fun _ => False) rfl at_M_h ⟨_, rfl⟩ rfl rfl ⟨(Or.inr ⟨wy_pr rfl, fun q => q⟩), trivial, trivial, trivial⟩ ⟨(Or.inr ⟨wy_pr rfl, fun q => q⟩), trivial⟩ (fun _ _ q => False.elim q) ?_ (fun _ _ _ q => q)
                  refine wa_aload_n (n := 0) rfl ?_
                  refine wb_gfi 237 rfl (wy_pr rfl) wt_237 wf_15_152 (v := (2100 * t)) ((w_up_slot (by decide)).trans (mp)) (fun r27 => ?_)
                  refine wa_aload_n (n := 0) rfl ?_
                  refine wb_gf4 237 rfl (wy_pr rfl) wt_237 wf_15_134 (v := 359) wl_237_134 ?_
                  refine wa_aload_n (n := 0) rfl ?_
                  refine wb_gfi 237 rfl (wy_pr rfl) wt_237 wf_15_151 (v := t) ((w_up_slot (by decide)).trans (mt)) (fun r28 => ?_)
                  refine wb_iald 359 rfl (wy_pr rfl) wt_359 (n := 2) ((w_up_slot (by decide)).trans ((ml_359 hM))) (by omega) (by omega) (v := h) ((w_up_slot (by decide)).trans (mh)) (fun r29 => ?_)
                  refine wa_iadd ?_
                  refine wa_ireturn rfl ?_
                  show wJ _ _ _ _ _ _ _ _ _ _
                  refine wa_lload_n (n := 2) rfl ?_
                  refine wb_last 364 rfl (wy_pr rfl) wt_364 (n := 4200) ((w_up_slot (by decide)).trans ((ml_364 hM))) (by omega) (by omega) ⟨(by omega), (by omega)⟩ ?_
                  refine wa_aload_n (n := 0) rfl ?_
                  refine wb_gf4 237 rfl (wy_pr rfl) wt_237 wf_15_134 (v := 359) wl_237_134 ?_
                  refine wa_aload_n (n := 0) rfl ?_
                  refine wb_gfi 237 rfl (wy_pr rfl) wt_237 wf_15_151 (v := t) ((w_up_slot (by decide)).trans ((w_up_slot (by decide)).trans (mt))) (fun r30 => ?_)
                  refine wa_dup2 (by decide) (by decide) ?_
                  refine wb_iald 359 rfl (wy_pr rfl) wt_359 (n := 2) ((w_up_slot (by decide)).trans ((w_up_slot (by decide)).trans ((ml_359 hM)))) (by omega) (by omega) (v := h) ((w_up_slot (by decide)).trans ((w_up_slot (by decide)).trans (mh))) (fun r31 => ?_)
                  refine wa_iconst ?_
                  refine wa_iadd ?_
                  refine wb_iast 359 rfl (wy_pr rfl) wt_359 (n := 2) ((w_up_slot (by decide)).trans ((w_up_slot (by decide)).trans ((ml_359 hM)))) (by omega) (by omega) ⟨(by omega), (by omega)⟩ ?_
                  refine wa_return rfl ?_
                  show wJ _ _ _ _ _ _ _ _ _ _
                  refine wa_goto ⟨_, rfl⟩ ?_
                  refine wa_return rfl ?_
                  try dsimp only
                  rw [if_pos (by omega)]
                  refine ⟨rfl, ?_⟩
                  repeat (first | rw [if_pos (by omega)] | rw [if_neg (by omega)])
                  rfl
              · skip
                exact absurd c22 (by omega)
          · skip
            refine wa_iconst ?_
            refine wa_goto ⟨_, rfl⟩ ?_
            refine wa_iload_n (n := 2) rfl ?_
            refine wa_iconst ?_
            refine wa_icmpne (w_rg0 (by omega) (by omega)) (w_rg0 (by omega) (by omega)) ⟨_, rfl⟩ (fun c32 => ?_) (fun c32 => ?_)
            · skip
              refine wa_iload_n (n := 2) rfl ?_
              refine wa_iconst ?_
              refine wa_icmple (w_rg0 (by omega) (by omega)) (w_rg0 (by omega) (by omega)) ⟨_, rfl⟩ (fun c33 => ?_) (fun c33 => ?_)
              · skip
                refine wb_lconst (m := 0) rfl ?_
                refine wa_fall ⟨_, rfl⟩ ?_
                refine wa_cv 237 rfl (wy_pr rfl) wt_237 (M2 := fun _ => False) rfl at_M_push ⟨_, rfl⟩ rfl rfl ⟨trivial, trivial, (Or.inr ⟨wy_pr rfl, fun q => q⟩), trivial, trivial, trivial, trivial⟩ trivial (fun _ _ q => False.elim q) ?_ (fun _ _ _ q => q)
                refine wa_aload_n (n := 0) rfl ?_
                refine wb_gf4 237 rfl (wy_pr rfl) wt_237 wf_15_138 (v := 363) wl_237_138 ?_
                refine wa_aload_n (n := 0) rfl ?_
                refine wa_cv 237 rfl (wy_pr rfl) wt_237 (M2 := fun _ => False) rfl at_M_h ⟨_, rfl⟩ rfl rfl ⟨(Or.inr ⟨wy_pr rfl, fun q => q⟩), trivial, trivial, trivial⟩ ⟨(Or.inr ⟨wy_pr rfl, fun q => q⟩), trivial⟩ (fun _ _ q => False.elim q) ?_ (fun _ _ _ q => q)
                refine wa_aload_n (n := 0) rfl ?_
                refine wb_gfi 237 rfl (wy_pr rfl) wt_237 wf_15_152 (v := (2100 * t)) (mp) (fun r34 => ?_)
                refine wa_aload_n (n := 0) rfl ?_
                refine wb_gf4 237 rfl (wy_pr rfl) wt_237 wf_15_134 (v := 359) wl_237_134 ?_
                refine wa_aload_n (n := 0) rfl ?_
                refine wb_gfi 237 rfl (wy_pr rfl) wt_237 wf_15_151 (v := t) (mt) (fun r35 => ?_)
                refine wb_iald 359 rfl (wy_pr rfl) wt_359 (n := 2) ((ml_359 hM)) (by omega) (by omega) (v := h) (mh) (fun r36 => ?_)
                refine wa_iadd ?_
                refine wa_ireturn rfl ?_
                show wJ _ _ _ _ _ _ _ _ _ _
                refine wa_iload_n (n := 1) rfl ?_
                refine wb_iast 363 rfl (wy_pr rfl) wt_363 (n := 4200) ((ml_363 hM)) (by omega) (by omega) ⟨(by omega), (by omega)⟩ ?_
                refine wa_aload_n (n := 0) rfl ?_
                refine wb_gf4 237 rfl (wy_pr rfl) wt_237 wf_15_139 (v := 364) wl_237_139 ?_
                refine wa_aload_n (n := 0) rfl ?_
                refine wa_cv 237 rfl (wy_pr rfl) wt_237 (M2 := fun _ => False) rfl at_M_h ⟨_, rfl⟩ rfl rfl ⟨(Or.inr ⟨wy_pr rfl, fun q => q⟩), trivial, trivial, trivial⟩ ⟨(Or.inr ⟨wy_pr rfl, fun q => q⟩), trivial⟩ (fun _ _ q => False.elim q) ?_ (fun _ _ _ q => q)
                refine wa_aload_n (n := 0) rfl ?_
                refine wb_gfi 237 rfl (wy_pr rfl) wt_237 wf_15_152 (v := (2100 * t)) ((w_up_slot (by decide)).trans (mp)) (fun r37 => ?_)
                refine wa_aload_n (n := 0) rfl ?_
                refine wb_gf4 237 rfl (wy_pr rfl) wt_237 wf_15_134 (v := 359) wl_237_134 ?_
                refine wa_aload_n (n := 0) rfl ?_
                refine wb_gfi 237 rfl (wy_pr rfl) wt_237 wf_15_151 (v := t) ((w_up_slot (by decide)).trans (mt)) (fun r38 => ?_)
                refine wb_iald 359 rfl (wy_pr rfl) wt_359 (n := 2) ((w_up_slot (by decide)).trans ((ml_359 hM))) (by omega) (by omega) (v := h) ((w_up_slot (by decide)).trans (mh)) (fun r39 => ?_)
                refine wa_iadd ?_
                refine wa_ireturn rfl ?_
                show wJ _ _ _ _ _ _ _ _ _ _
                refine wa_lload_n (n := 2) rfl ?_
                refine wb_last 364 rfl (wy_pr rfl) wt_364 (n := 4200) ((w_up_slot (by decide)).trans ((ml_364 hM))) (by omega) (by omega) ⟨(by omega), (by omega)⟩ ?_
                refine wa_aload_n (n := 0) rfl ?_
                refine wb_gf4 237 rfl (wy_pr rfl) wt_237 wf_15_134 (v := 359) wl_237_134 ?_
                refine wa_aload_n (n := 0) rfl ?_
                refine wb_gfi 237 rfl (wy_pr rfl) wt_237 wf_15_151 (v := t) ((w_up_slot (by decide)).trans ((w_up_slot (by decide)).trans (mt))) (fun r40 => ?_)
                refine wa_dup2 (by decide) (by decide) ?_
                refine wb_iald 359 rfl (wy_pr rfl) wt_359 (n := 2) ((w_up_slot (by decide)).trans ((w_up_slot (by decide)).trans ((ml_359 hM)))) (by omega) (by omega) (v := h) ((w_up_slot (by decide)).trans ((w_up_slot (by decide)).trans (mh))) (fun r41 => ?_)
                refine wa_iconst ?_
                refine wa_iadd ?_
                refine wb_iast 359 rfl (wy_pr rfl) wt_359 (n := 2) ((w_up_slot (by decide)).trans ((w_up_slot (by decide)).trans ((ml_359 hM)))) (by omega) (by omega) ⟨(by omega), (by omega)⟩ ?_
                refine wa_return rfl ?_
                show wJ _ _ _ _ _ _ _ _ _ _
                refine wa_goto ⟨_, rfl⟩ ?_
                refine wa_return rfl ?_
                try dsimp only
                rw [if_pos (by omega)]
                refine ⟨rfl, ?_⟩
                repeat (first | rw [if_pos (by omega)] | rw [if_neg (by omega)])
                rfl
              · skip
                exact absurd c33 (by omega)
            · skip
              refine wb_lconst (m := 1) rfl ?_
              refine wa_goto ⟨_, rfl⟩ ?_
              refine wa_cv 237 rfl (wy_pr rfl) wt_237 (M2 := fun _ => False) rfl at_M_push ⟨_, rfl⟩ rfl rfl ⟨trivial, trivial, (Or.inr ⟨wy_pr rfl, fun q => q⟩), trivial, trivial, trivial, trivial⟩ trivial (fun _ _ q => False.elim q) ?_ (fun _ _ _ q => q)
              refine wa_aload_n (n := 0) rfl ?_
              refine wb_gf4 237 rfl (wy_pr rfl) wt_237 wf_15_138 (v := 363) wl_237_138 ?_
              refine wa_aload_n (n := 0) rfl ?_
              refine wa_cv 237 rfl (wy_pr rfl) wt_237 (M2 := fun _ => False) rfl at_M_h ⟨_, rfl⟩ rfl rfl ⟨(Or.inr ⟨wy_pr rfl, fun q => q⟩), trivial, trivial, trivial⟩ ⟨(Or.inr ⟨wy_pr rfl, fun q => q⟩), trivial⟩ (fun _ _ q => False.elim q) ?_ (fun _ _ _ q => q)
              refine wa_aload_n (n := 0) rfl ?_
              refine wb_gfi 237 rfl (wy_pr rfl) wt_237 wf_15_152 (v := (2100 * t)) (mp) (fun r42 => ?_)
              refine wa_aload_n (n := 0) rfl ?_
              refine wb_gf4 237 rfl (wy_pr rfl) wt_237 wf_15_134 (v := 359) wl_237_134 ?_
              refine wa_aload_n (n := 0) rfl ?_
              refine wb_gfi 237 rfl (wy_pr rfl) wt_237 wf_15_151 (v := t) (mt) (fun r43 => ?_)
              refine wb_iald 359 rfl (wy_pr rfl) wt_359 (n := 2) ((ml_359 hM)) (by omega) (by omega) (v := h) (mh) (fun r44 => ?_)
              refine wa_iadd ?_
              refine wa_ireturn rfl ?_
              show wJ _ _ _ _ _ _ _ _ _ _
              refine wa_iload_n (n := 1) rfl ?_
              refine wb_iast 363 rfl (wy_pr rfl) wt_363 (n := 4200) ((ml_363 hM)) (by omega) (by omega) ⟨(by omega), (by omega)⟩ ?_
              refine wa_aload_n (n := 0) rfl ?_
              refine wb_gf4 237 rfl (wy_pr rfl) wt_237 wf_15_139 (v := 364) wl_237_139 ?_
              refine wa_aload_n (n := 0) rfl ?_
              refine wa_cv 237 rfl (wy_pr rfl) wt_237 (M2 := fun _ => False) rfl at_M_h ⟨_, rfl⟩ rfl rfl ⟨(Or.inr ⟨wy_pr rfl, fun q => q⟩), trivial, trivial, trivial⟩ ⟨(Or.inr ⟨wy_pr rfl, fun q => q⟩), trivial⟩ (fun _ _ q => False.elim q) ?_ (fun _ _ _ q => q)
              refine wa_aload_n (n := 0) rfl ?_
              refine wb_gfi 237 rfl (wy_pr rfl) wt_237 wf_15_152 (v := (2100 * t)) ((w_up_slot (by decide)).trans (mp)) (fun r45 => ?_)
              refine wa_aload_n (n := 0) rfl ?_
              refine wb_gf4 237 rfl (wy_pr rfl) wt_237 wf_15_134 (v := 359) wl_237_134 ?_
              refine wa_aload_n (n := 0) rfl ?_
              refine wb_gfi 237 rfl (wy_pr rfl) wt_237 wf_15_151 (v := t) ((w_up_slot (by decide)).trans (mt)) (fun r46 => ?_)
              refine wb_iald 359 rfl (wy_pr rfl) wt_359 (n := 2) ((w_up_slot (by decide)).trans ((ml_359 hM))) (by omega) (by omega) (v := h) ((w_up_slot (by decide)).trans (mh)) (fun r47 => ?_)
              refine wa_iadd ?_
              refine wa_ireturn rfl ?_
              show wJ _ _ _ _ _ _ _ _ _ _
              refine wa_lload_n (n := 2) rfl ?_
              refine wb_last 364 rfl (wy_pr rfl) wt_364 (n := 4200) ((w_up_slot (by decide)).trans ((ml_364 hM))) (by omega) (by omega) ⟨(by omega), (by omega)⟩ ?_
              refine wa_aload_n (n := 0) rfl ?_
              refine wb_gf4 237 rfl (wy_pr rfl) wt_237 wf_15_134 (v := 359) wl_237_134 ?_
              refine wa_aload_n (n := 0) rfl ?_
              refine wb_gfi 237 rfl (wy_pr rfl) wt_237 wf_15_151 (v := t) ((w_up_slot (by decide)).trans ((w_up_slot (by decide)).trans (mt))) (fun r48 => ?_)
              refine wa_dup2 (by decide) (by decide) ?_
              refine wb_iald 359 rfl (wy_pr rfl) wt_359 (n := 2) ((w_up_slot (by decide)).trans ((w_up_slot (by decide)).trans ((ml_359 hM)))) (by omega) (by omega) (v := h) ((w_up_slot (by decide)).trans ((w_up_slot (by decide)).trans (mh))) (fun r49 => ?_)
              refine wa_iconst ?_
              refine wa_iadd ?_
              refine wb_iast 359 rfl (wy_pr rfl) wt_359 (n := 2) ((w_up_slot (by decide)).trans ((w_up_slot (by decide)).trans ((ml_359 hM)))) (by omega) (by omega) ⟨(by omega), (by omega)⟩ ?_
              refine wa_return rfl ?_
              show wJ _ _ _ _ _ _ _ _ _ _
              refine wa_goto ⟨_, rfl⟩ ?_
              refine wa_return rfl ?_
              try dsimp only
              rw [if_pos (by omega)]
              refine ⟨rfl, ?_⟩
              repeat (first | rw [if_pos (by omega)] | rw [if_neg (by omega)])
              rfl
        · skip
          refine wa_iconst ?_
          refine wa_goto ⟨_, rfl⟩ ?_
          refine wa_iload_n (n := 2) rfl ?_
          refine wa_iconst ?_
          refine wa_icmpne (w_rg0 (by omega) (by omega)) (w_rg0 (by omega) (by omega)) ⟨_, rfl⟩ (fun c50 => ?_) (fun c50 => ?_)
          · skip
            refine wa_iload_n (n := 2) rfl ?_
            refine wa_iconst ?_
            refine wa_icmple (w_rg0 (by omega) (by omega)) (w_rg0 (by omega) (by omega)) ⟨_, rfl⟩ (fun c51 => ?_) (fun c51 => ?_)
            · skip
              refine wb_lconst (m := 0) rfl ?_
              refine wa_fall ⟨_, rfl⟩ ?_
              refine wa_cv 237 rfl (wy_pr rfl) wt_237 (M2 := fun _ => False) rfl at_M_push ⟨_, rfl⟩ rfl rfl ⟨trivial, trivial, (Or.inr ⟨wy_pr rfl, fun q => q⟩), trivial, trivial, trivial, trivial⟩ trivial (fun _ _ q => False.elim q) ?_ (fun _ _ _ q => q)
              refine wa_aload_n (n := 0) rfl ?_
              refine wb_gf4 237 rfl (wy_pr rfl) wt_237 wf_15_138 (v := 363) wl_237_138 ?_
              refine wa_aload_n (n := 0) rfl ?_
              refine wa_cv 237 rfl (wy_pr rfl) wt_237 (M2 := fun _ => False) rfl at_M_h ⟨_, rfl⟩ rfl rfl ⟨(Or.inr ⟨wy_pr rfl, fun q => q⟩), trivial, trivial, trivial⟩ ⟨(Or.inr ⟨wy_pr rfl, fun q => q⟩), trivial⟩ (fun _ _ q => False.elim q) ?_ (fun _ _ _ q => q)
              refine wa_aload_n (n := 0) rfl ?_
              refine wb_gfi 237 rfl (wy_pr rfl) wt_237 wf_15_152 (v := (2100 * t)) (mp) (fun r52 => ?_)
              refine wa_aload_n (n := 0) rfl ?_
              refine wb_gf4 237 rfl (wy_pr rfl) wt_237 wf_15_134 (v := 359) wl_237_134 ?_
              refine wa_aload_n (n := 0) rfl ?_
              refine wb_gfi 237 rfl (wy_pr rfl) wt_237 wf_15_151 (v := t) (mt) (fun r53 => ?_)
              refine wb_iald 359 rfl (wy_pr rfl) wt_359 (n := 2) ((ml_359 hM)) (by omega) (by omega) (v := h) (mh) (fun r54 => ?_)
              refine wa_iadd ?_
              refine wa_ireturn rfl ?_
              show wJ _ _ _ _ _ _ _ _ _ _
              refine wa_iload_n (n := 1) rfl ?_
              refine wb_iast 363 rfl (wy_pr rfl) wt_363 (n := 4200) ((ml_363 hM)) (by omega) (by omega) ⟨(by omega), (by omega)⟩ ?_
              refine wa_aload_n (n := 0) rfl ?_
              refine wb_gf4 237 rfl (wy_pr rfl) wt_237 wf_15_139 (v := 364) wl_237_139 ?_
              refine wa_aload_n (n := 0) rfl ?_
              refine wa_cv 237 rfl (wy_pr rfl) wt_237 (M2 := fun _ => False) rfl at_M_h ⟨_, rfl⟩ rfl rfl ⟨(Or.inr ⟨wy_pr rfl, fun q => q⟩), trivial, trivial, trivial⟩ ⟨(Or.inr ⟨wy_pr rfl, fun q => q⟩), trivial⟩ (fun _ _ q => False.elim q) ?_ (fun _ _ _ q => q)
              refine wa_aload_n (n := 0) rfl ?_
              refine wb_gfi 237 rfl (wy_pr rfl) wt_237 wf_15_152 (v := (2100 * t)) ((w_up_slot (by decide)).trans (mp)) (fun r55 => ?_)
              refine wa_aload_n (n := 0) rfl ?_
              refine wb_gf4 237 rfl (wy_pr rfl) wt_237 wf_15_134 (v := 359) wl_237_134 ?_
              refine wa_aload_n (n := 0) rfl ?_
              refine wb_gfi 237 rfl (wy_pr rfl) wt_237 wf_15_151 (v := t) ((w_up_slot (by decide)).trans (mt)) (fun r56 => ?_)
              refine wb_iald 359 rfl (wy_pr rfl) wt_359 (n := 2) ((w_up_slot (by decide)).trans ((ml_359 hM))) (by omega) (by omega) (v := h) ((w_up_slot (by decide)).trans (mh)) (fun r57 => ?_)
              refine wa_iadd ?_
              refine wa_ireturn rfl ?_
              show wJ _ _ _ _ _ _ _ _ _ _
              refine wa_lload_n (n := 2) rfl ?_
              refine wb_last 364 rfl (wy_pr rfl) wt_364 (n := 4200) ((w_up_slot (by decide)).trans ((ml_364 hM))) (by omega) (by omega) ⟨(by omega), (by omega)⟩ ?_
              refine wa_aload_n (n := 0) rfl ?_
              refine wb_gf4 237 rfl (wy_pr rfl) wt_237 wf_15_134 (v := 359) wl_237_134 ?_
              refine wa_aload_n (n := 0) rfl ?_
              refine wb_gfi 237 rfl (wy_pr rfl) wt_237 wf_15_151 (v := t) ((w_up_slot (by decide)).trans ((w_up_slot (by decide)).trans (mt))) (fun r58 => ?_)
              refine wa_dup2 (by decide) (by decide) ?_
              refine wb_iald 359 rfl (wy_pr rfl) wt_359 (n := 2) ((w_up_slot (by decide)).trans ((w_up_slot (by decide)).trans ((ml_359 hM)))) (by omega) (by omega) (v := h) ((w_up_slot (by decide)).trans ((w_up_slot (by decide)).trans (mh))) (fun r59 => ?_)
              refine wa_iconst ?_
              refine wa_iadd ?_
              refine wb_iast 359 rfl (wy_pr rfl) wt_359 (n := 2) ((w_up_slot (by decide)).trans ((w_up_slot (by decide)).trans ((ml_359 hM)))) (by omega) (by omega) ⟨(by omega), (by omega)⟩ ?_
              refine wa_return rfl ?_
              show wJ _ _ _ _ _ _ _ _ _ _
              refine wa_goto ⟨_, rfl⟩ ?_
              refine wa_return rfl ?_
              try dsimp only
              rw [if_pos (by omega)]
              refine ⟨rfl, ?_⟩
              repeat (first | rw [if_pos (by omega)] | rw [if_neg (by omega)])
              rfl
            · skip
              exact absurd c51 (by omega)
          · skip
            exact absurd c50 (by omega)
      · skip
        refine wa_aload_n (n := 0) rfl ?_
        refine wa_bipush (w_rg2 (by omega) (by omega)) ?_
        refine wa_cv 237 rfl (wy_pr rfl) wt_237 (M2 := fun _ => False) rfl at_M_error ⟨_, rfl⟩ rfl rfl ⟨(Or.inr ⟨wy_pr rfl, fun q => q⟩), trivial⟩ trivial (fun _ _ q => False.elim q) ?_ (fun _ _ _ q => q)
        refine wa_aload_n (n := 0) rfl ?_
        refine wb_gf4 237 rfl (wy_pr rfl) wt_237 wf_15_1 (v := 238) wl_237_1 ?_
        refine wa_iload_n (n := 1) rfl ?_
        refine wa_iconst ?_
        refine wa_cv 238 rfl (wy_pr rfl) wt_238 (M2 := fun _ => False) rfl at_MH_of ⟨_, rfl⟩ rfl rfl ⟨(Or.inr ⟨wy_pr rfl, fun q => q⟩), trivial, trivial⟩ trivial (fun _ _ q => False.elim q) ?_ (fun _ _ _ q => q)
        refine wa_aload_n (n := 0) rfl ?_
        refine wa_iload_n (n := 1) rfl ?_
        refine wb_pfi 238 rfl (wy_pr rfl) wt_238 wf_11_5 (n := 5) rfl ⟨(by omega), (by omega)⟩ ?_
        refine wa_aload_n (n := 0) rfl ?_
        refine wa_iload_n (n := 2) rfl ?_
        refine wb_pfi 238 rfl (wy_pr rfl) wt_238 wf_11_6 (n := 6) rfl ⟨(by omega), (by omega)⟩ ?_
        refine wa_aload_n (n := 0) rfl ?_
        refine wa_oreturn rfl ?_
        show wJ _ _ _ _ _ _ _ _ _ _
        refine wa_th (j := 238) ?_
        refine ⟨rfl, ?_⟩
        refine ⟨rfl, ?_⟩
        dsimp only
        rw [if_neg (by omega)]
        exact ⟨rfl, rfl⟩
    · skip
      exact absurd c2 (by omega)
theorem y20 {t c p h tp a : Int} (hP : mP t c p h tp S) (hab : -2147483648 ≤ a ∧ a ≤ 2147483647)  : wJ (pe_GA xs) wY0 M (d + 11) t_M_others ((pe_at t_M_others.bl 0).getD (0, [])).2 [(0, (2, 237)), (1, (0, 20)), (2, (0, a))] [] S (fun o Z => o = .inl none ∧ w_up S 237 155 a = Z) := by
  obtain ⟨hM, ⟨mt, mt0, mt1⟩, mp, mf, ⟨mc, mc0, mc1⟩, ⟨mtp, mtq⟩, ⟨mpa, mp0, mp1⟩, mh, mh0, mh1⟩ := hP
  refine wa_aload_n (n := 0) rfl ?_
  refine wa_cv 237 rfl (wy_pr rfl) wt_237 (M2 := fun _ => False) rfl at_M_h ⟨_, rfl⟩ rfl rfl ⟨(Or.inr ⟨wy_pr rfl, fun q => q⟩), trivial, trivial, trivial⟩ trivial (fun _ _ q => False.elim q) ?_ (fun _ _ _ q => q)
  refine wa_aload_n (n := 0) rfl ?_
  refine wb_gfi 237 rfl (wy_pr rfl) wt_237 wf_15_152 (v := (2100 * t)) (mp) (fun r1 => ?_)
  refine wa_aload_n (n := 0) rfl ?_
  refine wb_gf4 237 rfl (wy_pr rfl) wt_237 wf_15_134 (v := 359) wl_237_134 ?_
  refine wa_aload_n (n := 0) rfl ?_
  refine wb_gfi 237 rfl (wy_pr rfl) wt_237 wf_15_151 (v := t) (mt) (fun r2 => ?_)
  refine wb_iald 359 rfl (wy_pr rfl) wt_359 (n := 2) ((ml_359 hM)) (by omega) (by omega) (v := h) (mh) (fun r3 => ?_)
  refine wa_iadd ?_
  refine wa_ireturn rfl ?_
  show wJ _ _ _ _ _ _ _ _ _ _
  refine wa_iconst ?_
  refine wa_isub ?_
  refine wa_istore_n (n := 3) rfl ?_
  refine wa_iload_n (n := 1) rfl ?_
  refine wb_sw (w_rg0 (by omega) (by omega)) (tb := 1) rfl ⟨_, rfl⟩ ?_
  refine wa_aload_n (n := 0) rfl ?_
  refine wa_iload_n (n := 2) rfl ?_
  refine wb_pfi 237 rfl (wy_pr rfl) wt_237 wf_15_155 (n := 155) rfl ⟨(by omega), (by omega)⟩ ?_
  refine wa_goto ⟨_, rfl⟩ ?_
  refine wa_return rfl ?_
  exact ⟨rfl, rfl⟩
theorem y5 {t c p h tp : Int} (hP : mP t c p h tp S) (hh1 : 1 ≤ h) : wJ (pe_GA xs) wY0 M (d + 11) t_M_operators ((pe_at t_M_operators.bl 0).getD (0, [])).2 [(0, (2, 237)), (1, (0, 5))] [] S (fun o Z => o = .inl none ∧ w_up S 359 t (h - 1) = Z) := by
  obtain ⟨hM, ⟨mt, mt0, mt1⟩, mp, mf, ⟨mc, mc0, mc1⟩, ⟨mtp, mtq⟩, ⟨mpa, mp0, mp1⟩, mh, mh0, mh1⟩ := hP
  refine wa_aload_n (n := 0) rfl ?_
  refine wa_cv 237 rfl (wy_pr rfl) wt_237 (M2 := fun _ => False) rfl at_M_h ⟨_, rfl⟩ rfl rfl ⟨(Or.inr ⟨wy_pr rfl, fun q => q⟩), trivial, trivial⟩ trivial (fun _ _ q => False.elim q) ?_ (fun _ _ _ q => q)
  refine wa_aload_n (n := 0) rfl ?_
  refine wb_gfi 237 rfl (wy_pr rfl) wt_237 wf_15_152 (v := (2100 * t)) (mp) (fun r1 => ?_)
  refine wa_aload_n (n := 0) rfl ?_
  refine wb_gf4 237 rfl (wy_pr rfl) wt_237 wf_15_134 (v := 359) wl_237_134 ?_
  refine wa_aload_n (n := 0) rfl ?_
  refine wb_gfi 237 rfl (wy_pr rfl) wt_237 wf_15_151 (v := t) (mt) (fun r2 => ?_)
  refine wb_iald 359 rfl (wy_pr rfl) wt_359 (n := 2) ((ml_359 hM)) (by omega) (by omega) (v := h) (mh) (fun r3 => ?_)
  refine wa_iadd ?_
  refine wa_ireturn rfl ?_
  show wJ _ _ _ _ _ _ _ _ _ _
  refine wa_iconst ?_
  refine wa_isub ?_
  refine wa_istore_n (n := 2) rfl ?_
  refine wa_iload_n (n := 2) rfl ?_
  refine wa_iconst ?_
  refine wa_isub ?_
  refine wa_istore_n (n := 3) rfl ?_
  refine wa_iload_n (n := 1) rfl ?_
  refine wa_iconst ?_
  refine wa_icmpne (w_rg0 (by omega) (by omega)) (w_rg0 (by omega) (by omega)) ⟨_, rfl⟩ (fun c4 => ?_) (fun c4 => ?_)
  · skip
    exact absurd c4 (by omega)
  · skip
    refine wa_aload_n (n := 0) rfl ?_
    refine wb_gf4 237 rfl (wy_pr rfl) wt_237 wf_15_134 (v := 359) wl_237_134 ?_
    refine wa_aload_n (n := 0) rfl ?_
    refine wb_gfi 237 rfl (wy_pr rfl) wt_237 wf_15_151 (v := t) (mt) (fun r5 => ?_)
    refine wa_dup2 (by decide) (by decide) ?_
    refine wb_iald 359 rfl (wy_pr rfl) wt_359 (n := 2) ((ml_359 hM)) (by omega) (by omega) (v := h) (mh) (fun r6 => ?_)
    refine wa_iconst ?_
    refine wa_isub ?_
    refine wb_iast 359 rfl (wy_pr rfl) wt_359 (n := 2) ((ml_359 hM)) (by omega) (by omega) ⟨(by omega), (by omega)⟩ ?_
    refine wa_goto ⟨_, rfl⟩ ?_
    refine wa_return rfl ?_
    exact ⟨rfl, rfl⟩
theorem y6 {t c p h tp ky vy : Int} (hP : mP t c p h tp S) (hky : S 363 (2100 * t + h - 1) = ky) (hvy : S 364 (2100 * t + h - 1) = vy) (hh1 : 1 ≤ h) : wJ (pe_GA xs) wY0 M (d + 11) t_M_operators ((pe_at t_M_operators.bl 0).getD (0, [])).2 [(0, (2, 237)), (1, (0, 6))] [] S (fun o Z => (if h < 2000 then o = .inl none ∧ pUZ t h (ky) (vy) S = Z else o = .inr 238 ∧ hZ 11 S = Z)) := by
  obtain ⟨hM, ⟨mt, mt0, mt1⟩, mp, mf, ⟨mc, mc0, mc1⟩, ⟨mtp, mtq⟩, ⟨mpa, mp0, mp1⟩, mh, mh0, mh1⟩ := hP
  refine wa_aload_n (n := 0) rfl ?_
  refine wa_cv 237 rfl (wy_pr rfl) wt_237 (M2 := fun _ => False) rfl at_M_h ⟨_, rfl⟩ rfl rfl ⟨(Or.inr ⟨wy_pr rfl, fun q => q⟩), trivial, trivial⟩ trivial (fun _ _ q => False.elim q) ?_ (fun _ _ _ q => q)
  refine wa_aload_n (n := 0) rfl ?_
  refine wb_gfi 237 rfl (wy_pr rfl) wt_237 wf_15_152 (v := (2100 * t)) (mp) (fun r1 => ?_)
  refine wa_aload_n (n := 0) rfl ?_
  refine wb_gf4 237 rfl (wy_pr rfl) wt_237 wf_15_134 (v := 359) wl_237_134 ?_
  refine wa_aload_n (n := 0) rfl ?_
  refine wb_gfi 237 rfl (wy_pr rfl) wt_237 wf_15_151 (v := t) (mt) (fun r2 => ?_)
  refine wb_iald 359 rfl (wy_pr rfl) wt_359 (n := 2) ((ml_359 hM)) (by omega) (by omega) (v := h) (mh) (fun r3 => ?_)
  refine wa_iadd ?_
  refine wa_ireturn rfl ?_
  show wJ _ _ _ _ _ _ _ _ _ _
  refine wa_iconst ?_
  refine wa_isub ?_
  refine wa_istore_n (n := 2) rfl ?_
  refine wa_iload_n (n := 2) rfl ?_
  refine wa_iconst ?_
  refine wa_isub ?_
  refine wa_istore_n (n := 3) rfl ?_
  refine wa_iload_n (n := 1) rfl ?_
  refine wa_iconst ?_
  refine wa_icmpne (w_rg0 (by omega) (by omega)) (w_rg0 (by omega) (by omega)) ⟨_, rfl⟩ (fun c4 => ?_) (fun c4 => ?_)
  · skip
    refine wa_iload_n (n := 1) rfl ?_
    refine wa_bipush (w_rg2 (by omega) (by omega)) ?_
    refine wa_icmpne (w_rg0 (by omega) (by omega)) (w_rg0 (by omega) (by omega)) ⟨_, rfl⟩ (fun c5 => ?_) (fun c5 => ?_)
    · skip
      exact absurd c5 (by omega)
    · skip
      refine wa_aload_n (n := 0) rfl ?_
      refine wa_cv 237 rfl (wy_pr rfl) wt_237 (M2 := fun _ => False) rfl at_M_mayPile ⟨_, rfl⟩ rfl rfl ⟨trivial, trivial, (Or.inr ⟨wy_pr rfl, fun q => q⟩), trivial, trivial⟩ trivial (fun _ _ q => False.elim q) ?_ (fun _ _ _ q => q)
      refine wa_aload_n (n := 0) rfl ?_
      refine wb_gf4 237 rfl (wy_pr rfl) wt_237 wf_15_134 (v := 359) wl_237_134 ?_
      refine wa_aload_n (n := 0) rfl ?_
      refine wb_gfi 237 rfl (wy_pr rfl) wt_237 wf_15_151 (v := t) (mt) (fun r6 => ?_)
      refine wb_iald 359 rfl (wy_pr rfl) wt_359 (n := 2) ((ml_359 hM)) (by omega) (by omega) (v := h) (mh) (fun r7 => ?_)
      refine wa_sipush (by omega) ?_
      refine wa_icmplt (w_rg0 (by omega) (by omega)) (w_rg0 (by omega) (by omega)) ⟨_, rfl⟩ (fun c8 => ?_) (fun c8 => ?_)
      · skip
        refine wa_return rfl ?_
        show wJ _ _ _ _ _ _ _ _ _ _
        refine wa_aload_n (n := 0) rfl ?_
        refine wa_aload_n (n := 0) rfl ?_
        refine wb_gf4 237 rfl (wy_pr rfl) wt_237 wf_15_138 (v := 363) wl_237_138 ?_
        refine wa_iload_n (n := 2) rfl ?_
        refine wb_iald 363 rfl (wy_pr rfl) wt_363 (n := 4200) ((ml_363 hM)) (by omega) (by omega) (v := ky) (hky) (fun r9 => ?_)
        refine wa_aload_n (n := 0) rfl ?_
        refine wb_gf4 237 rfl (wy_pr rfl) wt_237 wf_15_139 (v := 364) wl_237_139 ?_
        refine wa_iload_n (n := 2) rfl ?_
        refine wb_lald 364 rfl (wy_pr rfl) wt_364 (n := 4200) ((ml_364 hM)) (by omega) (by omega) (v := vy) (hvy) (fun r10 => ?_)
        refine wa_cv 237 rfl (wy_pr rfl) wt_237 (M2 := fun _ => False) rfl at_M_push ⟨_, rfl⟩ rfl rfl ⟨trivial, trivial, (Or.inr ⟨wy_pr rfl, fun q => q⟩), trivial, trivial⟩ trivial (fun _ _ q => False.elim q) ?_ (fun _ _ _ q => q)
        refine wa_aload_n (n := 0) rfl ?_
        refine wb_gf4 237 rfl (wy_pr rfl) wt_237 wf_15_138 (v := 363) wl_237_138 ?_
        refine wa_aload_n (n := 0) rfl ?_
        refine wa_cv 237 rfl (wy_pr rfl) wt_237 (M2 := fun _ => False) rfl at_M_h ⟨_, rfl⟩ rfl rfl ⟨(Or.inr ⟨wy_pr rfl, fun q => q⟩), trivial, trivial, trivial⟩ ⟨(Or.inr ⟨wy_pr rfl, fun q => q⟩), trivial⟩ (fun _ _ q => False.elim q) ?_ (fun _ _ _ q => q)
        refine wa_aload_n (n := 0) rfl ?_
        refine wb_gfi 237 rfl (wy_pr rfl) wt_237 wf_15_152 (v := (2100 * t)) (mp) (fun r11 => ?_)
        refine wa_aload_n (n := 0) rfl ?_
        refine wb_gf4 237 rfl (wy_pr rfl) wt_237 wf_15_134 (v := 359) wl_237_134 ?_
        refine wa_aload_n (n := 0) rfl ?_
        refine wb_gfi 237 rfl (wy_pr rfl) wt_237 wf_15_151 (v := t) (mt) (fun r12 => ?_)
        refine wb_iald 359 rfl (wy_pr rfl) wt_359 (n := 2) ((ml_359 hM)) (by omega) (by omega) (v := h) (mh) (fun r13 => ?_)
        refine wa_iadd ?_
        refine wa_ireturn rfl ?_
        show wJ _ _ _ _ _ _ _ _ _ _
        refine wa_iload_n (n := 1) rfl ?_
        refine wb_iast 363 rfl (wy_pr rfl) wt_363 (n := 4200) ((ml_363 hM)) (by omega) (by omega) ⟨(by omega), (by omega)⟩ ?_
        refine wa_aload_n (n := 0) rfl ?_
        refine wb_gf4 237 rfl (wy_pr rfl) wt_237 wf_15_139 (v := 364) wl_237_139 ?_
        refine wa_aload_n (n := 0) rfl ?_
        refine wa_cv 237 rfl (wy_pr rfl) wt_237 (M2 := fun _ => False) rfl at_M_h ⟨_, rfl⟩ rfl rfl ⟨(Or.inr ⟨wy_pr rfl, fun q => q⟩), trivial, trivial, trivial⟩ ⟨(Or.inr ⟨wy_pr rfl, fun q => q⟩), trivial⟩ (fun _ _ q => False.elim q) ?_ (fun _ _ _ q => q)
        refine wa_aload_n (n := 0) rfl ?_
        refine wb_gfi 237 rfl (wy_pr rfl) wt_237 wf_15_152 (v := (2100 * t)) ((w_up_slot (by decide)).trans (mp)) (fun r14 => ?_)
        refine wa_aload_n (n := 0) rfl ?_
        refine wb_gf4 237 rfl (wy_pr rfl) wt_237 wf_15_134 (v := 359) wl_237_134 ?_
        refine wa_aload_n (n := 0) rfl ?_
        refine wb_gfi 237 rfl (wy_pr rfl) wt_237 wf_15_151 (v := t) ((w_up_slot (by decide)).trans (mt)) (fun r15 => ?_)
        refine wb_iald 359 rfl (wy_pr rfl) wt_359 (n := 2) ((w_up_slot (by decide)).trans ((ml_359 hM))) (by omega) (by omega) (v := h) ((w_up_slot (by decide)).trans (mh)) (fun r16 => ?_)
        refine wa_iadd ?_
        refine wa_ireturn rfl ?_
        show wJ _ _ _ _ _ _ _ _ _ _
        refine wa_lload_n (n := 2) rfl ?_
        refine wb_last 364 rfl (wy_pr rfl) wt_364 (n := 4200) ((w_up_slot (by decide)).trans ((ml_364 hM))) (by omega) (by omega) ⟨(by omega), (by omega)⟩ ?_
        refine wa_aload_n (n := 0) rfl ?_
        refine wb_gf4 237 rfl (wy_pr rfl) wt_237 wf_15_134 (v := 359) wl_237_134 ?_
        refine wa_aload_n (n := 0) rfl ?_
        refine wb_gfi 237 rfl (wy_pr rfl) wt_237 wf_15_151 (v := t) ((w_up_slot (by decide)).trans ((w_up_slot (by decide)).trans (mt))) (fun r17 => ?_)
        refine wa_dup2 (by decide) (by decide) ?_
        refine wb_iald 359 rfl (wy_pr rfl) wt_359 (n := 2) ((w_up_slot (by decide)).trans ((w_up_slot (by decide)).trans ((ml_359 hM)))) (by omega) (by omega) (v := h) ((w_up_slot (by decide)).trans ((w_up_slot (by decide)).trans (mh))) (fun r18 => ?_)
        refine wa_iconst ?_
        refine wa_iadd ?_
        refine wb_iast 359 rfl (wy_pr rfl) wt_359 (n := 2) ((w_up_slot (by decide)).trans ((w_up_slot (by decide)).trans ((ml_359 hM)))) (by omega) (by omega) ⟨(by omega), (by omega)⟩ ?_
        refine wa_return rfl ?_
        show wJ _ _ _ _ _ _ _ _ _ _
        refine wa_goto ⟨_, rfl⟩ ?_
        refine wa_return rfl ?_
        rw [if_pos (by omega)]
        exact ⟨rfl, rfl⟩
      · skip
        refine wa_aload_n (n := 0) rfl ?_
        refine wa_bipush (w_rg2 (by omega) (by omega)) ?_
        refine wa_cv 237 rfl (wy_pr rfl) wt_237 (M2 := fun _ => False) rfl at_M_error ⟨_, rfl⟩ rfl rfl ⟨(Or.inr ⟨wy_pr rfl, fun q => q⟩), trivial⟩ trivial (fun _ _ q => False.elim q) ?_ (fun _ _ _ q => q)
        refine wa_aload_n (n := 0) rfl ?_
        refine wb_gf4 237 rfl (wy_pr rfl) wt_237 wf_15_1 (v := 238) wl_237_1 ?_
        refine wa_iload_n (n := 1) rfl ?_
        refine wa_iconst ?_
        refine wa_cv 238 rfl (wy_pr rfl) wt_238 (M2 := fun _ => False) rfl at_MH_of ⟨_, rfl⟩ rfl rfl ⟨(Or.inr ⟨wy_pr rfl, fun q => q⟩), trivial, trivial⟩ trivial (fun _ _ q => False.elim q) ?_ (fun _ _ _ q => q)
        refine wa_aload_n (n := 0) rfl ?_
        refine wa_iload_n (n := 1) rfl ?_
        refine wb_pfi 238 rfl (wy_pr rfl) wt_238 wf_11_5 (n := 5) rfl ⟨(by omega), (by omega)⟩ ?_
        refine wa_aload_n (n := 0) rfl ?_
        refine wa_iload_n (n := 2) rfl ?_
        refine wb_pfi 238 rfl (wy_pr rfl) wt_238 wf_11_6 (n := 6) rfl ⟨(by omega), (by omega)⟩ ?_
        refine wa_aload_n (n := 0) rfl ?_
        refine wa_oreturn rfl ?_
        show wJ _ _ _ _ _ _ _ _ _ _
        refine wa_th (j := 238) ?_
        refine ⟨rfl, ?_⟩
        refine ⟨rfl, ?_⟩
        dsimp only
        rw [if_neg (by omega)]
        exact ⟨rfl, rfl⟩
  · skip
    exact absurd c4 (by omega)
theorem y33 {t c p h tp a ky vy : Int} (hP : mP t c p h tp S) (hab : -2147483648 ≤ a ∧ a ≤ 2147483647) (hky : S 368 tp = ky) (hvy : S 369 tp = vy) : wJ (pe_GA xs) wY0 M (d + 11) t_M_others ((pe_at t_M_others.bl 0).getD (0, [])).2 [(0, (2, 237)), (1, (0, 33)), (2, (0, a))] [] S (fun o Z => (if h < 2000 then o = .inl none ∧ pUZ t h (ky) (vy) S = Z else o = .inr 238 ∧ hZ 11 S = Z)) := by
  obtain ⟨hM, ⟨mt, mt0, mt1⟩, mp, mf, ⟨mc, mc0, mc1⟩, ⟨mtp, mtq⟩, ⟨mpa, mp0, mp1⟩, mh, mh0, mh1⟩ := hP
  refine wa_aload_n (n := 0) rfl ?_
  refine wa_cv 237 rfl (wy_pr rfl) wt_237 (M2 := fun _ => False) rfl at_M_h ⟨_, rfl⟩ rfl rfl ⟨(Or.inr ⟨wy_pr rfl, fun q => q⟩), trivial, trivial, trivial⟩ trivial (fun _ _ q => False.elim q) ?_ (fun _ _ _ q => q)
  refine wa_aload_n (n := 0) rfl ?_
  refine wb_gfi 237 rfl (wy_pr rfl) wt_237 wf_15_152 (v := (2100 * t)) (mp) (fun r1 => ?_)
  refine wa_aload_n (n := 0) rfl ?_
  refine wb_gf4 237 rfl (wy_pr rfl) wt_237 wf_15_134 (v := 359) wl_237_134 ?_
  refine wa_aload_n (n := 0) rfl ?_
  refine wb_gfi 237 rfl (wy_pr rfl) wt_237 wf_15_151 (v := t) (mt) (fun r2 => ?_)
  refine wb_iald 359 rfl (wy_pr rfl) wt_359 (n := 2) ((ml_359 hM)) (by omega) (by omega) (v := h) (mh) (fun r3 => ?_)
  refine wa_iadd ?_
  refine wa_ireturn rfl ?_
  show wJ _ _ _ _ _ _ _ _ _ _
  refine wa_iconst ?_
  refine wa_isub ?_
  refine wa_istore_n (n := 3) rfl ?_
  refine wa_iload_n (n := 1) rfl ?_
  refine wb_sw (w_rg0 (by omega) (by omega)) (tb := 16) rfl ⟨_, rfl⟩ ?_
  refine wa_aload_n (n := 0) rfl ?_
  refine wa_cv 237 rfl (wy_pr rfl) wt_237 (M2 := fun _ => False) rfl at_M_mayPile ⟨_, rfl⟩ rfl rfl ⟨trivial, (Or.inr ⟨wy_pr rfl, fun q => q⟩), trivial, trivial, trivial⟩ trivial (fun _ _ q => False.elim q) ?_ (fun _ _ _ q => q)
  refine wa_aload_n (n := 0) rfl ?_
  refine wb_gf4 237 rfl (wy_pr rfl) wt_237 wf_15_134 (v := 359) wl_237_134 ?_
  refine wa_aload_n (n := 0) rfl ?_
  refine wb_gfi 237 rfl (wy_pr rfl) wt_237 wf_15_151 (v := t) (mt) (fun r4 => ?_)
  refine wb_iald 359 rfl (wy_pr rfl) wt_359 (n := 2) ((ml_359 hM)) (by omega) (by omega) (v := h) (mh) (fun r5 => ?_)
  refine wa_sipush (by omega) ?_
  refine wa_icmplt (w_rg0 (by omega) (by omega)) (w_rg0 (by omega) (by omega)) ⟨_, rfl⟩ (fun c6 => ?_) (fun c6 => ?_)
  · skip
    refine wa_return rfl ?_
    show wJ _ _ _ _ _ _ _ _ _ _
    refine wa_aload_n (n := 0) rfl ?_
    refine wa_aload_n (n := 0) rfl ?_
    refine wb_gf4 237 rfl (wy_pr rfl) wt_237 wf_15_143 (v := 368) wl_237_143 ?_
    refine wa_aload_n (n := 0) rfl ?_
    refine wb_gfi 237 rfl (wy_pr rfl) wt_237 wf_15_154 (v := tp) (mtp) (fun r7 => ?_)
    refine wb_iald 368 rfl (wy_pr rfl) wt_368 (n := 400) ((ml_368 hM)) (by omega) (by omega) (v := ky) (hky) (fun r8 => ?_)
    refine wa_aload_n (n := 0) rfl ?_
    refine wb_gf4 237 rfl (wy_pr rfl) wt_237 wf_15_144 (v := 369) wl_237_144 ?_
    refine wa_aload_n (n := 0) rfl ?_
    refine wb_gfi 237 rfl (wy_pr rfl) wt_237 wf_15_154 (v := tp) (mtp) (fun r9 => ?_)
    refine wb_lald 369 rfl (wy_pr rfl) wt_369 (n := 400) ((ml_369 hM)) (by omega) (by omega) (v := vy) (hvy) (fun r10 => ?_)
    refine wa_cv 237 rfl (wy_pr rfl) wt_237 (M2 := fun _ => False) rfl at_M_push ⟨_, rfl⟩ rfl rfl ⟨trivial, (Or.inr ⟨wy_pr rfl, fun q => q⟩), trivial, trivial, trivial⟩ trivial (fun _ _ q => False.elim q) ?_ (fun _ _ _ q => q)
    refine wa_aload_n (n := 0) rfl ?_
    refine wb_gf4 237 rfl (wy_pr rfl) wt_237 wf_15_138 (v := 363) wl_237_138 ?_
    refine wa_aload_n (n := 0) rfl ?_
    refine wa_cv 237 rfl (wy_pr rfl) wt_237 (M2 := fun _ => False) rfl at_M_h ⟨_, rfl⟩ rfl rfl ⟨(Or.inr ⟨wy_pr rfl, fun q => q⟩), trivial, trivial, trivial⟩ ⟨(Or.inr ⟨wy_pr rfl, fun q => q⟩), trivial⟩ (fun _ _ q => False.elim q) ?_ (fun _ _ _ q => q)
    refine wa_aload_n (n := 0) rfl ?_
    refine wb_gfi 237 rfl (wy_pr rfl) wt_237 wf_15_152 (v := (2100 * t)) (mp) (fun r11 => ?_)
    refine wa_aload_n (n := 0) rfl ?_
    refine wb_gf4 237 rfl (wy_pr rfl) wt_237 wf_15_134 (v := 359) wl_237_134 ?_
    refine wa_aload_n (n := 0) rfl ?_
    refine wb_gfi 237 rfl (wy_pr rfl) wt_237 wf_15_151 (v := t) (mt) (fun r12 => ?_)
    refine wb_iald 359 rfl (wy_pr rfl) wt_359 (n := 2) ((ml_359 hM)) (by omega) (by omega) (v := h) (mh) (fun r13 => ?_)
    refine wa_iadd ?_
    refine wa_ireturn rfl ?_
    show wJ _ _ _ _ _ _ _ _ _ _
    refine wa_iload_n (n := 1) rfl ?_
    refine wb_iast 363 rfl (wy_pr rfl) wt_363 (n := 4200) ((ml_363 hM)) (by omega) (by omega) ⟨(by omega), (by omega)⟩ ?_
    refine wa_aload_n (n := 0) rfl ?_
    refine wb_gf4 237 rfl (wy_pr rfl) wt_237 wf_15_139 (v := 364) wl_237_139 ?_
    refine wa_aload_n (n := 0) rfl ?_
    refine wa_cv 237 rfl (wy_pr rfl) wt_237 (M2 := fun _ => False) rfl at_M_h ⟨_, rfl⟩ rfl rfl ⟨(Or.inr ⟨wy_pr rfl, fun q => q⟩), trivial, trivial, trivial⟩ ⟨(Or.inr ⟨wy_pr rfl, fun q => q⟩), trivial⟩ (fun _ _ q => False.elim q) ?_ (fun _ _ _ q => q)
    refine wa_aload_n (n := 0) rfl ?_
    refine wb_gfi 237 rfl (wy_pr rfl) wt_237 wf_15_152 (v := (2100 * t)) ((w_up_slot (by decide)).trans (mp)) (fun r14 => ?_)
    refine wa_aload_n (n := 0) rfl ?_
    refine wb_gf4 237 rfl (wy_pr rfl) wt_237 wf_15_134 (v := 359) wl_237_134 ?_
    refine wa_aload_n (n := 0) rfl ?_
    refine wb_gfi 237 rfl (wy_pr rfl) wt_237 wf_15_151 (v := t) ((w_up_slot (by decide)).trans (mt)) (fun r15 => ?_)
    refine wb_iald 359 rfl (wy_pr rfl) wt_359 (n := 2) ((w_up_slot (by decide)).trans ((ml_359 hM))) (by omega) (by omega) (v := h) ((w_up_slot (by decide)).trans (mh)) (fun r16 => ?_)
    refine wa_iadd ?_
    refine wa_ireturn rfl ?_
    show wJ _ _ _ _ _ _ _ _ _ _
    refine wa_lload_n (n := 2) rfl ?_
    refine wb_last 364 rfl (wy_pr rfl) wt_364 (n := 4200) ((w_up_slot (by decide)).trans ((ml_364 hM))) (by omega) (by omega) ⟨(by omega), (by omega)⟩ ?_
    refine wa_aload_n (n := 0) rfl ?_
    refine wb_gf4 237 rfl (wy_pr rfl) wt_237 wf_15_134 (v := 359) wl_237_134 ?_
    refine wa_aload_n (n := 0) rfl ?_
    refine wb_gfi 237 rfl (wy_pr rfl) wt_237 wf_15_151 (v := t) ((w_up_slot (by decide)).trans ((w_up_slot (by decide)).trans (mt))) (fun r17 => ?_)
    refine wa_dup2 (by decide) (by decide) ?_
    refine wb_iald 359 rfl (wy_pr rfl) wt_359 (n := 2) ((w_up_slot (by decide)).trans ((w_up_slot (by decide)).trans ((ml_359 hM)))) (by omega) (by omega) (v := h) ((w_up_slot (by decide)).trans ((w_up_slot (by decide)).trans (mh))) (fun r18 => ?_)
    refine wa_iconst ?_
    refine wa_iadd ?_
    refine wb_iast 359 rfl (wy_pr rfl) wt_359 (n := 2) ((w_up_slot (by decide)).trans ((w_up_slot (by decide)).trans ((ml_359 hM)))) (by omega) (by omega) ⟨(by omega), (by omega)⟩ ?_
    refine wa_return rfl ?_
    show wJ _ _ _ _ _ _ _ _ _ _
    refine wa_fall ⟨_, rfl⟩ ?_
    refine wa_return rfl ?_
    rw [if_pos (by omega)]
    exact ⟨rfl, rfl⟩
  · skip
    refine wa_aload_n (n := 0) rfl ?_
    refine wa_bipush (w_rg2 (by omega) (by omega)) ?_
    refine wa_cv 237 rfl (wy_pr rfl) wt_237 (M2 := fun _ => False) rfl at_M_error ⟨_, rfl⟩ rfl rfl ⟨(Or.inr ⟨wy_pr rfl, fun q => q⟩), trivial⟩ trivial (fun _ _ q => False.elim q) ?_ (fun _ _ _ q => q)
    refine wa_aload_n (n := 0) rfl ?_
    refine wb_gf4 237 rfl (wy_pr rfl) wt_237 wf_15_1 (v := 238) wl_237_1 ?_
    refine wa_iload_n (n := 1) rfl ?_
    refine wa_iconst ?_
    refine wa_cv 238 rfl (wy_pr rfl) wt_238 (M2 := fun _ => False) rfl at_MH_of ⟨_, rfl⟩ rfl rfl ⟨(Or.inr ⟨wy_pr rfl, fun q => q⟩), trivial, trivial⟩ trivial (fun _ _ q => False.elim q) ?_ (fun _ _ _ q => q)
    refine wa_aload_n (n := 0) rfl ?_
    refine wa_iload_n (n := 1) rfl ?_
    refine wb_pfi 238 rfl (wy_pr rfl) wt_238 wf_11_5 (n := 5) rfl ⟨(by omega), (by omega)⟩ ?_
    refine wa_aload_n (n := 0) rfl ?_
    refine wa_iload_n (n := 2) rfl ?_
    refine wb_pfi 238 rfl (wy_pr rfl) wt_238 wf_11_6 (n := 6) rfl ⟨(by omega), (by omega)⟩ ?_
    refine wa_aload_n (n := 0) rfl ?_
    refine wa_oreturn rfl ?_
    show wJ _ _ _ _ _ _ _ _ _ _
    refine wa_th (j := 238) ?_
    refine ⟨rfl, ?_⟩
    refine ⟨rfl, ?_⟩
    dsimp only
    rw [if_neg (by omega)]
    exact ⟨rfl, rfl⟩
theorem y21 {t c p h tp a ky vy : Int} (hP : mP t c p h tp S) (hab : -2147483648 ≤ a ∧ a ≤ 2147483647) (hky : S 363 (2100 * t + h - 1) = ky) (hvy : S 364 (2100 * t + h - 1) = vy) (hh1 : 1 ≤ h) : wJ (pe_GA xs) wY0 M (d + 11) t_M_others ((pe_at t_M_others.bl 0).getD (0, [])).2 [(0, (2, 237)), (1, (0, 21)), (2, (0, a))] [] S (fun o Z => o = .inl none ∧ w_up (w_up (w_up (w_up S 359 t (h - 1)) 237 110 ky) 237 111 vy) 237 155 (if (ky = 0 ∨ (ky = 1 ∧ vy = 0)) then a else p + 1) = Z) := by
  obtain ⟨hM, ⟨mt, mt0, mt1⟩, mp, mf, ⟨mc, mc0, mc1⟩, ⟨mtp, mtq⟩, ⟨mpa, mp0, mp1⟩, mh, mh0, mh1⟩ := hP
  have hky2 : S 363 (2100 * t + (h - 1)) = ky := by rw [show 2100 * t + (h - 1) = 2100 * t + h - 1 by omega]; exact hky
  have hvy2 : S 364 (2100 * t + (h - 1)) = vy := by rw [show 2100 * t + (h - 1) = 2100 * t + h - 1 by omega]; exact hvy
  refine wa_aload_n (n := 0) rfl ?_
  refine wa_cv 237 rfl (wy_pr rfl) wt_237 (M2 := fun _ => False) rfl at_M_h ⟨_, rfl⟩ rfl rfl ⟨(Or.inr ⟨wy_pr rfl, fun q => q⟩), trivial, trivial, trivial⟩ trivial (fun _ _ q => False.elim q) ?_ (fun _ _ _ q => q)
  refine wa_aload_n (n := 0) rfl ?_
  refine wb_gfi 237 rfl (wy_pr rfl) wt_237 wf_15_152 (v := (2100 * t)) (mp) (fun r1 => ?_)
  refine wa_aload_n (n := 0) rfl ?_
  refine wb_gf4 237 rfl (wy_pr rfl) wt_237 wf_15_134 (v := 359) wl_237_134 ?_
  refine wa_aload_n (n := 0) rfl ?_
  refine wb_gfi 237 rfl (wy_pr rfl) wt_237 wf_15_151 (v := t) (mt) (fun r2 => ?_)
  refine wb_iald 359 rfl (wy_pr rfl) wt_359 (n := 2) ((ml_359 hM)) (by omega) (by omega) (v := h) (mh) (fun r3 => ?_)
  refine wa_iadd ?_
  refine wa_ireturn rfl ?_
  show wJ _ _ _ _ _ _ _ _ _ _
  refine wa_iconst ?_
  refine wa_isub ?_
  refine wa_istore_n (n := 3) rfl ?_
  refine wa_iload_n (n := 1) rfl ?_
  refine wb_sw (w_rg0 (by omega) (by omega)) (tb := 2) rfl ⟨_, rfl⟩ ?_
  refine wa_aload_n (n := 0) rfl ?_
  refine wa_cv 237 rfl (wy_pr rfl) wt_237 (M2 := fun _ => False) rfl at_M_pop ⟨_, rfl⟩ rfl rfl ⟨trivial, (Or.inr ⟨wy_pr rfl, fun q => q⟩), trivial, trivial, trivial⟩ trivial (fun _ _ q => False.elim q) ?_ (fun _ _ _ q => q)
  refine wa_aload_n (n := 0) rfl ?_
  refine wb_gf4 237 rfl (wy_pr rfl) wt_237 wf_15_134 (v := 359) wl_237_134 ?_
  refine wa_aload_n (n := 0) rfl ?_
  refine wb_gfi 237 rfl (wy_pr rfl) wt_237 wf_15_151 (v := t) (mt) (fun r4 => ?_)
  refine wa_dup2 (by decide) (by decide) ?_
  refine wb_iald 359 rfl (wy_pr rfl) wt_359 (n := 2) ((ml_359 hM)) (by omega) (by omega) (v := h) (mh) (fun r5 => ?_)
  refine wa_iconst ?_
  refine wa_isub ?_
  refine wb_iast 359 rfl (wy_pr rfl) wt_359 (n := 2) ((ml_359 hM)) (by omega) (by omega) ⟨(by omega), (by omega)⟩ ?_
  refine wa_aload_n (n := 0) rfl ?_
  refine wa_aload_n (n := 0) rfl ?_
  refine wb_gf4 237 rfl (wy_pr rfl) wt_237 wf_15_138 (v := 363) wl_237_138 ?_
  refine wa_aload_n (n := 0) rfl ?_
  refine wa_cv 237 rfl (wy_pr rfl) wt_237 (M2 := fun _ => False) rfl at_M_h ⟨_, rfl⟩ rfl rfl ⟨(Or.inr ⟨wy_pr rfl, fun q => q⟩), trivial⟩ ⟨(Or.inr ⟨wy_pr rfl, fun q => q⟩), (Or.inr ⟨wy_pr rfl, fun q => q⟩), trivial⟩ (fun _ _ q => False.elim q) ?_ (fun _ _ _ q => q)
  refine wa_aload_n (n := 0) rfl ?_
  refine wb_gfi 237 rfl (wy_pr rfl) wt_237 wf_15_152 (v := (2100 * t)) ((w_up_slot (by decide)).trans (mp)) (fun r6 => ?_)
  refine wa_aload_n (n := 0) rfl ?_
  refine wb_gf4 237 rfl (wy_pr rfl) wt_237 wf_15_134 (v := 359) wl_237_134 ?_
  refine wa_aload_n (n := 0) rfl ?_
  refine wb_gfi 237 rfl (wy_pr rfl) wt_237 wf_15_151 (v := t) ((w_up_slot (by decide)).trans (mt)) (fun r7 => ?_)
  refine wb_iald 359 rfl (wy_pr rfl) wt_359 (n := 2) ((w_up_at (by omega)).trans ((ml_359 hM))) (by omega) (by omega) (v := (h - 1)) (w_up_same _ _ _ _) (fun r8 => ?_)
  refine wa_iadd ?_
  refine wa_ireturn rfl ?_
  show wJ _ _ _ _ _ _ _ _ _ _
  refine wb_iald 363 rfl (wy_pr rfl) wt_363 (n := 4200) ((w_up_slot (by decide)).trans ((ml_363 hM))) (by omega) (by omega) (v := ky) ((w_up_slot (by decide)).trans (hky2)) (fun r9 => ?_)
  refine wa_aload_n (n := 0) rfl ?_
  refine wb_gf4 237 rfl (wy_pr rfl) wt_237 wf_15_139 (v := 364) wl_237_139 ?_
  refine wa_aload_n (n := 0) rfl ?_
  refine wa_cv 237 rfl (wy_pr rfl) wt_237 (M2 := fun _ => False) rfl at_M_h ⟨_, rfl⟩ rfl rfl ⟨(Or.inr ⟨wy_pr rfl, fun q => q⟩), trivial⟩ ⟨(Or.inr ⟨wy_pr rfl, fun q => q⟩), trivial, (Or.inr ⟨wy_pr rfl, fun q => q⟩), trivial⟩ (fun _ _ q => False.elim q) ?_ (fun _ _ _ q => q)
  refine wa_aload_n (n := 0) rfl ?_
  refine wb_gfi 237 rfl (wy_pr rfl) wt_237 wf_15_152 (v := (2100 * t)) ((w_up_slot (by decide)).trans (mp)) (fun r10 => ?_)
  refine wa_aload_n (n := 0) rfl ?_
  refine wb_gf4 237 rfl (wy_pr rfl) wt_237 wf_15_134 (v := 359) wl_237_134 ?_
  refine wa_aload_n (n := 0) rfl ?_
  refine wb_gfi 237 rfl (wy_pr rfl) wt_237 wf_15_151 (v := t) ((w_up_slot (by decide)).trans (mt)) (fun r11 => ?_)
  refine wb_iald 359 rfl (wy_pr rfl) wt_359 (n := 2) ((w_up_at (by omega)).trans ((ml_359 hM))) (by omega) (by omega) (v := (h - 1)) (w_up_same _ _ _ _) (fun r12 => ?_)
  refine wa_iadd ?_
  refine wa_ireturn rfl ?_
  show wJ _ _ _ _ _ _ _ _ _ _
  refine wb_lald 364 rfl (wy_pr rfl) wt_364 (n := 4200) ((w_up_slot (by decide)).trans ((ml_364 hM))) (by omega) (by omega) (v := vy) ((w_up_slot (by decide)).trans (hvy2)) (fun r13 => ?_)
  refine wa_cv 237 rfl (wy_pr rfl) wt_237 (M2 := fun _ => False) rfl at_M_is ⟨_, rfl⟩ rfl rfl ⟨(Or.inr ⟨wy_pr rfl, fun q => q⟩), trivial⟩ trivial (fun _ _ q => False.elim q) ?_ (fun _ _ _ q => q)
  refine wa_aload_n (n := 0) rfl ?_
  refine wa_iload_n (n := 1) rfl ?_
  refine wb_pfi 237 rfl (wy_pr rfl) wt_237 wf_15_110 (n := 110) rfl ⟨(by omega), (by omega)⟩ ?_
  refine wa_aload_n (n := 0) rfl ?_
  refine wa_lload_n (n := 2) rfl ?_
  refine wb_pfl 237 rfl (wy_pr rfl) wt_237 wf_15_111 (n := 111) rfl ⟨(by omega), (by omega)⟩ ?_
  refine wa_return rfl ?_
  show wJ _ _ _ _ _ _ _ _ _ _
  refine wa_return rfl ?_
  show wJ _ _ _ _ _ _ _ _ _ _
  refine wa_aload_n (n := 0) rfl ?_
  refine wa_aload_n (n := 0) rfl ?_
  refine wa_aload_n (n := 0) rfl ?_
  refine wb_gfi 237 rfl (wy_pr rfl) wt_237 wf_15_110 (v := ky) ((w_up_at (by decide)).trans (w_up_same _ _ _ _)) (fun r14 => ?_)
  refine wa_aload_n (n := 0) rfl ?_
  refine wb_gfl 237 rfl (wy_pr rfl) wt_237 wf_15_111 (v := vy) (w_up_same _ _ _ _) (fun r15 => ?_)
  refine wa_cv 237 rfl (wy_pr rfl) wt_237 (M2 := fun _ => False) rfl at_M_isNot ⟨_, rfl⟩ rfl rfl ⟨trivial, (Or.inr ⟨wy_pr rfl, fun q => q⟩), trivial, trivial, trivial⟩ ⟨(Or.inr ⟨wy_pr rfl, fun q => q⟩), trivial⟩ (fun _ _ q => False.elim q) ?_ (fun _ _ _ q => q)
  refine wa_iload_n (n := 1) rfl ?_
  refine wa_ifeq (w_rg0 (by omega) (by omega)) ⟨_, rfl⟩ (fun c16 => ?_) (fun c16 => ?_)
  · skip
    refine wa_iconst ?_
    refine wa_goto ⟨_, rfl⟩ ?_
    refine wa_zreturn rfl (Or.inr rfl) ?_
    show wJ _ _ _ _ _ _ _ _ _ _
    refine wa_ifeq (w_rg0 (by omega) (by omega)) ⟨_, rfl⟩ (fun c17 => ?_) (fun c17 => ?_)
    · skip
      exact absurd c17 (by omega)
    · skip
      refine wa_iload_n (n := 2) rfl ?_
      refine wa_goto ⟨_, rfl⟩ ?_
      refine wb_pfi 237 rfl (wy_pr rfl) wt_237 wf_15_155 (n := 155) rfl ⟨(by omega), (by omega)⟩ ?_
      refine wa_goto ⟨_, rfl⟩ ?_
      refine wa_return rfl ?_
      refine ⟨rfl, ?_⟩
      first | (rw [if_pos (by omega)]; done) | (rw [if_neg (by omega)]; done)
  · skip
    refine wa_iload_n (n := 1) rfl ?_
    refine wa_iconst ?_
    refine wa_icmpne (w_rg0 (by omega) (by omega)) (w_rg0 (by omega) (by omega)) ⟨_, rfl⟩ (fun c18 => ?_) (fun c18 => ?_)
    · skip
      refine wa_iconst ?_
      refine wa_fall ⟨_, rfl⟩ ?_
      refine wa_zreturn rfl (Or.inl rfl) ?_
      show wJ _ _ _ _ _ _ _ _ _ _
      refine wa_ifeq (w_rg0 (by omega) (by omega)) ⟨_, rfl⟩ (fun c19 => ?_) (fun c19 => ?_)
      · skip
        refine wa_aload_n (n := 0) rfl ?_
        refine wb_gfi 237 rfl (wy_pr rfl) wt_237 wf_15_155 (v := (p + 1)) ((w_up_at (by decide)).trans ((w_up_at (by decide)).trans ((w_up_slot (by decide)).trans (mpa)))) (fun r20 => ?_)
        refine wa_fall ⟨_, rfl⟩ ?_
        refine wb_pfi 237 rfl (wy_pr rfl) wt_237 wf_15_155 (n := 155) rfl ⟨(by omega), (by omega)⟩ ?_
        refine wa_goto ⟨_, rfl⟩ ?_
        refine wa_return rfl ?_
        refine ⟨rfl, ?_⟩
        first | (rw [if_pos (by omega)]; done) | (rw [if_neg (by omega)]; done)
      · skip
        exact absurd c19 (by omega)
    · skip
      refine wa_lload_n (n := 2) rfl ?_
      refine wb_lconst (m := 0) rfl ?_
      refine wa_lcmp (w_rg1 (by omega) (by omega)) (w_rg1 (by omega) (by omega)) ?_
      refine wa_ifne (by have := @wb_lcmp_cases; exact w_lcmp_rg) ⟨_, rfl⟩ (fun c21 => ?_) (fun c21 => ?_)
      · skip
        have c21x := @wb_lcmp_cases vy 0
        refine wa_iconst ?_
        refine wa_fall ⟨_, rfl⟩ ?_
        refine wa_zreturn rfl (Or.inl rfl) ?_
        show wJ _ _ _ _ _ _ _ _ _ _
        refine wa_ifeq (w_rg0 (by omega) (by omega)) ⟨_, rfl⟩ (fun c22 => ?_) (fun c22 => ?_)
        · skip
          refine wa_aload_n (n := 0) rfl ?_
          refine wb_gfi 237 rfl (wy_pr rfl) wt_237 wf_15_155 (v := (p + 1)) ((w_up_at (by decide)).trans ((w_up_at (by decide)).trans ((w_up_slot (by decide)).trans (mpa)))) (fun r23 => ?_)
          refine wa_fall ⟨_, rfl⟩ ?_
          refine wb_pfi 237 rfl (wy_pr rfl) wt_237 wf_15_155 (n := 155) rfl ⟨(by omega), (by omega)⟩ ?_
          refine wa_goto ⟨_, rfl⟩ ?_
          refine wa_return rfl ?_
          refine ⟨rfl, ?_⟩
          first | (rw [if_pos (by omega)]; done) | (rw [if_neg (by omega)]; done)
        · skip
          exact absurd c22 (by omega)
      · skip
        have c21x := @wb_lcmp_cases vy 0
        refine wa_fall ⟨_, rfl⟩ ?_
        refine wa_iconst ?_
        refine wa_goto ⟨_, rfl⟩ ?_
        refine wa_zreturn rfl (Or.inr rfl) ?_
        show wJ _ _ _ _ _ _ _ _ _ _
        refine wa_ifeq (w_rg0 (by omega) (by omega)) ⟨_, rfl⟩ (fun c24 => ?_) (fun c24 => ?_)
        · skip
          exact absurd c24 (by omega)
        · skip
          refine wa_iload_n (n := 2) rfl ?_
          refine wa_goto ⟨_, rfl⟩ ?_
          refine wb_pfi 237 rfl (wy_pr rfl) wt_237 wf_15_155 (n := 155) rfl ⟨(by omega), (by omega)⟩ ?_
          refine wa_goto ⟨_, rfl⟩ ?_
          refine wa_return rfl ?_
          refine ⟨rfl, ?_⟩
          first | (rw [if_pos (by omega)]; done) | (rw [if_neg (by omega)]; done)
theorem y22 {t c p h tp a ky vy : Int} (hP : mP t c p h tp S) (hab : -2147483648 ≤ a ∧ a ≤ 2147483647) (hky : S 363 (2100 * t + h - 1) = ky) (hvy : S 364 (2100 * t + h - 1) = vy) (hh1 : 1 ≤ h) : wJ (pe_GA xs) wY0 M (d + 11) t_M_others ((pe_at t_M_others.bl 0).getD (0, [])).2 [(0, (2, 237)), (1, (0, 22)), (2, (0, a))] [] S (fun o Z => o = .inl none ∧ (if ¬ (ky = 0 ∨ (ky = 1 ∧ vy = 0)) then w_up S 237 155 a else w_up S 359 t (h - 1)) = Z) := by
  obtain ⟨hM, ⟨mt, mt0, mt1⟩, mp, mf, ⟨mc, mc0, mc1⟩, ⟨mtp, mtq⟩, ⟨mpa, mp0, mp1⟩, mh, mh0, mh1⟩ := hP
  refine wa_aload_n (n := 0) rfl ?_
  refine wa_cv 237 rfl (wy_pr rfl) wt_237 (M2 := fun _ => False) rfl at_M_h ⟨_, rfl⟩ rfl rfl ⟨(Or.inr ⟨wy_pr rfl, fun q => q⟩), trivial, trivial, trivial⟩ trivial (fun _ _ q => False.elim q) ?_ (fun _ _ _ q => q)
  refine wa_aload_n (n := 0) rfl ?_
  refine wb_gfi 237 rfl (wy_pr rfl) wt_237 wf_15_152 (v := (2100 * t)) (mp) (fun r1 => ?_)
  refine wa_aload_n (n := 0) rfl ?_
  refine wb_gf4 237 rfl (wy_pr rfl) wt_237 wf_15_134 (v := 359) wl_237_134 ?_
  refine wa_aload_n (n := 0) rfl ?_
  refine wb_gfi 237 rfl (wy_pr rfl) wt_237 wf_15_151 (v := t) (mt) (fun r2 => ?_)
  refine wb_iald 359 rfl (wy_pr rfl) wt_359 (n := 2) ((ml_359 hM)) (by omega) (by omega) (v := h) (mh) (fun r3 => ?_)
  refine wa_iadd ?_
  refine wa_ireturn rfl ?_
  show wJ _ _ _ _ _ _ _ _ _ _
  refine wa_iconst ?_
  refine wa_isub ?_
  refine wa_istore_n (n := 3) rfl ?_
  refine wa_iload_n (n := 1) rfl ?_
  refine wb_sw (w_rg0 (by omega) (by omega)) (tb := 5) rfl ⟨_, rfl⟩ ?_
  refine wa_aload_n (n := 0) rfl ?_
  refine wa_aload_n (n := 0) rfl ?_
  refine wb_gf4 237 rfl (wy_pr rfl) wt_237 wf_15_138 (v := 363) wl_237_138 ?_
  refine wa_iload_n (n := 3) rfl ?_
  refine wb_iald 363 rfl (wy_pr rfl) wt_363 (n := 4200) ((ml_363 hM)) (by omega) (by omega) (v := ky) (hky) (fun r4 => ?_)
  refine wa_aload_n (n := 0) rfl ?_
  refine wb_gf4 237 rfl (wy_pr rfl) wt_237 wf_15_139 (v := 364) wl_237_139 ?_
  refine wa_iload_n (n := 3) rfl ?_
  refine wb_lald 364 rfl (wy_pr rfl) wt_364 (n := 4200) ((ml_364 hM)) (by omega) (by omega) (v := vy) (hvy) (fun r5 => ?_)
  refine wa_cv 237 rfl (wy_pr rfl) wt_237 (M2 := fun _ => False) rfl at_M_isNot ⟨_, rfl⟩ rfl rfl ⟨trivial, (Or.inr ⟨wy_pr rfl, fun q => q⟩), trivial, trivial, trivial⟩ trivial (fun _ _ q => False.elim q) ?_ (fun _ _ _ q => q)
  refine wa_iload_n (n := 1) rfl ?_
  refine wa_ifeq (w_rg0 (by omega) (by omega)) ⟨_, rfl⟩ (fun c6 => ?_) (fun c6 => ?_)
  · skip
    refine wa_iconst ?_
    refine wa_goto ⟨_, rfl⟩ ?_
    refine wa_zreturn rfl (Or.inr rfl) ?_
    show wJ _ _ _ _ _ _ _ _ _ _
    refine wa_iload_n (n := 1) rfl ?_
    refine wa_bipush (w_rg2 (by omega) (by omega)) ?_
    refine wa_icmpne (w_rg0 (by omega) (by omega)) (w_rg0 (by omega) (by omega)) ⟨_, rfl⟩ (fun c7 => ?_) (fun c7 => ?_)
    · skip
      refine wa_iconst ?_
      refine wa_fall ⟨_, rfl⟩ ?_
      refine wa_icmpne (w_rg0 (by omega) (by omega)) (w_rg0 (by omega) (by omega)) ⟨_, rfl⟩ (fun c8 => ?_) (fun c8 => ?_)
      · skip
        refine wa_aload_n (n := 0) rfl ?_
        refine wb_gf4 237 rfl (wy_pr rfl) wt_237 wf_15_134 (v := 359) wl_237_134 ?_
        refine wa_aload_n (n := 0) rfl ?_
        refine wb_gfi 237 rfl (wy_pr rfl) wt_237 wf_15_151 (v := t) (mt) (fun r9 => ?_)
        refine wa_dup2 (by decide) (by decide) ?_
        refine wb_iald 359 rfl (wy_pr rfl) wt_359 (n := 2) ((ml_359 hM)) (by omega) (by omega) (v := h) (mh) (fun r10 => ?_)
        refine wa_iconst ?_
        refine wa_isub ?_
        refine wb_iast 359 rfl (wy_pr rfl) wt_359 (n := 2) ((ml_359 hM)) (by omega) (by omega) ⟨(by omega), (by omega)⟩ ?_
        refine wa_goto ⟨_, rfl⟩ ?_
        refine wa_return rfl ?_
        refine ⟨rfl, ?_⟩
        first | (rw [if_pos (by omega)]; done) | (rw [if_neg (by omega)]; done)
      · skip
        exact absurd c8 (by omega)
    · skip
      exact absurd c7 (by omega)
  · skip
    refine wa_iload_n (n := 1) rfl ?_
    refine wa_iconst ?_
    refine wa_icmpne (w_rg0 (by omega) (by omega)) (w_rg0 (by omega) (by omega)) ⟨_, rfl⟩ (fun c11 => ?_) (fun c11 => ?_)
    · skip
      refine wa_iconst ?_
      refine wa_fall ⟨_, rfl⟩ ?_
      refine wa_zreturn rfl (Or.inl rfl) ?_
      show wJ _ _ _ _ _ _ _ _ _ _
      refine wa_iload_n (n := 1) rfl ?_
      refine wa_bipush (w_rg2 (by omega) (by omega)) ?_
      refine wa_icmpne (w_rg0 (by omega) (by omega)) (w_rg0 (by omega) (by omega)) ⟨_, rfl⟩ (fun c12 => ?_) (fun c12 => ?_)
      · skip
        refine wa_iconst ?_
        refine wa_fall ⟨_, rfl⟩ ?_
        refine wa_icmpne (w_rg0 (by omega) (by omega)) (w_rg0 (by omega) (by omega)) ⟨_, rfl⟩ (fun c13 => ?_) (fun c13 => ?_)
        · skip
          exact absurd c13 (by omega)
        · skip
          refine wa_aload_n (n := 0) rfl ?_
          refine wa_iload_n (n := 2) rfl ?_
          refine wb_pfi 237 rfl (wy_pr rfl) wt_237 wf_15_155 (n := 155) rfl ⟨(by omega), (by omega)⟩ ?_
          refine wa_goto ⟨_, rfl⟩ ?_
          refine wa_return rfl ?_
          refine ⟨rfl, ?_⟩
          first | (rw [if_pos (by omega)]; done) | (rw [if_neg (by omega)]; done)
      · skip
        exact absurd c12 (by omega)
    · skip
      refine wa_lload_n (n := 2) rfl ?_
      refine wb_lconst (m := 0) rfl ?_
      refine wa_lcmp (w_rg1 (by omega) (by omega)) (w_rg1 (by omega) (by omega)) ?_
      refine wa_ifne (by have := @wb_lcmp_cases; exact w_lcmp_rg) ⟨_, rfl⟩ (fun c14 => ?_) (fun c14 => ?_)
      · skip
        have c14x := @wb_lcmp_cases vy 0
        refine wa_iconst ?_
        refine wa_fall ⟨_, rfl⟩ ?_
        refine wa_zreturn rfl (Or.inl rfl) ?_
        show wJ _ _ _ _ _ _ _ _ _ _
        refine wa_iload_n (n := 1) rfl ?_
        refine wa_bipush (w_rg2 (by omega) (by omega)) ?_
        refine wa_icmpne (w_rg0 (by omega) (by omega)) (w_rg0 (by omega) (by omega)) ⟨_, rfl⟩ (fun c15 => ?_) (fun c15 => ?_)
        · skip
          refine wa_iconst ?_
          refine wa_fall ⟨_, rfl⟩ ?_
          refine wa_icmpne (w_rg0 (by omega) (by omega)) (w_rg0 (by omega) (by omega)) ⟨_, rfl⟩ (fun c16 => ?_) (fun c16 => ?_)
          · skip
            exact absurd c16 (by omega)
          · skip
            refine wa_aload_n (n := 0) rfl ?_
            refine wa_iload_n (n := 2) rfl ?_
            refine wb_pfi 237 rfl (wy_pr rfl) wt_237 wf_15_155 (n := 155) rfl ⟨(by omega), (by omega)⟩ ?_
            refine wa_goto ⟨_, rfl⟩ ?_
            refine wa_return rfl ?_
            refine ⟨rfl, ?_⟩
            first | (rw [if_pos (by omega)]; done) | (rw [if_neg (by omega)]; done)
        · skip
          exact absurd c15 (by omega)
      · skip
        have c14x := @wb_lcmp_cases vy 0
        refine wa_fall ⟨_, rfl⟩ ?_
        refine wa_iconst ?_
        refine wa_goto ⟨_, rfl⟩ ?_
        refine wa_zreturn rfl (Or.inr rfl) ?_
        show wJ _ _ _ _ _ _ _ _ _ _
        refine wa_iload_n (n := 1) rfl ?_
        refine wa_bipush (w_rg2 (by omega) (by omega)) ?_
        refine wa_icmpne (w_rg0 (by omega) (by omega)) (w_rg0 (by omega) (by omega)) ⟨_, rfl⟩ (fun c17 => ?_) (fun c17 => ?_)
        · skip
          refine wa_iconst ?_
          refine wa_fall ⟨_, rfl⟩ ?_
          refine wa_icmpne (w_rg0 (by omega) (by omega)) (w_rg0 (by omega) (by omega)) ⟨_, rfl⟩ (fun c18 => ?_) (fun c18 => ?_)
          · skip
            refine wa_aload_n (n := 0) rfl ?_
            refine wb_gf4 237 rfl (wy_pr rfl) wt_237 wf_15_134 (v := 359) wl_237_134 ?_
            refine wa_aload_n (n := 0) rfl ?_
            refine wb_gfi 237 rfl (wy_pr rfl) wt_237 wf_15_151 (v := t) (mt) (fun r19 => ?_)
            refine wa_dup2 (by decide) (by decide) ?_
            refine wb_iald 359 rfl (wy_pr rfl) wt_359 (n := 2) ((ml_359 hM)) (by omega) (by omega) (v := h) (mh) (fun r20 => ?_)
            refine wa_iconst ?_
            refine wa_isub ?_
            refine wb_iast 359 rfl (wy_pr rfl) wt_359 (n := 2) ((ml_359 hM)) (by omega) (by omega) ⟨(by omega), (by omega)⟩ ?_
            refine wa_goto ⟨_, rfl⟩ ?_
            refine wa_return rfl ?_
            refine ⟨rfl, ?_⟩
            first | (rw [if_pos (by omega)]; done) | (rw [if_neg (by omega)]; done)
          · skip
            exact absurd c18 (by omega)
        · skip
          exact absurd c17 (by omega)
theorem y23 {t c p h tp a ky vy : Int} (hP : mP t c p h tp S) (hab : -2147483648 ≤ a ∧ a ≤ 2147483647) (hky : S 363 (2100 * t + h - 1) = ky) (hvy : S 364 (2100 * t + h - 1) = vy) (hh1 : 1 ≤ h) : wJ (pe_GA xs) wY0 M (d + 11) t_M_others ((pe_at t_M_others.bl 0).getD (0, [])).2 [(0, (2, 237)), (1, (0, 23)), (2, (0, a))] [] S (fun o Z => o = .inl none ∧ (if (ky = 0 ∨ (ky = 1 ∧ vy = 0)) then w_up S 237 155 a else w_up S 359 t (h - 1)) = Z) := by
  obtain ⟨hM, ⟨mt, mt0, mt1⟩, mp, mf, ⟨mc, mc0, mc1⟩, ⟨mtp, mtq⟩, ⟨mpa, mp0, mp1⟩, mh, mh0, mh1⟩ := hP
  refine wa_aload_n (n := 0) rfl ?_
  refine wa_cv 237 rfl (wy_pr rfl) wt_237 (M2 := fun _ => False) rfl at_M_h ⟨_, rfl⟩ rfl rfl ⟨(Or.inr ⟨wy_pr rfl, fun q => q⟩), trivial, trivial, trivial⟩ trivial (fun _ _ q => False.elim q) ?_ (fun _ _ _ q => q)
  refine wa_aload_n (n := 0) rfl ?_
  refine wb_gfi 237 rfl (wy_pr rfl) wt_237 wf_15_152 (v := (2100 * t)) (mp) (fun r1 => ?_)
  refine wa_aload_n (n := 0) rfl ?_
  refine wb_gf4 237 rfl (wy_pr rfl) wt_237 wf_15_134 (v := 359) wl_237_134 ?_
  refine wa_aload_n (n := 0) rfl ?_
  refine wb_gfi 237 rfl (wy_pr rfl) wt_237 wf_15_151 (v := t) (mt) (fun r2 => ?_)
  refine wb_iald 359 rfl (wy_pr rfl) wt_359 (n := 2) ((ml_359 hM)) (by omega) (by omega) (v := h) (mh) (fun r3 => ?_)
  refine wa_iadd ?_
  refine wa_ireturn rfl ?_
  show wJ _ _ _ _ _ _ _ _ _ _
  refine wa_iconst ?_
  refine wa_isub ?_
  refine wa_istore_n (n := 3) rfl ?_
  refine wa_iload_n (n := 1) rfl ?_
  refine wb_sw (w_rg0 (by omega) (by omega)) (tb := 5) rfl ⟨_, rfl⟩ ?_
  refine wa_aload_n (n := 0) rfl ?_
  refine wa_aload_n (n := 0) rfl ?_
  refine wb_gf4 237 rfl (wy_pr rfl) wt_237 wf_15_138 (v := 363) wl_237_138 ?_
  refine wa_iload_n (n := 3) rfl ?_
  refine wb_iald 363 rfl (wy_pr rfl) wt_363 (n := 4200) ((ml_363 hM)) (by omega) (by omega) (v := ky) (hky) (fun r4 => ?_)
  refine wa_aload_n (n := 0) rfl ?_
  refine wb_gf4 237 rfl (wy_pr rfl) wt_237 wf_15_139 (v := 364) wl_237_139 ?_
  refine wa_iload_n (n := 3) rfl ?_
  refine wb_lald 364 rfl (wy_pr rfl) wt_364 (n := 4200) ((ml_364 hM)) (by omega) (by omega) (v := vy) (hvy) (fun r5 => ?_)
  refine wa_cv 237 rfl (wy_pr rfl) wt_237 (M2 := fun _ => False) rfl at_M_isNot ⟨_, rfl⟩ rfl rfl ⟨trivial, (Or.inr ⟨wy_pr rfl, fun q => q⟩), trivial, trivial, trivial⟩ trivial (fun _ _ q => False.elim q) ?_ (fun _ _ _ q => q)
  refine wa_iload_n (n := 1) rfl ?_
  refine wa_ifeq (w_rg0 (by omega) (by omega)) ⟨_, rfl⟩ (fun c6 => ?_) (fun c6 => ?_)
  · skip
    refine wa_iconst ?_
    refine wa_goto ⟨_, rfl⟩ ?_
    refine wa_zreturn rfl (Or.inr rfl) ?_
    show wJ _ _ _ _ _ _ _ _ _ _
    refine wa_iload_n (n := 1) rfl ?_
    refine wa_bipush (w_rg2 (by omega) (by omega)) ?_
    refine wa_icmpne (w_rg0 (by omega) (by omega)) (w_rg0 (by omega) (by omega)) ⟨_, rfl⟩ (fun c7 => ?_) (fun c7 => ?_)
    · skip
      exact absurd c7 (by omega)
    · skip
      refine wa_iconst ?_
      refine wa_goto ⟨_, rfl⟩ ?_
      refine wa_icmpne (w_rg0 (by omega) (by omega)) (w_rg0 (by omega) (by omega)) ⟨_, rfl⟩ (fun c8 => ?_) (fun c8 => ?_)
      · skip
        exact absurd c8 (by omega)
      · skip
        refine wa_aload_n (n := 0) rfl ?_
        refine wa_iload_n (n := 2) rfl ?_
        refine wb_pfi 237 rfl (wy_pr rfl) wt_237 wf_15_155 (n := 155) rfl ⟨(by omega), (by omega)⟩ ?_
        refine wa_goto ⟨_, rfl⟩ ?_
        refine wa_return rfl ?_
        refine ⟨rfl, ?_⟩
        first | (rw [if_pos (by omega)]; done) | (rw [if_neg (by omega)]; done)
  · skip
    refine wa_iload_n (n := 1) rfl ?_
    refine wa_iconst ?_
    refine wa_icmpne (w_rg0 (by omega) (by omega)) (w_rg0 (by omega) (by omega)) ⟨_, rfl⟩ (fun c9 => ?_) (fun c9 => ?_)
    · skip
      refine wa_iconst ?_
      refine wa_fall ⟨_, rfl⟩ ?_
      refine wa_zreturn rfl (Or.inl rfl) ?_
      show wJ _ _ _ _ _ _ _ _ _ _
      refine wa_iload_n (n := 1) rfl ?_
      refine wa_bipush (w_rg2 (by omega) (by omega)) ?_
      refine wa_icmpne (w_rg0 (by omega) (by omega)) (w_rg0 (by omega) (by omega)) ⟨_, rfl⟩ (fun c10 => ?_) (fun c10 => ?_)
      · skip
        exact absurd c10 (by omega)
      · skip
        refine wa_iconst ?_
        refine wa_goto ⟨_, rfl⟩ ?_
        refine wa_icmpne (w_rg0 (by omega) (by omega)) (w_rg0 (by omega) (by omega)) ⟨_, rfl⟩ (fun c11 => ?_) (fun c11 => ?_)
        · skip
          refine wa_aload_n (n := 0) rfl ?_
          refine wb_gf4 237 rfl (wy_pr rfl) wt_237 wf_15_134 (v := 359) wl_237_134 ?_
          refine wa_aload_n (n := 0) rfl ?_
          refine wb_gfi 237 rfl (wy_pr rfl) wt_237 wf_15_151 (v := t) (mt) (fun r12 => ?_)
          refine wa_dup2 (by decide) (by decide) ?_
          refine wb_iald 359 rfl (wy_pr rfl) wt_359 (n := 2) ((ml_359 hM)) (by omega) (by omega) (v := h) (mh) (fun r13 => ?_)
          refine wa_iconst ?_
          refine wa_isub ?_
          refine wb_iast 359 rfl (wy_pr rfl) wt_359 (n := 2) ((ml_359 hM)) (by omega) (by omega) ⟨(by omega), (by omega)⟩ ?_
          refine wa_goto ⟨_, rfl⟩ ?_
          refine wa_return rfl ?_
          refine ⟨rfl, ?_⟩
          first | (rw [if_pos (by omega)]; done) | (rw [if_neg (by omega)]; done)
        · skip
          exact absurd c11 (by omega)
    · skip
      refine wa_lload_n (n := 2) rfl ?_
      refine wb_lconst (m := 0) rfl ?_
      refine wa_lcmp (w_rg1 (by omega) (by omega)) (w_rg1 (by omega) (by omega)) ?_
      refine wa_ifne (by have := @wb_lcmp_cases; exact w_lcmp_rg) ⟨_, rfl⟩ (fun c14 => ?_) (fun c14 => ?_)
      · skip
        have c14x := @wb_lcmp_cases vy 0
        refine wa_iconst ?_
        refine wa_fall ⟨_, rfl⟩ ?_
        refine wa_zreturn rfl (Or.inl rfl) ?_
        show wJ _ _ _ _ _ _ _ _ _ _
        refine wa_iload_n (n := 1) rfl ?_
        refine wa_bipush (w_rg2 (by omega) (by omega)) ?_
        refine wa_icmpne (w_rg0 (by omega) (by omega)) (w_rg0 (by omega) (by omega)) ⟨_, rfl⟩ (fun c15 => ?_) (fun c15 => ?_)
        · skip
          exact absurd c15 (by omega)
        · skip
          refine wa_iconst ?_
          refine wa_goto ⟨_, rfl⟩ ?_
          refine wa_icmpne (w_rg0 (by omega) (by omega)) (w_rg0 (by omega) (by omega)) ⟨_, rfl⟩ (fun c16 => ?_) (fun c16 => ?_)
          · skip
            refine wa_aload_n (n := 0) rfl ?_
            refine wb_gf4 237 rfl (wy_pr rfl) wt_237 wf_15_134 (v := 359) wl_237_134 ?_
            refine wa_aload_n (n := 0) rfl ?_
            refine wb_gfi 237 rfl (wy_pr rfl) wt_237 wf_15_151 (v := t) (mt) (fun r17 => ?_)
            refine wa_dup2 (by decide) (by decide) ?_
            refine wb_iald 359 rfl (wy_pr rfl) wt_359 (n := 2) ((ml_359 hM)) (by omega) (by omega) (v := h) (mh) (fun r18 => ?_)
            refine wa_iconst ?_
            refine wa_isub ?_
            refine wb_iast 359 rfl (wy_pr rfl) wt_359 (n := 2) ((ml_359 hM)) (by omega) (by omega) ⟨(by omega), (by omega)⟩ ?_
            refine wa_goto ⟨_, rfl⟩ ?_
            refine wa_return rfl ?_
            refine ⟨rfl, ?_⟩
            first | (rw [if_pos (by omega)]; done) | (rw [if_neg (by omega)]; done)
          · skip
            exact absurd c16 (by omega)
      · skip
        have c14x := @wb_lcmp_cases vy 0
        refine wa_fall ⟨_, rfl⟩ ?_
        refine wa_iconst ?_
        refine wa_goto ⟨_, rfl⟩ ?_
        refine wa_zreturn rfl (Or.inr rfl) ?_
        show wJ _ _ _ _ _ _ _ _ _ _
        refine wa_iload_n (n := 1) rfl ?_
        refine wa_bipush (w_rg2 (by omega) (by omega)) ?_
        refine wa_icmpne (w_rg0 (by omega) (by omega)) (w_rg0 (by omega) (by omega)) ⟨_, rfl⟩ (fun c19 => ?_) (fun c19 => ?_)
        · skip
          exact absurd c19 (by omega)
        · skip
          refine wa_iconst ?_
          refine wa_goto ⟨_, rfl⟩ ?_
          refine wa_icmpne (w_rg0 (by omega) (by omega)) (w_rg0 (by omega) (by omega)) ⟨_, rfl⟩ (fun c20 => ?_) (fun c20 => ?_)
          · skip
            exact absurd c20 (by omega)
          · skip
            refine wa_aload_n (n := 0) rfl ?_
            refine wa_iload_n (n := 2) rfl ?_
            refine wb_pfi 237 rfl (wy_pr rfl) wt_237 wf_15_155 (n := 155) rfl ⟨(by omega), (by omega)⟩ ?_
            refine wa_goto ⟨_, rfl⟩ ?_
            refine wa_return rfl ?_
            refine ⟨rfl, ?_⟩
            first | (rw [if_pos (by omega)]; done) | (rw [if_neg (by omega)]; done)
theorem y32 {t c p h tp a z : Int} (hP : mP t c p h tp S) (hab : -2147483648 ≤ a ∧ a ≤ 2147483647) (bz : S 360 t = z) (bz0 : 1 ≤ z ∧ z ≤ 10000) : wJ (pe_GA xs) wY0 M (d + 11) t_M_others ((pe_at t_M_others.bl 0).getD (0, [])).2 [(0, (2, 237)), (1, (0, 32)), (2, (0, a))] [] S (fun o Z => o = .inl none ∧ w_up S 360 t (z - 1) = Z) := by
  obtain ⟨hM, ⟨mt, mt0, mt1⟩, mp, mf, ⟨mc, mc0, mc1⟩, ⟨mtp, mtq⟩, ⟨mpa, mp0, mp1⟩, mh, mh0, mh1⟩ := hP
  refine wa_aload_n (n := 0) rfl ?_
  refine wa_cv 237 rfl (wy_pr rfl) wt_237 (M2 := fun _ => False) rfl at_M_h ⟨_, rfl⟩ rfl rfl ⟨(Or.inr ⟨wy_pr rfl, fun q => q⟩), trivial, trivial, trivial⟩ trivial (fun _ _ q => False.elim q) ?_ (fun _ _ _ q => q)
  refine wa_aload_n (n := 0) rfl ?_
  refine wb_gfi 237 rfl (wy_pr rfl) wt_237 wf_15_152 (v := (2100 * t)) (mp) (fun r1 => ?_)
  refine wa_aload_n (n := 0) rfl ?_
  refine wb_gf4 237 rfl (wy_pr rfl) wt_237 wf_15_134 (v := 359) wl_237_134 ?_
  refine wa_aload_n (n := 0) rfl ?_
  refine wb_gfi 237 rfl (wy_pr rfl) wt_237 wf_15_151 (v := t) (mt) (fun r2 => ?_)
  refine wb_iald 359 rfl (wy_pr rfl) wt_359 (n := 2) ((ml_359 hM)) (by omega) (by omega) (v := h) (mh) (fun r3 => ?_)
  refine wa_iadd ?_
  refine wa_ireturn rfl ?_
  show wJ _ _ _ _ _ _ _ _ _ _
  refine wa_iconst ?_
  refine wa_isub ?_
  refine wa_istore_n (n := 3) rfl ?_
  refine wa_iload_n (n := 1) rfl ?_
  refine wb_sw (w_rg0 (by omega) (by omega)) (tb := 15) rfl ⟨_, rfl⟩ ?_
  refine wa_aload_n (n := 0) rfl ?_
  refine wb_gf4 237 rfl (wy_pr rfl) wt_237 wf_15_135 (v := 360) wl_237_135 ?_
  refine wa_aload_n (n := 0) rfl ?_
  refine wb_gfi 237 rfl (wy_pr rfl) wt_237 wf_15_151 (v := t) (mt) (fun r4 => ?_)
  refine wa_dup2 (by decide) (by decide) ?_
  refine wb_iald 360 rfl (wy_pr rfl) wt_360 (n := 2) ((ml_360 hM)) (by omega) (by omega) (v := z) (bz) (fun r5 => ?_)
  refine wa_iconst ?_
  refine wa_isub ?_
  refine wb_iast 360 rfl (wy_pr rfl) wt_360 (n := 2) ((ml_360 hM)) (by omega) (by omega) ⟨(by omega), (by omega)⟩ ?_
  refine wa_goto ⟨_, rfl⟩ ?_
  refine wa_return rfl ?_
  exact ⟨rfl, rfl⟩
theorem y31 {t c p h tp a z : Int} (hP : mP t c p h tp S) (hab : -2147483648 ≤ a ∧ a ≤ 2147483647) (bz : S 360 t = z) (bz0 : 0 ≤ z ∧ z < 10000) : wJ (pe_GA xs) wY0 M (d + 11) t_M_others ((pe_at t_M_others.bl 0).getD (0, [])).2 [(0, (2, 237)), (1, (0, 31)), (2, (0, a))] [] S (fun o Z => o = .inl none ∧ (w_up (w_up (w_up (w_up S 373 (10000 * t + z) a) 374 (10000 * t + z) h) 375 (10000 * t + z) (c - 1)) 360 t (z + 1)) = Z) := by
  obtain ⟨hM, ⟨mt, mt0, mt1⟩, mp, mf, ⟨mc, mc0, mc1⟩, ⟨mtp, mtq⟩, ⟨mpa, mp0, mp1⟩, mh, mh0, mh1⟩ := hP
  refine wa_aload_n (n := 0) rfl ?_
  refine wa_cv 237 rfl (wy_pr rfl) wt_237 (M2 := fun _ => False) rfl at_M_h ⟨_, rfl⟩ rfl rfl ⟨(Or.inr ⟨wy_pr rfl, fun q => q⟩), trivial, trivial, trivial⟩ trivial (fun _ _ q => False.elim q) ?_ (fun _ _ _ q => q)
  refine wa_aload_n (n := 0) rfl ?_
  refine wb_gfi 237 rfl (wy_pr rfl) wt_237 wf_15_152 (v := (2100 * t)) (mp) (fun r1 => ?_)
  refine wa_aload_n (n := 0) rfl ?_
  refine wb_gf4 237 rfl (wy_pr rfl) wt_237 wf_15_134 (v := 359) wl_237_134 ?_
  refine wa_aload_n (n := 0) rfl ?_
  refine wb_gfi 237 rfl (wy_pr rfl) wt_237 wf_15_151 (v := t) (mt) (fun r2 => ?_)
  refine wb_iald 359 rfl (wy_pr rfl) wt_359 (n := 2) ((ml_359 hM)) (by omega) (by omega) (v := h) (mh) (fun r3 => ?_)
  refine wa_iadd ?_
  refine wa_ireturn rfl ?_
  show wJ _ _ _ _ _ _ _ _ _ _
  refine wa_iconst ?_
  refine wa_isub ?_
  refine wa_istore_n (n := 3) rfl ?_
  refine wa_iload_n (n := 1) rfl ?_
  refine wb_sw (w_rg0 (by omega) (by omega)) (tb := 13) rfl ⟨_, rfl⟩ ?_
  refine wa_sipush (by omega) ?_
  refine wa_aload_n (n := 0) rfl ?_
  refine wb_gfi 237 rfl (wy_pr rfl) wt_237 wf_15_151 (v := t) (mt) (fun r4 => ?_)
  refine wa_imul ?_
  refine wa_aload_n (n := 0) rfl ?_
  refine wb_gf4 237 rfl (wy_pr rfl) wt_237 wf_15_135 (v := 360) wl_237_135 ?_
  refine wa_aload_n (n := 0) rfl ?_
  refine wb_gfi 237 rfl (wy_pr rfl) wt_237 wf_15_151 (v := t) (mt) (fun r5 => ?_)
  refine wb_iald 360 rfl (wy_pr rfl) wt_360 (n := 2) ((ml_360 hM)) (by omega) (by omega) (v := z) (bz) (fun r6 => ?_)
  refine wa_iadd ?_
  refine wa_istore (n := 6) rfl ?_
  refine wa_aload_n (n := 0) rfl ?_
  refine wb_gf4 237 rfl (wy_pr rfl) wt_237 wf_15_148 (v := 373) wl_237_148 ?_
  refine wa_iload (n := 6) rfl ?_
  refine wa_iload_n (n := 2) rfl ?_
  refine wb_iast 373 rfl (wy_pr rfl) wt_373 (n := 20000) ((ml_373 hM)) (by omega) (by omega) ⟨(by omega), (by omega)⟩ ?_
  refine wa_aload_n (n := 0) rfl ?_
  refine wb_gf4 237 rfl (wy_pr rfl) wt_237 wf_15_149 (v := 374) wl_237_149 ?_
  refine wa_iload (n := 6) rfl ?_
  refine wa_aload_n (n := 0) rfl ?_
  refine wb_gf4 237 rfl (wy_pr rfl) wt_237 wf_15_134 (v := 359) wl_237_134 ?_
  refine wa_aload_n (n := 0) rfl ?_
  refine wb_gfi 237 rfl (wy_pr rfl) wt_237 wf_15_151 (v := t) ((w_up_slot (by decide)).trans (mt)) (fun r7 => ?_)
  refine wb_iald 359 rfl (wy_pr rfl) wt_359 (n := 2) ((w_up_slot (by decide)).trans ((ml_359 hM))) (by omega) (by omega) (v := h) ((w_up_slot (by decide)).trans (mh)) (fun r8 => ?_)
  refine wb_iast 374 rfl (wy_pr rfl) wt_374 (n := 20000) ((w_up_slot (by decide)).trans ((ml_374 hM))) (by omega) (by omega) ⟨(by omega), (by omega)⟩ ?_
  refine wa_aload_n (n := 0) rfl ?_
  refine wb_gf4 237 rfl (wy_pr rfl) wt_237 wf_15_150 (v := 375) wl_237_150 ?_
  refine wa_iload (n := 6) rfl ?_
  refine wa_aload_n (n := 0) rfl ?_
  refine wb_gf4 237 rfl (wy_pr rfl) wt_237 wf_15_133 (v := 358) wl_237_133 ?_
  refine wa_aload_n (n := 0) rfl ?_
  refine wb_gfi 237 rfl (wy_pr rfl) wt_237 wf_15_151 (v := t) ((w_up_slot (by decide)).trans ((w_up_slot (by decide)).trans (mt))) (fun r9 => ?_)
  refine wb_iald 358 rfl (wy_pr rfl) wt_358 (n := 2) ((w_up_slot (by decide)).trans ((w_up_slot (by decide)).trans ((ml_358 hM)))) (by omega) (by omega) (v := c) ((w_up_slot (by decide)).trans ((w_up_slot (by decide)).trans (mc))) (fun r10 => ?_)
  refine wa_iconst ?_
  refine wa_isub ?_
  refine wb_iast 375 rfl (wy_pr rfl) wt_375 (n := 20000) ((w_up_slot (by decide)).trans ((w_up_slot (by decide)).trans ((ml_375 hM)))) (by omega) (by omega) ⟨(by omega), (by omega)⟩ ?_
  refine wa_aload_n (n := 0) rfl ?_
  refine wb_gf4 237 rfl (wy_pr rfl) wt_237 wf_15_135 (v := 360) wl_237_135 ?_
  refine wa_aload_n (n := 0) rfl ?_
  refine wb_gfi 237 rfl (wy_pr rfl) wt_237 wf_15_151 (v := t) ((w_up_slot (by decide)).trans ((w_up_slot (by decide)).trans ((w_up_slot (by decide)).trans (mt)))) (fun r11 => ?_)
  refine wa_fall ⟨_, rfl⟩ ?_
  refine wa_dup2 (by decide) (by decide) ?_
  refine wb_iald 360 rfl (wy_pr rfl) wt_360 (n := 2) ((w_up_slot (by decide)).trans ((w_up_slot (by decide)).trans ((w_up_slot (by decide)).trans ((ml_360 hM))))) (by omega) (by omega) (v := z) ((w_up_slot (by decide)).trans ((w_up_slot (by decide)).trans ((w_up_slot (by decide)).trans (bz)))) (fun r12 => ?_)
  refine wa_iconst ?_
  refine wa_iadd ?_
  refine wb_iast 360 rfl (wy_pr rfl) wt_360 (n := 2) ((w_up_slot (by decide)).trans ((w_up_slot (by decide)).trans ((w_up_slot (by decide)).trans ((ml_360 hM))))) (by omega) (by omega) ⟨(by omega), (by omega)⟩ ?_
  refine wa_goto ⟨_, rfl⟩ ?_
  refine wa_return rfl ?_
  exact ⟨rfl, rfl⟩
theorem y7 {t c p h tp vx vy : Int} (hP : mP t c p h tp S) (hky : S 363 (2100 * t + h - 1) = 2) (hvy : S 364 (2100 * t + h - 1) = vy) (hkx : S 363 (2100 * t + h - 1 - 1) = 2) (hvx : S 364 (2100 * t + h - 1 - 1) = vx) (hh1 : 2 ≤ h) : wJ (pe_GA xs) wY0 M (d + 11) t_M_operators ((pe_at t_M_operators.bl 0).getD (0, [])).2 [(0, (2, 237)), (1, (0, 7))] [] S (fun o Z => o = .inl none ∧ pXZ t h 2 (w64 (vx + vy)) S = Z) := by
  obtain ⟨hM, ⟨mt, mt0, mt1⟩, mp, mf, ⟨mc, mc0, mc1⟩, ⟨mtp, mtq⟩, ⟨mpa, mp0, mp1⟩, mh, mh0, mh1⟩ := hP
  refine wa_aload_n (n := 0) rfl ?_
  refine wa_cv 237 rfl (wy_pr rfl) wt_237 (M2 := fun _ => False) rfl at_M_h ⟨_, rfl⟩ rfl rfl ⟨(Or.inr ⟨wy_pr rfl, fun q => q⟩), trivial, trivial⟩ trivial (fun _ _ q => False.elim q) ?_ (fun _ _ _ q => q)
  refine wa_aload_n (n := 0) rfl ?_
  refine wb_gfi 237 rfl (wy_pr rfl) wt_237 wf_15_152 (v := (2100 * t)) (mp) (fun r1 => ?_)
  refine wa_aload_n (n := 0) rfl ?_
  refine wb_gf4 237 rfl (wy_pr rfl) wt_237 wf_15_134 (v := 359) wl_237_134 ?_
  refine wa_aload_n (n := 0) rfl ?_
  refine wb_gfi 237 rfl (wy_pr rfl) wt_237 wf_15_151 (v := t) (mt) (fun r2 => ?_)
  refine wb_iald 359 rfl (wy_pr rfl) wt_359 (n := 2) ((ml_359 hM)) (by omega) (by omega) (v := h) (mh) (fun r3 => ?_)
  refine wa_iadd ?_
  refine wa_ireturn rfl ?_
  show wJ _ _ _ _ _ _ _ _ _ _
  refine wa_iconst ?_
  refine wa_isub ?_
  refine wa_istore_n (n := 2) rfl ?_
  refine wa_iload_n (n := 2) rfl ?_
  refine wa_iconst ?_
  refine wa_isub ?_
  refine wa_istore_n (n := 3) rfl ?_
  refine wa_iload_n (n := 1) rfl ?_
  refine wa_iconst ?_
  refine wa_icmpne (w_rg0 (by omega) (by omega)) (w_rg0 (by omega) (by omega)) ⟨_, rfl⟩ (fun c4 => ?_) (fun c4 => ?_)
  · skip
    refine wa_iload_n (n := 1) rfl ?_
    refine wa_bipush (w_rg2 (by omega) (by omega)) ?_
    refine wa_icmpne (w_rg0 (by omega) (by omega)) (w_rg0 (by omega) (by omega)) ⟨_, rfl⟩ (fun c5 => ?_) (fun c5 => ?_)
    · skip
      refine wa_iload_n (n := 1) rfl ?_
      refine wa_bipush (w_rg2 (by omega) (by omega)) ?_
      refine wa_icmpne (w_rg0 (by omega) (by omega)) (w_rg0 (by omega) (by omega)) ⟨_, rfl⟩ (fun c6 => ?_) (fun c6 => ?_)
      · skip
        refine wa_iload_n (n := 1) rfl ?_
        refine wa_bipush (w_rg2 (by omega) (by omega)) ?_
        refine wa_icmpne (w_rg0 (by omega) (by omega)) (w_rg0 (by omega) (by omega)) ⟨_, rfl⟩ (fun c7 => ?_) (fun c7 => ?_)
        · skip
          refine wa_iload_n (n := 1) rfl ?_
          refine wa_bipush (w_rg2 (by omega) (by omega)) ?_
          refine wa_icmpge (w_rg0 (by omega) (by omega)) (w_rg0 (by omega) (by omega)) ⟨_, rfl⟩ (fun c8 => ?_) (fun c8 => ?_)
          · skip
            exact absurd c8 (by omega)
          · skip
            refine wa_aload_n (n := 0) rfl ?_
            refine wa_iload_n (n := 1) rfl ?_
            refine wa_iload_n (n := 3) rfl ?_
            refine wa_iload_n (n := 2) rfl ?_
            refine wa_cv 237 rfl (wy_pr rfl) wt_237 (M2 := fun _ => False) rfl at_M_numbers ⟨_, rfl⟩ rfl rfl ⟨trivial, trivial, (Or.inr ⟨wy_pr rfl, fun q => q⟩), trivial, trivial⟩ trivial (fun _ _ q => False.elim q) ?_ (fun _ _ _ q => q)
            refine wa_aload_n (n := 0) rfl ?_
            refine wb_gf4 237 rfl (wy_pr rfl) wt_237 wf_15_139 (v := 364) wl_237_139 ?_
            refine wa_iload_n (n := 2) rfl ?_
            refine wb_lald 364 rfl (wy_pr rfl) wt_364 (n := 4200) ((ml_364 hM)) (by omega) (by omega) (v := vx) (hvx) (fun r9 => ?_)
            refine wa_lstore (n := 4) rfl ?_
            refine wa_aload_n (n := 0) rfl ?_
            refine wb_gf4 237 rfl (wy_pr rfl) wt_237 wf_15_139 (v := 364) wl_237_139 ?_
            refine wa_iload_n (n := 3) rfl ?_
            refine wb_lald 364 rfl (wy_pr rfl) wt_364 (n := 4200) ((ml_364 hM)) (by omega) (by omega) (v := vy) (hvy) (fun r10 => ?_)
            refine wa_lstore (n := 6) rfl ?_
            refine wa_iload_n (n := 1) rfl ?_
            refine wa_bipush (w_rg2 (by omega) (by omega)) ?_
            refine wa_icmpne (w_rg0 (by omega) (by omega)) (w_rg0 (by omega) (by omega)) ⟨_, rfl⟩ (fun c11 => ?_) (fun c11 => ?_)
            · skip
              exact absurd c11 (by omega)
            · skip
              refine wa_aload_n (n := 0) rfl ?_
              refine wb_gf4 237 rfl (wy_pr rfl) wt_237 wf_15_138 (v := 363) wl_237_138 ?_
              refine wa_iload_n (n := 2) rfl ?_
              refine wb_iald 363 rfl (wy_pr rfl) wt_363 (n := 4200) ((ml_363 hM)) (by omega) (by omega) (v := 2) (hkx) (fun r12 => ?_)
              refine wa_iconst ?_
              refine wa_icmpeq (w_rg0 (by omega) (by omega)) (w_rg0 (by omega) (by omega)) ⟨_, rfl⟩ (fun c13 => ?_) (fun c13 => ?_)
              · skip
                exact absurd c13 (by omega)
              · skip
                refine wa_aload_n (n := 0) rfl ?_
                refine wb_gf4 237 rfl (wy_pr rfl) wt_237 wf_15_138 (v := 363) wl_237_138 ?_
                refine wa_iload_n (n := 3) rfl ?_
                refine wb_iald 363 rfl (wy_pr rfl) wt_363 (n := 4200) ((ml_363 hM)) (by omega) (by omega) (v := 2) (hky) (fun r14 => ?_)
                refine wa_iconst ?_
                refine wa_icmpne (w_rg0 (by omega) (by omega)) (w_rg0 (by omega) (by omega)) ⟨_, rfl⟩ (fun c15 => ?_) (fun c15 => ?_)
                · skip
                  refine wa_aload_n (n := 0) rfl ?_
                  refine wb_gf4 237 rfl (wy_pr rfl) wt_237 wf_15_138 (v := 363) wl_237_138 ?_
                  refine wa_iload_n (n := 2) rfl ?_
                  refine wb_iald 363 rfl (wy_pr rfl) wt_363 (n := 4200) ((ml_363 hM)) (by omega) (by omega) (v := 2) (hkx) (fun r16 => ?_)
                  refine wa_iconst ?_
                  refine wa_icmpne (w_rg0 (by omega) (by omega)) (w_rg0 (by omega) (by omega)) ⟨_, rfl⟩ (fun c17 => ?_) (fun c17 => ?_)
                  · skip
                    exact absurd c17 (by omega)
                  · skip
                    refine wa_aload_n (n := 0) rfl ?_
                    refine wb_gf4 237 rfl (wy_pr rfl) wt_237 wf_15_138 (v := 363) wl_237_138 ?_
                    refine wa_iload_n (n := 3) rfl ?_
                    refine wb_iald 363 rfl (wy_pr rfl) wt_363 (n := 4200) ((ml_363 hM)) (by omega) (by omega) (v := 2) (hky) (fun r18 => ?_)
                    refine wa_iconst ?_
                    refine wa_icmpeq (w_rg0 (by omega) (by omega)) (w_rg0 (by omega) (by omega)) ⟨_, rfl⟩ (fun c19 => ?_) (fun c19 => ?_)
                    · skip
                      refine wa_iload_n (n := 1) rfl ?_
                      refine wa_bipush (w_rg2 (by omega) (by omega)) ?_
                      refine wa_icmpeq (w_rg0 (by omega) (by omega)) (w_rg0 (by omega) (by omega)) ⟨_, rfl⟩ (fun c20 => ?_) (fun c20 => ?_)
                      · skip
                        exact absurd c20 (by omega)
                      · skip
                        refine wa_iload_n (n := 1) rfl ?_
                        refine wa_bipush (w_rg2 (by omega) (by omega)) ?_
                        refine wa_icmpne (w_rg0 (by omega) (by omega)) (w_rg0 (by omega) (by omega)) ⟨_, rfl⟩ (fun c21 => ?_) (fun c21 => ?_)
                        · skip
                          refine wa_aload_n (n := 0) rfl ?_
                          refine wa_iconst ?_
                          refine wa_iload_n (n := 1) rfl ?_
                          refine wa_bipush (w_rg2 (by omega) (by omega)) ?_
                          refine wa_icmpne (w_rg0 (by omega) (by omega)) (w_rg0 (by omega) (by omega)) ⟨_, rfl⟩ (fun c22 => ?_) (fun c22 => ?_)
                          · skip
                            exact absurd c22 (by omega)
                          · skip
                            refine wa_lload (n := 4) rfl ?_
                            refine wa_lload (n := 6) rfl ?_
                            refine wa_ladd ?_
                            refine wa_goto ⟨_, rfl⟩ ?_
                            refine wJ_n1 (w64_o _) ?_
                            have hw := w64_rg (vx + vy)
                            refine wa_cv 237 rfl (wy_pr rfl) wt_237 (M2 := fun _ => False) rfl at_M_is ⟨_, rfl⟩ rfl rfl ⟨trivial, trivial, (Or.inr ⟨wy_pr rfl, fun q => q⟩), trivial, trivial, trivial, trivial⟩ trivial (fun _ _ q => False.elim q) ?_ (fun _ _ _ q => q)
                            refine wa_aload_n (n := 0) rfl ?_
                            refine wa_iload_n (n := 1) rfl ?_
                            refine wb_pfi 237 rfl (wy_pr rfl) wt_237 wf_15_110 (n := 110) rfl ⟨(by omega), (by omega)⟩ ?_
                            refine wa_aload_n (n := 0) rfl ?_
                            refine wa_lload_n (n := 2) rfl ?_
                            refine wb_pfl 237 rfl (wy_pr rfl) wt_237 wf_15_111 (n := 111) rfl ⟨(by omega), (by omega)⟩ ?_
                            refine wa_return rfl ?_
                            show wJ _ _ _ _ _ _ _ _ _ _
                            refine wa_return rfl ?_
                            show wJ _ _ _ _ _ _ _ _ _ _
                            refine wa_goto ⟨_, rfl⟩ ?_
                            refine wa_aload_n (n := 0) rfl ?_
                            refine wb_gf4 237 rfl (wy_pr rfl) wt_237 wf_15_134 (v := 359) wl_237_134 ?_
                            refine wa_aload_n (n := 0) rfl ?_
                            refine wb_gfi 237 rfl (wy_pr rfl) wt_237 wf_15_151 (v := t) ((w_up_at (by decide)).trans ((w_up_at (by decide)).trans (mt))) (fun r23 => ?_)
                            refine wa_dup2 (by decide) (by decide) ?_
                            refine wb_iald 359 rfl (wy_pr rfl) wt_359 (n := 2) ((w_up_slot (by decide)).trans ((w_up_slot (by decide)).trans ((ml_359 hM)))) (by omega) (by omega) (v := h) ((w_up_slot (by decide)).trans ((w_up_slot (by decide)).trans (mh))) (fun r24 => ?_)
                            refine wa_iconst ?_
                            refine wa_isub ?_
                            refine wb_iast 359 rfl (wy_pr rfl) wt_359 (n := 2) ((w_up_slot (by decide)).trans ((w_up_slot (by decide)).trans ((ml_359 hM)))) (by omega) (by omega) ⟨(by omega), (by omega)⟩ ?_
                            refine wa_aload_n (n := 0) rfl ?_
                            refine wb_gf4 237 rfl (wy_pr rfl) wt_237 wf_15_138 (v := 363) wl_237_138 ?_
                            refine wa_iload_n (n := 3) rfl ?_
                            refine wa_aload_n (n := 0) rfl ?_
                            refine wb_gfi 237 rfl (wy_pr rfl) wt_237 wf_15_110 (v := 2) ((w_up_slot (by decide)).trans ((w_up_at (by decide)).trans (w_up_same _ _ _ _))) (fun r25 => ?_)
                            refine wb_iast 363 rfl (wy_pr rfl) wt_363 (n := 4200) ((w_up_slot (by decide)).trans ((w_up_slot (by decide)).trans ((w_up_slot (by decide)).trans ((ml_363 hM))))) (by omega) (by omega) ⟨(by omega), (by omega)⟩ ?_
                            refine wa_aload_n (n := 0) rfl ?_
                            refine wb_gf4 237 rfl (wy_pr rfl) wt_237 wf_15_139 (v := 364) wl_237_139 ?_
                            refine wa_iload_n (n := 3) rfl ?_
                            refine wa_aload_n (n := 0) rfl ?_
                            refine wb_gfl 237 rfl (wy_pr rfl) wt_237 wf_15_111 (v := (w64 (vx + vy))) ((w_up_slot (by decide)).trans ((w_up_slot (by decide)).trans (w_up_same _ _ _ _))) (fun r26 => ?_)
                            refine wb_last 364 rfl (wy_pr rfl) wt_364 (n := 4200) ((w_up_slot (by decide)).trans ((w_up_slot (by decide)).trans ((w_up_slot (by decide)).trans ((w_up_slot (by decide)).trans ((ml_364 hM)))))) (by omega) (by omega) ⟨(by omega), (by omega)⟩ ?_
                            refine wa_fall ⟨_, rfl⟩ ?_
                            refine wa_return rfl ?_
                            exact ⟨rfl, rfl⟩
                        · skip
                          exact absurd c21 (by omega)
                    · skip
                      exact absurd c19 (by omega)
                · skip
                  exact absurd c15 (by omega)
        · skip
          exact absurd c7 (by omega)
      · skip
        exact absurd c6 (by omega)
    · skip
      exact absurd c5 (by omega)
  · skip
    exact absurd c4 (by omega)
theorem y8 {t c p h tp vx vy : Int} (hP : mP t c p h tp S) (hky : S 363 (2100 * t + h - 1) = 2) (hvy : S 364 (2100 * t + h - 1) = vy) (hkx : S 363 (2100 * t + h - 1 - 1) = 2) (hvx : S 364 (2100 * t + h - 1 - 1) = vx) (hh1 : 2 ≤ h) : wJ (pe_GA xs) wY0 M (d + 11) t_M_operators ((pe_at t_M_operators.bl 0).getD (0, [])).2 [(0, (2, 237)), (1, (0, 8))] [] S (fun o Z => o = .inl none ∧ pXZ t h 2 (w64 (vx - vy)) S = Z) := by
  obtain ⟨hM, ⟨mt, mt0, mt1⟩, mp, mf, ⟨mc, mc0, mc1⟩, ⟨mtp, mtq⟩, ⟨mpa, mp0, mp1⟩, mh, mh0, mh1⟩ := hP
  refine wa_aload_n (n := 0) rfl ?_
  refine wa_cv 237 rfl (wy_pr rfl) wt_237 (M2 := fun _ => False) rfl at_M_h ⟨_, rfl⟩ rfl rfl ⟨(Or.inr ⟨wy_pr rfl, fun q => q⟩), trivial, trivial⟩ trivial (fun _ _ q => False.elim q) ?_ (fun _ _ _ q => q)
  refine wa_aload_n (n := 0) rfl ?_
  refine wb_gfi 237 rfl (wy_pr rfl) wt_237 wf_15_152 (v := (2100 * t)) (mp) (fun r1 => ?_)
  refine wa_aload_n (n := 0) rfl ?_
  refine wb_gf4 237 rfl (wy_pr rfl) wt_237 wf_15_134 (v := 359) wl_237_134 ?_
  refine wa_aload_n (n := 0) rfl ?_
  refine wb_gfi 237 rfl (wy_pr rfl) wt_237 wf_15_151 (v := t) (mt) (fun r2 => ?_)
  refine wb_iald 359 rfl (wy_pr rfl) wt_359 (n := 2) ((ml_359 hM)) (by omega) (by omega) (v := h) (mh) (fun r3 => ?_)
  refine wa_iadd ?_
  refine wa_ireturn rfl ?_
  show wJ _ _ _ _ _ _ _ _ _ _
  refine wa_iconst ?_
  refine wa_isub ?_
  refine wa_istore_n (n := 2) rfl ?_
  refine wa_iload_n (n := 2) rfl ?_
  refine wa_iconst ?_
  refine wa_isub ?_
  refine wa_istore_n (n := 3) rfl ?_
  refine wa_iload_n (n := 1) rfl ?_
  refine wa_iconst ?_
  refine wa_icmpne (w_rg0 (by omega) (by omega)) (w_rg0 (by omega) (by omega)) ⟨_, rfl⟩ (fun c4 => ?_) (fun c4 => ?_)
  · skip
    refine wa_iload_n (n := 1) rfl ?_
    refine wa_bipush (w_rg2 (by omega) (by omega)) ?_
    refine wa_icmpne (w_rg0 (by omega) (by omega)) (w_rg0 (by omega) (by omega)) ⟨_, rfl⟩ (fun c5 => ?_) (fun c5 => ?_)
    · skip
      refine wa_iload_n (n := 1) rfl ?_
      refine wa_bipush (w_rg2 (by omega) (by omega)) ?_
      refine wa_icmpne (w_rg0 (by omega) (by omega)) (w_rg0 (by omega) (by omega)) ⟨_, rfl⟩ (fun c6 => ?_) (fun c6 => ?_)
      · skip
        refine wa_iload_n (n := 1) rfl ?_
        refine wa_bipush (w_rg2 (by omega) (by omega)) ?_
        refine wa_icmpne (w_rg0 (by omega) (by omega)) (w_rg0 (by omega) (by omega)) ⟨_, rfl⟩ (fun c7 => ?_) (fun c7 => ?_)
        · skip
          refine wa_iload_n (n := 1) rfl ?_
          refine wa_bipush (w_rg2 (by omega) (by omega)) ?_
          refine wa_icmpge (w_rg0 (by omega) (by omega)) (w_rg0 (by omega) (by omega)) ⟨_, rfl⟩ (fun c8 => ?_) (fun c8 => ?_)
          · skip
            exact absurd c8 (by omega)
          · skip
            refine wa_aload_n (n := 0) rfl ?_
            refine wa_iload_n (n := 1) rfl ?_
            refine wa_iload_n (n := 3) rfl ?_
            refine wa_iload_n (n := 2) rfl ?_
            refine wa_cv 237 rfl (wy_pr rfl) wt_237 (M2 := fun _ => False) rfl at_M_numbers ⟨_, rfl⟩ rfl rfl ⟨trivial, trivial, (Or.inr ⟨wy_pr rfl, fun q => q⟩), trivial, trivial⟩ trivial (fun _ _ q => False.elim q) ?_ (fun _ _ _ q => q)
            refine wa_aload_n (n := 0) rfl ?_
            refine wb_gf4 237 rfl (wy_pr rfl) wt_237 wf_15_139 (v := 364) wl_237_139 ?_
            refine wa_iload_n (n := 2) rfl ?_
            refine wb_lald 364 rfl (wy_pr rfl) wt_364 (n := 4200) ((ml_364 hM)) (by omega) (by omega) (v := vx) (hvx) (fun r9 => ?_)
            refine wa_lstore (n := 4) rfl ?_
            refine wa_aload_n (n := 0) rfl ?_
            refine wb_gf4 237 rfl (wy_pr rfl) wt_237 wf_15_139 (v := 364) wl_237_139 ?_
            refine wa_iload_n (n := 3) rfl ?_
            refine wb_lald 364 rfl (wy_pr rfl) wt_364 (n := 4200) ((ml_364 hM)) (by omega) (by omega) (v := vy) (hvy) (fun r10 => ?_)
            refine wa_lstore (n := 6) rfl ?_
            refine wa_iload_n (n := 1) rfl ?_
            refine wa_bipush (w_rg2 (by omega) (by omega)) ?_
            refine wa_icmpne (w_rg0 (by omega) (by omega)) (w_rg0 (by omega) (by omega)) ⟨_, rfl⟩ (fun c11 => ?_) (fun c11 => ?_)
            · skip
              refine wa_aload_n (n := 0) rfl ?_
              refine wb_gf4 237 rfl (wy_pr rfl) wt_237 wf_15_138 (v := 363) wl_237_138 ?_
              refine wa_iload_n (n := 2) rfl ?_
              refine wb_iald 363 rfl (wy_pr rfl) wt_363 (n := 4200) ((ml_363 hM)) (by omega) (by omega) (v := 2) (hkx) (fun r12 => ?_)
              refine wa_iconst ?_
              refine wa_icmpne (w_rg0 (by omega) (by omega)) (w_rg0 (by omega) (by omega)) ⟨_, rfl⟩ (fun c13 => ?_) (fun c13 => ?_)
              · skip
                exact absurd c13 (by omega)
              · skip
                refine wa_aload_n (n := 0) rfl ?_
                refine wb_gf4 237 rfl (wy_pr rfl) wt_237 wf_15_138 (v := 363) wl_237_138 ?_
                refine wa_iload_n (n := 3) rfl ?_
                refine wb_iald 363 rfl (wy_pr rfl) wt_363 (n := 4200) ((ml_363 hM)) (by omega) (by omega) (v := 2) (hky) (fun r14 => ?_)
                refine wa_iconst ?_
                refine wa_icmpeq (w_rg0 (by omega) (by omega)) (w_rg0 (by omega) (by omega)) ⟨_, rfl⟩ (fun c15 => ?_) (fun c15 => ?_)
                · skip
                  refine wa_iload_n (n := 1) rfl ?_
                  refine wa_bipush (w_rg2 (by omega) (by omega)) ?_
                  refine wa_icmpeq (w_rg0 (by omega) (by omega)) (w_rg0 (by omega) (by omega)) ⟨_, rfl⟩ (fun c16 => ?_) (fun c16 => ?_)
                  · skip
                    exact absurd c16 (by omega)
                  · skip
                    refine wa_iload_n (n := 1) rfl ?_
                    refine wa_bipush (w_rg2 (by omega) (by omega)) ?_
                    refine wa_icmpne (w_rg0 (by omega) (by omega)) (w_rg0 (by omega) (by omega)) ⟨_, rfl⟩ (fun c17 => ?_) (fun c17 => ?_)
                    · skip
                      refine wa_aload_n (n := 0) rfl ?_
                      refine wa_iconst ?_
                      refine wa_iload_n (n := 1) rfl ?_
                      refine wa_bipush (w_rg2 (by omega) (by omega)) ?_
                      refine wa_icmpne (w_rg0 (by omega) (by omega)) (w_rg0 (by omega) (by omega)) ⟨_, rfl⟩ (fun c18 => ?_) (fun c18 => ?_)
                      · skip
                        refine wa_iload_n (n := 1) rfl ?_
                        refine wa_bipush (w_rg2 (by omega) (by omega)) ?_
                        refine wa_icmpne (w_rg0 (by omega) (by omega)) (w_rg0 (by omega) (by omega)) ⟨_, rfl⟩ (fun c19 => ?_) (fun c19 => ?_)
                        · skip
                          exact absurd c19 (by omega)
                        · skip
                          refine wa_lload (n := 4) rfl ?_
                          refine wa_lload (n := 6) rfl ?_
                          refine wa_lsub ?_
                          refine wa_goto ⟨_, rfl⟩ ?_
                          refine wJ_n1 (w64_o _) ?_
                          have hw := w64_rg (vx - vy)
                          refine wa_cv 237 rfl (wy_pr rfl) wt_237 (M2 := fun _ => False) rfl at_M_is ⟨_, rfl⟩ rfl rfl ⟨trivial, trivial, (Or.inr ⟨wy_pr rfl, fun q => q⟩), trivial, trivial, trivial, trivial⟩ trivial (fun _ _ q => False.elim q) ?_ (fun _ _ _ q => q)
                          refine wa_aload_n (n := 0) rfl ?_
                          refine wa_iload_n (n := 1) rfl ?_
                          refine wb_pfi 237 rfl (wy_pr rfl) wt_237 wf_15_110 (n := 110) rfl ⟨(by omega), (by omega)⟩ ?_
                          refine wa_aload_n (n := 0) rfl ?_
                          refine wa_lload_n (n := 2) rfl ?_
                          refine wb_pfl 237 rfl (wy_pr rfl) wt_237 wf_15_111 (n := 111) rfl ⟨(by omega), (by omega)⟩ ?_
                          refine wa_return rfl ?_
                          show wJ _ _ _ _ _ _ _ _ _ _
                          refine wa_return rfl ?_
                          show wJ _ _ _ _ _ _ _ _ _ _
                          refine wa_goto ⟨_, rfl⟩ ?_
                          refine wa_aload_n (n := 0) rfl ?_
                          refine wb_gf4 237 rfl (wy_pr rfl) wt_237 wf_15_134 (v := 359) wl_237_134 ?_
                          refine wa_aload_n (n := 0) rfl ?_
                          refine wb_gfi 237 rfl (wy_pr rfl) wt_237 wf_15_151 (v := t) ((w_up_at (by decide)).trans ((w_up_at (by decide)).trans (mt))) (fun r20 => ?_)
                          refine wa_dup2 (by decide) (by decide) ?_
                          refine wb_iald 359 rfl (wy_pr rfl) wt_359 (n := 2) ((w_up_slot (by decide)).trans ((w_up_slot (by decide)).trans ((ml_359 hM)))) (by omega) (by omega) (v := h) ((w_up_slot (by decide)).trans ((w_up_slot (by decide)).trans (mh))) (fun r21 => ?_)
                          refine wa_iconst ?_
                          refine wa_isub ?_
                          refine wb_iast 359 rfl (wy_pr rfl) wt_359 (n := 2) ((w_up_slot (by decide)).trans ((w_up_slot (by decide)).trans ((ml_359 hM)))) (by omega) (by omega) ⟨(by omega), (by omega)⟩ ?_
                          refine wa_aload_n (n := 0) rfl ?_
                          refine wb_gf4 237 rfl (wy_pr rfl) wt_237 wf_15_138 (v := 363) wl_237_138 ?_
                          refine wa_iload_n (n := 3) rfl ?_
                          refine wa_aload_n (n := 0) rfl ?_
                          refine wb_gfi 237 rfl (wy_pr rfl) wt_237 wf_15_110 (v := 2) ((w_up_slot (by decide)).trans ((w_up_at (by decide)).trans (w_up_same _ _ _ _))) (fun r22 => ?_)
                          refine wb_iast 363 rfl (wy_pr rfl) wt_363 (n := 4200) ((w_up_slot (by decide)).trans ((w_up_slot (by decide)).trans ((w_up_slot (by decide)).trans ((ml_363 hM))))) (by omega) (by omega) ⟨(by omega), (by omega)⟩ ?_
                          refine wa_aload_n (n := 0) rfl ?_
                          refine wb_gf4 237 rfl (wy_pr rfl) wt_237 wf_15_139 (v := 364) wl_237_139 ?_
                          refine wa_iload_n (n := 3) rfl ?_
                          refine wa_aload_n (n := 0) rfl ?_
                          refine wb_gfl 237 rfl (wy_pr rfl) wt_237 wf_15_111 (v := (w64 (vx - vy))) ((w_up_slot (by decide)).trans ((w_up_slot (by decide)).trans (w_up_same _ _ _ _))) (fun r23 => ?_)
                          refine wb_last 364 rfl (wy_pr rfl) wt_364 (n := 4200) ((w_up_slot (by decide)).trans ((w_up_slot (by decide)).trans ((w_up_slot (by decide)).trans ((w_up_slot (by decide)).trans ((ml_364 hM)))))) (by omega) (by omega) ⟨(by omega), (by omega)⟩ ?_
                          refine wa_fall ⟨_, rfl⟩ ?_
                          refine wa_return rfl ?_
                          exact ⟨rfl, rfl⟩
                      · skip
                        exact absurd c18 (by omega)
                    · skip
                      exact absurd c17 (by omega)
                · skip
                  exact absurd c15 (by omega)
            · skip
              exact absurd c11 (by omega)
        · skip
          exact absurd c7 (by omega)
      · skip
        exact absurd c6 (by omega)
    · skip
      exact absurd c5 (by omega)
  · skip
    exact absurd c4 (by omega)
theorem y9 {t c p h tp vx vy : Int} (hP : mP t c p h tp S) (hky : S 363 (2100 * t + h - 1) = 2) (hvy : S 364 (2100 * t + h - 1) = vy) (hkx : S 363 (2100 * t + h - 1 - 1) = 2) (hvx : S 364 (2100 * t + h - 1 - 1) = vx) (hh1 : 2 ≤ h) : wJ (pe_GA xs) wY0 M (d + 11) t_M_operators ((pe_at t_M_operators.bl 0).getD (0, [])).2 [(0, (2, 237)), (1, (0, 9))] [] S (fun o Z => o = .inl none ∧ pXZ t h 2 (w64 (vx * vy)) S = Z) := by
  obtain ⟨hM, ⟨mt, mt0, mt1⟩, mp, mf, ⟨mc, mc0, mc1⟩, ⟨mtp, mtq⟩, ⟨mpa, mp0, mp1⟩, mh, mh0, mh1⟩ := hP
  refine wa_aload_n (n := 0) rfl ?_
  refine wa_cv 237 rfl (wy_pr rfl) wt_237 (M2 := fun _ => False) rfl at_M_h ⟨_, rfl⟩ rfl rfl ⟨(Or.inr ⟨wy_pr rfl, fun q => q⟩), trivial, trivial⟩ trivial (fun _ _ q => False.elim q) ?_ (fun _ _ _ q => q)
  refine wa_aload_n (n := 0) rfl ?_
  refine wb_gfi 237 rfl (wy_pr rfl) wt_237 wf_15_152 (v := (2100 * t)) (mp) (fun r1 => ?_)
  refine wa_aload_n (n := 0) rfl ?_
  refine wb_gf4 237 rfl (wy_pr rfl) wt_237 wf_15_134 (v := 359) wl_237_134 ?_
  refine wa_aload_n (n := 0) rfl ?_
  refine wb_gfi 237 rfl (wy_pr rfl) wt_237 wf_15_151 (v := t) (mt) (fun r2 => ?_)
  refine wb_iald 359 rfl (wy_pr rfl) wt_359 (n := 2) ((ml_359 hM)) (by omega) (by omega) (v := h) (mh) (fun r3 => ?_)
  refine wa_iadd ?_
  refine wa_ireturn rfl ?_
  show wJ _ _ _ _ _ _ _ _ _ _
  refine wa_iconst ?_
  refine wa_isub ?_
  refine wa_istore_n (n := 2) rfl ?_
  refine wa_iload_n (n := 2) rfl ?_
  refine wa_iconst ?_
  refine wa_isub ?_
  refine wa_istore_n (n := 3) rfl ?_
  refine wa_iload_n (n := 1) rfl ?_
  refine wa_iconst ?_
  refine wa_icmpne (w_rg0 (by omega) (by omega)) (w_rg0 (by omega) (by omega)) ⟨_, rfl⟩ (fun c4 => ?_) (fun c4 => ?_)
  · skip
    refine wa_iload_n (n := 1) rfl ?_
    refine wa_bipush (w_rg2 (by omega) (by omega)) ?_
    refine wa_icmpne (w_rg0 (by omega) (by omega)) (w_rg0 (by omega) (by omega)) ⟨_, rfl⟩ (fun c5 => ?_) (fun c5 => ?_)
    · skip
      refine wa_iload_n (n := 1) rfl ?_
      refine wa_bipush (w_rg2 (by omega) (by omega)) ?_
      refine wa_icmpne (w_rg0 (by omega) (by omega)) (w_rg0 (by omega) (by omega)) ⟨_, rfl⟩ (fun c6 => ?_) (fun c6 => ?_)
      · skip
        refine wa_iload_n (n := 1) rfl ?_
        refine wa_bipush (w_rg2 (by omega) (by omega)) ?_
        refine wa_icmpne (w_rg0 (by omega) (by omega)) (w_rg0 (by omega) (by omega)) ⟨_, rfl⟩ (fun c7 => ?_) (fun c7 => ?_)
        · skip
          refine wa_iload_n (n := 1) rfl ?_
          refine wa_bipush (w_rg2 (by omega) (by omega)) ?_
          refine wa_icmpge (w_rg0 (by omega) (by omega)) (w_rg0 (by omega) (by omega)) ⟨_, rfl⟩ (fun c8 => ?_) (fun c8 => ?_)
          · skip
            exact absurd c8 (by omega)
          · skip
            refine wa_aload_n (n := 0) rfl ?_
            refine wa_iload_n (n := 1) rfl ?_
            refine wa_iload_n (n := 3) rfl ?_
            refine wa_iload_n (n := 2) rfl ?_
            refine wa_cv 237 rfl (wy_pr rfl) wt_237 (M2 := fun _ => False) rfl at_M_numbers ⟨_, rfl⟩ rfl rfl ⟨trivial, trivial, (Or.inr ⟨wy_pr rfl, fun q => q⟩), trivial, trivial⟩ trivial (fun _ _ q => False.elim q) ?_ (fun _ _ _ q => q)
            refine wa_aload_n (n := 0) rfl ?_
            refine wb_gf4 237 rfl (wy_pr rfl) wt_237 wf_15_139 (v := 364) wl_237_139 ?_
            refine wa_iload_n (n := 2) rfl ?_
            refine wb_lald 364 rfl (wy_pr rfl) wt_364 (n := 4200) ((ml_364 hM)) (by omega) (by omega) (v := vx) (hvx) (fun r9 => ?_)
            refine wa_lstore (n := 4) rfl ?_
            refine wa_aload_n (n := 0) rfl ?_
            refine wb_gf4 237 rfl (wy_pr rfl) wt_237 wf_15_139 (v := 364) wl_237_139 ?_
            refine wa_iload_n (n := 3) rfl ?_
            refine wb_lald 364 rfl (wy_pr rfl) wt_364 (n := 4200) ((ml_364 hM)) (by omega) (by omega) (v := vy) (hvy) (fun r10 => ?_)
            refine wa_lstore (n := 6) rfl ?_
            refine wa_iload_n (n := 1) rfl ?_
            refine wa_bipush (w_rg2 (by omega) (by omega)) ?_
            refine wa_icmpne (w_rg0 (by omega) (by omega)) (w_rg0 (by omega) (by omega)) ⟨_, rfl⟩ (fun c11 => ?_) (fun c11 => ?_)
            · skip
              refine wa_aload_n (n := 0) rfl ?_
              refine wb_gf4 237 rfl (wy_pr rfl) wt_237 wf_15_138 (v := 363) wl_237_138 ?_
              refine wa_iload_n (n := 2) rfl ?_
              refine wb_iald 363 rfl (wy_pr rfl) wt_363 (n := 4200) ((ml_363 hM)) (by omega) (by omega) (v := 2) (hkx) (fun r12 => ?_)
              refine wa_iconst ?_
              refine wa_icmpne (w_rg0 (by omega) (by omega)) (w_rg0 (by omega) (by omega)) ⟨_, rfl⟩ (fun c13 => ?_) (fun c13 => ?_)
              · skip
                exact absurd c13 (by omega)
              · skip
                refine wa_aload_n (n := 0) rfl ?_
                refine wb_gf4 237 rfl (wy_pr rfl) wt_237 wf_15_138 (v := 363) wl_237_138 ?_
                refine wa_iload_n (n := 3) rfl ?_
                refine wb_iald 363 rfl (wy_pr rfl) wt_363 (n := 4200) ((ml_363 hM)) (by omega) (by omega) (v := 2) (hky) (fun r14 => ?_)
                refine wa_iconst ?_
                refine wa_icmpeq (w_rg0 (by omega) (by omega)) (w_rg0 (by omega) (by omega)) ⟨_, rfl⟩ (fun c15 => ?_) (fun c15 => ?_)
                · skip
                  refine wa_iload_n (n := 1) rfl ?_
                  refine wa_bipush (w_rg2 (by omega) (by omega)) ?_
                  refine wa_icmpeq (w_rg0 (by omega) (by omega)) (w_rg0 (by omega) (by omega)) ⟨_, rfl⟩ (fun c16 => ?_) (fun c16 => ?_)
                  · skip
                    exact absurd c16 (by omega)
                  · skip
                    refine wa_iload_n (n := 1) rfl ?_
                    refine wa_bipush (w_rg2 (by omega) (by omega)) ?_
                    refine wa_icmpne (w_rg0 (by omega) (by omega)) (w_rg0 (by omega) (by omega)) ⟨_, rfl⟩ (fun c17 => ?_) (fun c17 => ?_)
                    · skip
                      refine wa_aload_n (n := 0) rfl ?_
                      refine wa_iconst ?_
                      refine wa_iload_n (n := 1) rfl ?_
                      refine wa_bipush (w_rg2 (by omega) (by omega)) ?_
                      refine wa_icmpne (w_rg0 (by omega) (by omega)) (w_rg0 (by omega) (by omega)) ⟨_, rfl⟩ (fun c18 => ?_) (fun c18 => ?_)
                      · skip
                        refine wa_iload_n (n := 1) rfl ?_
                        refine wa_bipush (w_rg2 (by omega) (by omega)) ?_
                        refine wa_icmpne (w_rg0 (by omega) (by omega)) (w_rg0 (by omega) (by omega)) ⟨_, rfl⟩ (fun c19 => ?_) (fun c19 => ?_)
                        · skip
                          refine wa_iload_n (n := 1) rfl ?_
                          refine wa_bipush (w_rg2 (by omega) (by omega)) ?_
                          refine wa_icmpne (w_rg0 (by omega) (by omega)) (w_rg0 (by omega) (by omega)) ⟨_, rfl⟩ (fun c20 => ?_) (fun c20 => ?_)
                          · skip
                            exact absurd c20 (by omega)
                          · skip
                            refine wa_lload (n := 4) rfl ?_
                            refine wa_lload (n := 6) rfl ?_
                            refine wa_lmul ?_
                            refine wa_goto ⟨_, rfl⟩ ?_
                            refine wJ_n1 (w64_o _) ?_
                            have hw := w64_rg (vx * vy)
                            refine wa_cv 237 rfl (wy_pr rfl) wt_237 (M2 := fun _ => False) rfl at_M_is ⟨_, rfl⟩ rfl rfl ⟨trivial, trivial, (Or.inr ⟨wy_pr rfl, fun q => q⟩), trivial, trivial, trivial, trivial⟩ trivial (fun _ _ q => False.elim q) ?_ (fun _ _ _ q => q)
                            refine wa_aload_n (n := 0) rfl ?_
                            refine wa_iload_n (n := 1) rfl ?_
                            refine wb_pfi 237 rfl (wy_pr rfl) wt_237 wf_15_110 (n := 110) rfl ⟨(by omega), (by omega)⟩ ?_
                            refine wa_aload_n (n := 0) rfl ?_
                            refine wa_lload_n (n := 2) rfl ?_
                            refine wb_pfl 237 rfl (wy_pr rfl) wt_237 wf_15_111 (n := 111) rfl ⟨(by omega), (by omega)⟩ ?_
                            refine wa_return rfl ?_
                            show wJ _ _ _ _ _ _ _ _ _ _
                            refine wa_return rfl ?_
                            show wJ _ _ _ _ _ _ _ _ _ _
                            refine wa_goto ⟨_, rfl⟩ ?_
                            refine wa_aload_n (n := 0) rfl ?_
                            refine wb_gf4 237 rfl (wy_pr rfl) wt_237 wf_15_134 (v := 359) wl_237_134 ?_
                            refine wa_aload_n (n := 0) rfl ?_
                            refine wb_gfi 237 rfl (wy_pr rfl) wt_237 wf_15_151 (v := t) ((w_up_at (by decide)).trans ((w_up_at (by decide)).trans (mt))) (fun r21 => ?_)
                            refine wa_dup2 (by decide) (by decide) ?_
                            refine wb_iald 359 rfl (wy_pr rfl) wt_359 (n := 2) ((w_up_slot (by decide)).trans ((w_up_slot (by decide)).trans ((ml_359 hM)))) (by omega) (by omega) (v := h) ((w_up_slot (by decide)).trans ((w_up_slot (by decide)).trans (mh))) (fun r22 => ?_)
                            refine wa_iconst ?_
                            refine wa_isub ?_
                            refine wb_iast 359 rfl (wy_pr rfl) wt_359 (n := 2) ((w_up_slot (by decide)).trans ((w_up_slot (by decide)).trans ((ml_359 hM)))) (by omega) (by omega) ⟨(by omega), (by omega)⟩ ?_
                            refine wa_aload_n (n := 0) rfl ?_
                            refine wb_gf4 237 rfl (wy_pr rfl) wt_237 wf_15_138 (v := 363) wl_237_138 ?_
                            refine wa_iload_n (n := 3) rfl ?_
                            refine wa_aload_n (n := 0) rfl ?_
                            refine wb_gfi 237 rfl (wy_pr rfl) wt_237 wf_15_110 (v := 2) ((w_up_slot (by decide)).trans ((w_up_at (by decide)).trans (w_up_same _ _ _ _))) (fun r23 => ?_)
                            refine wb_iast 363 rfl (wy_pr rfl) wt_363 (n := 4200) ((w_up_slot (by decide)).trans ((w_up_slot (by decide)).trans ((w_up_slot (by decide)).trans ((ml_363 hM))))) (by omega) (by omega) ⟨(by omega), (by omega)⟩ ?_
                            refine wa_aload_n (n := 0) rfl ?_
                            refine wb_gf4 237 rfl (wy_pr rfl) wt_237 wf_15_139 (v := 364) wl_237_139 ?_
                            refine wa_iload_n (n := 3) rfl ?_
                            refine wa_aload_n (n := 0) rfl ?_
                            refine wb_gfl 237 rfl (wy_pr rfl) wt_237 wf_15_111 (v := (w64 (vx * vy))) ((w_up_slot (by decide)).trans ((w_up_slot (by decide)).trans (w_up_same _ _ _ _))) (fun r24 => ?_)
                            refine wb_last 364 rfl (wy_pr rfl) wt_364 (n := 4200) ((w_up_slot (by decide)).trans ((w_up_slot (by decide)).trans ((w_up_slot (by decide)).trans ((w_up_slot (by decide)).trans ((ml_364 hM)))))) (by omega) (by omega) ⟨(by omega), (by omega)⟩ ?_
                            refine wa_fall ⟨_, rfl⟩ ?_
                            refine wa_return rfl ?_
                            exact ⟨rfl, rfl⟩
                        · skip
                          exact absurd c19 (by omega)
                      · skip
                        exact absurd c18 (by omega)
                    · skip
                      exact absurd c17 (by omega)
                · skip
                  exact absurd c15 (by omega)
            · skip
              exact absurd c11 (by omega)
        · skip
          exact absurd c7 (by omega)
      · skip
        exact absurd c6 (by omega)
    · skip
      exact absurd c5 (by omega)
  · skip
    exact absurd c4 (by omega)
theorem y10 {t c p h tp vx vy : Int} (hP : mP t c p h tp S) (hky : S 363 (2100 * t + h - 1) = 2) (hvy : S 364 (2100 * t + h - 1) = vy) (hkx : S 363 (2100 * t + h - 1 - 1) = 2) (hvx : S 364 (2100 * t + h - 1 - 1) = vx) (hh1 : 2 ≤ h) (hy0 : vy ≠ 0) : wJ (pe_GA xs) wY0 M (d + 11) t_M_operators ((pe_at t_M_operators.bl 0).getD (0, [])).2 [(0, (2, 237)), (1, (0, 10))] [] S (fun o Z => o = .inl none ∧ pXZ t h 2 (wb_ldiv vx vy) S = Z) := by
  obtain ⟨hM, ⟨mt, mt0, mt1⟩, mp, mf, ⟨mc, mc0, mc1⟩, ⟨mtp, mtq⟩, ⟨mpa, mp0, mp1⟩, mh, mh0, mh1⟩ := hP
  refine wa_aload_n (n := 0) rfl ?_
  refine wa_cv 237 rfl (wy_pr rfl) wt_237 (M2 := fun _ => False) rfl at_M_h ⟨_, rfl⟩ rfl rfl ⟨(Or.inr ⟨wy_pr rfl, fun q => q⟩), trivial, trivial⟩ trivial (fun _ _ q => False.elim q) ?_ (fun _ _ _ q => q)
  refine wa_aload_n (n := 0) rfl ?_
  refine wb_gfi 237 rfl (wy_pr rfl) wt_237 wf_15_152 (v := (2100 * t)) (mp) (fun r1 => ?_)
  refine wa_aload_n (n := 0) rfl ?_
  refine wb_gf4 237 rfl (wy_pr rfl) wt_237 wf_15_134 (v := 359) wl_237_134 ?_
  refine wa_aload_n (n := 0) rfl ?_
  refine wb_gfi 237 rfl (wy_pr rfl) wt_237 wf_15_151 (v := t) (mt) (fun r2 => ?_)
  refine wb_iald 359 rfl (wy_pr rfl) wt_359 (n := 2) ((ml_359 hM)) (by omega) (by omega) (v := h) (mh) (fun r3 => ?_)
  refine wa_iadd ?_
  refine wa_ireturn rfl ?_
  show wJ _ _ _ _ _ _ _ _ _ _
  refine wa_iconst ?_
  refine wa_isub ?_
  refine wa_istore_n (n := 2) rfl ?_
  refine wa_iload_n (n := 2) rfl ?_
  refine wa_iconst ?_
  refine wa_isub ?_
  refine wa_istore_n (n := 3) rfl ?_
  refine wa_iload_n (n := 1) rfl ?_
  refine wa_iconst ?_
  refine wa_icmpne (w_rg0 (by omega) (by omega)) (w_rg0 (by omega) (by omega)) ⟨_, rfl⟩ (fun c4 => ?_) (fun c4 => ?_)
  · skip
    refine wa_iload_n (n := 1) rfl ?_
    refine wa_bipush (w_rg2 (by omega) (by omega)) ?_
    refine wa_icmpne (w_rg0 (by omega) (by omega)) (w_rg0 (by omega) (by omega)) ⟨_, rfl⟩ (fun c5 => ?_) (fun c5 => ?_)
    · skip
      refine wa_iload_n (n := 1) rfl ?_
      refine wa_bipush (w_rg2 (by omega) (by omega)) ?_
      refine wa_icmpne (w_rg0 (by omega) (by omega)) (w_rg0 (by omega) (by omega)) ⟨_, rfl⟩ (fun c6 => ?_) (fun c6 => ?_)
      · skip
        refine wa_iload_n (n := 1) rfl ?_
        refine wa_bipush (w_rg2 (by omega) (by omega)) ?_
        refine wa_icmpne (w_rg0 (by omega) (by omega)) (w_rg0 (by omega) (by omega)) ⟨_, rfl⟩ (fun c7 => ?_) (fun c7 => ?_)
        · skip
          refine wa_iload_n (n := 1) rfl ?_
          refine wa_bipush (w_rg2 (by omega) (by omega)) ?_
          refine wa_icmpge (w_rg0 (by omega) (by omega)) (w_rg0 (by omega) (by omega)) ⟨_, rfl⟩ (fun c8 => ?_) (fun c8 => ?_)
          · skip
            exact absurd c8 (by omega)
          · skip
            refine wa_aload_n (n := 0) rfl ?_
            refine wa_iload_n (n := 1) rfl ?_
            refine wa_iload_n (n := 3) rfl ?_
            refine wa_iload_n (n := 2) rfl ?_
            refine wa_cv 237 rfl (wy_pr rfl) wt_237 (M2 := fun _ => False) rfl at_M_numbers ⟨_, rfl⟩ rfl rfl ⟨trivial, trivial, (Or.inr ⟨wy_pr rfl, fun q => q⟩), trivial, trivial⟩ trivial (fun _ _ q => False.elim q) ?_ (fun _ _ _ q => q)
            refine wa_aload_n (n := 0) rfl ?_
            refine wb_gf4 237 rfl (wy_pr rfl) wt_237 wf_15_139 (v := 364) wl_237_139 ?_
            refine wa_iload_n (n := 2) rfl ?_
            refine wb_lald 364 rfl (wy_pr rfl) wt_364 (n := 4200) ((ml_364 hM)) (by omega) (by omega) (v := vx) (hvx) (fun r9 => ?_)
            refine wa_lstore (n := 4) rfl ?_
            refine wa_aload_n (n := 0) rfl ?_
            refine wb_gf4 237 rfl (wy_pr rfl) wt_237 wf_15_139 (v := 364) wl_237_139 ?_
            refine wa_iload_n (n := 3) rfl ?_
            refine wb_lald 364 rfl (wy_pr rfl) wt_364 (n := 4200) ((ml_364 hM)) (by omega) (by omega) (v := vy) (hvy) (fun r10 => ?_)
            refine wa_lstore (n := 6) rfl ?_
            refine wa_iload_n (n := 1) rfl ?_
            refine wa_bipush (w_rg2 (by omega) (by omega)) ?_
            refine wa_icmpne (w_rg0 (by omega) (by omega)) (w_rg0 (by omega) (by omega)) ⟨_, rfl⟩ (fun c11 => ?_) (fun c11 => ?_)
            · skip
              refine wa_aload_n (n := 0) rfl ?_
              refine wb_gf4 237 rfl (wy_pr rfl) wt_237 wf_15_138 (v := 363) wl_237_138 ?_
              refine wa_iload_n (n := 2) rfl ?_
              refine wb_iald 363 rfl (wy_pr rfl) wt_363 (n := 4200) ((ml_363 hM)) (by omega) (by omega) (v := 2) (hkx) (fun r12 => ?_)
              refine wa_iconst ?_
              refine wa_icmpne (w_rg0 (by omega) (by omega)) (w_rg0 (by omega) (by omega)) ⟨_, rfl⟩ (fun c13 => ?_) (fun c13 => ?_)
              · skip
                exact absurd c13 (by omega)
              · skip
                refine wa_aload_n (n := 0) rfl ?_
                refine wb_gf4 237 rfl (wy_pr rfl) wt_237 wf_15_138 (v := 363) wl_237_138 ?_
                refine wa_iload_n (n := 3) rfl ?_
                refine wb_iald 363 rfl (wy_pr rfl) wt_363 (n := 4200) ((ml_363 hM)) (by omega) (by omega) (v := 2) (hky) (fun r14 => ?_)
                refine wa_iconst ?_
                refine wa_icmpeq (w_rg0 (by omega) (by omega)) (w_rg0 (by omega) (by omega)) ⟨_, rfl⟩ (fun c15 => ?_) (fun c15 => ?_)
                · skip
                  refine wa_iload_n (n := 1) rfl ?_
                  refine wa_bipush (w_rg2 (by omega) (by omega)) ?_
                  refine wa_icmpeq (w_rg0 (by omega) (by omega)) (w_rg0 (by omega) (by omega)) ⟨_, rfl⟩ (fun c16 => ?_) (fun c16 => ?_)
                  · skip
                    refine wa_lload (n := 6) rfl ?_
                    refine wb_lconst (m := 0) rfl ?_
                    refine wa_lcmp (w_rg1 (by omega) (by omega)) (w_rg1 (by omega) (by omega)) ?_
                    refine wa_ifne (by have := @wb_lcmp_cases; exact w_lcmp_rg) ⟨_, rfl⟩ (fun c17 => ?_) (fun c17 => ?_)
                    · skip
                      have c17x := @wb_lcmp_cases vy 0
                      refine wa_aload_n (n := 0) rfl ?_
                      refine wa_iconst ?_
                      refine wa_iload_n (n := 1) rfl ?_
                      refine wa_bipush (w_rg2 (by omega) (by omega)) ?_
                      refine wa_icmpne (w_rg0 (by omega) (by omega)) (w_rg0 (by omega) (by omega)) ⟨_, rfl⟩ (fun c18 => ?_) (fun c18 => ?_)
                      · skip
                        refine wa_iload_n (n := 1) rfl ?_
                        refine wa_bipush (w_rg2 (by omega) (by omega)) ?_
                        refine wa_icmpne (w_rg0 (by omega) (by omega)) (w_rg0 (by omega) (by omega)) ⟨_, rfl⟩ (fun c19 => ?_) (fun c19 => ?_)
                        · skip
                          refine wa_iload_n (n := 1) rfl ?_
                          refine wa_bipush (w_rg2 (by omega) (by omega)) ?_
                          refine wa_icmpne (w_rg0 (by omega) (by omega)) (w_rg0 (by omega) (by omega)) ⟨_, rfl⟩ (fun c20 => ?_) (fun c20 => ?_)
                          · skip
                            refine wa_iload_n (n := 1) rfl ?_
                            refine wa_bipush (w_rg2 (by omega) (by omega)) ?_
                            refine wa_icmpne (w_rg0 (by omega) (by omega)) (w_rg0 (by omega) (by omega)) ⟨_, rfl⟩ (fun c21 => ?_) (fun c21 => ?_)
                            · skip
                              exact absurd c21 (by omega)
                            · skip
                              refine wa_lload (n := 6) rfl ?_
                              refine wb_kl (n := (-1)) rfl ?_
                              refine wa_lcmp (w_rg1 (by omega) (by omega)) (w_rg1 (by omega) (by omega)) ?_
                              refine wa_ifne (by have := @wb_lcmp_cases; exact w_lcmp_rg) ⟨_, rfl⟩ (fun c22 => ?_) (fun c22 => ?_)
                              · skip
                                have c22x := @wb_lcmp_cases vy (-1)
                                refine wa_lload (n := 4) rfl ?_
                                refine wa_lload (n := 6) rfl ?_
                                refine wa_ldiv (w_rg1 (by omega) (by omega)) (by omega) ?_
                                refine wa_goto ⟨_, rfl⟩ ?_
                                have hw := wb_ldiv_rg vx vy
                                refine wa_cv 237 rfl (wy_pr rfl) wt_237 (M2 := fun _ => False) rfl at_M_is ⟨_, rfl⟩ rfl rfl ⟨trivial, trivial, (Or.inr ⟨wy_pr rfl, fun q => q⟩), trivial, trivial, trivial, trivial⟩ trivial (fun _ _ q => False.elim q) ?_ (fun _ _ _ q => q)
                                refine wa_aload_n (n := 0) rfl ?_
                                refine wa_iload_n (n := 1) rfl ?_
                                refine wb_pfi 237 rfl (wy_pr rfl) wt_237 wf_15_110 (n := 110) rfl ⟨(by omega), (by omega)⟩ ?_
                                refine wa_aload_n (n := 0) rfl ?_
                                refine wa_lload_n (n := 2) rfl ?_
                                refine wb_pfl 237 rfl (wy_pr rfl) wt_237 wf_15_111 (n := 111) rfl ⟨(by omega), (by omega)⟩ ?_
                                refine wa_return rfl ?_
                                show wJ _ _ _ _ _ _ _ _ _ _
                                refine wa_return rfl ?_
                                show wJ _ _ _ _ _ _ _ _ _ _
                                refine wa_goto ⟨_, rfl⟩ ?_
                                refine wa_aload_n (n := 0) rfl ?_
                                refine wb_gf4 237 rfl (wy_pr rfl) wt_237 wf_15_134 (v := 359) wl_237_134 ?_
                                refine wa_aload_n (n := 0) rfl ?_
                                refine wb_gfi 237 rfl (wy_pr rfl) wt_237 wf_15_151 (v := t) ((w_up_at (by decide)).trans ((w_up_at (by decide)).trans (mt))) (fun r23 => ?_)
                                refine wa_dup2 (by decide) (by decide) ?_
                                refine wb_iald 359 rfl (wy_pr rfl) wt_359 (n := 2) ((w_up_slot (by decide)).trans ((w_up_slot (by decide)).trans ((ml_359 hM)))) (by omega) (by omega) (v := h) ((w_up_slot (by decide)).trans ((w_up_slot (by decide)).trans (mh))) (fun r24 => ?_)
                                refine wa_iconst ?_
                                refine wa_isub ?_
                                refine wb_iast 359 rfl (wy_pr rfl) wt_359 (n := 2) ((w_up_slot (by decide)).trans ((w_up_slot (by decide)).trans ((ml_359 hM)))) (by omega) (by omega) ⟨(by omega), (by omega)⟩ ?_
                                refine wa_aload_n (n := 0) rfl ?_
                                refine wb_gf4 237 rfl (wy_pr rfl) wt_237 wf_15_138 (v := 363) wl_237_138 ?_
                                refine wa_iload_n (n := 3) rfl ?_
                                refine wa_aload_n (n := 0) rfl ?_
                                refine wb_gfi 237 rfl (wy_pr rfl) wt_237 wf_15_110 (v := 2) ((w_up_slot (by decide)).trans ((w_up_at (by decide)).trans (w_up_same _ _ _ _))) (fun r25 => ?_)
                                refine wb_iast 363 rfl (wy_pr rfl) wt_363 (n := 4200) ((w_up_slot (by decide)).trans ((w_up_slot (by decide)).trans ((w_up_slot (by decide)).trans ((ml_363 hM))))) (by omega) (by omega) ⟨(by omega), (by omega)⟩ ?_
                                refine wa_aload_n (n := 0) rfl ?_
                                refine wb_gf4 237 rfl (wy_pr rfl) wt_237 wf_15_139 (v := 364) wl_237_139 ?_
                                refine wa_iload_n (n := 3) rfl ?_
                                refine wa_aload_n (n := 0) rfl ?_
                                refine wb_gfl 237 rfl (wy_pr rfl) wt_237 wf_15_111 (v := (wb_ldiv vx vy)) ((w_up_slot (by decide)).trans ((w_up_slot (by decide)).trans (w_up_same _ _ _ _))) (fun r26 => ?_)
                                refine wb_last 364 rfl (wy_pr rfl) wt_364 (n := 4200) ((w_up_slot (by decide)).trans ((w_up_slot (by decide)).trans ((w_up_slot (by decide)).trans ((w_up_slot (by decide)).trans ((ml_364 hM)))))) (by omega) (by omega) ⟨(by omega), (by omega)⟩ ?_
                                refine wa_fall ⟨_, rfl⟩ ?_
                                refine wa_return rfl ?_
                                exact ⟨rfl, rfl⟩
                              · skip
                                have c22x := @wb_lcmp_cases vy (-1)
                                refine wa_lload (n := 4) rfl ?_
                                refine wa_lneg ?_
                                refine wa_goto ⟨_, rfl⟩ ?_
                                refine wJ_n1 (w64_o _) ?_
                                have hw := w64_rg (-vx)
                                refine wa_cv 237 rfl (wy_pr rfl) wt_237 (M2 := fun _ => False) rfl at_M_is ⟨_, rfl⟩ rfl rfl ⟨trivial, trivial, (Or.inr ⟨wy_pr rfl, fun q => q⟩), trivial, trivial, trivial, trivial⟩ trivial (fun _ _ q => False.elim q) ?_ (fun _ _ _ q => q)
                                refine wa_aload_n (n := 0) rfl ?_
                                refine wa_iload_n (n := 1) rfl ?_
                                refine wb_pfi 237 rfl (wy_pr rfl) wt_237 wf_15_110 (n := 110) rfl ⟨(by omega), (by omega)⟩ ?_
                                refine wa_aload_n (n := 0) rfl ?_
                                refine wa_lload_n (n := 2) rfl ?_
                                refine wb_pfl 237 rfl (wy_pr rfl) wt_237 wf_15_111 (n := 111) rfl ⟨(by omega), (by omega)⟩ ?_
                                refine wa_return rfl ?_
                                show wJ _ _ _ _ _ _ _ _ _ _
                                refine wa_return rfl ?_
                                show wJ _ _ _ _ _ _ _ _ _ _
                                refine wa_goto ⟨_, rfl⟩ ?_
                                refine wa_aload_n (n := 0) rfl ?_
                                refine wb_gf4 237 rfl (wy_pr rfl) wt_237 wf_15_134 (v := 359) wl_237_134 ?_
                                refine wa_aload_n (n := 0) rfl ?_
                                refine wb_gfi 237 rfl (wy_pr rfl) wt_237 wf_15_151 (v := t) ((w_up_at (by decide)).trans ((w_up_at (by decide)).trans (mt))) (fun r27 => ?_)
                                refine wa_dup2 (by decide) (by decide) ?_
                                refine wb_iald 359 rfl (wy_pr rfl) wt_359 (n := 2) ((w_up_slot (by decide)).trans ((w_up_slot (by decide)).trans ((ml_359 hM)))) (by omega) (by omega) (v := h) ((w_up_slot (by decide)).trans ((w_up_slot (by decide)).trans (mh))) (fun r28 => ?_)
                                refine wa_iconst ?_
                                refine wa_isub ?_
                                refine wb_iast 359 rfl (wy_pr rfl) wt_359 (n := 2) ((w_up_slot (by decide)).trans ((w_up_slot (by decide)).trans ((ml_359 hM)))) (by omega) (by omega) ⟨(by omega), (by omega)⟩ ?_
                                refine wa_aload_n (n := 0) rfl ?_
                                refine wb_gf4 237 rfl (wy_pr rfl) wt_237 wf_15_138 (v := 363) wl_237_138 ?_
                                refine wa_iload_n (n := 3) rfl ?_
                                refine wa_aload_n (n := 0) rfl ?_
                                refine wb_gfi 237 rfl (wy_pr rfl) wt_237 wf_15_110 (v := 2) ((w_up_slot (by decide)).trans ((w_up_at (by decide)).trans (w_up_same _ _ _ _))) (fun r29 => ?_)
                                refine wb_iast 363 rfl (wy_pr rfl) wt_363 (n := 4200) ((w_up_slot (by decide)).trans ((w_up_slot (by decide)).trans ((w_up_slot (by decide)).trans ((ml_363 hM))))) (by omega) (by omega) ⟨(by omega), (by omega)⟩ ?_
                                refine wa_aload_n (n := 0) rfl ?_
                                refine wb_gf4 237 rfl (wy_pr rfl) wt_237 wf_15_139 (v := 364) wl_237_139 ?_
                                refine wa_iload_n (n := 3) rfl ?_
                                refine wa_aload_n (n := 0) rfl ?_
                                refine wb_gfl 237 rfl (wy_pr rfl) wt_237 wf_15_111 (v := (w64 (-vx))) ((w_up_slot (by decide)).trans ((w_up_slot (by decide)).trans (w_up_same _ _ _ _))) (fun r30 => ?_)
                                refine wb_last 364 rfl (wy_pr rfl) wt_364 (n := 4200) ((w_up_slot (by decide)).trans ((w_up_slot (by decide)).trans ((w_up_slot (by decide)).trans ((w_up_slot (by decide)).trans ((ml_364 hM)))))) (by omega) (by omega) ⟨(by omega), (by omega)⟩ ?_
                                refine wa_fall ⟨_, rfl⟩ ?_
                                refine wa_return rfl ?_
                                rw [show vy = -1 by omega, ld_m1 ⟨by omega, by omega⟩]
                                exact ⟨rfl, rfl⟩
                          · skip
                            exact absurd c20 (by omega)
                        · skip
                          exact absurd c19 (by omega)
                      · skip
                        exact absurd c18 (by omega)
                    · skip
                      have c17x := @wb_lcmp_cases vy 0
                      exfalso; omega
                  · skip
                    exact absurd c16 (by omega)
                · skip
                  exact absurd c15 (by omega)
            · skip
              exact absurd c11 (by omega)
        · skip
          exact absurd c7 (by omega)
      · skip
        exact absurd c6 (by omega)
    · skip
      exact absurd c5 (by omega)
  · skip
    exact absurd c4 (by omega)
theorem y10e {t c p h tp vx : Int} (hP : mP t c p h tp S) (hky : S 363 (2100 * t + h - 1) = 2) (hvy : S 364 (2100 * t + h - 1) = 0) (hkx : S 363 (2100 * t + h - 1 - 1) = 2) (hvx : S 364 (2100 * t + h - 1 - 1) = vx) (hh1 : 2 ≤ h) : wJ (pe_GA xs) wY0 M (d + 11) t_M_operators ((pe_at t_M_operators.bl 0).getD (0, [])).2 [(0, (2, 237)), (1, (0, 10))] [] S (fun o Z => o = .inr 238 ∧ hZ 2 S = Z) := by
  obtain ⟨hM, ⟨mt, mt0, mt1⟩, mp, mf, ⟨mc, mc0, mc1⟩, ⟨mtp, mtq⟩, ⟨mpa, mp0, mp1⟩, mh, mh0, mh1⟩ := hP
  refine wa_aload_n (n := 0) rfl ?_
  refine wa_cv 237 rfl (wy_pr rfl) wt_237 (M2 := fun _ => False) rfl at_M_h ⟨_, rfl⟩ rfl rfl ⟨(Or.inr ⟨wy_pr rfl, fun q => q⟩), trivial, trivial⟩ trivial (fun _ _ q => False.elim q) ?_ (fun _ _ _ q => q)
  refine wa_aload_n (n := 0) rfl ?_
  refine wb_gfi 237 rfl (wy_pr rfl) wt_237 wf_15_152 (v := (2100 * t)) (mp) (fun r1 => ?_)
  refine wa_aload_n (n := 0) rfl ?_
  refine wb_gf4 237 rfl (wy_pr rfl) wt_237 wf_15_134 (v := 359) wl_237_134 ?_
  refine wa_aload_n (n := 0) rfl ?_
  refine wb_gfi 237 rfl (wy_pr rfl) wt_237 wf_15_151 (v := t) (mt) (fun r2 => ?_)
  refine wb_iald 359 rfl (wy_pr rfl) wt_359 (n := 2) ((ml_359 hM)) (by omega) (by omega) (v := h) (mh) (fun r3 => ?_)
  refine wa_iadd ?_
  refine wa_ireturn rfl ?_
  show wJ _ _ _ _ _ _ _ _ _ _
  refine wa_iconst ?_
  refine wa_isub ?_
  refine wa_istore_n (n := 2) rfl ?_
  refine wa_iload_n (n := 2) rfl ?_
  refine wa_iconst ?_
  refine wa_isub ?_
  refine wa_istore_n (n := 3) rfl ?_
  refine wa_iload_n (n := 1) rfl ?_
  refine wa_iconst ?_
  refine wa_icmpne (w_rg0 (by omega) (by omega)) (w_rg0 (by omega) (by omega)) ⟨_, rfl⟩ (fun c4 => ?_) (fun c4 => ?_)
  · skip
    refine wa_iload_n (n := 1) rfl ?_
    refine wa_bipush (w_rg2 (by omega) (by omega)) ?_
    refine wa_icmpne (w_rg0 (by omega) (by omega)) (w_rg0 (by omega) (by omega)) ⟨_, rfl⟩ (fun c5 => ?_) (fun c5 => ?_)
    · skip
      refine wa_iload_n (n := 1) rfl ?_
      refine wa_bipush (w_rg2 (by omega) (by omega)) ?_
      refine wa_icmpne (w_rg0 (by omega) (by omega)) (w_rg0 (by omega) (by omega)) ⟨_, rfl⟩ (fun c6 => ?_) (fun c6 => ?_)
      · skip
        refine wa_iload_n (n := 1) rfl ?_
        refine wa_bipush (w_rg2 (by omega) (by omega)) ?_
        refine wa_icmpne (w_rg0 (by omega) (by omega)) (w_rg0 (by omega) (by omega)) ⟨_, rfl⟩ (fun c7 => ?_) (fun c7 => ?_)
        · skip
          refine wa_iload_n (n := 1) rfl ?_
          refine wa_bipush (w_rg2 (by omega) (by omega)) ?_
          refine wa_icmpge (w_rg0 (by omega) (by omega)) (w_rg0 (by omega) (by omega)) ⟨_, rfl⟩ (fun c8 => ?_) (fun c8 => ?_)
          · skip
            exact absurd c8 (by omega)
          · skip
            refine wa_aload_n (n := 0) rfl ?_
            refine wa_iload_n (n := 1) rfl ?_
            refine wa_iload_n (n := 3) rfl ?_
            refine wa_iload_n (n := 2) rfl ?_
            refine wa_cv 237 rfl (wy_pr rfl) wt_237 (M2 := fun _ => False) rfl at_M_numbers ⟨_, rfl⟩ rfl rfl ⟨trivial, trivial, (Or.inr ⟨wy_pr rfl, fun q => q⟩), trivial, trivial⟩ trivial (fun _ _ q => False.elim q) ?_ (fun _ _ _ q => q)
            refine wa_aload_n (n := 0) rfl ?_
            refine wb_gf4 237 rfl (wy_pr rfl) wt_237 wf_15_139 (v := 364) wl_237_139 ?_
            refine wa_iload_n (n := 2) rfl ?_
            refine wb_lald 364 rfl (wy_pr rfl) wt_364 (n := 4200) ((ml_364 hM)) (by omega) (by omega) (v := vx) (hvx) (fun r9 => ?_)
            refine wa_lstore (n := 4) rfl ?_
            refine wa_aload_n (n := 0) rfl ?_
            refine wb_gf4 237 rfl (wy_pr rfl) wt_237 wf_15_139 (v := 364) wl_237_139 ?_
            refine wa_iload_n (n := 3) rfl ?_
            refine wb_lald 364 rfl (wy_pr rfl) wt_364 (n := 4200) ((ml_364 hM)) (by omega) (by omega) (v := 0) (hvy) (fun r10 => ?_)
            refine wa_lstore (n := 6) rfl ?_
            refine wa_iload_n (n := 1) rfl ?_
            refine wa_bipush (w_rg2 (by omega) (by omega)) ?_
            refine wa_icmpne (w_rg0 (by omega) (by omega)) (w_rg0 (by omega) (by omega)) ⟨_, rfl⟩ (fun c11 => ?_) (fun c11 => ?_)
            · skip
              refine wa_aload_n (n := 0) rfl ?_
              refine wb_gf4 237 rfl (wy_pr rfl) wt_237 wf_15_138 (v := 363) wl_237_138 ?_
              refine wa_iload_n (n := 2) rfl ?_
              refine wb_iald 363 rfl (wy_pr rfl) wt_363 (n := 4200) ((ml_363 hM)) (by omega) (by omega) (v := 2) (hkx) (fun r12 => ?_)
              refine wa_iconst ?_
              refine wa_icmpne (w_rg0 (by omega) (by omega)) (w_rg0 (by omega) (by omega)) ⟨_, rfl⟩ (fun c13 => ?_) (fun c13 => ?_)
              · skip
                exact absurd c13 (by omega)
              · skip
                refine wa_aload_n (n := 0) rfl ?_
                refine wb_gf4 237 rfl (wy_pr rfl) wt_237 wf_15_138 (v := 363) wl_237_138 ?_
                refine wa_iload_n (n := 3) rfl ?_
                refine wb_iald 363 rfl (wy_pr rfl) wt_363 (n := 4200) ((ml_363 hM)) (by omega) (by omega) (v := 2) (hky) (fun r14 => ?_)
                refine wa_iconst ?_
                refine wa_icmpeq (w_rg0 (by omega) (by omega)) (w_rg0 (by omega) (by omega)) ⟨_, rfl⟩ (fun c15 => ?_) (fun c15 => ?_)
                · skip
                  refine wa_iload_n (n := 1) rfl ?_
                  refine wa_bipush (w_rg2 (by omega) (by omega)) ?_
                  refine wa_icmpeq (w_rg0 (by omega) (by omega)) (w_rg0 (by omega) (by omega)) ⟨_, rfl⟩ (fun c16 => ?_) (fun c16 => ?_)
                  · skip
                    refine wa_lload (n := 6) rfl ?_
                    refine wb_lconst (m := 0) rfl ?_
                    refine wa_lcmp (w_rg1 (by omega) (by omega)) (w_rg1 (by omega) (by omega)) ?_
                    refine wa_ifne (by have := @wb_lcmp_cases; exact w_lcmp_rg) ⟨_, rfl⟩ (fun c17 => ?_) (fun c17 => ?_)
                    · skip
                      have c17x := @wb_lcmp_cases 0 0
                      exfalso; omega
                    · skip
                      have c17x := @wb_lcmp_cases 0 0
                      refine wa_aload_n (n := 0) rfl ?_
                      refine wa_iconst ?_
                      refine wa_cv 237 rfl (wy_pr rfl) wt_237 (M2 := fun _ => False) rfl at_M_error ⟨_, rfl⟩ rfl rfl ⟨trivial, trivial, (Or.inr ⟨wy_pr rfl, fun q => q⟩), trivial, trivial, trivial, trivial⟩ trivial (fun _ _ q => False.elim q) ?_ (fun _ _ _ q => q)
                      refine wa_aload_n (n := 0) rfl ?_
                      refine wb_gf4 237 rfl (wy_pr rfl) wt_237 wf_15_1 (v := 238) wl_237_1 ?_
                      refine wa_iload_n (n := 1) rfl ?_
                      refine wa_iconst ?_
                      refine wa_cv 238 rfl (wy_pr rfl) wt_238 (M2 := fun _ => False) rfl at_MH_of ⟨_, rfl⟩ rfl rfl ⟨(Or.inr ⟨wy_pr rfl, fun q => q⟩), trivial, trivial⟩ trivial (fun _ _ q => False.elim q) ?_ (fun _ _ _ q => q)
                      refine wa_aload_n (n := 0) rfl ?_
                      refine wa_iload_n (n := 1) rfl ?_
                      refine wb_pfi 238 rfl (wy_pr rfl) wt_238 wf_11_5 (n := 5) rfl ⟨(by omega), (by omega)⟩ ?_
                      refine wa_aload_n (n := 0) rfl ?_
                      refine wa_iload_n (n := 2) rfl ?_
                      refine wb_pfi 238 rfl (wy_pr rfl) wt_238 wf_11_6 (n := 6) rfl ⟨(by omega), (by omega)⟩ ?_
                      refine wa_aload_n (n := 0) rfl ?_
                      refine wa_oreturn rfl ?_
                      show wJ _ _ _ _ _ _ _ _ _ _
                      refine wa_th (j := 238) ?_
                      refine ⟨rfl, ?_⟩
                      refine ⟨rfl, ?_⟩
                      exact ⟨rfl, rfl⟩
                  · skip
                    exact absurd c16 (by omega)
                · skip
                  exact absurd c15 (by omega)
            · skip
              exact absurd c11 (by omega)
        · skip
          exact absurd c7 (by omega)
      · skip
        exact absurd c6 (by omega)
    · skip
      exact absurd c5 (by omega)
  · skip
    exact absurd c4 (by omega)
theorem y11 {t c p h tp vx vy : Int} (hP : mP t c p h tp S) (hky : S 363 (2100 * t + h - 1) = 2) (hvy : S 364 (2100 * t + h - 1) = vy) (hkx : S 363 (2100 * t + h - 1 - 1) = 2) (hvx : S 364 (2100 * t + h - 1 - 1) = vx) (hh1 : 2 ≤ h) (hy0 : vy ≠ 0) : wJ (pe_GA xs) wY0 M (d + 11) t_M_operators ((pe_at t_M_operators.bl 0).getD (0, [])).2 [(0, (2, 237)), (1, (0, 11))] [] S (fun o Z => o = .inl none ∧ pXZ t h 2 (wb_lrem vx vy) S = Z) := by
  obtain ⟨hM, ⟨mt, mt0, mt1⟩, mp, mf, ⟨mc, mc0, mc1⟩, ⟨mtp, mtq⟩, ⟨mpa, mp0, mp1⟩, mh, mh0, mh1⟩ := hP
  refine wa_aload_n (n := 0) rfl ?_
  refine wa_cv 237 rfl (wy_pr rfl) wt_237 (M2 := fun _ => False) rfl at_M_h ⟨_, rfl⟩ rfl rfl ⟨(Or.inr ⟨wy_pr rfl, fun q => q⟩), trivial, trivial⟩ trivial (fun _ _ q => False.elim q) ?_ (fun _ _ _ q => q)
  refine wa_aload_n (n := 0) rfl ?_
  refine wb_gfi 237 rfl (wy_pr rfl) wt_237 wf_15_152 (v := (2100 * t)) (mp) (fun r1 => ?_)
  refine wa_aload_n (n := 0) rfl ?_
  refine wb_gf4 237 rfl (wy_pr rfl) wt_237 wf_15_134 (v := 359) wl_237_134 ?_
  refine wa_aload_n (n := 0) rfl ?_
  refine wb_gfi 237 rfl (wy_pr rfl) wt_237 wf_15_151 (v := t) (mt) (fun r2 => ?_)
  refine wb_iald 359 rfl (wy_pr rfl) wt_359 (n := 2) ((ml_359 hM)) (by omega) (by omega) (v := h) (mh) (fun r3 => ?_)
  refine wa_iadd ?_
  refine wa_ireturn rfl ?_
  show wJ _ _ _ _ _ _ _ _ _ _
  refine wa_iconst ?_
  refine wa_isub ?_
  refine wa_istore_n (n := 2) rfl ?_
  refine wa_iload_n (n := 2) rfl ?_
  refine wa_iconst ?_
  refine wa_isub ?_
  refine wa_istore_n (n := 3) rfl ?_
  refine wa_iload_n (n := 1) rfl ?_
  refine wa_iconst ?_
  refine wa_icmpne (w_rg0 (by omega) (by omega)) (w_rg0 (by omega) (by omega)) ⟨_, rfl⟩ (fun c4 => ?_) (fun c4 => ?_)
  · skip
    refine wa_iload_n (n := 1) rfl ?_
    refine wa_bipush (w_rg2 (by omega) (by omega)) ?_
    refine wa_icmpne (w_rg0 (by omega) (by omega)) (w_rg0 (by omega) (by omega)) ⟨_, rfl⟩ (fun c5 => ?_) (fun c5 => ?_)
    · skip
      refine wa_iload_n (n := 1) rfl ?_
      refine wa_bipush (w_rg2 (by omega) (by omega)) ?_
      refine wa_icmpne (w_rg0 (by omega) (by omega)) (w_rg0 (by omega) (by omega)) ⟨_, rfl⟩ (fun c6 => ?_) (fun c6 => ?_)
      · skip
        refine wa_iload_n (n := 1) rfl ?_
        refine wa_bipush (w_rg2 (by omega) (by omega)) ?_
        refine wa_icmpne (w_rg0 (by omega) (by omega)) (w_rg0 (by omega) (by omega)) ⟨_, rfl⟩ (fun c7 => ?_) (fun c7 => ?_)
        · skip
          refine wa_iload_n (n := 1) rfl ?_
          refine wa_bipush (w_rg2 (by omega) (by omega)) ?_
          refine wa_icmpge (w_rg0 (by omega) (by omega)) (w_rg0 (by omega) (by omega)) ⟨_, rfl⟩ (fun c8 => ?_) (fun c8 => ?_)
          · skip
            exact absurd c8 (by omega)
          · skip
            refine wa_aload_n (n := 0) rfl ?_
            refine wa_iload_n (n := 1) rfl ?_
            refine wa_iload_n (n := 3) rfl ?_
            refine wa_iload_n (n := 2) rfl ?_
            refine wa_cv 237 rfl (wy_pr rfl) wt_237 (M2 := fun _ => False) rfl at_M_numbers ⟨_, rfl⟩ rfl rfl ⟨trivial, trivial, (Or.inr ⟨wy_pr rfl, fun q => q⟩), trivial, trivial⟩ trivial (fun _ _ q => False.elim q) ?_ (fun _ _ _ q => q)
            refine wa_aload_n (n := 0) rfl ?_
            refine wb_gf4 237 rfl (wy_pr rfl) wt_237 wf_15_139 (v := 364) wl_237_139 ?_
            refine wa_iload_n (n := 2) rfl ?_
            refine wb_lald 364 rfl (wy_pr rfl) wt_364 (n := 4200) ((ml_364 hM)) (by omega) (by omega) (v := vx) (hvx) (fun r9 => ?_)
            refine wa_lstore (n := 4) rfl ?_
            refine wa_aload_n (n := 0) rfl ?_
            refine wb_gf4 237 rfl (wy_pr rfl) wt_237 wf_15_139 (v := 364) wl_237_139 ?_
            refine wa_iload_n (n := 3) rfl ?_
            refine wb_lald 364 rfl (wy_pr rfl) wt_364 (n := 4200) ((ml_364 hM)) (by omega) (by omega) (v := vy) (hvy) (fun r10 => ?_)
            refine wa_lstore (n := 6) rfl ?_
            refine wa_iload_n (n := 1) rfl ?_
            refine wa_bipush (w_rg2 (by omega) (by omega)) ?_
            refine wa_icmpne (w_rg0 (by omega) (by omega)) (w_rg0 (by omega) (by omega)) ⟨_, rfl⟩ (fun c11 => ?_) (fun c11 => ?_)
            · skip
              refine wa_aload_n (n := 0) rfl ?_
              refine wb_gf4 237 rfl (wy_pr rfl) wt_237 wf_15_138 (v := 363) wl_237_138 ?_
              refine wa_iload_n (n := 2) rfl ?_
              refine wb_iald 363 rfl (wy_pr rfl) wt_363 (n := 4200) ((ml_363 hM)) (by omega) (by omega) (v := 2) (hkx) (fun r12 => ?_)
              refine wa_iconst ?_
              refine wa_icmpne (w_rg0 (by omega) (by omega)) (w_rg0 (by omega) (by omega)) ⟨_, rfl⟩ (fun c13 => ?_) (fun c13 => ?_)
              · skip
                exact absurd c13 (by omega)
              · skip
                refine wa_aload_n (n := 0) rfl ?_
                refine wb_gf4 237 rfl (wy_pr rfl) wt_237 wf_15_138 (v := 363) wl_237_138 ?_
                refine wa_iload_n (n := 3) rfl ?_
                refine wb_iald 363 rfl (wy_pr rfl) wt_363 (n := 4200) ((ml_363 hM)) (by omega) (by omega) (v := 2) (hky) (fun r14 => ?_)
                refine wa_iconst ?_
                refine wa_icmpeq (w_rg0 (by omega) (by omega)) (w_rg0 (by omega) (by omega)) ⟨_, rfl⟩ (fun c15 => ?_) (fun c15 => ?_)
                · skip
                  refine wa_iload_n (n := 1) rfl ?_
                  refine wa_bipush (w_rg2 (by omega) (by omega)) ?_
                  refine wa_icmpeq (w_rg0 (by omega) (by omega)) (w_rg0 (by omega) (by omega)) ⟨_, rfl⟩ (fun c16 => ?_) (fun c16 => ?_)
                  · skip
                    exact absurd c16 (by omega)
                  · skip
                    refine wa_iload_n (n := 1) rfl ?_
                    refine wa_bipush (w_rg2 (by omega) (by omega)) ?_
                    refine wa_icmpne (w_rg0 (by omega) (by omega)) (w_rg0 (by omega) (by omega)) ⟨_, rfl⟩ (fun c17 => ?_) (fun c17 => ?_)
                    · skip
                      exact absurd c17 (by omega)
                    · skip
                      refine wa_fall ⟨_, rfl⟩ ?_
                      refine wa_lload (n := 6) rfl ?_
                      refine wb_lconst (m := 0) rfl ?_
                      refine wa_lcmp (w_rg1 (by omega) (by omega)) (w_rg1 (by omega) (by omega)) ?_
                      refine wa_ifne (by have := @wb_lcmp_cases; exact w_lcmp_rg) ⟨_, rfl⟩ (fun c18 => ?_) (fun c18 => ?_)
                      · skip
                        have c18x := @wb_lcmp_cases vy 0
                        refine wa_aload_n (n := 0) rfl ?_
                        refine wa_iconst ?_
                        refine wa_iload_n (n := 1) rfl ?_
                        refine wa_bipush (w_rg2 (by omega) (by omega)) ?_
                        refine wa_icmpne (w_rg0 (by omega) (by omega)) (w_rg0 (by omega) (by omega)) ⟨_, rfl⟩ (fun c19 => ?_) (fun c19 => ?_)
                        · skip
                          refine wa_iload_n (n := 1) rfl ?_
                          refine wa_bipush (w_rg2 (by omega) (by omega)) ?_
                          refine wa_icmpne (w_rg0 (by omega) (by omega)) (w_rg0 (by omega) (by omega)) ⟨_, rfl⟩ (fun c20 => ?_) (fun c20 => ?_)
                          · skip
                            refine wa_iload_n (n := 1) rfl ?_
                            refine wa_bipush (w_rg2 (by omega) (by omega)) ?_
                            refine wa_icmpne (w_rg0 (by omega) (by omega)) (w_rg0 (by omega) (by omega)) ⟨_, rfl⟩ (fun c21 => ?_) (fun c21 => ?_)
                            · skip
                              refine wa_iload_n (n := 1) rfl ?_
                              refine wa_bipush (w_rg2 (by omega) (by omega)) ?_
                              refine wa_icmpne (w_rg0 (by omega) (by omega)) (w_rg0 (by omega) (by omega)) ⟨_, rfl⟩ (fun c22 => ?_) (fun c22 => ?_)
                              · skip
                                refine wa_lload (n := 6) rfl ?_
                                refine wb_kl (n := (-1)) rfl ?_
                                refine wa_lcmp (w_rg1 (by omega) (by omega)) (w_rg1 (by omega) (by omega)) ?_
                                refine wa_ifne (by have := @wb_lcmp_cases; exact w_lcmp_rg) ⟨_, rfl⟩ (fun c23 => ?_) (fun c23 => ?_)
                                · skip
                                  have c23x := @wb_lcmp_cases vy (-1)
                                  refine wa_lload (n := 4) rfl ?_
                                  refine wa_lload (n := 6) rfl ?_
                                  refine wa_lrem (w_rg1 (by omega) (by omega)) (by omega) ?_
                                  refine wa_fall ⟨_, rfl⟩ ?_
                                  have hw := wb_lrem_rg vx vy
                                  refine wa_cv 237 rfl (wy_pr rfl) wt_237 (M2 := fun _ => False) rfl at_M_is ⟨_, rfl⟩ rfl rfl ⟨trivial, trivial, (Or.inr ⟨wy_pr rfl, fun q => q⟩), trivial, trivial, trivial, trivial⟩ trivial (fun _ _ q => False.elim q) ?_ (fun _ _ _ q => q)
                                  refine wa_aload_n (n := 0) rfl ?_
                                  refine wa_iload_n (n := 1) rfl ?_
                                  refine wb_pfi 237 rfl (wy_pr rfl) wt_237 wf_15_110 (n := 110) rfl ⟨(by omega), (by omega)⟩ ?_
                                  refine wa_aload_n (n := 0) rfl ?_
                                  refine wa_lload_n (n := 2) rfl ?_
                                  refine wb_pfl 237 rfl (wy_pr rfl) wt_237 wf_15_111 (n := 111) rfl ⟨(by omega), (by omega)⟩ ?_
                                  refine wa_return rfl ?_
                                  show wJ _ _ _ _ _ _ _ _ _ _
                                  refine wa_return rfl ?_
                                  show wJ _ _ _ _ _ _ _ _ _ _
                                  refine wa_goto ⟨_, rfl⟩ ?_
                                  refine wa_aload_n (n := 0) rfl ?_
                                  refine wb_gf4 237 rfl (wy_pr rfl) wt_237 wf_15_134 (v := 359) wl_237_134 ?_
                                  refine wa_aload_n (n := 0) rfl ?_
                                  refine wb_gfi 237 rfl (wy_pr rfl) wt_237 wf_15_151 (v := t) ((w_up_at (by decide)).trans ((w_up_at (by decide)).trans (mt))) (fun r24 => ?_)
                                  refine wa_dup2 (by decide) (by decide) ?_
                                  refine wb_iald 359 rfl (wy_pr rfl) wt_359 (n := 2) ((w_up_slot (by decide)).trans ((w_up_slot (by decide)).trans ((ml_359 hM)))) (by omega) (by omega) (v := h) ((w_up_slot (by decide)).trans ((w_up_slot (by decide)).trans (mh))) (fun r25 => ?_)
                                  refine wa_iconst ?_
                                  refine wa_isub ?_
                                  refine wb_iast 359 rfl (wy_pr rfl) wt_359 (n := 2) ((w_up_slot (by decide)).trans ((w_up_slot (by decide)).trans ((ml_359 hM)))) (by omega) (by omega) ⟨(by omega), (by omega)⟩ ?_
                                  refine wa_aload_n (n := 0) rfl ?_
                                  refine wb_gf4 237 rfl (wy_pr rfl) wt_237 wf_15_138 (v := 363) wl_237_138 ?_
                                  refine wa_iload_n (n := 3) rfl ?_
                                  refine wa_aload_n (n := 0) rfl ?_
                                  refine wb_gfi 237 rfl (wy_pr rfl) wt_237 wf_15_110 (v := 2) ((w_up_slot (by decide)).trans ((w_up_at (by decide)).trans (w_up_same _ _ _ _))) (fun r26 => ?_)
                                  refine wb_iast 363 rfl (wy_pr rfl) wt_363 (n := 4200) ((w_up_slot (by decide)).trans ((w_up_slot (by decide)).trans ((w_up_slot (by decide)).trans ((ml_363 hM))))) (by omega) (by omega) ⟨(by omega), (by omega)⟩ ?_
                                  refine wa_aload_n (n := 0) rfl ?_
                                  refine wb_gf4 237 rfl (wy_pr rfl) wt_237 wf_15_139 (v := 364) wl_237_139 ?_
                                  refine wa_iload_n (n := 3) rfl ?_
                                  refine wa_aload_n (n := 0) rfl ?_
                                  refine wb_gfl 237 rfl (wy_pr rfl) wt_237 wf_15_111 (v := (wb_lrem vx vy)) ((w_up_slot (by decide)).trans ((w_up_slot (by decide)).trans (w_up_same _ _ _ _))) (fun r27 => ?_)
                                  refine wb_last 364 rfl (wy_pr rfl) wt_364 (n := 4200) ((w_up_slot (by decide)).trans ((w_up_slot (by decide)).trans ((w_up_slot (by decide)).trans ((w_up_slot (by decide)).trans ((ml_364 hM)))))) (by omega) (by omega) ⟨(by omega), (by omega)⟩ ?_
                                  refine wa_fall ⟨_, rfl⟩ ?_
                                  refine wa_return rfl ?_
                                  exact ⟨rfl, rfl⟩
                                · skip
                                  have c23x := @wb_lcmp_cases vy (-1)
                                  refine wb_lconst (m := 0) rfl ?_
                                  refine wa_goto ⟨_, rfl⟩ ?_
                                  refine wa_cv 237 rfl (wy_pr rfl) wt_237 (M2 := fun _ => False) rfl at_M_is ⟨_, rfl⟩ rfl rfl ⟨trivial, trivial, (Or.inr ⟨wy_pr rfl, fun q => q⟩), trivial, trivial, trivial, trivial⟩ trivial (fun _ _ q => False.elim q) ?_ (fun _ _ _ q => q)
                                  refine wa_aload_n (n := 0) rfl ?_
                                  refine wa_iload_n (n := 1) rfl ?_
                                  refine wb_pfi 237 rfl (wy_pr rfl) wt_237 wf_15_110 (n := 110) rfl ⟨(by omega), (by omega)⟩ ?_
                                  refine wa_aload_n (n := 0) rfl ?_
                                  refine wa_lload_n (n := 2) rfl ?_
                                  refine wb_pfl 237 rfl (wy_pr rfl) wt_237 wf_15_111 (n := 111) rfl ⟨(by omega), (by omega)⟩ ?_
                                  refine wa_return rfl ?_
                                  show wJ _ _ _ _ _ _ _ _ _ _
                                  refine wa_return rfl ?_
                                  show wJ _ _ _ _ _ _ _ _ _ _
                                  refine wa_goto ⟨_, rfl⟩ ?_
                                  refine wa_aload_n (n := 0) rfl ?_
                                  refine wb_gf4 237 rfl (wy_pr rfl) wt_237 wf_15_134 (v := 359) wl_237_134 ?_
                                  refine wa_aload_n (n := 0) rfl ?_
                                  refine wb_gfi 237 rfl (wy_pr rfl) wt_237 wf_15_151 (v := t) ((w_up_at (by decide)).trans ((w_up_at (by decide)).trans (mt))) (fun r28 => ?_)
                                  refine wa_dup2 (by decide) (by decide) ?_
                                  refine wb_iald 359 rfl (wy_pr rfl) wt_359 (n := 2) ((w_up_slot (by decide)).trans ((w_up_slot (by decide)).trans ((ml_359 hM)))) (by omega) (by omega) (v := h) ((w_up_slot (by decide)).trans ((w_up_slot (by decide)).trans (mh))) (fun r29 => ?_)
                                  refine wa_iconst ?_
                                  refine wa_isub ?_
                                  refine wb_iast 359 rfl (wy_pr rfl) wt_359 (n := 2) ((w_up_slot (by decide)).trans ((w_up_slot (by decide)).trans ((ml_359 hM)))) (by omega) (by omega) ⟨(by omega), (by omega)⟩ ?_
                                  refine wa_aload_n (n := 0) rfl ?_
                                  refine wb_gf4 237 rfl (wy_pr rfl) wt_237 wf_15_138 (v := 363) wl_237_138 ?_
                                  refine wa_iload_n (n := 3) rfl ?_
                                  refine wa_aload_n (n := 0) rfl ?_
                                  refine wb_gfi 237 rfl (wy_pr rfl) wt_237 wf_15_110 (v := 2) ((w_up_slot (by decide)).trans ((w_up_at (by decide)).trans (w_up_same _ _ _ _))) (fun r30 => ?_)
                                  refine wb_iast 363 rfl (wy_pr rfl) wt_363 (n := 4200) ((w_up_slot (by decide)).trans ((w_up_slot (by decide)).trans ((w_up_slot (by decide)).trans ((ml_363 hM))))) (by omega) (by omega) ⟨(by omega), (by omega)⟩ ?_
                                  refine wa_aload_n (n := 0) rfl ?_
                                  refine wb_gf4 237 rfl (wy_pr rfl) wt_237 wf_15_139 (v := 364) wl_237_139 ?_
                                  refine wa_iload_n (n := 3) rfl ?_
                                  refine wa_aload_n (n := 0) rfl ?_
                                  refine wb_gfl 237 rfl (wy_pr rfl) wt_237 wf_15_111 (v := 0) ((w_up_slot (by decide)).trans ((w_up_slot (by decide)).trans (w_up_same _ _ _ _))) (fun r31 => ?_)
                                  refine wb_last 364 rfl (wy_pr rfl) wt_364 (n := 4200) ((w_up_slot (by decide)).trans ((w_up_slot (by decide)).trans ((w_up_slot (by decide)).trans ((w_up_slot (by decide)).trans ((ml_364 hM)))))) (by omega) (by omega) ⟨(by omega), (by omega)⟩ ?_
                                  refine wa_fall ⟨_, rfl⟩ ?_
                                  refine wa_return rfl ?_
                                  rw [show vy = -1 by omega, lr_m1 ⟨by omega, by omega⟩]
                                  exact ⟨rfl, rfl⟩
                              · skip
                                exact absurd c22 (by omega)
                            · skip
                              exact absurd c21 (by omega)
                          · skip
                            exact absurd c20 (by omega)
                        · skip
                          exact absurd c19 (by omega)
                      · skip
                        have c18x := @wb_lcmp_cases vy 0
                        exfalso; omega
                · skip
                  exact absurd c15 (by omega)
            · skip
              exact absurd c11 (by omega)
        · skip
          exact absurd c7 (by omega)
      · skip
        exact absurd c6 (by omega)
    · skip
      exact absurd c5 (by omega)
  · skip
    exact absurd c4 (by omega)
theorem y11e {t c p h tp vx : Int} (hP : mP t c p h tp S) (hky : S 363 (2100 * t + h - 1) = 2) (hvy : S 364 (2100 * t + h - 1) = 0) (hkx : S 363 (2100 * t + h - 1 - 1) = 2) (hvx : S 364 (2100 * t + h - 1 - 1) = vx) (hh1 : 2 ≤ h) : wJ (pe_GA xs) wY0 M (d + 11) t_M_operators ((pe_at t_M_operators.bl 0).getD (0, [])).2 [(0, (2, 237)), (1, (0, 11))] [] S (fun o Z => o = .inr 238 ∧ hZ 2 S = Z) := by
  obtain ⟨hM, ⟨mt, mt0, mt1⟩, mp, mf, ⟨mc, mc0, mc1⟩, ⟨mtp, mtq⟩, ⟨mpa, mp0, mp1⟩, mh, mh0, mh1⟩ := hP
  refine wa_aload_n (n := 0) rfl ?_
  refine wa_cv 237 rfl (wy_pr rfl) wt_237 (M2 := fun _ => False) rfl at_M_h ⟨_, rfl⟩ rfl rfl ⟨(Or.inr ⟨wy_pr rfl, fun q => q⟩), trivial, trivial⟩ trivial (fun _ _ q => False.elim q) ?_ (fun _ _ _ q => q)
  refine wa_aload_n (n := 0) rfl ?_
  refine wb_gfi 237 rfl (wy_pr rfl) wt_237 wf_15_152 (v := (2100 * t)) (mp) (fun r1 => ?_)
  refine wa_aload_n (n := 0) rfl ?_
  refine wb_gf4 237 rfl (wy_pr rfl) wt_237 wf_15_134 (v := 359) wl_237_134 ?_
  refine wa_aload_n (n := 0) rfl ?_
  refine wb_gfi 237 rfl (wy_pr rfl) wt_237 wf_15_151 (v := t) (mt) (fun r2 => ?_)
  refine wb_iald 359 rfl (wy_pr rfl) wt_359 (n := 2) ((ml_359 hM)) (by omega) (by omega) (v := h) (mh) (fun r3 => ?_)
  refine wa_iadd ?_
  refine wa_ireturn rfl ?_
  show wJ _ _ _ _ _ _ _ _ _ _
  refine wa_iconst ?_
  refine wa_isub ?_
  refine wa_istore_n (n := 2) rfl ?_
  refine wa_iload_n (n := 2) rfl ?_
  refine wa_iconst ?_
  refine wa_isub ?_
  refine wa_istore_n (n := 3) rfl ?_
  refine wa_iload_n (n := 1) rfl ?_
  refine wa_iconst ?_
  refine wa_icmpne (w_rg0 (by omega) (by omega)) (w_rg0 (by omega) (by omega)) ⟨_, rfl⟩ (fun c4 => ?_) (fun c4 => ?_)
  · skip
    refine wa_iload_n (n := 1) rfl ?_
    refine wa_bipush (w_rg2 (by omega) (by omega)) ?_
    refine wa_icmpne (w_rg0 (by omega) (by omega)) (w_rg0 (by omega) (by omega)) ⟨_, rfl⟩ (fun c5 => ?_) (fun c5 => ?_)
    · skip
      refine wa_iload_n (n := 1) rfl ?_
      refine wa_bipush (w_rg2 (by omega) (by omega)) ?_
      refine wa_icmpne (w_rg0 (by omega) (by omega)) (w_rg0 (by omega) (by omega)) ⟨_, rfl⟩ (fun c6 => ?_) (fun c6 => ?_)
      · skip
        refine wa_iload_n (n := 1) rfl ?_
        refine wa_bipush (w_rg2 (by omega) (by omega)) ?_
        refine wa_icmpne (w_rg0 (by omega) (by omega)) (w_rg0 (by omega) (by omega)) ⟨_, rfl⟩ (fun c7 => ?_) (fun c7 => ?_)
        · skip
          refine wa_iload_n (n := 1) rfl ?_
          refine wa_bipush (w_rg2 (by omega) (by omega)) ?_
          refine wa_icmpge (w_rg0 (by omega) (by omega)) (w_rg0 (by omega) (by omega)) ⟨_, rfl⟩ (fun c8 => ?_) (fun c8 => ?_)
          · skip
            exact absurd c8 (by omega)
          · skip
            refine wa_aload_n (n := 0) rfl ?_
            refine wa_iload_n (n := 1) rfl ?_
            refine wa_iload_n (n := 3) rfl ?_
            refine wa_iload_n (n := 2) rfl ?_
            refine wa_cv 237 rfl (wy_pr rfl) wt_237 (M2 := fun _ => False) rfl at_M_numbers ⟨_, rfl⟩ rfl rfl ⟨trivial, trivial, (Or.inr ⟨wy_pr rfl, fun q => q⟩), trivial, trivial⟩ trivial (fun _ _ q => False.elim q) ?_ (fun _ _ _ q => q)
            refine wa_aload_n (n := 0) rfl ?_
            refine wb_gf4 237 rfl (wy_pr rfl) wt_237 wf_15_139 (v := 364) wl_237_139 ?_
            refine wa_iload_n (n := 2) rfl ?_
            refine wb_lald 364 rfl (wy_pr rfl) wt_364 (n := 4200) ((ml_364 hM)) (by omega) (by omega) (v := vx) (hvx) (fun r9 => ?_)
            refine wa_lstore (n := 4) rfl ?_
            refine wa_aload_n (n := 0) rfl ?_
            refine wb_gf4 237 rfl (wy_pr rfl) wt_237 wf_15_139 (v := 364) wl_237_139 ?_
            refine wa_iload_n (n := 3) rfl ?_
            refine wb_lald 364 rfl (wy_pr rfl) wt_364 (n := 4200) ((ml_364 hM)) (by omega) (by omega) (v := 0) (hvy) (fun r10 => ?_)
            refine wa_lstore (n := 6) rfl ?_
            refine wa_iload_n (n := 1) rfl ?_
            refine wa_bipush (w_rg2 (by omega) (by omega)) ?_
            refine wa_icmpne (w_rg0 (by omega) (by omega)) (w_rg0 (by omega) (by omega)) ⟨_, rfl⟩ (fun c11 => ?_) (fun c11 => ?_)
            · skip
              refine wa_aload_n (n := 0) rfl ?_
              refine wb_gf4 237 rfl (wy_pr rfl) wt_237 wf_15_138 (v := 363) wl_237_138 ?_
              refine wa_iload_n (n := 2) rfl ?_
              refine wb_iald 363 rfl (wy_pr rfl) wt_363 (n := 4200) ((ml_363 hM)) (by omega) (by omega) (v := 2) (hkx) (fun r12 => ?_)
              refine wa_iconst ?_
              refine wa_icmpne (w_rg0 (by omega) (by omega)) (w_rg0 (by omega) (by omega)) ⟨_, rfl⟩ (fun c13 => ?_) (fun c13 => ?_)
              · skip
                exact absurd c13 (by omega)
              · skip
                refine wa_aload_n (n := 0) rfl ?_
                refine wb_gf4 237 rfl (wy_pr rfl) wt_237 wf_15_138 (v := 363) wl_237_138 ?_
                refine wa_iload_n (n := 3) rfl ?_
                refine wb_iald 363 rfl (wy_pr rfl) wt_363 (n := 4200) ((ml_363 hM)) (by omega) (by omega) (v := 2) (hky) (fun r14 => ?_)
                refine wa_iconst ?_
                refine wa_icmpeq (w_rg0 (by omega) (by omega)) (w_rg0 (by omega) (by omega)) ⟨_, rfl⟩ (fun c15 => ?_) (fun c15 => ?_)
                · skip
                  refine wa_iload_n (n := 1) rfl ?_
                  refine wa_bipush (w_rg2 (by omega) (by omega)) ?_
                  refine wa_icmpeq (w_rg0 (by omega) (by omega)) (w_rg0 (by omega) (by omega)) ⟨_, rfl⟩ (fun c16 => ?_) (fun c16 => ?_)
                  · skip
                    exact absurd c16 (by omega)
                  · skip
                    refine wa_iload_n (n := 1) rfl ?_
                    refine wa_bipush (w_rg2 (by omega) (by omega)) ?_
                    refine wa_icmpne (w_rg0 (by omega) (by omega)) (w_rg0 (by omega) (by omega)) ⟨_, rfl⟩ (fun c17 => ?_) (fun c17 => ?_)
                    · skip
                      exact absurd c17 (by omega)
                    · skip
                      refine wa_fall ⟨_, rfl⟩ ?_
                      refine wa_lload (n := 6) rfl ?_
                      refine wb_lconst (m := 0) rfl ?_
                      refine wa_lcmp (w_rg1 (by omega) (by omega)) (w_rg1 (by omega) (by omega)) ?_
                      refine wa_ifne (by have := @wb_lcmp_cases; exact w_lcmp_rg) ⟨_, rfl⟩ (fun c18 => ?_) (fun c18 => ?_)
                      · skip
                        have c18x := @wb_lcmp_cases 0 0
                        exfalso; omega
                      · skip
                        have c18x := @wb_lcmp_cases 0 0
                        refine wa_aload_n (n := 0) rfl ?_
                        refine wa_iconst ?_
                        refine wa_cv 237 rfl (wy_pr rfl) wt_237 (M2 := fun _ => False) rfl at_M_error ⟨_, rfl⟩ rfl rfl ⟨trivial, trivial, (Or.inr ⟨wy_pr rfl, fun q => q⟩), trivial, trivial, trivial, trivial⟩ trivial (fun _ _ q => False.elim q) ?_ (fun _ _ _ q => q)
                        refine wa_aload_n (n := 0) rfl ?_
                        refine wb_gf4 237 rfl (wy_pr rfl) wt_237 wf_15_1 (v := 238) wl_237_1 ?_
                        refine wa_iload_n (n := 1) rfl ?_
                        refine wa_iconst ?_
                        refine wa_cv 238 rfl (wy_pr rfl) wt_238 (M2 := fun _ => False) rfl at_MH_of ⟨_, rfl⟩ rfl rfl ⟨(Or.inr ⟨wy_pr rfl, fun q => q⟩), trivial, trivial⟩ trivial (fun _ _ q => False.elim q) ?_ (fun _ _ _ q => q)
                        refine wa_aload_n (n := 0) rfl ?_
                        refine wa_iload_n (n := 1) rfl ?_
                        refine wb_pfi 238 rfl (wy_pr rfl) wt_238 wf_11_5 (n := 5) rfl ⟨(by omega), (by omega)⟩ ?_
                        refine wa_aload_n (n := 0) rfl ?_
                        refine wa_iload_n (n := 2) rfl ?_
                        refine wb_pfi 238 rfl (wy_pr rfl) wt_238 wf_11_6 (n := 6) rfl ⟨(by omega), (by omega)⟩ ?_
                        refine wa_aload_n (n := 0) rfl ?_
                        refine wa_oreturn rfl ?_
                        show wJ _ _ _ _ _ _ _ _ _ _
                        refine wa_th (j := 238) ?_
                        refine ⟨rfl, ?_⟩
                        refine ⟨rfl, ?_⟩
                        exact ⟨rfl, rfl⟩
                · skip
                  exact absurd c15 (by omega)
            · skip
              exact absurd c11 (by omega)
        · skip
          exact absurd c7 (by omega)
      · skip
        exact absurd c6 (by omega)
    · skip
      exact absurd c5 (by omega)
  · skip
    exact absurd c4 (by omega)
theorem y12 {t c p h tp vy : Int} (hP : mP t c p h tp S) (hky : S 363 (2100 * t + h - 1) = 2) (hvy : S 364 (2100 * t + h - 1) = vy) (hh1 : 1 ≤ h) : wJ (pe_GA xs) wY0 M (d + 11) t_M_operators ((pe_at t_M_operators.bl 0).getD (0, [])).2 [(0, (2, 237)), (1, (0, 12))] [] S (fun o Z => o = .inl none ∧ w_up S 364 (2100 * t + h - 1) (w64 (-vy)) = Z) := by
  obtain ⟨hM, ⟨mt, mt0, mt1⟩, mp, mf, ⟨mc, mc0, mc1⟩, ⟨mtp, mtq⟩, ⟨mpa, mp0, mp1⟩, mh, mh0, mh1⟩ := hP
  refine wa_aload_n (n := 0) rfl ?_
  refine wa_cv 237 rfl (wy_pr rfl) wt_237 (M2 := fun _ => False) rfl at_M_h ⟨_, rfl⟩ rfl rfl ⟨(Or.inr ⟨wy_pr rfl, fun q => q⟩), trivial, trivial⟩ trivial (fun _ _ q => False.elim q) ?_ (fun _ _ _ q => q)
  refine wa_aload_n (n := 0) rfl ?_
  refine wb_gfi 237 rfl (wy_pr rfl) wt_237 wf_15_152 (v := (2100 * t)) (mp) (fun r1 => ?_)
  refine wa_aload_n (n := 0) rfl ?_
  refine wb_gf4 237 rfl (wy_pr rfl) wt_237 wf_15_134 (v := 359) wl_237_134 ?_
  refine wa_aload_n (n := 0) rfl ?_
  refine wb_gfi 237 rfl (wy_pr rfl) wt_237 wf_15_151 (v := t) (mt) (fun r2 => ?_)
  refine wb_iald 359 rfl (wy_pr rfl) wt_359 (n := 2) ((ml_359 hM)) (by omega) (by omega) (v := h) (mh) (fun r3 => ?_)
  refine wa_iadd ?_
  refine wa_ireturn rfl ?_
  show wJ _ _ _ _ _ _ _ _ _ _
  refine wa_iconst ?_
  refine wa_isub ?_
  refine wa_istore_n (n := 2) rfl ?_
  refine wa_iload_n (n := 2) rfl ?_
  refine wa_iconst ?_
  refine wa_isub ?_
  refine wa_istore_n (n := 3) rfl ?_
  refine wa_iload_n (n := 1) rfl ?_
  refine wa_iconst ?_
  refine wa_icmpne (w_rg0 (by omega) (by omega)) (w_rg0 (by omega) (by omega)) ⟨_, rfl⟩ (fun c4 => ?_) (fun c4 => ?_)
  · skip
    refine wa_iload_n (n := 1) rfl ?_
    refine wa_bipush (w_rg2 (by omega) (by omega)) ?_
    refine wa_icmpne (w_rg0 (by omega) (by omega)) (w_rg0 (by omega) (by omega)) ⟨_, rfl⟩ (fun c5 => ?_) (fun c5 => ?_)
    · skip
      refine wa_iload_n (n := 1) rfl ?_
      refine wa_bipush (w_rg2 (by omega) (by omega)) ?_
      refine wa_icmpne (w_rg0 (by omega) (by omega)) (w_rg0 (by omega) (by omega)) ⟨_, rfl⟩ (fun c6 => ?_) (fun c6 => ?_)
      · skip
        exact absurd c6 (by omega)
      · skip
        refine wa_aload_n (n := 0) rfl ?_
        refine wb_gf4 237 rfl (wy_pr rfl) wt_237 wf_15_138 (v := 363) wl_237_138 ?_
        refine wa_iload_n (n := 2) rfl ?_
        refine wb_iald 363 rfl (wy_pr rfl) wt_363 (n := 4200) ((ml_363 hM)) (by omega) (by omega) (v := 2) (hky) (fun r7 => ?_)
        refine wa_iconst ?_
        refine wa_icmpeq (w_rg0 (by omega) (by omega)) (w_rg0 (by omega) (by omega)) ⟨_, rfl⟩ (fun c8 => ?_) (fun c8 => ?_)
        · skip
          refine wa_aload_n (n := 0) rfl ?_
          refine wb_gf4 237 rfl (wy_pr rfl) wt_237 wf_15_139 (v := 364) wl_237_139 ?_
          refine wa_iload_n (n := 2) rfl ?_
          refine wa_aload_n (n := 0) rfl ?_
          refine wb_gf4 237 rfl (wy_pr rfl) wt_237 wf_15_139 (v := 364) wl_237_139 ?_
          refine wa_iload_n (n := 2) rfl ?_
          refine wb_lald 364 rfl (wy_pr rfl) wt_364 (n := 4200) ((ml_364 hM)) (by omega) (by omega) (v := vy) (hvy) (fun r9 => ?_)
          refine wa_lneg ?_
          refine wJ_n1 (w64_o _) ?_
          have hw := w64_rg (-vy)
          refine wb_last 364 rfl (wy_pr rfl) wt_364 (n := 4200) ((ml_364 hM)) (by omega) (by omega) ⟨(by omega), (by omega)⟩ ?_
          refine wa_goto ⟨_, rfl⟩ ?_
          refine wa_return rfl ?_
          exact ⟨rfl, rfl⟩
        · skip
          exact absurd c8 (by omega)
    · skip
      exact absurd c5 (by omega)
  · skip
    exact absurd c4 (by omega)
theorem y12e {t c p h tp ky vy : Int} (hP : mP t c p h tp S) (hky : S 363 (2100 * t + h - 1) = ky) (hvy : S 364 (2100 * t + h - 1) = vy) (hh1 : 1 ≤ h) (hk2 : ky ≠ 2) : wJ (pe_GA xs) wY0 M (d + 11) t_M_operators ((pe_at t_M_operators.bl 0).getD (0, [])).2 [(0, (2, 237)), (1, (0, 12))] [] S (fun o Z => o = .inr 238 ∧ hZ 1 S = Z) := by
  obtain ⟨hM, ⟨mt, mt0, mt1⟩, mp, mf, ⟨mc, mc0, mc1⟩, ⟨mtp, mtq⟩, ⟨mpa, mp0, mp1⟩, mh, mh0, mh1⟩ := hP
  refine wa_aload_n (n := 0) rfl ?_
  refine wa_cv 237 rfl (wy_pr rfl) wt_237 (M2 := fun _ => False) rfl at_M_h ⟨_, rfl⟩ rfl rfl ⟨(Or.inr ⟨wy_pr rfl, fun q => q⟩), trivial, trivial⟩ trivial (fun _ _ q => False.elim q) ?_ (fun _ _ _ q => q)
  refine wa_aload_n (n := 0) rfl ?_
  refine wb_gfi 237 rfl (wy_pr rfl) wt_237 wf_15_152 (v := (2100 * t)) (mp) (fun r1 => ?_)
  refine wa_aload_n (n := 0) rfl ?_
  refine wb_gf4 237 rfl (wy_pr rfl) wt_237 wf_15_134 (v := 359) wl_237_134 ?_
  refine wa_aload_n (n := 0) rfl ?_
  refine wb_gfi 237 rfl (wy_pr rfl) wt_237 wf_15_151 (v := t) (mt) (fun r2 => ?_)
  refine wb_iald 359 rfl (wy_pr rfl) wt_359 (n := 2) ((ml_359 hM)) (by omega) (by omega) (v := h) (mh) (fun r3 => ?_)
  refine wa_iadd ?_
  refine wa_ireturn rfl ?_
  show wJ _ _ _ _ _ _ _ _ _ _
  refine wa_iconst ?_
  refine wa_isub ?_
  refine wa_istore_n (n := 2) rfl ?_
  refine wa_iload_n (n := 2) rfl ?_
  refine wa_iconst ?_
  refine wa_isub ?_
  refine wa_istore_n (n := 3) rfl ?_
  refine wa_iload_n (n := 1) rfl ?_
  refine wa_iconst ?_
  refine wa_icmpne (w_rg0 (by omega) (by omega)) (w_rg0 (by omega) (by omega)) ⟨_, rfl⟩ (fun c4 => ?_) (fun c4 => ?_)
  · skip
    refine wa_iload_n (n := 1) rfl ?_
    refine wa_bipush (w_rg2 (by omega) (by omega)) ?_
    refine wa_icmpne (w_rg0 (by omega) (by omega)) (w_rg0 (by omega) (by omega)) ⟨_, rfl⟩ (fun c5 => ?_) (fun c5 => ?_)
    · skip
      refine wa_iload_n (n := 1) rfl ?_
      refine wa_bipush (w_rg2 (by omega) (by omega)) ?_
      refine wa_icmpne (w_rg0 (by omega) (by omega)) (w_rg0 (by omega) (by omega)) ⟨_, rfl⟩ (fun c6 => ?_) (fun c6 => ?_)
      · skip
        exact absurd c6 (by omega)
      · skip
        refine wa_aload_n (n := 0) rfl ?_
        refine wb_gf4 237 rfl (wy_pr rfl) wt_237 wf_15_138 (v := 363) wl_237_138 ?_
        refine wa_iload_n (n := 2) rfl ?_
        refine wb_iald 363 rfl (wy_pr rfl) wt_363 (n := 4200) ((ml_363 hM)) (by omega) (by omega) (v := ky) (hky) (fun r7 => ?_)
        refine wa_iconst ?_
        refine wa_icmpeq (w_rg0 (by omega) (by omega)) (w_rg0 (by omega) (by omega)) ⟨_, rfl⟩ (fun c8 => ?_) (fun c8 => ?_)
        · skip
          exact absurd c8 (by omega)
        · skip
          refine wa_aload_n (n := 0) rfl ?_
          refine wa_iconst ?_
          refine wa_cv 237 rfl (wy_pr rfl) wt_237 (M2 := fun _ => False) rfl at_M_error ⟨_, rfl⟩ rfl rfl ⟨trivial, trivial, (Or.inr ⟨wy_pr rfl, fun q => q⟩), trivial, trivial⟩ trivial (fun _ _ q => False.elim q) ?_ (fun _ _ _ q => q)
          refine wa_aload_n (n := 0) rfl ?_
          refine wb_gf4 237 rfl (wy_pr rfl) wt_237 wf_15_1 (v := 238) wl_237_1 ?_
          refine wa_iload_n (n := 1) rfl ?_
          refine wa_iconst ?_
          refine wa_cv 238 rfl (wy_pr rfl) wt_238 (M2 := fun _ => False) rfl at_MH_of ⟨_, rfl⟩ rfl rfl ⟨(Or.inr ⟨wy_pr rfl, fun q => q⟩), trivial, trivial⟩ trivial (fun _ _ q => False.elim q) ?_ (fun _ _ _ q => q)
          refine wa_aload_n (n := 0) rfl ?_
          refine wa_iload_n (n := 1) rfl ?_
          refine wb_pfi 238 rfl (wy_pr rfl) wt_238 wf_11_5 (n := 5) rfl ⟨(by omega), (by omega)⟩ ?_
          refine wa_aload_n (n := 0) rfl ?_
          refine wa_iload_n (n := 2) rfl ?_
          refine wb_pfi 238 rfl (wy_pr rfl) wt_238 wf_11_6 (n := 6) rfl ⟨(by omega), (by omega)⟩ ?_
          refine wa_aload_n (n := 0) rfl ?_
          refine wa_oreturn rfl ?_
          show wJ _ _ _ _ _ _ _ _ _ _
          refine wa_th (j := 238) ?_
          refine ⟨rfl, ?_⟩
          exact ⟨rfl, rfl⟩
    · skip
      exact absurd c5 (by omega)
  · skip
    exact absurd c4 (by omega)
theorem y13 {t c p h tp ky vy : Int} (hP : mP t c p h tp S) (hky : S 363 (2100 * t + h - 1) = ky) (hvy : S 364 (2100 * t + h - 1) = vy) (hh1 : 1 ≤ h) : wJ (pe_GA xs) wY0 M (d + 11) t_M_operators ((pe_at t_M_operators.bl 0).getD (0, [])).2 [(0, (2, 237)), (1, (0, 13))] [] S (fun o Z => o = .inl none ∧ w_up (w_up S 363 (2100 * t + h - 1) 1) 364 (2100 * t + h - 1) (if (ky = 0 ∨ (ky = 1 ∧ vy = 0)) then 1 else 0) = Z) := by
  obtain ⟨hM, ⟨mt, mt0, mt1⟩, mp, mf, ⟨mc, mc0, mc1⟩, ⟨mtp, mtq⟩, ⟨mpa, mp0, mp1⟩, mh, mh0, mh1⟩ := hP
  refine wa_aload_n (n := 0) rfl ?_
  refine wa_cv 237 rfl (wy_pr rfl) wt_237 (M2 := fun _ => False) rfl at_M_h ⟨_, rfl⟩ rfl rfl ⟨(Or.inr ⟨wy_pr rfl, fun q => q⟩), trivial, trivial⟩ trivial (fun _ _ q => False.elim q) ?_ (fun _ _ _ q => q)
  refine wa_aload_n (n := 0) rfl ?_
  refine wb_gfi 237 rfl (wy_pr rfl) wt_237 wf_15_152 (v := (2100 * t)) (mp) (fun r1 => ?_)
  refine wa_aload_n (n := 0) rfl ?_
  refine wb_gf4 237 rfl (wy_pr rfl) wt_237 wf_15_134 (v := 359) wl_237_134 ?_
  refine wa_aload_n (n := 0) rfl ?_
  refine wb_gfi 237 rfl (wy_pr rfl) wt_237 wf_15_151 (v := t) (mt) (fun r2 => ?_)
  refine wb_iald 359 rfl (wy_pr rfl) wt_359 (n := 2) ((ml_359 hM)) (by omega) (by omega) (v := h) (mh) (fun r3 => ?_)
  refine wa_iadd ?_
  refine wa_ireturn rfl ?_
  show wJ _ _ _ _ _ _ _ _ _ _
  refine wa_iconst ?_
  refine wa_isub ?_
  refine wa_istore_n (n := 2) rfl ?_
  refine wa_iload_n (n := 2) rfl ?_
  refine wa_iconst ?_
  refine wa_isub ?_
  refine wa_istore_n (n := 3) rfl ?_
  refine wa_iload_n (n := 1) rfl ?_
  refine wa_iconst ?_
  refine wa_icmpne (w_rg0 (by omega) (by omega)) (w_rg0 (by omega) (by omega)) ⟨_, rfl⟩ (fun c4 => ?_) (fun c4 => ?_)
  · skip
    refine wa_iload_n (n := 1) rfl ?_
    refine wa_bipush (w_rg2 (by omega) (by omega)) ?_
    refine wa_icmpne (w_rg0 (by omega) (by omega)) (w_rg0 (by omega) (by omega)) ⟨_, rfl⟩ (fun c5 => ?_) (fun c5 => ?_)
    · skip
      refine wa_iload_n (n := 1) rfl ?_
      refine wa_bipush (w_rg2 (by omega) (by omega)) ?_
      refine wa_icmpne (w_rg0 (by omega) (by omega)) (w_rg0 (by omega) (by omega)) ⟨_, rfl⟩ (fun c6 => ?_) (fun c6 => ?_)
      · skip
        refine wa_iload_n (n := 1) rfl ?_
        refine wa_bipush (w_rg2 (by omega) (by omega)) ?_
        refine wa_icmpne (w_rg0 (by omega) (by omega)) (w_rg0 (by omega) (by omega)) ⟨_, rfl⟩ (fun c7 => ?_) (fun c7 => ?_)
        · skip
          exact absurd c7 (by omega)
        · skip
          refine wa_aload_n (n := 0) rfl ?_
          refine wa_aload_n (n := 0) rfl ?_
          refine wb_gf4 237 rfl (wy_pr rfl) wt_237 wf_15_138 (v := 363) wl_237_138 ?_
          refine wa_iload_n (n := 2) rfl ?_
          refine wb_iald 363 rfl (wy_pr rfl) wt_363 (n := 4200) ((ml_363 hM)) (by omega) (by omega) (v := ky) (hky) (fun r8 => ?_)
          refine wa_aload_n (n := 0) rfl ?_
          refine wb_gf4 237 rfl (wy_pr rfl) wt_237 wf_15_139 (v := 364) wl_237_139 ?_
          refine wa_iload_n (n := 2) rfl ?_
          refine wb_lald 364 rfl (wy_pr rfl) wt_364 (n := 4200) ((ml_364 hM)) (by omega) (by omega) (v := vy) (hvy) (fun r9 => ?_)
          refine wa_cv 237 rfl (wy_pr rfl) wt_237 (M2 := fun _ => False) rfl at_M_isNot ⟨_, rfl⟩ rfl rfl ⟨trivial, trivial, (Or.inr ⟨wy_pr rfl, fun q => q⟩), trivial, trivial⟩ trivial (fun _ _ q => False.elim q) ?_ (fun _ _ _ q => q)
          refine wa_iload_n (n := 1) rfl ?_
          refine wa_ifeq (w_rg0 (by omega) (by omega)) ⟨_, rfl⟩ (fun c10 => ?_) (fun c10 => ?_)
          · skip
            refine wa_iconst ?_
            refine wa_goto ⟨_, rfl⟩ ?_
            refine wa_zreturn rfl (Or.inr rfl) ?_
            show wJ _ _ _ _ _ _ _ _ _ _
            refine wa_istore (n := 4) rfl ?_
            refine wa_aload_n (n := 0) rfl ?_
            refine wb_gf4 237 rfl (wy_pr rfl) wt_237 wf_15_138 (v := 363) wl_237_138 ?_
            refine wa_iload_n (n := 2) rfl ?_
            refine wa_iconst ?_
            refine wb_iast 363 rfl (wy_pr rfl) wt_363 (n := 4200) ((ml_363 hM)) (by omega) (by omega) ⟨(by omega), (by omega)⟩ ?_
            refine wa_aload_n (n := 0) rfl ?_
            refine wb_gf4 237 rfl (wy_pr rfl) wt_237 wf_15_139 (v := 364) wl_237_139 ?_
            refine wa_iload_n (n := 2) rfl ?_
            refine wa_iload (n := 4) rfl ?_
            refine wa_ifeq (w_rg0 (by omega) (by omega)) ⟨_, rfl⟩ (fun c11 => ?_) (fun c11 => ?_)
            · skip
              exact absurd c11 (by omega)
            · skip
              refine wb_lconst (m := 1) rfl ?_
              refine wa_goto ⟨_, rfl⟩ ?_
              refine wb_last 364 rfl (wy_pr rfl) wt_364 (n := 4200) ((w_up_slot (by decide)).trans ((ml_364 hM))) (by omega) (by omega) ⟨(by omega), (by omega)⟩ ?_
              refine wa_goto ⟨_, rfl⟩ ?_
              refine wa_return rfl ?_
              refine ⟨rfl, ?_⟩
              first | (rw [if_pos (by omega)]; done) | (rw [if_neg (by omega)]; done)
          · skip
            refine wa_iload_n (n := 1) rfl ?_
            refine wa_iconst ?_
            refine wa_icmpne (w_rg0 (by omega) (by omega)) (w_rg0 (by omega) (by omega)) ⟨_, rfl⟩ (fun c12 => ?_) (fun c12 => ?_)
            · skip
              refine wa_iconst ?_
              refine wa_fall ⟨_, rfl⟩ ?_
              refine wa_zreturn rfl (Or.inl rfl) ?_
              show wJ _ _ _ _ _ _ _ _ _ _
              refine wa_istore (n := 4) rfl ?_
              refine wa_aload_n (n := 0) rfl ?_
              refine wb_gf4 237 rfl (wy_pr rfl) wt_237 wf_15_138 (v := 363) wl_237_138 ?_
              refine wa_iload_n (n := 2) rfl ?_
              refine wa_iconst ?_
              refine wb_iast 363 rfl (wy_pr rfl) wt_363 (n := 4200) ((ml_363 hM)) (by omega) (by omega) ⟨(by omega), (by omega)⟩ ?_
              refine wa_aload_n (n := 0) rfl ?_
              refine wb_gf4 237 rfl (wy_pr rfl) wt_237 wf_15_139 (v := 364) wl_237_139 ?_
              refine wa_iload_n (n := 2) rfl ?_
              refine wa_iload (n := 4) rfl ?_
              refine wa_ifeq (w_rg0 (by omega) (by omega)) ⟨_, rfl⟩ (fun c13 => ?_) (fun c13 => ?_)
              · skip
                refine wb_lconst (m := 0) rfl ?_
                refine wa_fall ⟨_, rfl⟩ ?_
                refine wb_last 364 rfl (wy_pr rfl) wt_364 (n := 4200) ((w_up_slot (by decide)).trans ((ml_364 hM))) (by omega) (by omega) ⟨(by omega), (by omega)⟩ ?_
                refine wa_goto ⟨_, rfl⟩ ?_
                refine wa_return rfl ?_
                refine ⟨rfl, ?_⟩
                first | (rw [if_pos (by omega)]; done) | (rw [if_neg (by omega)]; done)
              · skip
                exact absurd c13 (by omega)
            · skip
              refine wa_lload_n (n := 2) rfl ?_
              refine wb_lconst (m := 0) rfl ?_
              refine wa_lcmp (w_rg1 (by omega) (by omega)) (w_rg1 (by omega) (by omega)) ?_
              refine wa_ifne (by have := @wb_lcmp_cases; exact w_lcmp_rg) ⟨_, rfl⟩ (fun c14 => ?_) (fun c14 => ?_)
              · skip
                have c14x := @wb_lcmp_cases vy 0
                refine wa_iconst ?_
                refine wa_fall ⟨_, rfl⟩ ?_
                refine wa_zreturn rfl (Or.inl rfl) ?_
                show wJ _ _ _ _ _ _ _ _ _ _
                refine wa_istore (n := 4) rfl ?_
                refine wa_aload_n (n := 0) rfl ?_
                refine wb_gf4 237 rfl (wy_pr rfl) wt_237 wf_15_138 (v := 363) wl_237_138 ?_
                refine wa_iload_n (n := 2) rfl ?_
                refine wa_iconst ?_
                refine wb_iast 363 rfl (wy_pr rfl) wt_363 (n := 4200) ((ml_363 hM)) (by omega) (by omega) ⟨(by omega), (by omega)⟩ ?_
                refine wa_aload_n (n := 0) rfl ?_
                refine wb_gf4 237 rfl (wy_pr rfl) wt_237 wf_15_139 (v := 364) wl_237_139 ?_
                refine wa_iload_n (n := 2) rfl ?_
                refine wa_iload (n := 4) rfl ?_
                refine wa_ifeq (w_rg0 (by omega) (by omega)) ⟨_, rfl⟩ (fun c15 => ?_) (fun c15 => ?_)
                · skip
                  refine wb_lconst (m := 0) rfl ?_
                  refine wa_fall ⟨_, rfl⟩ ?_
                  refine wb_last 364 rfl (wy_pr rfl) wt_364 (n := 4200) ((w_up_slot (by decide)).trans ((ml_364 hM))) (by omega) (by omega) ⟨(by omega), (by omega)⟩ ?_
                  refine wa_goto ⟨_, rfl⟩ ?_
                  refine wa_return rfl ?_
                  refine ⟨rfl, ?_⟩
                  first | (rw [if_pos (by omega)]; done) | (rw [if_neg (by omega)]; done)
                · skip
                  exact absurd c15 (by omega)
              · skip
                have c14x := @wb_lcmp_cases vy 0
                refine wa_fall ⟨_, rfl⟩ ?_
                refine wa_iconst ?_
                refine wa_goto ⟨_, rfl⟩ ?_
                refine wa_zreturn rfl (Or.inr rfl) ?_
                show wJ _ _ _ _ _ _ _ _ _ _
                refine wa_istore (n := 4) rfl ?_
                refine wa_aload_n (n := 0) rfl ?_
                refine wb_gf4 237 rfl (wy_pr rfl) wt_237 wf_15_138 (v := 363) wl_237_138 ?_
                refine wa_iload_n (n := 2) rfl ?_
                refine wa_iconst ?_
                refine wb_iast 363 rfl (wy_pr rfl) wt_363 (n := 4200) ((ml_363 hM)) (by omega) (by omega) ⟨(by omega), (by omega)⟩ ?_
                refine wa_aload_n (n := 0) rfl ?_
                refine wb_gf4 237 rfl (wy_pr rfl) wt_237 wf_15_139 (v := 364) wl_237_139 ?_
                refine wa_iload_n (n := 2) rfl ?_
                refine wa_iload (n := 4) rfl ?_
                refine wa_ifeq (w_rg0 (by omega) (by omega)) ⟨_, rfl⟩ (fun c16 => ?_) (fun c16 => ?_)
                · skip
                  exact absurd c16 (by omega)
                · skip
                  refine wb_lconst (m := 1) rfl ?_
                  refine wa_goto ⟨_, rfl⟩ ?_
                  refine wb_last 364 rfl (wy_pr rfl) wt_364 (n := 4200) ((w_up_slot (by decide)).trans ((ml_364 hM))) (by omega) (by omega) ⟨(by omega), (by omega)⟩ ?_
                  refine wa_goto ⟨_, rfl⟩ ?_
                  refine wa_return rfl ?_
                  refine ⟨rfl, ?_⟩
                  first | (rw [if_pos (by omega)]; done) | (rw [if_neg (by omega)]; done)
      · skip
        exact absurd c6 (by omega)
    · skip
      exact absurd c5 (by omega)
  · skip
    exact absurd c4 (by omega)
theorem y14 {t c p h tp kx ky vx vy : Int} (hP : mP t c p h tp S) (hky : S 363 (2100 * t + h - 1) = ky) (hvy : S 364 (2100 * t + h - 1) = vy) (hkx : S 363 (2100 * t + h - 1 - 1) = kx) (hvx : S 364 (2100 * t + h - 1 - 1) = vx) (hh1 : 2 ≤ h) (hk3 : ky ≠ 3) : wJ (pe_GA xs) wY0 M (d + 11) t_M_operators ((pe_at t_M_operators.bl 0).getD (0, [])).2 [(0, (2, 237)), (1, (0, 14))] [] S (fun o Z => o = .inl none ∧ pXZ t h 1 (if kx = ky ∧ vx = vy then 1 else 0) S = Z) := by
  obtain ⟨hM, ⟨mt, mt0, mt1⟩, mp, mf, ⟨mc, mc0, mc1⟩, ⟨mtp, mtq⟩, ⟨mpa, mp0, mp1⟩, mh, mh0, mh1⟩ := hP
  refine wa_aload_n (n := 0) rfl ?_
  refine wa_cv 237 rfl (wy_pr rfl) wt_237 (M2 := fun _ => False) rfl at_M_h ⟨_, rfl⟩ rfl rfl ⟨(Or.inr ⟨wy_pr rfl, fun q => q⟩), trivial, trivial⟩ trivial (fun _ _ q => False.elim q) ?_ (fun _ _ _ q => q)
  refine wa_aload_n (n := 0) rfl ?_
  refine wb_gfi 237 rfl (wy_pr rfl) wt_237 wf_15_152 (v := (2100 * t)) (mp) (fun r1 => ?_)
  refine wa_aload_n (n := 0) rfl ?_
  refine wb_gf4 237 rfl (wy_pr rfl) wt_237 wf_15_134 (v := 359) wl_237_134 ?_
  refine wa_aload_n (n := 0) rfl ?_
  refine wb_gfi 237 rfl (wy_pr rfl) wt_237 wf_15_151 (v := t) (mt) (fun r2 => ?_)
  refine wb_iald 359 rfl (wy_pr rfl) wt_359 (n := 2) ((ml_359 hM)) (by omega) (by omega) (v := h) (mh) (fun r3 => ?_)
  refine wa_iadd ?_
  refine wa_ireturn rfl ?_
  show wJ _ _ _ _ _ _ _ _ _ _
  refine wa_iconst ?_
  refine wa_isub ?_
  refine wa_istore_n (n := 2) rfl ?_
  refine wa_iload_n (n := 2) rfl ?_
  refine wa_iconst ?_
  refine wa_isub ?_
  refine wa_istore_n (n := 3) rfl ?_
  refine wa_iload_n (n := 1) rfl ?_
  refine wa_iconst ?_
  refine wa_icmpne (w_rg0 (by omega) (by omega)) (w_rg0 (by omega) (by omega)) ⟨_, rfl⟩ (fun c4 => ?_) (fun c4 => ?_)
  · skip
    refine wa_iload_n (n := 1) rfl ?_
    refine wa_bipush (w_rg2 (by omega) (by omega)) ?_
    refine wa_icmpne (w_rg0 (by omega) (by omega)) (w_rg0 (by omega) (by omega)) ⟨_, rfl⟩ (fun c5 => ?_) (fun c5 => ?_)
    · skip
      refine wa_iload_n (n := 1) rfl ?_
      refine wa_bipush (w_rg2 (by omega) (by omega)) ?_
      refine wa_icmpne (w_rg0 (by omega) (by omega)) (w_rg0 (by omega) (by omega)) ⟨_, rfl⟩ (fun c6 => ?_) (fun c6 => ?_)
      · skip
        refine wa_iload_n (n := 1) rfl ?_
        refine wa_bipush (w_rg2 (by omega) (by omega)) ?_
        refine wa_icmpne (w_rg0 (by omega) (by omega)) (w_rg0 (by omega) (by omega)) ⟨_, rfl⟩ (fun c7 => ?_) (fun c7 => ?_)
        · skip
          refine wa_iload_n (n := 1) rfl ?_
          refine wa_bipush (w_rg2 (by omega) (by omega)) ?_
          refine wa_icmpge (w_rg0 (by omega) (by omega)) (w_rg0 (by omega) (by omega)) ⟨_, rfl⟩ (fun c8 => ?_) (fun c8 => ?_)
          · skip
            refine wa_aload_n (n := 0) rfl ?_
            refine wa_iload_n (n := 1) rfl ?_
            refine wa_iload_n (n := 3) rfl ?_
            refine wa_iload_n (n := 2) rfl ?_
            refine wa_cv 237 rfl (wy_pr rfl) wt_237 (M2 := fun _ => False) rfl at_M_compares ⟨_, rfl⟩ rfl rfl ⟨trivial, trivial, (Or.inr ⟨wy_pr rfl, fun q => q⟩), trivial, trivial⟩ trivial (fun _ _ q => False.elim q) ?_ (fun _ _ _ q => q)
            refine wa_iload_n (n := 1) rfl ?_
            refine wa_bipush (w_rg2 (by omega) (by omega)) ?_
            refine wa_icmpeq (w_rg0 (by omega) (by omega)) (w_rg0 (by omega) (by omega)) ⟨_, rfl⟩ (fun c9 => ?_) (fun c9 => ?_)
            · skip
              refine wa_aload_n (n := 0) rfl ?_
              refine wa_aload_n (n := 0) rfl ?_
              refine wb_gf4 237 rfl (wy_pr rfl) wt_237 wf_15_138 (v := 363) wl_237_138 ?_
              refine wa_iload_n (n := 2) rfl ?_
              refine wb_iald 363 rfl (wy_pr rfl) wt_363 (n := 4200) ((ml_363 hM)) (by omega) (by omega) (v := kx) (hkx) (fun r10 => ?_)
              refine wa_aload_n (n := 0) rfl ?_
              refine wb_gf4 237 rfl (wy_pr rfl) wt_237 wf_15_139 (v := 364) wl_237_139 ?_
              refine wa_iload_n (n := 2) rfl ?_
              refine wb_lald 364 rfl (wy_pr rfl) wt_364 (n := 4200) ((ml_364 hM)) (by omega) (by omega) (v := vx) (hvx) (fun r11 => ?_)
              refine wa_aload_n (n := 0) rfl ?_
              refine wb_gf4 237 rfl (wy_pr rfl) wt_237 wf_15_138 (v := 363) wl_237_138 ?_
              refine wa_iload_n (n := 3) rfl ?_
              refine wb_iald 363 rfl (wy_pr rfl) wt_363 (n := 4200) ((ml_363 hM)) (by omega) (by omega) (v := ky) (hky) (fun r12 => ?_)
              refine wa_aload_n (n := 0) rfl ?_
              refine wb_gf4 237 rfl (wy_pr rfl) wt_237 wf_15_139 (v := 364) wl_237_139 ?_
              refine wa_iload_n (n := 3) rfl ?_
              refine wb_lald 364 rfl (wy_pr rfl) wt_364 (n := 4200) ((ml_364 hM)) (by omega) (by omega) (v := vy) (hvy) (fun r13 => ?_)
              refine wa_cv 237 rfl (wy_pr rfl) wt_237 (M2 := fun _ => False) rfl at_M_alike ⟨_, rfl⟩ rfl rfl ⟨(Or.inr ⟨wy_pr rfl, fun q => q⟩), trivial, trivial, trivial, trivial⟩ trivial (fun _ _ q => False.elim q) ?_ (fun _ _ _ q => q)
              refine wa_iload_n (n := 1) rfl ?_
              refine wa_iconst ?_
              refine wa_icmpne (w_rg0 (by omega) (by omega)) (w_rg0 (by omega) (by omega)) ⟨_, rfl⟩ (fun c14 => ?_) (fun c14 => ?_)
              · skip
                refine wa_iload_n (n := 1) rfl ?_
                refine wa_lload_n (n := 2) rfl ?_
                refine wa_iload (n := 4) rfl ?_
                refine wa_lload (n := 5) rfl ?_
                refine wa_cs (M2 := fun _ => False) rfl at_M_isSame ⟨_, rfl⟩ rfl rfl ⟨(Or.inr ⟨wy_pr rfl, fun q => q⟩), trivial, trivial, trivial, trivial, trivial⟩ trivial (fun _ _ q => False.elim q) ?_ (fun _ _ _ q => q)
                refine wa_iload_n (n := 0) rfl ?_
                refine wa_iload_n (n := 3) rfl ?_
                refine wa_icmpne (w_rg0 (by omega) (by omega)) (w_rg0 (by omega) (by omega)) ⟨_, rfl⟩ (fun c15 => ?_) (fun c15 => ?_)
                · skip
                  refine wa_iconst ?_
                  refine wa_fall ⟨_, rfl⟩ ?_
                  refine wa_zreturn rfl (Or.inl rfl) ?_
                  show wJ _ _ _ _ _ _ _ _ _ _
                  refine wa_fall ⟨_, rfl⟩ ?_
                  refine wa_zreturn rfl (Or.inl rfl) ?_
                  show wJ _ _ _ _ _ _ _ _ _ _
                  refine wa_istore (n := 4) rfl ?_
                  refine wa_aload_n (n := 0) rfl ?_
                  refine wa_iconst ?_
                  refine wa_iload (n := 4) rfl ?_
                  refine wa_iload_n (n := 1) rfl ?_
                  refine wa_bipush (w_rg2 (by omega) (by omega)) ?_
                  refine wa_icmpne (w_rg0 (by omega) (by omega)) (w_rg0 (by omega) (by omega)) ⟨_, rfl⟩ (fun c16 => ?_) (fun c16 => ?_)
                  · skip
                    exact absurd c16 (by omega)
                  · skip
                    refine wa_iconst ?_
                    refine wa_goto ⟨_, rfl⟩ ?_
                    refine wa_icmpne (w_rg0 (by omega) (by omega)) (w_rg0 (by omega) (by omega)) ⟨_, rfl⟩ (fun c17 => ?_) (fun c17 => ?_)
                    · skip
                      refine wb_lconst (m := 0) rfl ?_
                      refine wa_fall ⟨_, rfl⟩ ?_
                      refine wa_cv 237 rfl (wy_pr rfl) wt_237 (M2 := fun _ => False) rfl at_M_is ⟨_, rfl⟩ rfl rfl ⟨trivial, (Or.inr ⟨wy_pr rfl, fun q => q⟩), trivial, trivial, trivial, trivial⟩ trivial (fun _ _ q => False.elim q) ?_ (fun _ _ _ q => q)
                      refine wa_aload_n (n := 0) rfl ?_
                      refine wa_iload_n (n := 1) rfl ?_
                      refine wb_pfi 237 rfl (wy_pr rfl) wt_237 wf_15_110 (n := 110) rfl ⟨(by omega), (by omega)⟩ ?_
                      refine wa_aload_n (n := 0) rfl ?_
                      refine wa_lload_n (n := 2) rfl ?_
                      refine wb_pfl 237 rfl (wy_pr rfl) wt_237 wf_15_111 (n := 111) rfl ⟨(by omega), (by omega)⟩ ?_
                      refine wa_return rfl ?_
                      show wJ _ _ _ _ _ _ _ _ _ _
                      refine wa_return rfl ?_
                      show wJ _ _ _ _ _ _ _ _ _ _
                      refine wa_fall ⟨_, rfl⟩ ?_
                      refine wa_aload_n (n := 0) rfl ?_
                      refine wb_gf4 237 rfl (wy_pr rfl) wt_237 wf_15_134 (v := 359) wl_237_134 ?_
                      refine wa_aload_n (n := 0) rfl ?_
                      refine wb_gfi 237 rfl (wy_pr rfl) wt_237 wf_15_151 (v := t) ((w_up_at (by decide)).trans ((w_up_at (by decide)).trans (mt))) (fun r18 => ?_)
                      refine wa_dup2 (by decide) (by decide) ?_
                      refine wb_iald 359 rfl (wy_pr rfl) wt_359 (n := 2) ((w_up_slot (by decide)).trans ((w_up_slot (by decide)).trans ((ml_359 hM)))) (by omega) (by omega) (v := h) ((w_up_slot (by decide)).trans ((w_up_slot (by decide)).trans (mh))) (fun r19 => ?_)
                      refine wa_iconst ?_
                      refine wa_isub ?_
                      refine wb_iast 359 rfl (wy_pr rfl) wt_359 (n := 2) ((w_up_slot (by decide)).trans ((w_up_slot (by decide)).trans ((ml_359 hM)))) (by omega) (by omega) ⟨(by omega), (by omega)⟩ ?_
                      refine wa_aload_n (n := 0) rfl ?_
                      refine wb_gf4 237 rfl (wy_pr rfl) wt_237 wf_15_138 (v := 363) wl_237_138 ?_
                      refine wa_iload_n (n := 3) rfl ?_
                      refine wa_aload_n (n := 0) rfl ?_
                      refine wb_gfi 237 rfl (wy_pr rfl) wt_237 wf_15_110 (v := 1) ((w_up_slot (by decide)).trans ((w_up_at (by decide)).trans (w_up_same _ _ _ _))) (fun r20 => ?_)
                      refine wb_iast 363 rfl (wy_pr rfl) wt_363 (n := 4200) ((w_up_slot (by decide)).trans ((w_up_slot (by decide)).trans ((w_up_slot (by decide)).trans ((ml_363 hM))))) (by omega) (by omega) ⟨(by omega), (by omega)⟩ ?_
                      refine wa_aload_n (n := 0) rfl ?_
                      refine wb_gf4 237 rfl (wy_pr rfl) wt_237 wf_15_139 (v := 364) wl_237_139 ?_
                      refine wa_iload_n (n := 3) rfl ?_
                      refine wa_aload_n (n := 0) rfl ?_
                      refine wb_gfl 237 rfl (wy_pr rfl) wt_237 wf_15_111 (v := 0) ((w_up_slot (by decide)).trans ((w_up_slot (by decide)).trans (w_up_same _ _ _ _))) (fun r21 => ?_)
                      refine wb_last 364 rfl (wy_pr rfl) wt_364 (n := 4200) ((w_up_slot (by decide)).trans ((w_up_slot (by decide)).trans ((w_up_slot (by decide)).trans ((w_up_slot (by decide)).trans ((ml_364 hM)))))) (by omega) (by omega) ⟨(by omega), (by omega)⟩ ?_
                      refine wa_fall ⟨_, rfl⟩ ?_
                      refine wa_return rfl ?_
                      refine ⟨rfl, ?_⟩
                      first
                        | (exfalso; omega)
                        | (rw [if_pos (by omega)]; rfl)
                        | (rw [if_neg (by omega)]; rfl)
                    · skip
                      exact absurd c17 (by omega)
                · skip
                  refine wa_lload_n (n := 1) rfl ?_
                  refine wa_lload (n := 4) rfl ?_
                  refine wa_lcmp (w_rg1 (by omega) (by omega)) (w_rg1 (by omega) (by omega)) ?_
                  refine wa_ifne (by have := @wb_lcmp_cases; exact w_lcmp_rg) ⟨_, rfl⟩ (fun c22 => ?_) (fun c22 => ?_)
                  · skip
                    have c22x := @wb_lcmp_cases vx vy
                    refine wa_iconst ?_
                    refine wa_fall ⟨_, rfl⟩ ?_
                    refine wa_zreturn rfl (Or.inl rfl) ?_
                    show wJ _ _ _ _ _ _ _ _ _ _
                    refine wa_fall ⟨_, rfl⟩ ?_
                    refine wa_zreturn rfl (Or.inl rfl) ?_
                    show wJ _ _ _ _ _ _ _ _ _ _
                    refine wa_istore (n := 4) rfl ?_
                    refine wa_aload_n (n := 0) rfl ?_
                    refine wa_iconst ?_
                    refine wa_iload (n := 4) rfl ?_
                    refine wa_iload_n (n := 1) rfl ?_
                    refine wa_bipush (w_rg2 (by omega) (by omega)) ?_
                    refine wa_icmpne (w_rg0 (by omega) (by omega)) (w_rg0 (by omega) (by omega)) ⟨_, rfl⟩ (fun c23 => ?_) (fun c23 => ?_)
                    · skip
                      exact absurd c23 (by omega)
                    · skip
                      refine wa_iconst ?_
                      refine wa_goto ⟨_, rfl⟩ ?_
                      refine wa_icmpne (w_rg0 (by omega) (by omega)) (w_rg0 (by omega) (by omega)) ⟨_, rfl⟩ (fun c24 => ?_) (fun c24 => ?_)
                      · skip
                        refine wb_lconst (m := 0) rfl ?_
                        refine wa_fall ⟨_, rfl⟩ ?_
                        refine wa_cv 237 rfl (wy_pr rfl) wt_237 (M2 := fun _ => False) rfl at_M_is ⟨_, rfl⟩ rfl rfl ⟨trivial, (Or.inr ⟨wy_pr rfl, fun q => q⟩), trivial, trivial, trivial, trivial⟩ trivial (fun _ _ q => False.elim q) ?_ (fun _ _ _ q => q)
                        refine wa_aload_n (n := 0) rfl ?_
                        refine wa_iload_n (n := 1) rfl ?_
                        refine wb_pfi 237 rfl (wy_pr rfl) wt_237 wf_15_110 (n := 110) rfl ⟨(by omega), (by omega)⟩ ?_
                        refine wa_aload_n (n := 0) rfl ?_
                        refine wa_lload_n (n := 2) rfl ?_
                        refine wb_pfl 237 rfl (wy_pr rfl) wt_237 wf_15_111 (n := 111) rfl ⟨(by omega), (by omega)⟩ ?_
                        refine wa_return rfl ?_
                        show wJ _ _ _ _ _ _ _ _ _ _
                        refine wa_return rfl ?_
                        show wJ _ _ _ _ _ _ _ _ _ _
                        refine wa_fall ⟨_, rfl⟩ ?_
                        refine wa_aload_n (n := 0) rfl ?_
                        refine wb_gf4 237 rfl (wy_pr rfl) wt_237 wf_15_134 (v := 359) wl_237_134 ?_
                        refine wa_aload_n (n := 0) rfl ?_
                        refine wb_gfi 237 rfl (wy_pr rfl) wt_237 wf_15_151 (v := t) ((w_up_at (by decide)).trans ((w_up_at (by decide)).trans (mt))) (fun r25 => ?_)
                        refine wa_dup2 (by decide) (by decide) ?_
                        refine wb_iald 359 rfl (wy_pr rfl) wt_359 (n := 2) ((w_up_slot (by decide)).trans ((w_up_slot (by decide)).trans ((ml_359 hM)))) (by omega) (by omega) (v := h) ((w_up_slot (by decide)).trans ((w_up_slot (by decide)).trans (mh))) (fun r26 => ?_)
                        refine wa_iconst ?_
                        refine wa_isub ?_
                        refine wb_iast 359 rfl (wy_pr rfl) wt_359 (n := 2) ((w_up_slot (by decide)).trans ((w_up_slot (by decide)).trans ((ml_359 hM)))) (by omega) (by omega) ⟨(by omega), (by omega)⟩ ?_
                        refine wa_aload_n (n := 0) rfl ?_
                        refine wb_gf4 237 rfl (wy_pr rfl) wt_237 wf_15_138 (v := 363) wl_237_138 ?_
                        refine wa_iload_n (n := 3) rfl ?_
                        refine wa_aload_n (n := 0) rfl ?_
                        refine wb_gfi 237 rfl (wy_pr rfl) wt_237 wf_15_110 (v := 1) ((w_up_slot (by decide)).trans ((w_up_at (by decide)).trans (w_up_same _ _ _ _))) (fun r27 => ?_)
                        refine wb_iast 363 rfl (wy_pr rfl) wt_363 (n := 4200) ((w_up_slot (by decide)).trans ((w_up_slot (by decide)).trans ((w_up_slot (by decide)).trans ((ml_363 hM))))) (by omega) (by omega) ⟨(by omega), (by omega)⟩ ?_
                        refine wa_aload_n (n := 0) rfl ?_
                        refine wb_gf4 237 rfl (wy_pr rfl) wt_237 wf_15_139 (v := 364) wl_237_139 ?_
                        refine wa_iload_n (n := 3) rfl ?_
                        refine wa_aload_n (n := 0) rfl ?_
                        refine wb_gfl 237 rfl (wy_pr rfl) wt_237 wf_15_111 (v := 0) ((w_up_slot (by decide)).trans ((w_up_slot (by decide)).trans (w_up_same _ _ _ _))) (fun r28 => ?_)
                        refine wb_last 364 rfl (wy_pr rfl) wt_364 (n := 4200) ((w_up_slot (by decide)).trans ((w_up_slot (by decide)).trans ((w_up_slot (by decide)).trans ((w_up_slot (by decide)).trans ((ml_364 hM)))))) (by omega) (by omega) ⟨(by omega), (by omega)⟩ ?_
                        refine wa_fall ⟨_, rfl⟩ ?_
                        refine wa_return rfl ?_
                        refine ⟨rfl, ?_⟩
                        first
                          | (exfalso; omega)
                          | (rw [if_pos (by omega)]; rfl)
                          | (rw [if_neg (by omega)]; rfl)
                      · skip
                        exact absurd c24 (by omega)
                  · skip
                    have c22x := @wb_lcmp_cases vx vy
                    refine wa_iconst ?_
                    refine wa_goto ⟨_, rfl⟩ ?_
                    refine wa_zreturn rfl (Or.inr rfl) ?_
                    show wJ _ _ _ _ _ _ _ _ _ _
                    refine wa_fall ⟨_, rfl⟩ ?_
                    refine wa_zreturn rfl (Or.inr rfl) ?_
                    show wJ _ _ _ _ _ _ _ _ _ _
                    refine wa_istore (n := 4) rfl ?_
                    refine wa_aload_n (n := 0) rfl ?_
                    refine wa_iconst ?_
                    refine wa_iload (n := 4) rfl ?_
                    refine wa_iload_n (n := 1) rfl ?_
                    refine wa_bipush (w_rg2 (by omega) (by omega)) ?_
                    refine wa_icmpne (w_rg0 (by omega) (by omega)) (w_rg0 (by omega) (by omega)) ⟨_, rfl⟩ (fun c29 => ?_) (fun c29 => ?_)
                    · skip
                      exact absurd c29 (by omega)
                    · skip
                      refine wa_iconst ?_
                      refine wa_goto ⟨_, rfl⟩ ?_
                      refine wa_icmpne (w_rg0 (by omega) (by omega)) (w_rg0 (by omega) (by omega)) ⟨_, rfl⟩ (fun c30 => ?_) (fun c30 => ?_)
                      · skip
                        exact absurd c30 (by omega)
                      · skip
                        refine wb_lconst (m := 1) rfl ?_
                        refine wa_goto ⟨_, rfl⟩ ?_
                        refine wa_cv 237 rfl (wy_pr rfl) wt_237 (M2 := fun _ => False) rfl at_M_is ⟨_, rfl⟩ rfl rfl ⟨trivial, (Or.inr ⟨wy_pr rfl, fun q => q⟩), trivial, trivial, trivial, trivial⟩ trivial (fun _ _ q => False.elim q) ?_ (fun _ _ _ q => q)
                        refine wa_aload_n (n := 0) rfl ?_
                        refine wa_iload_n (n := 1) rfl ?_
                        refine wb_pfi 237 rfl (wy_pr rfl) wt_237 wf_15_110 (n := 110) rfl ⟨(by omega), (by omega)⟩ ?_
                        refine wa_aload_n (n := 0) rfl ?_
                        refine wa_lload_n (n := 2) rfl ?_
                        refine wb_pfl 237 rfl (wy_pr rfl) wt_237 wf_15_111 (n := 111) rfl ⟨(by omega), (by omega)⟩ ?_
                        refine wa_return rfl ?_
                        show wJ _ _ _ _ _ _ _ _ _ _
                        refine wa_return rfl ?_
                        show wJ _ _ _ _ _ _ _ _ _ _
                        refine wa_fall ⟨_, rfl⟩ ?_
                        refine wa_aload_n (n := 0) rfl ?_
                        refine wb_gf4 237 rfl (wy_pr rfl) wt_237 wf_15_134 (v := 359) wl_237_134 ?_
                        refine wa_aload_n (n := 0) rfl ?_
                        refine wb_gfi 237 rfl (wy_pr rfl) wt_237 wf_15_151 (v := t) ((w_up_at (by decide)).trans ((w_up_at (by decide)).trans (mt))) (fun r31 => ?_)
                        refine wa_dup2 (by decide) (by decide) ?_
                        refine wb_iald 359 rfl (wy_pr rfl) wt_359 (n := 2) ((w_up_slot (by decide)).trans ((w_up_slot (by decide)).trans ((ml_359 hM)))) (by omega) (by omega) (v := h) ((w_up_slot (by decide)).trans ((w_up_slot (by decide)).trans (mh))) (fun r32 => ?_)
                        refine wa_iconst ?_
                        refine wa_isub ?_
                        refine wb_iast 359 rfl (wy_pr rfl) wt_359 (n := 2) ((w_up_slot (by decide)).trans ((w_up_slot (by decide)).trans ((ml_359 hM)))) (by omega) (by omega) ⟨(by omega), (by omega)⟩ ?_
                        refine wa_aload_n (n := 0) rfl ?_
                        refine wb_gf4 237 rfl (wy_pr rfl) wt_237 wf_15_138 (v := 363) wl_237_138 ?_
                        refine wa_iload_n (n := 3) rfl ?_
                        refine wa_aload_n (n := 0) rfl ?_
                        refine wb_gfi 237 rfl (wy_pr rfl) wt_237 wf_15_110 (v := 1) ((w_up_slot (by decide)).trans ((w_up_at (by decide)).trans (w_up_same _ _ _ _))) (fun r33 => ?_)
                        refine wb_iast 363 rfl (wy_pr rfl) wt_363 (n := 4200) ((w_up_slot (by decide)).trans ((w_up_slot (by decide)).trans ((w_up_slot (by decide)).trans ((ml_363 hM))))) (by omega) (by omega) ⟨(by omega), (by omega)⟩ ?_
                        refine wa_aload_n (n := 0) rfl ?_
                        refine wb_gf4 237 rfl (wy_pr rfl) wt_237 wf_15_139 (v := 364) wl_237_139 ?_
                        refine wa_iload_n (n := 3) rfl ?_
                        refine wa_aload_n (n := 0) rfl ?_
                        refine wb_gfl 237 rfl (wy_pr rfl) wt_237 wf_15_111 (v := 1) ((w_up_slot (by decide)).trans ((w_up_slot (by decide)).trans (w_up_same _ _ _ _))) (fun r34 => ?_)
                        refine wb_last 364 rfl (wy_pr rfl) wt_364 (n := 4200) ((w_up_slot (by decide)).trans ((w_up_slot (by decide)).trans ((w_up_slot (by decide)).trans ((w_up_slot (by decide)).trans ((ml_364 hM)))))) (by omega) (by omega) ⟨(by omega), (by omega)⟩ ?_
                        refine wa_fall ⟨_, rfl⟩ ?_
                        refine wa_return rfl ?_
                        refine ⟨rfl, ?_⟩
                        first
                          | (exfalso; omega)
                          | (rw [if_pos (by omega)]; rfl)
                          | (rw [if_neg (by omega)]; rfl)
              · skip
                refine wa_iload (n := 4) rfl ?_
                refine wa_iconst ?_
                refine wa_icmpne (w_rg0 (by omega) (by omega)) (w_rg0 (by omega) (by omega)) ⟨_, rfl⟩ (fun c35 => ?_) (fun c35 => ?_)
                · skip
                  refine wa_iload_n (n := 1) rfl ?_
                  refine wa_lload_n (n := 2) rfl ?_
                  refine wa_iload (n := 4) rfl ?_
                  refine wa_lload (n := 5) rfl ?_
                  refine wa_cs (M2 := fun _ => False) rfl at_M_isSame ⟨_, rfl⟩ rfl rfl ⟨(Or.inr ⟨wy_pr rfl, fun q => q⟩), trivial, trivial, trivial, trivial, trivial⟩ trivial (fun _ _ q => False.elim q) ?_ (fun _ _ _ q => q)
                  refine wa_iload_n (n := 0) rfl ?_
                  refine wa_iload_n (n := 3) rfl ?_
                  refine wa_icmpne (w_rg0 (by omega) (by omega)) (w_rg0 (by omega) (by omega)) ⟨_, rfl⟩ (fun c36 => ?_) (fun c36 => ?_)
                  · skip
                    refine wa_iconst ?_
                    refine wa_fall ⟨_, rfl⟩ ?_
                    refine wa_zreturn rfl (Or.inl rfl) ?_
                    show wJ _ _ _ _ _ _ _ _ _ _
                    refine wa_fall ⟨_, rfl⟩ ?_
                    refine wa_zreturn rfl (Or.inl rfl) ?_
                    show wJ _ _ _ _ _ _ _ _ _ _
                    refine wa_istore (n := 4) rfl ?_
                    refine wa_aload_n (n := 0) rfl ?_
                    refine wa_iconst ?_
                    refine wa_iload (n := 4) rfl ?_
                    refine wa_iload_n (n := 1) rfl ?_
                    refine wa_bipush (w_rg2 (by omega) (by omega)) ?_
                    refine wa_icmpne (w_rg0 (by omega) (by omega)) (w_rg0 (by omega) (by omega)) ⟨_, rfl⟩ (fun c37 => ?_) (fun c37 => ?_)
                    · skip
                      exact absurd c37 (by omega)
                    · skip
                      refine wa_iconst ?_
                      refine wa_goto ⟨_, rfl⟩ ?_
                      refine wa_icmpne (w_rg0 (by omega) (by omega)) (w_rg0 (by omega) (by omega)) ⟨_, rfl⟩ (fun c38 => ?_) (fun c38 => ?_)
                      · skip
                        refine wb_lconst (m := 0) rfl ?_
                        refine wa_fall ⟨_, rfl⟩ ?_
                        refine wa_cv 237 rfl (wy_pr rfl) wt_237 (M2 := fun _ => False) rfl at_M_is ⟨_, rfl⟩ rfl rfl ⟨trivial, (Or.inr ⟨wy_pr rfl, fun q => q⟩), trivial, trivial, trivial, trivial⟩ trivial (fun _ _ q => False.elim q) ?_ (fun _ _ _ q => q)
                        refine wa_aload_n (n := 0) rfl ?_
                        refine wa_iload_n (n := 1) rfl ?_
                        refine wb_pfi 237 rfl (wy_pr rfl) wt_237 wf_15_110 (n := 110) rfl ⟨(by omega), (by omega)⟩ ?_
                        refine wa_aload_n (n := 0) rfl ?_
                        refine wa_lload_n (n := 2) rfl ?_
                        refine wb_pfl 237 rfl (wy_pr rfl) wt_237 wf_15_111 (n := 111) rfl ⟨(by omega), (by omega)⟩ ?_
                        refine wa_return rfl ?_
                        show wJ _ _ _ _ _ _ _ _ _ _
                        refine wa_return rfl ?_
                        show wJ _ _ _ _ _ _ _ _ _ _
                        refine wa_fall ⟨_, rfl⟩ ?_
                        refine wa_aload_n (n := 0) rfl ?_
                        refine wb_gf4 237 rfl (wy_pr rfl) wt_237 wf_15_134 (v := 359) wl_237_134 ?_
                        refine wa_aload_n (n := 0) rfl ?_
                        refine wb_gfi 237 rfl (wy_pr rfl) wt_237 wf_15_151 (v := t) ((w_up_at (by decide)).trans ((w_up_at (by decide)).trans (mt))) (fun r39 => ?_)
                        refine wa_dup2 (by decide) (by decide) ?_
                        refine wb_iald 359 rfl (wy_pr rfl) wt_359 (n := 2) ((w_up_slot (by decide)).trans ((w_up_slot (by decide)).trans ((ml_359 hM)))) (by omega) (by omega) (v := h) ((w_up_slot (by decide)).trans ((w_up_slot (by decide)).trans (mh))) (fun r40 => ?_)
                        refine wa_iconst ?_
                        refine wa_isub ?_
                        refine wb_iast 359 rfl (wy_pr rfl) wt_359 (n := 2) ((w_up_slot (by decide)).trans ((w_up_slot (by decide)).trans ((ml_359 hM)))) (by omega) (by omega) ⟨(by omega), (by omega)⟩ ?_
                        refine wa_aload_n (n := 0) rfl ?_
                        refine wb_gf4 237 rfl (wy_pr rfl) wt_237 wf_15_138 (v := 363) wl_237_138 ?_
                        refine wa_iload_n (n := 3) rfl ?_
                        refine wa_aload_n (n := 0) rfl ?_
                        refine wb_gfi 237 rfl (wy_pr rfl) wt_237 wf_15_110 (v := 1) ((w_up_slot (by decide)).trans ((w_up_at (by decide)).trans (w_up_same _ _ _ _))) (fun r41 => ?_)
                        refine wb_iast 363 rfl (wy_pr rfl) wt_363 (n := 4200) ((w_up_slot (by decide)).trans ((w_up_slot (by decide)).trans ((w_up_slot (by decide)).trans ((ml_363 hM))))) (by omega) (by omega) ⟨(by omega), (by omega)⟩ ?_
                        refine wa_aload_n (n := 0) rfl ?_
                        refine wb_gf4 237 rfl (wy_pr rfl) wt_237 wf_15_139 (v := 364) wl_237_139 ?_
                        refine wa_iload_n (n := 3) rfl ?_
                        refine wa_aload_n (n := 0) rfl ?_
                        refine wb_gfl 237 rfl (wy_pr rfl) wt_237 wf_15_111 (v := 0) ((w_up_slot (by decide)).trans ((w_up_slot (by decide)).trans (w_up_same _ _ _ _))) (fun r42 => ?_)
                        refine wb_last 364 rfl (wy_pr rfl) wt_364 (n := 4200) ((w_up_slot (by decide)).trans ((w_up_slot (by decide)).trans ((w_up_slot (by decide)).trans ((w_up_slot (by decide)).trans ((ml_364 hM)))))) (by omega) (by omega) ⟨(by omega), (by omega)⟩ ?_
                        refine wa_fall ⟨_, rfl⟩ ?_
                        refine wa_return rfl ?_
                        refine ⟨rfl, ?_⟩
                        first
                          | (exfalso; omega)
                          | (rw [if_pos (by omega)]; rfl)
                          | (rw [if_neg (by omega)]; rfl)
                      · skip
                        exact absurd c38 (by omega)
                  · skip
                    refine wa_lload_n (n := 1) rfl ?_
                    refine wa_lload (n := 4) rfl ?_
                    refine wa_lcmp (w_rg1 (by omega) (by omega)) (w_rg1 (by omega) (by omega)) ?_
                    refine wa_ifne (by have := @wb_lcmp_cases; exact w_lcmp_rg) ⟨_, rfl⟩ (fun c43 => ?_) (fun c43 => ?_)
                    · skip
                      have c43x := @wb_lcmp_cases vx vy
                      refine wa_iconst ?_
                      refine wa_fall ⟨_, rfl⟩ ?_
                      refine wa_zreturn rfl (Or.inl rfl) ?_
                      show wJ _ _ _ _ _ _ _ _ _ _
                      refine wa_fall ⟨_, rfl⟩ ?_
                      refine wa_zreturn rfl (Or.inl rfl) ?_
                      show wJ _ _ _ _ _ _ _ _ _ _
                      refine wa_istore (n := 4) rfl ?_
                      refine wa_aload_n (n := 0) rfl ?_
                      refine wa_iconst ?_
                      refine wa_iload (n := 4) rfl ?_
                      refine wa_iload_n (n := 1) rfl ?_
                      refine wa_bipush (w_rg2 (by omega) (by omega)) ?_
                      refine wa_icmpne (w_rg0 (by omega) (by omega)) (w_rg0 (by omega) (by omega)) ⟨_, rfl⟩ (fun c44 => ?_) (fun c44 => ?_)
                      · skip
                        exact absurd c44 (by omega)
                      · skip
                        refine wa_iconst ?_
                        refine wa_goto ⟨_, rfl⟩ ?_
                        refine wa_icmpne (w_rg0 (by omega) (by omega)) (w_rg0 (by omega) (by omega)) ⟨_, rfl⟩ (fun c45 => ?_) (fun c45 => ?_)
                        · skip
                          refine wb_lconst (m := 0) rfl ?_
                          refine wa_fall ⟨_, rfl⟩ ?_
                          refine wa_cv 237 rfl (wy_pr rfl) wt_237 (M2 := fun _ => False) rfl at_M_is ⟨_, rfl⟩ rfl rfl ⟨trivial, (Or.inr ⟨wy_pr rfl, fun q => q⟩), trivial, trivial, trivial, trivial⟩ trivial (fun _ _ q => False.elim q) ?_ (fun _ _ _ q => q)
                          refine wa_aload_n (n := 0) rfl ?_
                          refine wa_iload_n (n := 1) rfl ?_
                          refine wb_pfi 237 rfl (wy_pr rfl) wt_237 wf_15_110 (n := 110) rfl ⟨(by omega), (by omega)⟩ ?_
                          refine wa_aload_n (n := 0) rfl ?_
                          refine wa_lload_n (n := 2) rfl ?_
                          refine wb_pfl 237 rfl (wy_pr rfl) wt_237 wf_15_111 (n := 111) rfl ⟨(by omega), (by omega)⟩ ?_
                          refine wa_return rfl ?_
                          show wJ _ _ _ _ _ _ _ _ _ _
                          refine wa_return rfl ?_
                          show wJ _ _ _ _ _ _ _ _ _ _
                          refine wa_fall ⟨_, rfl⟩ ?_
                          refine wa_aload_n (n := 0) rfl ?_
                          refine wb_gf4 237 rfl (wy_pr rfl) wt_237 wf_15_134 (v := 359) wl_237_134 ?_
                          refine wa_aload_n (n := 0) rfl ?_
                          refine wb_gfi 237 rfl (wy_pr rfl) wt_237 wf_15_151 (v := t) ((w_up_at (by decide)).trans ((w_up_at (by decide)).trans (mt))) (fun r46 => ?_)
                          refine wa_dup2 (by decide) (by decide) ?_
                          refine wb_iald 359 rfl (wy_pr rfl) wt_359 (n := 2) ((w_up_slot (by decide)).trans ((w_up_slot (by decide)).trans ((ml_359 hM)))) (by omega) (by omega) (v := h) ((w_up_slot (by decide)).trans ((w_up_slot (by decide)).trans (mh))) (fun r47 => ?_)
                          refine wa_iconst ?_
                          refine wa_isub ?_
                          refine wb_iast 359 rfl (wy_pr rfl) wt_359 (n := 2) ((w_up_slot (by decide)).trans ((w_up_slot (by decide)).trans ((ml_359 hM)))) (by omega) (by omega) ⟨(by omega), (by omega)⟩ ?_
                          refine wa_aload_n (n := 0) rfl ?_
                          refine wb_gf4 237 rfl (wy_pr rfl) wt_237 wf_15_138 (v := 363) wl_237_138 ?_
                          refine wa_iload_n (n := 3) rfl ?_
                          refine wa_aload_n (n := 0) rfl ?_
                          refine wb_gfi 237 rfl (wy_pr rfl) wt_237 wf_15_110 (v := 1) ((w_up_slot (by decide)).trans ((w_up_at (by decide)).trans (w_up_same _ _ _ _))) (fun r48 => ?_)
                          refine wb_iast 363 rfl (wy_pr rfl) wt_363 (n := 4200) ((w_up_slot (by decide)).trans ((w_up_slot (by decide)).trans ((w_up_slot (by decide)).trans ((ml_363 hM))))) (by omega) (by omega) ⟨(by omega), (by omega)⟩ ?_
                          refine wa_aload_n (n := 0) rfl ?_
                          refine wb_gf4 237 rfl (wy_pr rfl) wt_237 wf_15_139 (v := 364) wl_237_139 ?_
                          refine wa_iload_n (n := 3) rfl ?_
                          refine wa_aload_n (n := 0) rfl ?_
                          refine wb_gfl 237 rfl (wy_pr rfl) wt_237 wf_15_111 (v := 0) ((w_up_slot (by decide)).trans ((w_up_slot (by decide)).trans (w_up_same _ _ _ _))) (fun r49 => ?_)
                          refine wb_last 364 rfl (wy_pr rfl) wt_364 (n := 4200) ((w_up_slot (by decide)).trans ((w_up_slot (by decide)).trans ((w_up_slot (by decide)).trans ((w_up_slot (by decide)).trans ((ml_364 hM)))))) (by omega) (by omega) ⟨(by omega), (by omega)⟩ ?_
                          refine wa_fall ⟨_, rfl⟩ ?_
                          refine wa_return rfl ?_
                          refine ⟨rfl, ?_⟩
                          first
                            | (exfalso; omega)
                            | (rw [if_pos (by omega)]; rfl)
                            | (rw [if_neg (by omega)]; rfl)
                        · skip
                          exact absurd c45 (by omega)
                    · skip
                      have c43x := @wb_lcmp_cases vx vy
                      refine wa_iconst ?_
                      refine wa_goto ⟨_, rfl⟩ ?_
                      refine wa_zreturn rfl (Or.inr rfl) ?_
                      show wJ _ _ _ _ _ _ _ _ _ _
                      refine wa_fall ⟨_, rfl⟩ ?_
                      refine wa_zreturn rfl (Or.inr rfl) ?_
                      show wJ _ _ _ _ _ _ _ _ _ _
                      refine wa_istore (n := 4) rfl ?_
                      refine wa_aload_n (n := 0) rfl ?_
                      refine wa_iconst ?_
                      refine wa_iload (n := 4) rfl ?_
                      refine wa_iload_n (n := 1) rfl ?_
                      refine wa_bipush (w_rg2 (by omega) (by omega)) ?_
                      refine wa_icmpne (w_rg0 (by omega) (by omega)) (w_rg0 (by omega) (by omega)) ⟨_, rfl⟩ (fun c50 => ?_) (fun c50 => ?_)
                      · skip
                        exact absurd c50 (by omega)
                      · skip
                        refine wa_iconst ?_
                        refine wa_goto ⟨_, rfl⟩ ?_
                        refine wa_icmpne (w_rg0 (by omega) (by omega)) (w_rg0 (by omega) (by omega)) ⟨_, rfl⟩ (fun c51 => ?_) (fun c51 => ?_)
                        · skip
                          exact absurd c51 (by omega)
                        · skip
                          refine wb_lconst (m := 1) rfl ?_
                          refine wa_goto ⟨_, rfl⟩ ?_
                          refine wa_cv 237 rfl (wy_pr rfl) wt_237 (M2 := fun _ => False) rfl at_M_is ⟨_, rfl⟩ rfl rfl ⟨trivial, (Or.inr ⟨wy_pr rfl, fun q => q⟩), trivial, trivial, trivial, trivial⟩ trivial (fun _ _ q => False.elim q) ?_ (fun _ _ _ q => q)
                          refine wa_aload_n (n := 0) rfl ?_
                          refine wa_iload_n (n := 1) rfl ?_
                          refine wb_pfi 237 rfl (wy_pr rfl) wt_237 wf_15_110 (n := 110) rfl ⟨(by omega), (by omega)⟩ ?_
                          refine wa_aload_n (n := 0) rfl ?_
                          refine wa_lload_n (n := 2) rfl ?_
                          refine wb_pfl 237 rfl (wy_pr rfl) wt_237 wf_15_111 (n := 111) rfl ⟨(by omega), (by omega)⟩ ?_
                          refine wa_return rfl ?_
                          show wJ _ _ _ _ _ _ _ _ _ _
                          refine wa_return rfl ?_
                          show wJ _ _ _ _ _ _ _ _ _ _
                          refine wa_fall ⟨_, rfl⟩ ?_
                          refine wa_aload_n (n := 0) rfl ?_
                          refine wb_gf4 237 rfl (wy_pr rfl) wt_237 wf_15_134 (v := 359) wl_237_134 ?_
                          refine wa_aload_n (n := 0) rfl ?_
                          refine wb_gfi 237 rfl (wy_pr rfl) wt_237 wf_15_151 (v := t) ((w_up_at (by decide)).trans ((w_up_at (by decide)).trans (mt))) (fun r52 => ?_)
                          refine wa_dup2 (by decide) (by decide) ?_
                          refine wb_iald 359 rfl (wy_pr rfl) wt_359 (n := 2) ((w_up_slot (by decide)).trans ((w_up_slot (by decide)).trans ((ml_359 hM)))) (by omega) (by omega) (v := h) ((w_up_slot (by decide)).trans ((w_up_slot (by decide)).trans (mh))) (fun r53 => ?_)
                          refine wa_iconst ?_
                          refine wa_isub ?_
                          refine wb_iast 359 rfl (wy_pr rfl) wt_359 (n := 2) ((w_up_slot (by decide)).trans ((w_up_slot (by decide)).trans ((ml_359 hM)))) (by omega) (by omega) ⟨(by omega), (by omega)⟩ ?_
                          refine wa_aload_n (n := 0) rfl ?_
                          refine wb_gf4 237 rfl (wy_pr rfl) wt_237 wf_15_138 (v := 363) wl_237_138 ?_
                          refine wa_iload_n (n := 3) rfl ?_
                          refine wa_aload_n (n := 0) rfl ?_
                          refine wb_gfi 237 rfl (wy_pr rfl) wt_237 wf_15_110 (v := 1) ((w_up_slot (by decide)).trans ((w_up_at (by decide)).trans (w_up_same _ _ _ _))) (fun r54 => ?_)
                          refine wb_iast 363 rfl (wy_pr rfl) wt_363 (n := 4200) ((w_up_slot (by decide)).trans ((w_up_slot (by decide)).trans ((w_up_slot (by decide)).trans ((ml_363 hM))))) (by omega) (by omega) ⟨(by omega), (by omega)⟩ ?_
                          refine wa_aload_n (n := 0) rfl ?_
                          refine wb_gf4 237 rfl (wy_pr rfl) wt_237 wf_15_139 (v := 364) wl_237_139 ?_
                          refine wa_iload_n (n := 3) rfl ?_
                          refine wa_aload_n (n := 0) rfl ?_
                          refine wb_gfl 237 rfl (wy_pr rfl) wt_237 wf_15_111 (v := 1) ((w_up_slot (by decide)).trans ((w_up_slot (by decide)).trans (w_up_same _ _ _ _))) (fun r55 => ?_)
                          refine wb_last 364 rfl (wy_pr rfl) wt_364 (n := 4200) ((w_up_slot (by decide)).trans ((w_up_slot (by decide)).trans ((w_up_slot (by decide)).trans ((w_up_slot (by decide)).trans ((ml_364 hM)))))) (by omega) (by omega) ⟨(by omega), (by omega)⟩ ?_
                          refine wa_fall ⟨_, rfl⟩ ?_
                          refine wa_return rfl ?_
                          refine ⟨rfl, ?_⟩
                          first
                            | (exfalso; omega)
                            | (rw [if_pos (by omega)]; rfl)
                            | (rw [if_neg (by omega)]; rfl)
                · skip
                  exact absurd c35 (by omega)
            · skip
              exact absurd c9 (by omega)
          · skip
            exact absurd c8 (by omega)
        · skip
          exact absurd c7 (by omega)
      · skip
        exact absurd c6 (by omega)
    · skip
      exact absurd c5 (by omega)
  · skip
    exact absurd c4 (by omega)
theorem y15 {t c p h tp kx ky vx vy : Int} (hP : mP t c p h tp S) (hky : S 363 (2100 * t + h - 1) = ky) (hvy : S 364 (2100 * t + h - 1) = vy) (hkx : S 363 (2100 * t + h - 1 - 1) = kx) (hvx : S 364 (2100 * t + h - 1 - 1) = vx) (hh1 : 2 ≤ h) (hk3 : ky ≠ 3) : wJ (pe_GA xs) wY0 M (d + 11) t_M_operators ((pe_at t_M_operators.bl 0).getD (0, [])).2 [(0, (2, 237)), (1, (0, 15))] [] S (fun o Z => o = .inl none ∧ pXZ t h 1 (if kx = ky ∧ vx = vy then 0 else 1) S = Z) := by
  obtain ⟨hM, ⟨mt, mt0, mt1⟩, mp, mf, ⟨mc, mc0, mc1⟩, ⟨mtp, mtq⟩, ⟨mpa, mp0, mp1⟩, mh, mh0, mh1⟩ := hP
  refine wa_aload_n (n := 0) rfl ?_
  refine wa_cv 237 rfl (wy_pr rfl) wt_237 (M2 := fun _ => False) rfl at_M_h ⟨_, rfl⟩ rfl rfl ⟨(Or.inr ⟨wy_pr rfl, fun q => q⟩), trivial, trivial⟩ trivial (fun _ _ q => False.elim q) ?_ (fun _ _ _ q => q)
  refine wa_aload_n (n := 0) rfl ?_
  refine wb_gfi 237 rfl (wy_pr rfl) wt_237 wf_15_152 (v := (2100 * t)) (mp) (fun r1 => ?_)
  refine wa_aload_n (n := 0) rfl ?_
  refine wb_gf4 237 rfl (wy_pr rfl) wt_237 wf_15_134 (v := 359) wl_237_134 ?_
  refine wa_aload_n (n := 0) rfl ?_
  refine wb_gfi 237 rfl (wy_pr rfl) wt_237 wf_15_151 (v := t) (mt) (fun r2 => ?_)
  refine wb_iald 359 rfl (wy_pr rfl) wt_359 (n := 2) ((ml_359 hM)) (by omega) (by omega) (v := h) (mh) (fun r3 => ?_)
  refine wa_iadd ?_
  refine wa_ireturn rfl ?_
  show wJ _ _ _ _ _ _ _ _ _ _
  refine wa_iconst ?_
  refine wa_isub ?_
  refine wa_istore_n (n := 2) rfl ?_
  refine wa_iload_n (n := 2) rfl ?_
  refine wa_iconst ?_
  refine wa_isub ?_
  refine wa_istore_n (n := 3) rfl ?_
  refine wa_iload_n (n := 1) rfl ?_
  refine wa_iconst ?_
  refine wa_icmpne (w_rg0 (by omega) (by omega)) (w_rg0 (by omega) (by omega)) ⟨_, rfl⟩ (fun c4 => ?_) (fun c4 => ?_)
  · skip
    refine wa_iload_n (n := 1) rfl ?_
    refine wa_bipush (w_rg2 (by omega) (by omega)) ?_
    refine wa_icmpne (w_rg0 (by omega) (by omega)) (w_rg0 (by omega) (by omega)) ⟨_, rfl⟩ (fun c5 => ?_) (fun c5 => ?_)
    · skip
      refine wa_iload_n (n := 1) rfl ?_
      refine wa_bipush (w_rg2 (by omega) (by omega)) ?_
      refine wa_icmpne (w_rg0 (by omega) (by omega)) (w_rg0 (by omega) (by omega)) ⟨_, rfl⟩ (fun c6 => ?_) (fun c6 => ?_)
      · skip
        refine wa_iload_n (n := 1) rfl ?_
        refine wa_bipush (w_rg2 (by omega) (by omega)) ?_
        refine wa_icmpne (w_rg0 (by omega) (by omega)) (w_rg0 (by omega) (by omega)) ⟨_, rfl⟩ (fun c7 => ?_) (fun c7 => ?_)
        · skip
          refine wa_iload_n (n := 1) rfl ?_
          refine wa_bipush (w_rg2 (by omega) (by omega)) ?_
          refine wa_icmpge (w_rg0 (by omega) (by omega)) (w_rg0 (by omega) (by omega)) ⟨_, rfl⟩ (fun c8 => ?_) (fun c8 => ?_)
          · skip
            refine wa_aload_n (n := 0) rfl ?_
            refine wa_iload_n (n := 1) rfl ?_
            refine wa_iload_n (n := 3) rfl ?_
            refine wa_iload_n (n := 2) rfl ?_
            refine wa_cv 237 rfl (wy_pr rfl) wt_237 (M2 := fun _ => False) rfl at_M_compares ⟨_, rfl⟩ rfl rfl ⟨trivial, trivial, (Or.inr ⟨wy_pr rfl, fun q => q⟩), trivial, trivial⟩ trivial (fun _ _ q => False.elim q) ?_ (fun _ _ _ q => q)
            refine wa_iload_n (n := 1) rfl ?_
            refine wa_bipush (w_rg2 (by omega) (by omega)) ?_
            refine wa_icmpeq (w_rg0 (by omega) (by omega)) (w_rg0 (by omega) (by omega)) ⟨_, rfl⟩ (fun c9 => ?_) (fun c9 => ?_)
            · skip
              exact absurd c9 (by omega)
            · skip
              refine wa_iload_n (n := 1) rfl ?_
              refine wa_bipush (w_rg2 (by omega) (by omega)) ?_
              refine wa_icmpne (w_rg0 (by omega) (by omega)) (w_rg0 (by omega) (by omega)) ⟨_, rfl⟩ (fun c10 => ?_) (fun c10 => ?_)
              · skip
                exact absurd c10 (by omega)
              · skip
                refine wa_fall ⟨_, rfl⟩ ?_
                refine wa_aload_n (n := 0) rfl ?_
                refine wa_aload_n (n := 0) rfl ?_
                refine wb_gf4 237 rfl (wy_pr rfl) wt_237 wf_15_138 (v := 363) wl_237_138 ?_
                refine wa_iload_n (n := 2) rfl ?_
                refine wb_iald 363 rfl (wy_pr rfl) wt_363 (n := 4200) ((ml_363 hM)) (by omega) (by omega) (v := kx) (hkx) (fun r11 => ?_)
                refine wa_aload_n (n := 0) rfl ?_
                refine wb_gf4 237 rfl (wy_pr rfl) wt_237 wf_15_139 (v := 364) wl_237_139 ?_
                refine wa_iload_n (n := 2) rfl ?_
                refine wb_lald 364 rfl (wy_pr rfl) wt_364 (n := 4200) ((ml_364 hM)) (by omega) (by omega) (v := vx) (hvx) (fun r12 => ?_)
                refine wa_aload_n (n := 0) rfl ?_
                refine wb_gf4 237 rfl (wy_pr rfl) wt_237 wf_15_138 (v := 363) wl_237_138 ?_
                refine wa_iload_n (n := 3) rfl ?_
                refine wb_iald 363 rfl (wy_pr rfl) wt_363 (n := 4200) ((ml_363 hM)) (by omega) (by omega) (v := ky) (hky) (fun r13 => ?_)
                refine wa_aload_n (n := 0) rfl ?_
                refine wb_gf4 237 rfl (wy_pr rfl) wt_237 wf_15_139 (v := 364) wl_237_139 ?_
                refine wa_iload_n (n := 3) rfl ?_
                refine wb_lald 364 rfl (wy_pr rfl) wt_364 (n := 4200) ((ml_364 hM)) (by omega) (by omega) (v := vy) (hvy) (fun r14 => ?_)
                refine wa_cv 237 rfl (wy_pr rfl) wt_237 (M2 := fun _ => False) rfl at_M_alike ⟨_, rfl⟩ rfl rfl ⟨(Or.inr ⟨wy_pr rfl, fun q => q⟩), trivial, trivial, trivial, trivial⟩ trivial (fun _ _ q => False.elim q) ?_ (fun _ _ _ q => q)
                refine wa_iload_n (n := 1) rfl ?_
                refine wa_iconst ?_
                refine wa_icmpne (w_rg0 (by omega) (by omega)) (w_rg0 (by omega) (by omega)) ⟨_, rfl⟩ (fun c15 => ?_) (fun c15 => ?_)
                · skip
                  refine wa_iload_n (n := 1) rfl ?_
                  refine wa_lload_n (n := 2) rfl ?_
                  refine wa_iload (n := 4) rfl ?_
                  refine wa_lload (n := 5) rfl ?_
                  refine wa_cs (M2 := fun _ => False) rfl at_M_isSame ⟨_, rfl⟩ rfl rfl ⟨(Or.inr ⟨wy_pr rfl, fun q => q⟩), trivial, trivial, trivial, trivial, trivial⟩ trivial (fun _ _ q => False.elim q) ?_ (fun _ _ _ q => q)
                  refine wa_iload_n (n := 0) rfl ?_
                  refine wa_iload_n (n := 3) rfl ?_
                  refine wa_icmpne (w_rg0 (by omega) (by omega)) (w_rg0 (by omega) (by omega)) ⟨_, rfl⟩ (fun c16 => ?_) (fun c16 => ?_)
                  · skip
                    refine wa_iconst ?_
                    refine wa_fall ⟨_, rfl⟩ ?_
                    refine wa_zreturn rfl (Or.inl rfl) ?_
                    show wJ _ _ _ _ _ _ _ _ _ _
                    refine wa_fall ⟨_, rfl⟩ ?_
                    refine wa_zreturn rfl (Or.inl rfl) ?_
                    show wJ _ _ _ _ _ _ _ _ _ _
                    refine wa_istore (n := 4) rfl ?_
                    refine wa_aload_n (n := 0) rfl ?_
                    refine wa_iconst ?_
                    refine wa_iload (n := 4) rfl ?_
                    refine wa_iload_n (n := 1) rfl ?_
                    refine wa_bipush (w_rg2 (by omega) (by omega)) ?_
                    refine wa_icmpne (w_rg0 (by omega) (by omega)) (w_rg0 (by omega) (by omega)) ⟨_, rfl⟩ (fun c17 => ?_) (fun c17 => ?_)
                    · skip
                      refine wa_iconst ?_
                      refine wa_fall ⟨_, rfl⟩ ?_
                      refine wa_icmpne (w_rg0 (by omega) (by omega)) (w_rg0 (by omega) (by omega)) ⟨_, rfl⟩ (fun c18 => ?_) (fun c18 => ?_)
                      · skip
                        exact absurd c18 (by omega)
                      · skip
                        refine wb_lconst (m := 1) rfl ?_
                        refine wa_goto ⟨_, rfl⟩ ?_
                        refine wa_cv 237 rfl (wy_pr rfl) wt_237 (M2 := fun _ => False) rfl at_M_is ⟨_, rfl⟩ rfl rfl ⟨trivial, (Or.inr ⟨wy_pr rfl, fun q => q⟩), trivial, trivial, trivial, trivial⟩ trivial (fun _ _ q => False.elim q) ?_ (fun _ _ _ q => q)
                        refine wa_aload_n (n := 0) rfl ?_
                        refine wa_iload_n (n := 1) rfl ?_
                        refine wb_pfi 237 rfl (wy_pr rfl) wt_237 wf_15_110 (n := 110) rfl ⟨(by omega), (by omega)⟩ ?_
                        refine wa_aload_n (n := 0) rfl ?_
                        refine wa_lload_n (n := 2) rfl ?_
                        refine wb_pfl 237 rfl (wy_pr rfl) wt_237 wf_15_111 (n := 111) rfl ⟨(by omega), (by omega)⟩ ?_
                        refine wa_return rfl ?_
                        show wJ _ _ _ _ _ _ _ _ _ _
                        refine wa_return rfl ?_
                        show wJ _ _ _ _ _ _ _ _ _ _
                        refine wa_fall ⟨_, rfl⟩ ?_
                        refine wa_aload_n (n := 0) rfl ?_
                        refine wb_gf4 237 rfl (wy_pr rfl) wt_237 wf_15_134 (v := 359) wl_237_134 ?_
                        refine wa_aload_n (n := 0) rfl ?_
                        refine wb_gfi 237 rfl (wy_pr rfl) wt_237 wf_15_151 (v := t) ((w_up_at (by decide)).trans ((w_up_at (by decide)).trans (mt))) (fun r19 => ?_)
                        refine wa_dup2 (by decide) (by decide) ?_
                        refine wb_iald 359 rfl (wy_pr rfl) wt_359 (n := 2) ((w_up_slot (by decide)).trans ((w_up_slot (by decide)).trans ((ml_359 hM)))) (by omega) (by omega) (v := h) ((w_up_slot (by decide)).trans ((w_up_slot (by decide)).trans (mh))) (fun r20 => ?_)
                        refine wa_iconst ?_
                        refine wa_isub ?_
                        refine wb_iast 359 rfl (wy_pr rfl) wt_359 (n := 2) ((w_up_slot (by decide)).trans ((w_up_slot (by decide)).trans ((ml_359 hM)))) (by omega) (by omega) ⟨(by omega), (by omega)⟩ ?_
                        refine wa_aload_n (n := 0) rfl ?_
                        refine wb_gf4 237 rfl (wy_pr rfl) wt_237 wf_15_138 (v := 363) wl_237_138 ?_
                        refine wa_iload_n (n := 3) rfl ?_
                        refine wa_aload_n (n := 0) rfl ?_
                        refine wb_gfi 237 rfl (wy_pr rfl) wt_237 wf_15_110 (v := 1) ((w_up_slot (by decide)).trans ((w_up_at (by decide)).trans (w_up_same _ _ _ _))) (fun r21 => ?_)
                        refine wb_iast 363 rfl (wy_pr rfl) wt_363 (n := 4200) ((w_up_slot (by decide)).trans ((w_up_slot (by decide)).trans ((w_up_slot (by decide)).trans ((ml_363 hM))))) (by omega) (by omega) ⟨(by omega), (by omega)⟩ ?_
                        refine wa_aload_n (n := 0) rfl ?_
                        refine wb_gf4 237 rfl (wy_pr rfl) wt_237 wf_15_139 (v := 364) wl_237_139 ?_
                        refine wa_iload_n (n := 3) rfl ?_
                        refine wa_aload_n (n := 0) rfl ?_
                        refine wb_gfl 237 rfl (wy_pr rfl) wt_237 wf_15_111 (v := 1) ((w_up_slot (by decide)).trans ((w_up_slot (by decide)).trans (w_up_same _ _ _ _))) (fun r22 => ?_)
                        refine wb_last 364 rfl (wy_pr rfl) wt_364 (n := 4200) ((w_up_slot (by decide)).trans ((w_up_slot (by decide)).trans ((w_up_slot (by decide)).trans ((w_up_slot (by decide)).trans ((ml_364 hM)))))) (by omega) (by omega) ⟨(by omega), (by omega)⟩ ?_
                        refine wa_fall ⟨_, rfl⟩ ?_
                        refine wa_return rfl ?_
                        refine ⟨rfl, ?_⟩
                        first
                          | (exfalso; omega)
                          | (rw [if_pos (by omega)]; rfl)
                          | (rw [if_neg (by omega)]; rfl)
                    · skip
                      exact absurd c17 (by omega)
                  · skip
                    refine wa_lload_n (n := 1) rfl ?_
                    refine wa_lload (n := 4) rfl ?_
                    refine wa_lcmp (w_rg1 (by omega) (by omega)) (w_rg1 (by omega) (by omega)) ?_
                    refine wa_ifne (by have := @wb_lcmp_cases; exact w_lcmp_rg) ⟨_, rfl⟩ (fun c23 => ?_) (fun c23 => ?_)
                    · skip
                      have c23x := @wb_lcmp_cases vx vy
                      refine wa_iconst ?_
                      refine wa_fall ⟨_, rfl⟩ ?_
                      refine wa_zreturn rfl (Or.inl rfl) ?_
                      show wJ _ _ _ _ _ _ _ _ _ _
                      refine wa_fall ⟨_, rfl⟩ ?_
                      refine wa_zreturn rfl (Or.inl rfl) ?_
                      show wJ _ _ _ _ _ _ _ _ _ _
                      refine wa_istore (n := 4) rfl ?_
                      refine wa_aload_n (n := 0) rfl ?_
                      refine wa_iconst ?_
                      refine wa_iload (n := 4) rfl ?_
                      refine wa_iload_n (n := 1) rfl ?_
                      refine wa_bipush (w_rg2 (by omega) (by omega)) ?_
                      refine wa_icmpne (w_rg0 (by omega) (by omega)) (w_rg0 (by omega) (by omega)) ⟨_, rfl⟩ (fun c24 => ?_) (fun c24 => ?_)
                      · skip
                        refine wa_iconst ?_
                        refine wa_fall ⟨_, rfl⟩ ?_
                        refine wa_icmpne (w_rg0 (by omega) (by omega)) (w_rg0 (by omega) (by omega)) ⟨_, rfl⟩ (fun c25 => ?_) (fun c25 => ?_)
                        · skip
                          exact absurd c25 (by omega)
                        · skip
                          refine wb_lconst (m := 1) rfl ?_
                          refine wa_goto ⟨_, rfl⟩ ?_
                          refine wa_cv 237 rfl (wy_pr rfl) wt_237 (M2 := fun _ => False) rfl at_M_is ⟨_, rfl⟩ rfl rfl ⟨trivial, (Or.inr ⟨wy_pr rfl, fun q => q⟩), trivial, trivial, trivial, trivial⟩ trivial (fun _ _ q => False.elim q) ?_ (fun _ _ _ q => q)
                          refine wa_aload_n (n := 0) rfl ?_
                          refine wa_iload_n (n := 1) rfl ?_
                          refine wb_pfi 237 rfl (wy_pr rfl) wt_237 wf_15_110 (n := 110) rfl ⟨(by omega), (by omega)⟩ ?_
                          refine wa_aload_n (n := 0) rfl ?_
                          refine wa_lload_n (n := 2) rfl ?_
                          refine wb_pfl 237 rfl (wy_pr rfl) wt_237 wf_15_111 (n := 111) rfl ⟨(by omega), (by omega)⟩ ?_
                          refine wa_return rfl ?_
                          show wJ _ _ _ _ _ _ _ _ _ _
                          refine wa_return rfl ?_
                          show wJ _ _ _ _ _ _ _ _ _ _
                          refine wa_fall ⟨_, rfl⟩ ?_
                          refine wa_aload_n (n := 0) rfl ?_
                          refine wb_gf4 237 rfl (wy_pr rfl) wt_237 wf_15_134 (v := 359) wl_237_134 ?_
                          refine wa_aload_n (n := 0) rfl ?_
                          refine wb_gfi 237 rfl (wy_pr rfl) wt_237 wf_15_151 (v := t) ((w_up_at (by decide)).trans ((w_up_at (by decide)).trans (mt))) (fun r26 => ?_)
                          refine wa_dup2 (by decide) (by decide) ?_
                          refine wb_iald 359 rfl (wy_pr rfl) wt_359 (n := 2) ((w_up_slot (by decide)).trans ((w_up_slot (by decide)).trans ((ml_359 hM)))) (by omega) (by omega) (v := h) ((w_up_slot (by decide)).trans ((w_up_slot (by decide)).trans (mh))) (fun r27 => ?_)
                          refine wa_iconst ?_
                          refine wa_isub ?_
                          refine wb_iast 359 rfl (wy_pr rfl) wt_359 (n := 2) ((w_up_slot (by decide)).trans ((w_up_slot (by decide)).trans ((ml_359 hM)))) (by omega) (by omega) ⟨(by omega), (by omega)⟩ ?_
                          refine wa_aload_n (n := 0) rfl ?_
                          refine wb_gf4 237 rfl (wy_pr rfl) wt_237 wf_15_138 (v := 363) wl_237_138 ?_
                          refine wa_iload_n (n := 3) rfl ?_
                          refine wa_aload_n (n := 0) rfl ?_
                          refine wb_gfi 237 rfl (wy_pr rfl) wt_237 wf_15_110 (v := 1) ((w_up_slot (by decide)).trans ((w_up_at (by decide)).trans (w_up_same _ _ _ _))) (fun r28 => ?_)
                          refine wb_iast 363 rfl (wy_pr rfl) wt_363 (n := 4200) ((w_up_slot (by decide)).trans ((w_up_slot (by decide)).trans ((w_up_slot (by decide)).trans ((ml_363 hM))))) (by omega) (by omega) ⟨(by omega), (by omega)⟩ ?_
                          refine wa_aload_n (n := 0) rfl ?_
                          refine wb_gf4 237 rfl (wy_pr rfl) wt_237 wf_15_139 (v := 364) wl_237_139 ?_
                          refine wa_iload_n (n := 3) rfl ?_
                          refine wa_aload_n (n := 0) rfl ?_
                          refine wb_gfl 237 rfl (wy_pr rfl) wt_237 wf_15_111 (v := 1) ((w_up_slot (by decide)).trans ((w_up_slot (by decide)).trans (w_up_same _ _ _ _))) (fun r29 => ?_)
                          refine wb_last 364 rfl (wy_pr rfl) wt_364 (n := 4200) ((w_up_slot (by decide)).trans ((w_up_slot (by decide)).trans ((w_up_slot (by decide)).trans ((w_up_slot (by decide)).trans ((ml_364 hM)))))) (by omega) (by omega) ⟨(by omega), (by omega)⟩ ?_
                          refine wa_fall ⟨_, rfl⟩ ?_
                          refine wa_return rfl ?_
                          refine ⟨rfl, ?_⟩
                          first
                            | (exfalso; omega)
                            | (rw [if_pos (by omega)]; rfl)
                            | (rw [if_neg (by omega)]; rfl)
                      · skip
                        exact absurd c24 (by omega)
                    · skip
                      have c23x := @wb_lcmp_cases vx vy
                      refine wa_iconst ?_
                      refine wa_goto ⟨_, rfl⟩ ?_
                      refine wa_zreturn rfl (Or.inr rfl) ?_
                      show wJ _ _ _ _ _ _ _ _ _ _
                      refine wa_fall ⟨_, rfl⟩ ?_
                      refine wa_zreturn rfl (Or.inr rfl) ?_
                      show wJ _ _ _ _ _ _ _ _ _ _
                      refine wa_istore (n := 4) rfl ?_
                      refine wa_aload_n (n := 0) rfl ?_
                      refine wa_iconst ?_
                      refine wa_iload (n := 4) rfl ?_
                      refine wa_iload_n (n := 1) rfl ?_
                      refine wa_bipush (w_rg2 (by omega) (by omega)) ?_
                      refine wa_icmpne (w_rg0 (by omega) (by omega)) (w_rg0 (by omega) (by omega)) ⟨_, rfl⟩ (fun c30 => ?_) (fun c30 => ?_)
                      · skip
                        refine wa_iconst ?_
                        refine wa_fall ⟨_, rfl⟩ ?_
                        refine wa_icmpne (w_rg0 (by omega) (by omega)) (w_rg0 (by omega) (by omega)) ⟨_, rfl⟩ (fun c31 => ?_) (fun c31 => ?_)
                        · skip
                          refine wb_lconst (m := 0) rfl ?_
                          refine wa_fall ⟨_, rfl⟩ ?_
                          refine wa_cv 237 rfl (wy_pr rfl) wt_237 (M2 := fun _ => False) rfl at_M_is ⟨_, rfl⟩ rfl rfl ⟨trivial, (Or.inr ⟨wy_pr rfl, fun q => q⟩), trivial, trivial, trivial, trivial⟩ trivial (fun _ _ q => False.elim q) ?_ (fun _ _ _ q => q)
                          refine wa_aload_n (n := 0) rfl ?_
                          refine wa_iload_n (n := 1) rfl ?_
                          refine wb_pfi 237 rfl (wy_pr rfl) wt_237 wf_15_110 (n := 110) rfl ⟨(by omega), (by omega)⟩ ?_
                          refine wa_aload_n (n := 0) rfl ?_
                          refine wa_lload_n (n := 2) rfl ?_
                          refine wb_pfl 237 rfl (wy_pr rfl) wt_237 wf_15_111 (n := 111) rfl ⟨(by omega), (by omega)⟩ ?_
                          refine wa_return rfl ?_
                          show wJ _ _ _ _ _ _ _ _ _ _
                          refine wa_return rfl ?_
                          show wJ _ _ _ _ _ _ _ _ _ _
                          refine wa_fall ⟨_, rfl⟩ ?_
                          refine wa_aload_n (n := 0) rfl ?_
                          refine wb_gf4 237 rfl (wy_pr rfl) wt_237 wf_15_134 (v := 359) wl_237_134 ?_
                          refine wa_aload_n (n := 0) rfl ?_
                          refine wb_gfi 237 rfl (wy_pr rfl) wt_237 wf_15_151 (v := t) ((w_up_at (by decide)).trans ((w_up_at (by decide)).trans (mt))) (fun r32 => ?_)
                          refine wa_dup2 (by decide) (by decide) ?_
                          refine wb_iald 359 rfl (wy_pr rfl) wt_359 (n := 2) ((w_up_slot (by decide)).trans ((w_up_slot (by decide)).trans ((ml_359 hM)))) (by omega) (by omega) (v := h) ((w_up_slot (by decide)).trans ((w_up_slot (by decide)).trans (mh))) (fun r33 => ?_)
                          refine wa_iconst ?_
                          refine wa_isub ?_
                          refine wb_iast 359 rfl (wy_pr rfl) wt_359 (n := 2) ((w_up_slot (by decide)).trans ((w_up_slot (by decide)).trans ((ml_359 hM)))) (by omega) (by omega) ⟨(by omega), (by omega)⟩ ?_
                          refine wa_aload_n (n := 0) rfl ?_
                          refine wb_gf4 237 rfl (wy_pr rfl) wt_237 wf_15_138 (v := 363) wl_237_138 ?_
                          refine wa_iload_n (n := 3) rfl ?_
                          refine wa_aload_n (n := 0) rfl ?_
                          refine wb_gfi 237 rfl (wy_pr rfl) wt_237 wf_15_110 (v := 1) ((w_up_slot (by decide)).trans ((w_up_at (by decide)).trans (w_up_same _ _ _ _))) (fun r34 => ?_)
                          refine wb_iast 363 rfl (wy_pr rfl) wt_363 (n := 4200) ((w_up_slot (by decide)).trans ((w_up_slot (by decide)).trans ((w_up_slot (by decide)).trans ((ml_363 hM))))) (by omega) (by omega) ⟨(by omega), (by omega)⟩ ?_
                          refine wa_aload_n (n := 0) rfl ?_
                          refine wb_gf4 237 rfl (wy_pr rfl) wt_237 wf_15_139 (v := 364) wl_237_139 ?_
                          refine wa_iload_n (n := 3) rfl ?_
                          refine wa_aload_n (n := 0) rfl ?_
                          refine wb_gfl 237 rfl (wy_pr rfl) wt_237 wf_15_111 (v := 0) ((w_up_slot (by decide)).trans ((w_up_slot (by decide)).trans (w_up_same _ _ _ _))) (fun r35 => ?_)
                          refine wb_last 364 rfl (wy_pr rfl) wt_364 (n := 4200) ((w_up_slot (by decide)).trans ((w_up_slot (by decide)).trans ((w_up_slot (by decide)).trans ((w_up_slot (by decide)).trans ((ml_364 hM)))))) (by omega) (by omega) ⟨(by omega), (by omega)⟩ ?_
                          refine wa_fall ⟨_, rfl⟩ ?_
                          refine wa_return rfl ?_
                          refine ⟨rfl, ?_⟩
                          first
                            | (exfalso; omega)
                            | (rw [if_pos (by omega)]; rfl)
                            | (rw [if_neg (by omega)]; rfl)
                        · skip
                          exact absurd c31 (by omega)
                      · skip
                        exact absurd c30 (by omega)
                · skip
                  refine wa_iload (n := 4) rfl ?_
                  refine wa_iconst ?_
                  refine wa_icmpne (w_rg0 (by omega) (by omega)) (w_rg0 (by omega) (by omega)) ⟨_, rfl⟩ (fun c36 => ?_) (fun c36 => ?_)
                  · skip
                    refine wa_iload_n (n := 1) rfl ?_
                    refine wa_lload_n (n := 2) rfl ?_
                    refine wa_iload (n := 4) rfl ?_
                    refine wa_lload (n := 5) rfl ?_
                    refine wa_cs (M2 := fun _ => False) rfl at_M_isSame ⟨_, rfl⟩ rfl rfl ⟨(Or.inr ⟨wy_pr rfl, fun q => q⟩), trivial, trivial, trivial, trivial, trivial⟩ trivial (fun _ _ q => False.elim q) ?_ (fun _ _ _ q => q)
                    refine wa_iload_n (n := 0) rfl ?_
                    refine wa_iload_n (n := 3) rfl ?_
                    refine wa_icmpne (w_rg0 (by omega) (by omega)) (w_rg0 (by omega) (by omega)) ⟨_, rfl⟩ (fun c37 => ?_) (fun c37 => ?_)
                    · skip
                      refine wa_iconst ?_
                      refine wa_fall ⟨_, rfl⟩ ?_
                      refine wa_zreturn rfl (Or.inl rfl) ?_
                      show wJ _ _ _ _ _ _ _ _ _ _
                      refine wa_fall ⟨_, rfl⟩ ?_
                      refine wa_zreturn rfl (Or.inl rfl) ?_
                      show wJ _ _ _ _ _ _ _ _ _ _
                      refine wa_istore (n := 4) rfl ?_
                      refine wa_aload_n (n := 0) rfl ?_
                      refine wa_iconst ?_
                      refine wa_iload (n := 4) rfl ?_
                      refine wa_iload_n (n := 1) rfl ?_
                      refine wa_bipush (w_rg2 (by omega) (by omega)) ?_
                      refine wa_icmpne (w_rg0 (by omega) (by omega)) (w_rg0 (by omega) (by omega)) ⟨_, rfl⟩ (fun c38 => ?_) (fun c38 => ?_)
                      · skip
                        refine wa_iconst ?_
                        refine wa_fall ⟨_, rfl⟩ ?_
                        refine wa_icmpne (w_rg0 (by omega) (by omega)) (w_rg0 (by omega) (by omega)) ⟨_, rfl⟩ (fun c39 => ?_) (fun c39 => ?_)
                        · skip
                          exact absurd c39 (by omega)
                        · skip
                          refine wb_lconst (m := 1) rfl ?_
                          refine wa_goto ⟨_, rfl⟩ ?_
                          refine wa_cv 237 rfl (wy_pr rfl) wt_237 (M2 := fun _ => False) rfl at_M_is ⟨_, rfl⟩ rfl rfl ⟨trivial, (Or.inr ⟨wy_pr rfl, fun q => q⟩), trivial, trivial, trivial, trivial⟩ trivial (fun _ _ q => False.elim q) ?_ (fun _ _ _ q => q)
                          refine wa_aload_n (n := 0) rfl ?_
                          refine wa_iload_n (n := 1) rfl ?_
                          refine wb_pfi 237 rfl (wy_pr rfl) wt_237 wf_15_110 (n := 110) rfl ⟨(by omega), (by omega)⟩ ?_
                          refine wa_aload_n (n := 0) rfl ?_
                          refine wa_lload_n (n := 2) rfl ?_
                          refine wb_pfl 237 rfl (wy_pr rfl) wt_237 wf_15_111 (n := 111) rfl ⟨(by omega), (by omega)⟩ ?_
                          refine wa_return rfl ?_
                          show wJ _ _ _ _ _ _ _ _ _ _
                          refine wa_return rfl ?_
                          show wJ _ _ _ _ _ _ _ _ _ _
                          refine wa_fall ⟨_, rfl⟩ ?_
                          refine wa_aload_n (n := 0) rfl ?_
                          refine wb_gf4 237 rfl (wy_pr rfl) wt_237 wf_15_134 (v := 359) wl_237_134 ?_
                          refine wa_aload_n (n := 0) rfl ?_
                          refine wb_gfi 237 rfl (wy_pr rfl) wt_237 wf_15_151 (v := t) ((w_up_at (by decide)).trans ((w_up_at (by decide)).trans (mt))) (fun r40 => ?_)
                          refine wa_dup2 (by decide) (by decide) ?_
                          refine wb_iald 359 rfl (wy_pr rfl) wt_359 (n := 2) ((w_up_slot (by decide)).trans ((w_up_slot (by decide)).trans ((ml_359 hM)))) (by omega) (by omega) (v := h) ((w_up_slot (by decide)).trans ((w_up_slot (by decide)).trans (mh))) (fun r41 => ?_)
                          refine wa_iconst ?_
                          refine wa_isub ?_
                          refine wb_iast 359 rfl (wy_pr rfl) wt_359 (n := 2) ((w_up_slot (by decide)).trans ((w_up_slot (by decide)).trans ((ml_359 hM)))) (by omega) (by omega) ⟨(by omega), (by omega)⟩ ?_
                          refine wa_aload_n (n := 0) rfl ?_
                          refine wb_gf4 237 rfl (wy_pr rfl) wt_237 wf_15_138 (v := 363) wl_237_138 ?_
                          refine wa_iload_n (n := 3) rfl ?_
                          refine wa_aload_n (n := 0) rfl ?_
                          refine wb_gfi 237 rfl (wy_pr rfl) wt_237 wf_15_110 (v := 1) ((w_up_slot (by decide)).trans ((w_up_at (by decide)).trans (w_up_same _ _ _ _))) (fun r42 => ?_)
                          refine wb_iast 363 rfl (wy_pr rfl) wt_363 (n := 4200) ((w_up_slot (by decide)).trans ((w_up_slot (by decide)).trans ((w_up_slot (by decide)).trans ((ml_363 hM))))) (by omega) (by omega) ⟨(by omega), (by omega)⟩ ?_
                          refine wa_aload_n (n := 0) rfl ?_
                          refine wb_gf4 237 rfl (wy_pr rfl) wt_237 wf_15_139 (v := 364) wl_237_139 ?_
                          refine wa_iload_n (n := 3) rfl ?_
                          refine wa_aload_n (n := 0) rfl ?_
                          refine wb_gfl 237 rfl (wy_pr rfl) wt_237 wf_15_111 (v := 1) ((w_up_slot (by decide)).trans ((w_up_slot (by decide)).trans (w_up_same _ _ _ _))) (fun r43 => ?_)
                          refine wb_last 364 rfl (wy_pr rfl) wt_364 (n := 4200) ((w_up_slot (by decide)).trans ((w_up_slot (by decide)).trans ((w_up_slot (by decide)).trans ((w_up_slot (by decide)).trans ((ml_364 hM)))))) (by omega) (by omega) ⟨(by omega), (by omega)⟩ ?_
                          refine wa_fall ⟨_, rfl⟩ ?_
                          refine wa_return rfl ?_
                          refine ⟨rfl, ?_⟩
                          first
                            | (exfalso; omega)
                            | (rw [if_pos (by omega)]; rfl)
                            | (rw [if_neg (by omega)]; rfl)
                      · skip
                        exact absurd c38 (by omega)
                    · skip
                      refine wa_lload_n (n := 1) rfl ?_
                      refine wa_lload (n := 4) rfl ?_
                      refine wa_lcmp (w_rg1 (by omega) (by omega)) (w_rg1 (by omega) (by omega)) ?_
                      refine wa_ifne (by have := @wb_lcmp_cases; exact w_lcmp_rg) ⟨_, rfl⟩ (fun c44 => ?_) (fun c44 => ?_)
                      · skip
                        have c44x := @wb_lcmp_cases vx vy
                        refine wa_iconst ?_
                        refine wa_fall ⟨_, rfl⟩ ?_
                        refine wa_zreturn rfl (Or.inl rfl) ?_
                        show wJ _ _ _ _ _ _ _ _ _ _
                        refine wa_fall ⟨_, rfl⟩ ?_
                        refine wa_zreturn rfl (Or.inl rfl) ?_
                        show wJ _ _ _ _ _ _ _ _ _ _
                        refine wa_istore (n := 4) rfl ?_
                        refine wa_aload_n (n := 0) rfl ?_
                        refine wa_iconst ?_
                        refine wa_iload (n := 4) rfl ?_
                        refine wa_iload_n (n := 1) rfl ?_
                        refine wa_bipush (w_rg2 (by omega) (by omega)) ?_
                        refine wa_icmpne (w_rg0 (by omega) (by omega)) (w_rg0 (by omega) (by omega)) ⟨_, rfl⟩ (fun c45 => ?_) (fun c45 => ?_)
                        · skip
                          refine wa_iconst ?_
                          refine wa_fall ⟨_, rfl⟩ ?_
                          refine wa_icmpne (w_rg0 (by omega) (by omega)) (w_rg0 (by omega) (by omega)) ⟨_, rfl⟩ (fun c46 => ?_) (fun c46 => ?_)
                          · skip
                            exact absurd c46 (by omega)
                          · skip
                            refine wb_lconst (m := 1) rfl ?_
                            refine wa_goto ⟨_, rfl⟩ ?_
                            refine wa_cv 237 rfl (wy_pr rfl) wt_237 (M2 := fun _ => False) rfl at_M_is ⟨_, rfl⟩ rfl rfl ⟨trivial, (Or.inr ⟨wy_pr rfl, fun q => q⟩), trivial, trivial, trivial, trivial⟩ trivial (fun _ _ q => False.elim q) ?_ (fun _ _ _ q => q)
                            refine wa_aload_n (n := 0) rfl ?_
                            refine wa_iload_n (n := 1) rfl ?_
                            refine wb_pfi 237 rfl (wy_pr rfl) wt_237 wf_15_110 (n := 110) rfl ⟨(by omega), (by omega)⟩ ?_
                            refine wa_aload_n (n := 0) rfl ?_
                            refine wa_lload_n (n := 2) rfl ?_
                            refine wb_pfl 237 rfl (wy_pr rfl) wt_237 wf_15_111 (n := 111) rfl ⟨(by omega), (by omega)⟩ ?_
                            refine wa_return rfl ?_
                            show wJ _ _ _ _ _ _ _ _ _ _
                            refine wa_return rfl ?_
                            show wJ _ _ _ _ _ _ _ _ _ _
                            refine wa_fall ⟨_, rfl⟩ ?_
                            refine wa_aload_n (n := 0) rfl ?_
                            refine wb_gf4 237 rfl (wy_pr rfl) wt_237 wf_15_134 (v := 359) wl_237_134 ?_
                            refine wa_aload_n (n := 0) rfl ?_
                            refine wb_gfi 237 rfl (wy_pr rfl) wt_237 wf_15_151 (v := t) ((w_up_at (by decide)).trans ((w_up_at (by decide)).trans (mt))) (fun r47 => ?_)
                            refine wa_dup2 (by decide) (by decide) ?_
                            refine wb_iald 359 rfl (wy_pr rfl) wt_359 (n := 2) ((w_up_slot (by decide)).trans ((w_up_slot (by decide)).trans ((ml_359 hM)))) (by omega) (by omega) (v := h) ((w_up_slot (by decide)).trans ((w_up_slot (by decide)).trans (mh))) (fun r48 => ?_)
                            refine wa_iconst ?_
                            refine wa_isub ?_
                            refine wb_iast 359 rfl (wy_pr rfl) wt_359 (n := 2) ((w_up_slot (by decide)).trans ((w_up_slot (by decide)).trans ((ml_359 hM)))) (by omega) (by omega) ⟨(by omega), (by omega)⟩ ?_
                            refine wa_aload_n (n := 0) rfl ?_
                            refine wb_gf4 237 rfl (wy_pr rfl) wt_237 wf_15_138 (v := 363) wl_237_138 ?_
                            refine wa_iload_n (n := 3) rfl ?_
                            refine wa_aload_n (n := 0) rfl ?_
                            refine wb_gfi 237 rfl (wy_pr rfl) wt_237 wf_15_110 (v := 1) ((w_up_slot (by decide)).trans ((w_up_at (by decide)).trans (w_up_same _ _ _ _))) (fun r49 => ?_)
                            refine wb_iast 363 rfl (wy_pr rfl) wt_363 (n := 4200) ((w_up_slot (by decide)).trans ((w_up_slot (by decide)).trans ((w_up_slot (by decide)).trans ((ml_363 hM))))) (by omega) (by omega) ⟨(by omega), (by omega)⟩ ?_
                            refine wa_aload_n (n := 0) rfl ?_
                            refine wb_gf4 237 rfl (wy_pr rfl) wt_237 wf_15_139 (v := 364) wl_237_139 ?_
                            refine wa_iload_n (n := 3) rfl ?_
                            refine wa_aload_n (n := 0) rfl ?_
                            refine wb_gfl 237 rfl (wy_pr rfl) wt_237 wf_15_111 (v := 1) ((w_up_slot (by decide)).trans ((w_up_slot (by decide)).trans (w_up_same _ _ _ _))) (fun r50 => ?_)
                            refine wb_last 364 rfl (wy_pr rfl) wt_364 (n := 4200) ((w_up_slot (by decide)).trans ((w_up_slot (by decide)).trans ((w_up_slot (by decide)).trans ((w_up_slot (by decide)).trans ((ml_364 hM)))))) (by omega) (by omega) ⟨(by omega), (by omega)⟩ ?_
                            refine wa_fall ⟨_, rfl⟩ ?_
                            refine wa_return rfl ?_
                            refine ⟨rfl, ?_⟩
                            first
                              | (exfalso; omega)
                              | (rw [if_pos (by omega)]; rfl)
                              | (rw [if_neg (by omega)]; rfl)
                        · skip
                          exact absurd c45 (by omega)
                      · skip
                        have c44x := @wb_lcmp_cases vx vy
                        refine wa_iconst ?_
                        refine wa_goto ⟨_, rfl⟩ ?_
                        refine wa_zreturn rfl (Or.inr rfl) ?_
                        show wJ _ _ _ _ _ _ _ _ _ _
                        refine wa_fall ⟨_, rfl⟩ ?_
                        refine wa_zreturn rfl (Or.inr rfl) ?_
                        show wJ _ _ _ _ _ _ _ _ _ _
                        refine wa_istore (n := 4) rfl ?_
                        refine wa_aload_n (n := 0) rfl ?_
                        refine wa_iconst ?_
                        refine wa_iload (n := 4) rfl ?_
                        refine wa_iload_n (n := 1) rfl ?_
                        refine wa_bipush (w_rg2 (by omega) (by omega)) ?_
                        refine wa_icmpne (w_rg0 (by omega) (by omega)) (w_rg0 (by omega) (by omega)) ⟨_, rfl⟩ (fun c51 => ?_) (fun c51 => ?_)
                        · skip
                          refine wa_iconst ?_
                          refine wa_fall ⟨_, rfl⟩ ?_
                          refine wa_icmpne (w_rg0 (by omega) (by omega)) (w_rg0 (by omega) (by omega)) ⟨_, rfl⟩ (fun c52 => ?_) (fun c52 => ?_)
                          · skip
                            refine wb_lconst (m := 0) rfl ?_
                            refine wa_fall ⟨_, rfl⟩ ?_
                            refine wa_cv 237 rfl (wy_pr rfl) wt_237 (M2 := fun _ => False) rfl at_M_is ⟨_, rfl⟩ rfl rfl ⟨trivial, (Or.inr ⟨wy_pr rfl, fun q => q⟩), trivial, trivial, trivial, trivial⟩ trivial (fun _ _ q => False.elim q) ?_ (fun _ _ _ q => q)
                            refine wa_aload_n (n := 0) rfl ?_
                            refine wa_iload_n (n := 1) rfl ?_
                            refine wb_pfi 237 rfl (wy_pr rfl) wt_237 wf_15_110 (n := 110) rfl ⟨(by omega), (by omega)⟩ ?_
                            refine wa_aload_n (n := 0) rfl ?_
                            refine wa_lload_n (n := 2) rfl ?_
                            refine wb_pfl 237 rfl (wy_pr rfl) wt_237 wf_15_111 (n := 111) rfl ⟨(by omega), (by omega)⟩ ?_
                            refine wa_return rfl ?_
                            show wJ _ _ _ _ _ _ _ _ _ _
                            refine wa_return rfl ?_
                            show wJ _ _ _ _ _ _ _ _ _ _
                            refine wa_fall ⟨_, rfl⟩ ?_
                            refine wa_aload_n (n := 0) rfl ?_
                            refine wb_gf4 237 rfl (wy_pr rfl) wt_237 wf_15_134 (v := 359) wl_237_134 ?_
                            refine wa_aload_n (n := 0) rfl ?_
                            refine wb_gfi 237 rfl (wy_pr rfl) wt_237 wf_15_151 (v := t) ((w_up_at (by decide)).trans ((w_up_at (by decide)).trans (mt))) (fun r53 => ?_)
                            refine wa_dup2 (by decide) (by decide) ?_
                            refine wb_iald 359 rfl (wy_pr rfl) wt_359 (n := 2) ((w_up_slot (by decide)).trans ((w_up_slot (by decide)).trans ((ml_359 hM)))) (by omega) (by omega) (v := h) ((w_up_slot (by decide)).trans ((w_up_slot (by decide)).trans (mh))) (fun r54 => ?_)
                            refine wa_iconst ?_
                            refine wa_isub ?_
                            refine wb_iast 359 rfl (wy_pr rfl) wt_359 (n := 2) ((w_up_slot (by decide)).trans ((w_up_slot (by decide)).trans ((ml_359 hM)))) (by omega) (by omega) ⟨(by omega), (by omega)⟩ ?_
                            refine wa_aload_n (n := 0) rfl ?_
                            refine wb_gf4 237 rfl (wy_pr rfl) wt_237 wf_15_138 (v := 363) wl_237_138 ?_
                            refine wa_iload_n (n := 3) rfl ?_
                            refine wa_aload_n (n := 0) rfl ?_
                            refine wb_gfi 237 rfl (wy_pr rfl) wt_237 wf_15_110 (v := 1) ((w_up_slot (by decide)).trans ((w_up_at (by decide)).trans (w_up_same _ _ _ _))) (fun r55 => ?_)
                            refine wb_iast 363 rfl (wy_pr rfl) wt_363 (n := 4200) ((w_up_slot (by decide)).trans ((w_up_slot (by decide)).trans ((w_up_slot (by decide)).trans ((ml_363 hM))))) (by omega) (by omega) ⟨(by omega), (by omega)⟩ ?_
                            refine wa_aload_n (n := 0) rfl ?_
                            refine wb_gf4 237 rfl (wy_pr rfl) wt_237 wf_15_139 (v := 364) wl_237_139 ?_
                            refine wa_iload_n (n := 3) rfl ?_
                            refine wa_aload_n (n := 0) rfl ?_
                            refine wb_gfl 237 rfl (wy_pr rfl) wt_237 wf_15_111 (v := 0) ((w_up_slot (by decide)).trans ((w_up_slot (by decide)).trans (w_up_same _ _ _ _))) (fun r56 => ?_)
                            refine wb_last 364 rfl (wy_pr rfl) wt_364 (n := 4200) ((w_up_slot (by decide)).trans ((w_up_slot (by decide)).trans ((w_up_slot (by decide)).trans ((w_up_slot (by decide)).trans ((ml_364 hM)))))) (by omega) (by omega) ⟨(by omega), (by omega)⟩ ?_
                            refine wa_fall ⟨_, rfl⟩ ?_
                            refine wa_return rfl ?_
                            refine ⟨rfl, ?_⟩
                            first
                              | (exfalso; omega)
                              | (rw [if_pos (by omega)]; rfl)
                              | (rw [if_neg (by omega)]; rfl)
                          · skip
                            exact absurd c52 (by omega)
                        · skip
                          exact absurd c51 (by omega)
                  · skip
                    exact absurd c36 (by omega)
          · skip
            exact absurd c8 (by omega)
        · skip
          exact absurd c7 (by omega)
      · skip
        exact absurd c6 (by omega)
    · skip
      exact absurd c5 (by omega)
  · skip
    exact absurd c4 (by omega)
theorem y16 {t c p h tp vx vy : Int} (hP : mP t c p h tp S) (hky : S 363 (2100 * t + h - 1) = 2) (hvy : S 364 (2100 * t + h - 1) = vy) (hkx : S 363 (2100 * t + h - 1 - 1) = 2) (hvx : S 364 (2100 * t + h - 1 - 1) = vx) (hh1 : 2 ≤ h) : wJ (pe_GA xs) wY0 M (d + 11) t_M_operators ((pe_at t_M_operators.bl 0).getD (0, [])).2 [(0, (2, 237)), (1, (0, 16))] [] S (fun o Z => o = .inl none ∧ pXZ t h 1 (if vx < vy then 1 else 0) S = Z) := by
  obtain ⟨hM, ⟨mt, mt0, mt1⟩, mp, mf, ⟨mc, mc0, mc1⟩, ⟨mtp, mtq⟩, ⟨mpa, mp0, mp1⟩, mh, mh0, mh1⟩ := hP
  refine wa_aload_n (n := 0) rfl ?_
  refine wa_cv 237 rfl (wy_pr rfl) wt_237 (M2 := fun _ => False) rfl at_M_h ⟨_, rfl⟩ rfl rfl ⟨(Or.inr ⟨wy_pr rfl, fun q => q⟩), trivial, trivial⟩ trivial (fun _ _ q => False.elim q) ?_ (fun _ _ _ q => q)
  refine wa_aload_n (n := 0) rfl ?_
  refine wb_gfi 237 rfl (wy_pr rfl) wt_237 wf_15_152 (v := (2100 * t)) (mp) (fun r1 => ?_)
  refine wa_aload_n (n := 0) rfl ?_
  refine wb_gf4 237 rfl (wy_pr rfl) wt_237 wf_15_134 (v := 359) wl_237_134 ?_
  refine wa_aload_n (n := 0) rfl ?_
  refine wb_gfi 237 rfl (wy_pr rfl) wt_237 wf_15_151 (v := t) (mt) (fun r2 => ?_)
  refine wb_iald 359 rfl (wy_pr rfl) wt_359 (n := 2) ((ml_359 hM)) (by omega) (by omega) (v := h) (mh) (fun r3 => ?_)
  refine wa_iadd ?_
  refine wa_ireturn rfl ?_
  show wJ _ _ _ _ _ _ _ _ _ _
  refine wa_iconst ?_
  refine wa_isub ?_
  refine wa_istore_n (n := 2) rfl ?_
  refine wa_iload_n (n := 2) rfl ?_
  refine wa_iconst ?_
  refine wa_isub ?_
  refine wa_istore_n (n := 3) rfl ?_
  refine wa_iload_n (n := 1) rfl ?_
  refine wa_iconst ?_
  refine wa_icmpne (w_rg0 (by omega) (by omega)) (w_rg0 (by omega) (by omega)) ⟨_, rfl⟩ (fun c4 => ?_) (fun c4 => ?_)
  · skip
    refine wa_iload_n (n := 1) rfl ?_
    refine wa_bipush (w_rg2 (by omega) (by omega)) ?_
    refine wa_icmpne (w_rg0 (by omega) (by omega)) (w_rg0 (by omega) (by omega)) ⟨_, rfl⟩ (fun c5 => ?_) (fun c5 => ?_)
    · skip
      refine wa_iload_n (n := 1) rfl ?_
      refine wa_bipush (w_rg2 (by omega) (by omega)) ?_
      refine wa_icmpne (w_rg0 (by omega) (by omega)) (w_rg0 (by omega) (by omega)) ⟨_, rfl⟩ (fun c6 => ?_) (fun c6 => ?_)
      · skip
        refine wa_iload_n (n := 1) rfl ?_
        refine wa_bipush (w_rg2 (by omega) (by omega)) ?_
        refine wa_icmpne (w_rg0 (by omega) (by omega)) (w_rg0 (by omega) (by omega)) ⟨_, rfl⟩ (fun c7 => ?_) (fun c7 => ?_)
        · skip
          refine wa_iload_n (n := 1) rfl ?_
          refine wa_bipush (w_rg2 (by omega) (by omega)) ?_
          refine wa_icmpge (w_rg0 (by omega) (by omega)) (w_rg0 (by omega) (by omega)) ⟨_, rfl⟩ (fun c8 => ?_) (fun c8 => ?_)
          · skip
            refine wa_aload_n (n := 0) rfl ?_
            refine wa_iload_n (n := 1) rfl ?_
            refine wa_iload_n (n := 3) rfl ?_
            refine wa_iload_n (n := 2) rfl ?_
            refine wa_cv 237 rfl (wy_pr rfl) wt_237 (M2 := fun _ => False) rfl at_M_compares ⟨_, rfl⟩ rfl rfl ⟨trivial, trivial, (Or.inr ⟨wy_pr rfl, fun q => q⟩), trivial, trivial⟩ trivial (fun _ _ q => False.elim q) ?_ (fun _ _ _ q => q)
            refine wa_iload_n (n := 1) rfl ?_
            refine wa_bipush (w_rg2 (by omega) (by omega)) ?_
            refine wa_icmpeq (w_rg0 (by omega) (by omega)) (w_rg0 (by omega) (by omega)) ⟨_, rfl⟩ (fun c9 => ?_) (fun c9 => ?_)
            · skip
              exact absurd c9 (by omega)
            · skip
              refine wa_iload_n (n := 1) rfl ?_
              refine wa_bipush (w_rg2 (by omega) (by omega)) ?_
              refine wa_icmpne (w_rg0 (by omega) (by omega)) (w_rg0 (by omega) (by omega)) ⟨_, rfl⟩ (fun c10 => ?_) (fun c10 => ?_)
              · skip
                refine wa_aload_n (n := 0) rfl ?_
                refine wb_gf4 237 rfl (wy_pr rfl) wt_237 wf_15_138 (v := 363) wl_237_138 ?_
                refine wa_iload_n (n := 2) rfl ?_
                refine wb_iald 363 rfl (wy_pr rfl) wt_363 (n := 4200) ((ml_363 hM)) (by omega) (by omega) (v := 2) (hkx) (fun r11 => ?_)
                refine wa_aload_n (n := 0) rfl ?_
                refine wb_gf4 237 rfl (wy_pr rfl) wt_237 wf_15_138 (v := 363) wl_237_138 ?_
                refine wa_iload_n (n := 3) rfl ?_
                refine wb_iald 363 rfl (wy_pr rfl) wt_363 (n := 4200) ((ml_363 hM)) (by omega) (by omega) (v := 2) (hky) (fun r12 => ?_)
                refine wa_icmpne (w_rg0 (by omega) (by omega)) (w_rg0 (by omega) (by omega)) ⟨_, rfl⟩ (fun c13 => ?_) (fun c13 => ?_)
                · skip
                  exact absurd c13 (by omega)
                · skip
                  refine wa_aload_n (n := 0) rfl ?_
                  refine wb_gf4 237 rfl (wy_pr rfl) wt_237 wf_15_138 (v := 363) wl_237_138 ?_
                  refine wa_iload_n (n := 2) rfl ?_
                  refine wb_iald 363 rfl (wy_pr rfl) wt_363 (n := 4200) ((ml_363 hM)) (by omega) (by omega) (v := 2) (hkx) (fun r14 => ?_)
                  refine wa_iconst ?_
                  refine wa_icmpeq (w_rg0 (by omega) (by omega)) (w_rg0 (by omega) (by omega)) ⟨_, rfl⟩ (fun c15 => ?_) (fun c15 => ?_)
                  · skip
                    refine wa_iconst ?_
                    refine wa_goto ⟨_, rfl⟩ ?_
                    refine wa_istore (n := 4) rfl ?_
                    refine wa_iload (n := 4) rfl ?_
                    refine wa_ifne (w_rg0 (by omega) (by omega)) ⟨_, rfl⟩ (fun c16 => ?_) (fun c16 => ?_)
                    · skip
                      refine wa_aload_n (n := 0) rfl ?_
                      refine wb_gf4 237 rfl (wy_pr rfl) wt_237 wf_15_138 (v := 363) wl_237_138 ?_
                      refine wa_iload_n (n := 2) rfl ?_
                      refine wb_iald 363 rfl (wy_pr rfl) wt_363 (n := 4200) ((ml_363 hM)) (by omega) (by omega) (v := 2) (hkx) (fun r17 => ?_)
                      refine wa_iconst ?_
                      refine wa_icmpne (w_rg0 (by omega) (by omega)) (w_rg0 (by omega) (by omega)) ⟨_, rfl⟩ (fun c18 => ?_) (fun c18 => ?_)
                      · skip
                        exact absurd c18 (by omega)
                      · skip
                        refine wa_aload_n (n := 0) rfl ?_
                        refine wb_gf4 237 rfl (wy_pr rfl) wt_237 wf_15_139 (v := 364) wl_237_139 ?_
                        refine wa_iload_n (n := 2) rfl ?_
                        refine wb_lald 364 rfl (wy_pr rfl) wt_364 (n := 4200) ((ml_364 hM)) (by omega) (by omega) (v := vx) (hvx) (fun r19 => ?_)
                        refine wa_aload_n (n := 0) rfl ?_
                        refine wb_gf4 237 rfl (wy_pr rfl) wt_237 wf_15_139 (v := 364) wl_237_139 ?_
                        refine wa_iload_n (n := 3) rfl ?_
                        refine wb_lald 364 rfl (wy_pr rfl) wt_364 (n := 4200) ((ml_364 hM)) (by omega) (by omega) (v := vy) (hvy) (fun r20 => ?_)
                        refine wa_cs (M2 := fun _ => False) rfl at_JL_compare ⟨_, rfl⟩ rfl rfl ⟨trivial, (Or.inr ⟨wy_pr rfl, fun q => q⟩), trivial, trivial, trivial, trivial⟩ trivial (fun _ _ q => False.elim q) ?_ (fun _ _ _ q => q)
                        refine wa_lload_n (n := 0) rfl ?_
                        refine wa_lload_n (n := 2) rfl ?_
                        refine wa_lcmp (w_rg1 (by omega) (by omega)) (w_rg1 (by omega) (by omega)) ?_
                        refine wa_ifge (by have := @wb_lcmp_cases; exact w_lcmp_rg) ⟨_, rfl⟩ (fun c21 => ?_) (fun c21 => ?_)
                        · skip
                          have c21x := @wb_lcmp_cases vx vy
                          refine wa_lload_n (n := 0) rfl ?_
                          refine wa_lload_n (n := 2) rfl ?_
                          refine wa_lcmp (w_rg1 (by omega) (by omega)) (w_rg1 (by omega) (by omega)) ?_
                          refine wa_ifne (by have := @wb_lcmp_cases; exact w_lcmp_rg) ⟨_, rfl⟩ (fun c22 => ?_) (fun c22 => ?_)
                          · skip
                            have c22x := @wb_lcmp_cases vx vy
                            refine wa_iconst ?_
                            refine wa_fall ⟨_, rfl⟩ ?_
                            refine wa_ireturn rfl ?_
                            show wJ _ _ _ _ _ _ _ _ _ _
                            refine wa_goto ⟨_, rfl⟩ ?_
                            refine wa_istore (n := 5) rfl ?_
                            refine wa_iload_n (n := 1) rfl ?_
                            refine wa_bipush (w_rg2 (by omega) (by omega)) ?_
                            refine wa_icmpne (w_rg0 (by omega) (by omega)) (w_rg0 (by omega) (by omega)) ⟨_, rfl⟩ (fun c23 => ?_) (fun c23 => ?_)
                            · skip
                              exact absurd c23 (by omega)
                            · skip
                              refine wa_iload (n := 5) rfl ?_
                              refine wa_ifge (w_rg0 (by omega) (by omega)) ⟨_, rfl⟩ (fun c24 => ?_) (fun c24 => ?_)
                              · skip
                                refine wa_iconst ?_
                                refine wa_goto ⟨_, rfl⟩ ?_
                                refine wa_istore (n := 6) rfl ?_
                                refine wa_aload_n (n := 0) rfl ?_
                                refine wa_iconst ?_
                                refine wa_iload (n := 6) rfl ?_
                                refine wa_ifeq (w_rg0 (by omega) (by omega)) ⟨_, rfl⟩ (fun c25 => ?_) (fun c25 => ?_)
                                · skip
                                  refine wb_lconst (m := 0) rfl ?_
                                  refine wa_fall ⟨_, rfl⟩ ?_
                                  refine wa_cv 237 rfl (wy_pr rfl) wt_237 (M2 := fun _ => False) rfl at_M_is ⟨_, rfl⟩ rfl rfl ⟨trivial, trivial, trivial, (Or.inr ⟨wy_pr rfl, fun q => q⟩), trivial, trivial, trivial, trivial⟩ trivial (fun _ _ q => False.elim q) ?_ (fun _ _ _ q => q)
                                  refine wa_aload_n (n := 0) rfl ?_
                                  refine wa_iload_n (n := 1) rfl ?_
                                  refine wb_pfi 237 rfl (wy_pr rfl) wt_237 wf_15_110 (n := 110) rfl ⟨(by omega), (by omega)⟩ ?_
                                  refine wa_aload_n (n := 0) rfl ?_
                                  refine wa_lload_n (n := 2) rfl ?_
                                  refine wb_pfl 237 rfl (wy_pr rfl) wt_237 wf_15_111 (n := 111) rfl ⟨(by omega), (by omega)⟩ ?_
                                  refine wa_return rfl ?_
                                  show wJ _ _ _ _ _ _ _ _ _ _
                                  refine wa_return rfl ?_
                                  show wJ _ _ _ _ _ _ _ _ _ _
                                  refine wa_fall ⟨_, rfl⟩ ?_
                                  refine wa_aload_n (n := 0) rfl ?_
                                  refine wb_gf4 237 rfl (wy_pr rfl) wt_237 wf_15_134 (v := 359) wl_237_134 ?_
                                  refine wa_aload_n (n := 0) rfl ?_
                                  refine wb_gfi 237 rfl (wy_pr rfl) wt_237 wf_15_151 (v := t) ((w_up_at (by decide)).trans ((w_up_at (by decide)).trans (mt))) (fun r26 => ?_)
                                  refine wa_dup2 (by decide) (by decide) ?_
                                  refine wb_iald 359 rfl (wy_pr rfl) wt_359 (n := 2) ((w_up_slot (by decide)).trans ((w_up_slot (by decide)).trans ((ml_359 hM)))) (by omega) (by omega) (v := h) ((w_up_slot (by decide)).trans ((w_up_slot (by decide)).trans (mh))) (fun r27 => ?_)
                                  refine wa_iconst ?_
                                  refine wa_isub ?_
                                  refine wb_iast 359 rfl (wy_pr rfl) wt_359 (n := 2) ((w_up_slot (by decide)).trans ((w_up_slot (by decide)).trans ((ml_359 hM)))) (by omega) (by omega) ⟨(by omega), (by omega)⟩ ?_
                                  refine wa_aload_n (n := 0) rfl ?_
                                  refine wb_gf4 237 rfl (wy_pr rfl) wt_237 wf_15_138 (v := 363) wl_237_138 ?_
                                  refine wa_iload_n (n := 3) rfl ?_
                                  refine wa_aload_n (n := 0) rfl ?_
                                  refine wb_gfi 237 rfl (wy_pr rfl) wt_237 wf_15_110 (v := 1) ((w_up_slot (by decide)).trans ((w_up_at (by decide)).trans (w_up_same _ _ _ _))) (fun r28 => ?_)
                                  refine wb_iast 363 rfl (wy_pr rfl) wt_363 (n := 4200) ((w_up_slot (by decide)).trans ((w_up_slot (by decide)).trans ((w_up_slot (by decide)).trans ((ml_363 hM))))) (by omega) (by omega) ⟨(by omega), (by omega)⟩ ?_
                                  refine wa_aload_n (n := 0) rfl ?_
                                  refine wb_gf4 237 rfl (wy_pr rfl) wt_237 wf_15_139 (v := 364) wl_237_139 ?_
                                  refine wa_iload_n (n := 3) rfl ?_
                                  refine wa_aload_n (n := 0) rfl ?_
                                  refine wb_gfl 237 rfl (wy_pr rfl) wt_237 wf_15_111 (v := 0) ((w_up_slot (by decide)).trans ((w_up_slot (by decide)).trans (w_up_same _ _ _ _))) (fun r29 => ?_)
                                  refine wb_last 364 rfl (wy_pr rfl) wt_364 (n := 4200) ((w_up_slot (by decide)).trans ((w_up_slot (by decide)).trans ((w_up_slot (by decide)).trans ((w_up_slot (by decide)).trans ((ml_364 hM)))))) (by omega) (by omega) ⟨(by omega), (by omega)⟩ ?_
                                  refine wa_fall ⟨_, rfl⟩ ?_
                                  refine wa_return rfl ?_
                                  refine ⟨rfl, ?_⟩
                                  first
                                    | (exfalso; omega)
                                    | (rw [if_pos (by omega)]; rfl)
                                    | (rw [if_neg (by omega)]; rfl)
                                · skip
                                  exact absurd c25 (by omega)
                              · skip
                                exact absurd c24 (by omega)
                          · skip
                            have c22x := @wb_lcmp_cases vx vy
                            refine wa_iconst ?_
                            refine wa_goto ⟨_, rfl⟩ ?_
                            refine wa_ireturn rfl ?_
                            show wJ _ _ _ _ _ _ _ _ _ _
                            refine wa_goto ⟨_, rfl⟩ ?_
                            refine wa_istore (n := 5) rfl ?_
                            refine wa_iload_n (n := 1) rfl ?_
                            refine wa_bipush (w_rg2 (by omega) (by omega)) ?_
                            refine wa_icmpne (w_rg0 (by omega) (by omega)) (w_rg0 (by omega) (by omega)) ⟨_, rfl⟩ (fun c30 => ?_) (fun c30 => ?_)
                            · skip
                              exact absurd c30 (by omega)
                            · skip
                              refine wa_iload (n := 5) rfl ?_
                              refine wa_ifge (w_rg0 (by omega) (by omega)) ⟨_, rfl⟩ (fun c31 => ?_) (fun c31 => ?_)
                              · skip
                                refine wa_iconst ?_
                                refine wa_goto ⟨_, rfl⟩ ?_
                                refine wa_istore (n := 6) rfl ?_
                                refine wa_aload_n (n := 0) rfl ?_
                                refine wa_iconst ?_
                                refine wa_iload (n := 6) rfl ?_
                                refine wa_ifeq (w_rg0 (by omega) (by omega)) ⟨_, rfl⟩ (fun c32 => ?_) (fun c32 => ?_)
                                · skip
                                  refine wb_lconst (m := 0) rfl ?_
                                  refine wa_fall ⟨_, rfl⟩ ?_
                                  refine wa_cv 237 rfl (wy_pr rfl) wt_237 (M2 := fun _ => False) rfl at_M_is ⟨_, rfl⟩ rfl rfl ⟨trivial, trivial, trivial, (Or.inr ⟨wy_pr rfl, fun q => q⟩), trivial, trivial, trivial, trivial⟩ trivial (fun _ _ q => False.elim q) ?_ (fun _ _ _ q => q)
                                  refine wa_aload_n (n := 0) rfl ?_
                                  refine wa_iload_n (n := 1) rfl ?_
                                  refine wb_pfi 237 rfl (wy_pr rfl) wt_237 wf_15_110 (n := 110) rfl ⟨(by omega), (by omega)⟩ ?_
                                  refine wa_aload_n (n := 0) rfl ?_
                                  refine wa_lload_n (n := 2) rfl ?_
                                  refine wb_pfl 237 rfl (wy_pr rfl) wt_237 wf_15_111 (n := 111) rfl ⟨(by omega), (by omega)⟩ ?_
                                  refine wa_return rfl ?_
                                  show wJ _ _ _ _ _ _ _ _ _ _
                                  refine wa_return rfl ?_
                                  show wJ _ _ _ _ _ _ _ _ _ _
                                  refine wa_fall ⟨_, rfl⟩ ?_
                                  refine wa_aload_n (n := 0) rfl ?_
                                  refine wb_gf4 237 rfl (wy_pr rfl) wt_237 wf_15_134 (v := 359) wl_237_134 ?_
                                  refine wa_aload_n (n := 0) rfl ?_
                                  refine wb_gfi 237 rfl (wy_pr rfl) wt_237 wf_15_151 (v := t) ((w_up_at (by decide)).trans ((w_up_at (by decide)).trans (mt))) (fun r33 => ?_)
                                  refine wa_dup2 (by decide) (by decide) ?_
                                  refine wb_iald 359 rfl (wy_pr rfl) wt_359 (n := 2) ((w_up_slot (by decide)).trans ((w_up_slot (by decide)).trans ((ml_359 hM)))) (by omega) (by omega) (v := h) ((w_up_slot (by decide)).trans ((w_up_slot (by decide)).trans (mh))) (fun r34 => ?_)
                                  refine wa_iconst ?_
                                  refine wa_isub ?_
                                  refine wb_iast 359 rfl (wy_pr rfl) wt_359 (n := 2) ((w_up_slot (by decide)).trans ((w_up_slot (by decide)).trans ((ml_359 hM)))) (by omega) (by omega) ⟨(by omega), (by omega)⟩ ?_
                                  refine wa_aload_n (n := 0) rfl ?_
                                  refine wb_gf4 237 rfl (wy_pr rfl) wt_237 wf_15_138 (v := 363) wl_237_138 ?_
                                  refine wa_iload_n (n := 3) rfl ?_
                                  refine wa_aload_n (n := 0) rfl ?_
                                  refine wb_gfi 237 rfl (wy_pr rfl) wt_237 wf_15_110 (v := 1) ((w_up_slot (by decide)).trans ((w_up_at (by decide)).trans (w_up_same _ _ _ _))) (fun r35 => ?_)
                                  refine wb_iast 363 rfl (wy_pr rfl) wt_363 (n := 4200) ((w_up_slot (by decide)).trans ((w_up_slot (by decide)).trans ((w_up_slot (by decide)).trans ((ml_363 hM))))) (by omega) (by omega) ⟨(by omega), (by omega)⟩ ?_
                                  refine wa_aload_n (n := 0) rfl ?_
                                  refine wb_gf4 237 rfl (wy_pr rfl) wt_237 wf_15_139 (v := 364) wl_237_139 ?_
                                  refine wa_iload_n (n := 3) rfl ?_
                                  refine wa_aload_n (n := 0) rfl ?_
                                  refine wb_gfl 237 rfl (wy_pr rfl) wt_237 wf_15_111 (v := 0) ((w_up_slot (by decide)).trans ((w_up_slot (by decide)).trans (w_up_same _ _ _ _))) (fun r36 => ?_)
                                  refine wb_last 364 rfl (wy_pr rfl) wt_364 (n := 4200) ((w_up_slot (by decide)).trans ((w_up_slot (by decide)).trans ((w_up_slot (by decide)).trans ((w_up_slot (by decide)).trans ((ml_364 hM)))))) (by omega) (by omega) ⟨(by omega), (by omega)⟩ ?_
                                  refine wa_fall ⟨_, rfl⟩ ?_
                                  refine wa_return rfl ?_
                                  refine ⟨rfl, ?_⟩
                                  first
                                    | (exfalso; omega)
                                    | (rw [if_pos (by omega)]; rfl)
                                    | (rw [if_neg (by omega)]; rfl)
                                · skip
                                  exact absurd c32 (by omega)
                              · skip
                                exact absurd c31 (by omega)
                        · skip
                          have c21x := @wb_lcmp_cases vx vy
                          refine wa_iconst ?_
                          refine wa_goto ⟨_, rfl⟩ ?_
                          refine wa_ireturn rfl ?_
                          show wJ _ _ _ _ _ _ _ _ _ _
                          refine wa_goto ⟨_, rfl⟩ ?_
                          refine wa_istore (n := 5) rfl ?_
                          refine wa_iload_n (n := 1) rfl ?_
                          refine wa_bipush (w_rg2 (by omega) (by omega)) ?_
                          refine wa_icmpne (w_rg0 (by omega) (by omega)) (w_rg0 (by omega) (by omega)) ⟨_, rfl⟩ (fun c37 => ?_) (fun c37 => ?_)
                          · skip
                            exact absurd c37 (by omega)
                          · skip
                            refine wa_iload (n := 5) rfl ?_
                            refine wa_ifge (w_rg0 (by omega) (by omega)) ⟨_, rfl⟩ (fun c38 => ?_) (fun c38 => ?_)
                            · skip
                              exact absurd c38 (by omega)
                            · skip
                              refine wa_iconst ?_
                              refine wa_goto ⟨_, rfl⟩ ?_
                              refine wa_istore (n := 6) rfl ?_
                              refine wa_aload_n (n := 0) rfl ?_
                              refine wa_iconst ?_
                              refine wa_iload (n := 6) rfl ?_
                              refine wa_ifeq (w_rg0 (by omega) (by omega)) ⟨_, rfl⟩ (fun c39 => ?_) (fun c39 => ?_)
                              · skip
                                exact absurd c39 (by omega)
                              · skip
                                refine wb_lconst (m := 1) rfl ?_
                                refine wa_goto ⟨_, rfl⟩ ?_
                                refine wa_cv 237 rfl (wy_pr rfl) wt_237 (M2 := fun _ => False) rfl at_M_is ⟨_, rfl⟩ rfl rfl ⟨trivial, trivial, trivial, (Or.inr ⟨wy_pr rfl, fun q => q⟩), trivial, trivial, trivial, trivial⟩ trivial (fun _ _ q => False.elim q) ?_ (fun _ _ _ q => q)
                                refine wa_aload_n (n := 0) rfl ?_
                                refine wa_iload_n (n := 1) rfl ?_
                                refine wb_pfi 237 rfl (wy_pr rfl) wt_237 wf_15_110 (n := 110) rfl ⟨(by omega), (by omega)⟩ ?_
                                refine wa_aload_n (n := 0) rfl ?_
                                refine wa_lload_n (n := 2) rfl ?_
                                refine wb_pfl 237 rfl (wy_pr rfl) wt_237 wf_15_111 (n := 111) rfl ⟨(by omega), (by omega)⟩ ?_
                                refine wa_return rfl ?_
                                show wJ _ _ _ _ _ _ _ _ _ _
                                refine wa_return rfl ?_
                                show wJ _ _ _ _ _ _ _ _ _ _
                                refine wa_fall ⟨_, rfl⟩ ?_
                                refine wa_aload_n (n := 0) rfl ?_
                                refine wb_gf4 237 rfl (wy_pr rfl) wt_237 wf_15_134 (v := 359) wl_237_134 ?_
                                refine wa_aload_n (n := 0) rfl ?_
                                refine wb_gfi 237 rfl (wy_pr rfl) wt_237 wf_15_151 (v := t) ((w_up_at (by decide)).trans ((w_up_at (by decide)).trans (mt))) (fun r40 => ?_)
                                refine wa_dup2 (by decide) (by decide) ?_
                                refine wb_iald 359 rfl (wy_pr rfl) wt_359 (n := 2) ((w_up_slot (by decide)).trans ((w_up_slot (by decide)).trans ((ml_359 hM)))) (by omega) (by omega) (v := h) ((w_up_slot (by decide)).trans ((w_up_slot (by decide)).trans (mh))) (fun r41 => ?_)
                                refine wa_iconst ?_
                                refine wa_isub ?_
                                refine wb_iast 359 rfl (wy_pr rfl) wt_359 (n := 2) ((w_up_slot (by decide)).trans ((w_up_slot (by decide)).trans ((ml_359 hM)))) (by omega) (by omega) ⟨(by omega), (by omega)⟩ ?_
                                refine wa_aload_n (n := 0) rfl ?_
                                refine wb_gf4 237 rfl (wy_pr rfl) wt_237 wf_15_138 (v := 363) wl_237_138 ?_
                                refine wa_iload_n (n := 3) rfl ?_
                                refine wa_aload_n (n := 0) rfl ?_
                                refine wb_gfi 237 rfl (wy_pr rfl) wt_237 wf_15_110 (v := 1) ((w_up_slot (by decide)).trans ((w_up_at (by decide)).trans (w_up_same _ _ _ _))) (fun r42 => ?_)
                                refine wb_iast 363 rfl (wy_pr rfl) wt_363 (n := 4200) ((w_up_slot (by decide)).trans ((w_up_slot (by decide)).trans ((w_up_slot (by decide)).trans ((ml_363 hM))))) (by omega) (by omega) ⟨(by omega), (by omega)⟩ ?_
                                refine wa_aload_n (n := 0) rfl ?_
                                refine wb_gf4 237 rfl (wy_pr rfl) wt_237 wf_15_139 (v := 364) wl_237_139 ?_
                                refine wa_iload_n (n := 3) rfl ?_
                                refine wa_aload_n (n := 0) rfl ?_
                                refine wb_gfl 237 rfl (wy_pr rfl) wt_237 wf_15_111 (v := 1) ((w_up_slot (by decide)).trans ((w_up_slot (by decide)).trans (w_up_same _ _ _ _))) (fun r43 => ?_)
                                refine wb_last 364 rfl (wy_pr rfl) wt_364 (n := 4200) ((w_up_slot (by decide)).trans ((w_up_slot (by decide)).trans ((w_up_slot (by decide)).trans ((w_up_slot (by decide)).trans ((ml_364 hM)))))) (by omega) (by omega) ⟨(by omega), (by omega)⟩ ?_
                                refine wa_fall ⟨_, rfl⟩ ?_
                                refine wa_return rfl ?_
                                refine ⟨rfl, ?_⟩
                                first
                                  | (exfalso; omega)
                                  | (rw [if_pos (by omega)]; rfl)
                                  | (rw [if_neg (by omega)]; rfl)
                    · skip
                      exact absurd c16 (by omega)
                  · skip
                    exact absurd c15 (by omega)
              · skip
                exact absurd c10 (by omega)
          · skip
            exact absurd c8 (by omega)
        · skip
          exact absurd c7 (by omega)
      · skip
        exact absurd c6 (by omega)
    · skip
      exact absurd c5 (by omega)
  · skip
    exact absurd c4 (by omega)
theorem y17 {t c p h tp vx vy : Int} (hP : mP t c p h tp S) (hky : S 363 (2100 * t + h - 1) = 2) (hvy : S 364 (2100 * t + h - 1) = vy) (hkx : S 363 (2100 * t + h - 1 - 1) = 2) (hvx : S 364 (2100 * t + h - 1 - 1) = vx) (hh1 : 2 ≤ h) : wJ (pe_GA xs) wY0 M (d + 11) t_M_operators ((pe_at t_M_operators.bl 0).getD (0, [])).2 [(0, (2, 237)), (1, (0, 17))] [] S (fun o Z => o = .inl none ∧ pXZ t h 1 (if vx ≤ vy then 1 else 0) S = Z) := by
  obtain ⟨hM, ⟨mt, mt0, mt1⟩, mp, mf, ⟨mc, mc0, mc1⟩, ⟨mtp, mtq⟩, ⟨mpa, mp0, mp1⟩, mh, mh0, mh1⟩ := hP
  refine wa_aload_n (n := 0) rfl ?_
  refine wa_cv 237 rfl (wy_pr rfl) wt_237 (M2 := fun _ => False) rfl at_M_h ⟨_, rfl⟩ rfl rfl ⟨(Or.inr ⟨wy_pr rfl, fun q => q⟩), trivial, trivial⟩ trivial (fun _ _ q => False.elim q) ?_ (fun _ _ _ q => q)
  refine wa_aload_n (n := 0) rfl ?_
  refine wb_gfi 237 rfl (wy_pr rfl) wt_237 wf_15_152 (v := (2100 * t)) (mp) (fun r1 => ?_)
  refine wa_aload_n (n := 0) rfl ?_
  refine wb_gf4 237 rfl (wy_pr rfl) wt_237 wf_15_134 (v := 359) wl_237_134 ?_
  refine wa_aload_n (n := 0) rfl ?_
  refine wb_gfi 237 rfl (wy_pr rfl) wt_237 wf_15_151 (v := t) (mt) (fun r2 => ?_)
  refine wb_iald 359 rfl (wy_pr rfl) wt_359 (n := 2) ((ml_359 hM)) (by omega) (by omega) (v := h) (mh) (fun r3 => ?_)
  refine wa_iadd ?_
  refine wa_ireturn rfl ?_
  show wJ _ _ _ _ _ _ _ _ _ _
  refine wa_iconst ?_
  refine wa_isub ?_
  refine wa_istore_n (n := 2) rfl ?_
  refine wa_iload_n (n := 2) rfl ?_
  refine wa_iconst ?_
  refine wa_isub ?_
  refine wa_istore_n (n := 3) rfl ?_
  refine wa_iload_n (n := 1) rfl ?_
  refine wa_iconst ?_
  refine wa_icmpne (w_rg0 (by omega) (by omega)) (w_rg0 (by omega) (by omega)) ⟨_, rfl⟩ (fun c4 => ?_) (fun c4 => ?_)
  · skip
    refine wa_iload_n (n := 1) rfl ?_
    refine wa_bipush (w_rg2 (by omega) (by omega)) ?_
    refine wa_icmpne (w_rg0 (by omega) (by omega)) (w_rg0 (by omega) (by omega)) ⟨_, rfl⟩ (fun c5 => ?_) (fun c5 => ?_)
    · skip
      refine wa_iload_n (n := 1) rfl ?_
      refine wa_bipush (w_rg2 (by omega) (by omega)) ?_
      refine wa_icmpne (w_rg0 (by omega) (by omega)) (w_rg0 (by omega) (by omega)) ⟨_, rfl⟩ (fun c6 => ?_) (fun c6 => ?_)
      · skip
        refine wa_iload_n (n := 1) rfl ?_
        refine wa_bipush (w_rg2 (by omega) (by omega)) ?_
        refine wa_icmpne (w_rg0 (by omega) (by omega)) (w_rg0 (by omega) (by omega)) ⟨_, rfl⟩ (fun c7 => ?_) (fun c7 => ?_)
        · skip
          refine wa_iload_n (n := 1) rfl ?_
          refine wa_bipush (w_rg2 (by omega) (by omega)) ?_
          refine wa_icmpge (w_rg0 (by omega) (by omega)) (w_rg0 (by omega) (by omega)) ⟨_, rfl⟩ (fun c8 => ?_) (fun c8 => ?_)
          · skip
            refine wa_aload_n (n := 0) rfl ?_
            refine wa_iload_n (n := 1) rfl ?_
            refine wa_iload_n (n := 3) rfl ?_
            refine wa_iload_n (n := 2) rfl ?_
            refine wa_cv 237 rfl (wy_pr rfl) wt_237 (M2 := fun _ => False) rfl at_M_compares ⟨_, rfl⟩ rfl rfl ⟨trivial, trivial, (Or.inr ⟨wy_pr rfl, fun q => q⟩), trivial, trivial⟩ trivial (fun _ _ q => False.elim q) ?_ (fun _ _ _ q => q)
            refine wa_iload_n (n := 1) rfl ?_
            refine wa_bipush (w_rg2 (by omega) (by omega)) ?_
            refine wa_icmpeq (w_rg0 (by omega) (by omega)) (w_rg0 (by omega) (by omega)) ⟨_, rfl⟩ (fun c9 => ?_) (fun c9 => ?_)
            · skip
              exact absurd c9 (by omega)
            · skip
              refine wa_iload_n (n := 1) rfl ?_
              refine wa_bipush (w_rg2 (by omega) (by omega)) ?_
              refine wa_icmpne (w_rg0 (by omega) (by omega)) (w_rg0 (by omega) (by omega)) ⟨_, rfl⟩ (fun c10 => ?_) (fun c10 => ?_)
              · skip
                refine wa_aload_n (n := 0) rfl ?_
                refine wb_gf4 237 rfl (wy_pr rfl) wt_237 wf_15_138 (v := 363) wl_237_138 ?_
                refine wa_iload_n (n := 2) rfl ?_
                refine wb_iald 363 rfl (wy_pr rfl) wt_363 (n := 4200) ((ml_363 hM)) (by omega) (by omega) (v := 2) (hkx) (fun r11 => ?_)
                refine wa_aload_n (n := 0) rfl ?_
                refine wb_gf4 237 rfl (wy_pr rfl) wt_237 wf_15_138 (v := 363) wl_237_138 ?_
                refine wa_iload_n (n := 3) rfl ?_
                refine wb_iald 363 rfl (wy_pr rfl) wt_363 (n := 4200) ((ml_363 hM)) (by omega) (by omega) (v := 2) (hky) (fun r12 => ?_)
                refine wa_icmpne (w_rg0 (by omega) (by omega)) (w_rg0 (by omega) (by omega)) ⟨_, rfl⟩ (fun c13 => ?_) (fun c13 => ?_)
                · skip
                  exact absurd c13 (by omega)
                · skip
                  refine wa_aload_n (n := 0) rfl ?_
                  refine wb_gf4 237 rfl (wy_pr rfl) wt_237 wf_15_138 (v := 363) wl_237_138 ?_
                  refine wa_iload_n (n := 2) rfl ?_
                  refine wb_iald 363 rfl (wy_pr rfl) wt_363 (n := 4200) ((ml_363 hM)) (by omega) (by omega) (v := 2) (hkx) (fun r14 => ?_)
                  refine wa_iconst ?_
                  refine wa_icmpeq (w_rg0 (by omega) (by omega)) (w_rg0 (by omega) (by omega)) ⟨_, rfl⟩ (fun c15 => ?_) (fun c15 => ?_)
                  · skip
                    refine wa_iconst ?_
                    refine wa_goto ⟨_, rfl⟩ ?_
                    refine wa_istore (n := 4) rfl ?_
                    refine wa_iload (n := 4) rfl ?_
                    refine wa_ifne (w_rg0 (by omega) (by omega)) ⟨_, rfl⟩ (fun c16 => ?_) (fun c16 => ?_)
                    · skip
                      refine wa_aload_n (n := 0) rfl ?_
                      refine wb_gf4 237 rfl (wy_pr rfl) wt_237 wf_15_138 (v := 363) wl_237_138 ?_
                      refine wa_iload_n (n := 2) rfl ?_
                      refine wb_iald 363 rfl (wy_pr rfl) wt_363 (n := 4200) ((ml_363 hM)) (by omega) (by omega) (v := 2) (hkx) (fun r17 => ?_)
                      refine wa_iconst ?_
                      refine wa_icmpne (w_rg0 (by omega) (by omega)) (w_rg0 (by omega) (by omega)) ⟨_, rfl⟩ (fun c18 => ?_) (fun c18 => ?_)
                      · skip
                        exact absurd c18 (by omega)
                      · skip
                        refine wa_aload_n (n := 0) rfl ?_
                        refine wb_gf4 237 rfl (wy_pr rfl) wt_237 wf_15_139 (v := 364) wl_237_139 ?_
                        refine wa_iload_n (n := 2) rfl ?_
                        refine wb_lald 364 rfl (wy_pr rfl) wt_364 (n := 4200) ((ml_364 hM)) (by omega) (by omega) (v := vx) (hvx) (fun r19 => ?_)
                        refine wa_aload_n (n := 0) rfl ?_
                        refine wb_gf4 237 rfl (wy_pr rfl) wt_237 wf_15_139 (v := 364) wl_237_139 ?_
                        refine wa_iload_n (n := 3) rfl ?_
                        refine wb_lald 364 rfl (wy_pr rfl) wt_364 (n := 4200) ((ml_364 hM)) (by omega) (by omega) (v := vy) (hvy) (fun r20 => ?_)
                        refine wa_cs (M2 := fun _ => False) rfl at_JL_compare ⟨_, rfl⟩ rfl rfl ⟨trivial, (Or.inr ⟨wy_pr rfl, fun q => q⟩), trivial, trivial, trivial, trivial⟩ trivial (fun _ _ q => False.elim q) ?_ (fun _ _ _ q => q)
                        refine wa_lload_n (n := 0) rfl ?_
                        refine wa_lload_n (n := 2) rfl ?_
                        refine wa_lcmp (w_rg1 (by omega) (by omega)) (w_rg1 (by omega) (by omega)) ?_
                        refine wa_ifge (by have := @wb_lcmp_cases; exact w_lcmp_rg) ⟨_, rfl⟩ (fun c21 => ?_) (fun c21 => ?_)
                        · skip
                          have c21x := @wb_lcmp_cases vx vy
                          refine wa_lload_n (n := 0) rfl ?_
                          refine wa_lload_n (n := 2) rfl ?_
                          refine wa_lcmp (w_rg1 (by omega) (by omega)) (w_rg1 (by omega) (by omega)) ?_
                          refine wa_ifne (by have := @wb_lcmp_cases; exact w_lcmp_rg) ⟨_, rfl⟩ (fun c22 => ?_) (fun c22 => ?_)
                          · skip
                            have c22x := @wb_lcmp_cases vx vy
                            refine wa_iconst ?_
                            refine wa_fall ⟨_, rfl⟩ ?_
                            refine wa_ireturn rfl ?_
                            show wJ _ _ _ _ _ _ _ _ _ _
                            refine wa_goto ⟨_, rfl⟩ ?_
                            refine wa_istore (n := 5) rfl ?_
                            refine wa_iload_n (n := 1) rfl ?_
                            refine wa_bipush (w_rg2 (by omega) (by omega)) ?_
                            refine wa_icmpne (w_rg0 (by omega) (by omega)) (w_rg0 (by omega) (by omega)) ⟨_, rfl⟩ (fun c23 => ?_) (fun c23 => ?_)
                            · skip
                              refine wa_iload_n (n := 1) rfl ?_
                              refine wa_bipush (w_rg2 (by omega) (by omega)) ?_
                              refine wa_icmpne (w_rg0 (by omega) (by omega)) (w_rg0 (by omega) (by omega)) ⟨_, rfl⟩ (fun c24 => ?_) (fun c24 => ?_)
                              · skip
                                exact absurd c24 (by omega)
                              · skip
                                refine wa_iload (n := 5) rfl ?_
                                refine wa_ifgt (w_rg0 (by omega) (by omega)) ⟨_, rfl⟩ (fun c25 => ?_) (fun c25 => ?_)
                                · skip
                                  refine wa_iconst ?_
                                  refine wa_goto ⟨_, rfl⟩ ?_
                                  refine wa_istore (n := 6) rfl ?_
                                  refine wa_aload_n (n := 0) rfl ?_
                                  refine wa_iconst ?_
                                  refine wa_iload (n := 6) rfl ?_
                                  refine wa_ifeq (w_rg0 (by omega) (by omega)) ⟨_, rfl⟩ (fun c26 => ?_) (fun c26 => ?_)
                                  · skip
                                    refine wb_lconst (m := 0) rfl ?_
                                    refine wa_fall ⟨_, rfl⟩ ?_
                                    refine wa_cv 237 rfl (wy_pr rfl) wt_237 (M2 := fun _ => False) rfl at_M_is ⟨_, rfl⟩ rfl rfl ⟨trivial, trivial, trivial, (Or.inr ⟨wy_pr rfl, fun q => q⟩), trivial, trivial, trivial, trivial⟩ trivial (fun _ _ q => False.elim q) ?_ (fun _ _ _ q => q)
                                    refine wa_aload_n (n := 0) rfl ?_
                                    refine wa_iload_n (n := 1) rfl ?_
                                    refine wb_pfi 237 rfl (wy_pr rfl) wt_237 wf_15_110 (n := 110) rfl ⟨(by omega), (by omega)⟩ ?_
                                    refine wa_aload_n (n := 0) rfl ?_
                                    refine wa_lload_n (n := 2) rfl ?_
                                    refine wb_pfl 237 rfl (wy_pr rfl) wt_237 wf_15_111 (n := 111) rfl ⟨(by omega), (by omega)⟩ ?_
                                    refine wa_return rfl ?_
                                    show wJ _ _ _ _ _ _ _ _ _ _
                                    refine wa_return rfl ?_
                                    show wJ _ _ _ _ _ _ _ _ _ _
                                    refine wa_fall ⟨_, rfl⟩ ?_
                                    refine wa_aload_n (n := 0) rfl ?_
                                    refine wb_gf4 237 rfl (wy_pr rfl) wt_237 wf_15_134 (v := 359) wl_237_134 ?_
                                    refine wa_aload_n (n := 0) rfl ?_
                                    refine wb_gfi 237 rfl (wy_pr rfl) wt_237 wf_15_151 (v := t) ((w_up_at (by decide)).trans ((w_up_at (by decide)).trans (mt))) (fun r27 => ?_)
                                    refine wa_dup2 (by decide) (by decide) ?_
                                    refine wb_iald 359 rfl (wy_pr rfl) wt_359 (n := 2) ((w_up_slot (by decide)).trans ((w_up_slot (by decide)).trans ((ml_359 hM)))) (by omega) (by omega) (v := h) ((w_up_slot (by decide)).trans ((w_up_slot (by decide)).trans (mh))) (fun r28 => ?_)
                                    refine wa_iconst ?_
                                    refine wa_isub ?_
                                    refine wb_iast 359 rfl (wy_pr rfl) wt_359 (n := 2) ((w_up_slot (by decide)).trans ((w_up_slot (by decide)).trans ((ml_359 hM)))) (by omega) (by omega) ⟨(by omega), (by omega)⟩ ?_
                                    refine wa_aload_n (n := 0) rfl ?_
                                    refine wb_gf4 237 rfl (wy_pr rfl) wt_237 wf_15_138 (v := 363) wl_237_138 ?_
                                    refine wa_iload_n (n := 3) rfl ?_
                                    refine wa_aload_n (n := 0) rfl ?_
                                    refine wb_gfi 237 rfl (wy_pr rfl) wt_237 wf_15_110 (v := 1) ((w_up_slot (by decide)).trans ((w_up_at (by decide)).trans (w_up_same _ _ _ _))) (fun r29 => ?_)
                                    refine wb_iast 363 rfl (wy_pr rfl) wt_363 (n := 4200) ((w_up_slot (by decide)).trans ((w_up_slot (by decide)).trans ((w_up_slot (by decide)).trans ((ml_363 hM))))) (by omega) (by omega) ⟨(by omega), (by omega)⟩ ?_
                                    refine wa_aload_n (n := 0) rfl ?_
                                    refine wb_gf4 237 rfl (wy_pr rfl) wt_237 wf_15_139 (v := 364) wl_237_139 ?_
                                    refine wa_iload_n (n := 3) rfl ?_
                                    refine wa_aload_n (n := 0) rfl ?_
                                    refine wb_gfl 237 rfl (wy_pr rfl) wt_237 wf_15_111 (v := 0) ((w_up_slot (by decide)).trans ((w_up_slot (by decide)).trans (w_up_same _ _ _ _))) (fun r30 => ?_)
                                    refine wb_last 364 rfl (wy_pr rfl) wt_364 (n := 4200) ((w_up_slot (by decide)).trans ((w_up_slot (by decide)).trans ((w_up_slot (by decide)).trans ((w_up_slot (by decide)).trans ((ml_364 hM)))))) (by omega) (by omega) ⟨(by omega), (by omega)⟩ ?_
                                    refine wa_fall ⟨_, rfl⟩ ?_
                                    refine wa_return rfl ?_
                                    refine ⟨rfl, ?_⟩
                                    first
                                      | (exfalso; omega)
                                      | (rw [if_pos (by omega)]; rfl)
                                      | (rw [if_neg (by omega)]; rfl)
                                  · skip
                                    exact absurd c26 (by omega)
                                · skip
                                  exact absurd c25 (by omega)
                            · skip
                              exact absurd c23 (by omega)
                          · skip
                            have c22x := @wb_lcmp_cases vx vy
                            refine wa_iconst ?_
                            refine wa_goto ⟨_, rfl⟩ ?_
                            refine wa_ireturn rfl ?_
                            show wJ _ _ _ _ _ _ _ _ _ _
                            refine wa_goto ⟨_, rfl⟩ ?_
                            refine wa_istore (n := 5) rfl ?_
                            refine wa_iload_n (n := 1) rfl ?_
                            refine wa_bipush (w_rg2 (by omega) (by omega)) ?_
                            refine wa_icmpne (w_rg0 (by omega) (by omega)) (w_rg0 (by omega) (by omega)) ⟨_, rfl⟩ (fun c31 => ?_) (fun c31 => ?_)
                            · skip
                              refine wa_iload_n (n := 1) rfl ?_
                              refine wa_bipush (w_rg2 (by omega) (by omega)) ?_
                              refine wa_icmpne (w_rg0 (by omega) (by omega)) (w_rg0 (by omega) (by omega)) ⟨_, rfl⟩ (fun c32 => ?_) (fun c32 => ?_)
                              · skip
                                exact absurd c32 (by omega)
                              · skip
                                refine wa_iload (n := 5) rfl ?_
                                refine wa_ifgt (w_rg0 (by omega) (by omega)) ⟨_, rfl⟩ (fun c33 => ?_) (fun c33 => ?_)
                                · skip
                                  exact absurd c33 (by omega)
                                · skip
                                  refine wa_iconst ?_
                                  refine wa_goto ⟨_, rfl⟩ ?_
                                  refine wa_istore (n := 6) rfl ?_
                                  refine wa_aload_n (n := 0) rfl ?_
                                  refine wa_iconst ?_
                                  refine wa_iload (n := 6) rfl ?_
                                  refine wa_ifeq (w_rg0 (by omega) (by omega)) ⟨_, rfl⟩ (fun c34 => ?_) (fun c34 => ?_)
                                  · skip
                                    exact absurd c34 (by omega)
                                  · skip
                                    refine wb_lconst (m := 1) rfl ?_
                                    refine wa_goto ⟨_, rfl⟩ ?_
                                    refine wa_cv 237 rfl (wy_pr rfl) wt_237 (M2 := fun _ => False) rfl at_M_is ⟨_, rfl⟩ rfl rfl ⟨trivial, trivial, trivial, (Or.inr ⟨wy_pr rfl, fun q => q⟩), trivial, trivial, trivial, trivial⟩ trivial (fun _ _ q => False.elim q) ?_ (fun _ _ _ q => q)
                                    refine wa_aload_n (n := 0) rfl ?_
                                    refine wa_iload_n (n := 1) rfl ?_
                                    refine wb_pfi 237 rfl (wy_pr rfl) wt_237 wf_15_110 (n := 110) rfl ⟨(by omega), (by omega)⟩ ?_
                                    refine wa_aload_n (n := 0) rfl ?_
                                    refine wa_lload_n (n := 2) rfl ?_
                                    refine wb_pfl 237 rfl (wy_pr rfl) wt_237 wf_15_111 (n := 111) rfl ⟨(by omega), (by omega)⟩ ?_
                                    refine wa_return rfl ?_
                                    show wJ _ _ _ _ _ _ _ _ _ _
                                    refine wa_return rfl ?_
                                    show wJ _ _ _ _ _ _ _ _ _ _
                                    refine wa_fall ⟨_, rfl⟩ ?_
                                    refine wa_aload_n (n := 0) rfl ?_
                                    refine wb_gf4 237 rfl (wy_pr rfl) wt_237 wf_15_134 (v := 359) wl_237_134 ?_
                                    refine wa_aload_n (n := 0) rfl ?_
                                    refine wb_gfi 237 rfl (wy_pr rfl) wt_237 wf_15_151 (v := t) ((w_up_at (by decide)).trans ((w_up_at (by decide)).trans (mt))) (fun r35 => ?_)
                                    refine wa_dup2 (by decide) (by decide) ?_
                                    refine wb_iald 359 rfl (wy_pr rfl) wt_359 (n := 2) ((w_up_slot (by decide)).trans ((w_up_slot (by decide)).trans ((ml_359 hM)))) (by omega) (by omega) (v := h) ((w_up_slot (by decide)).trans ((w_up_slot (by decide)).trans (mh))) (fun r36 => ?_)
                                    refine wa_iconst ?_
                                    refine wa_isub ?_
                                    refine wb_iast 359 rfl (wy_pr rfl) wt_359 (n := 2) ((w_up_slot (by decide)).trans ((w_up_slot (by decide)).trans ((ml_359 hM)))) (by omega) (by omega) ⟨(by omega), (by omega)⟩ ?_
                                    refine wa_aload_n (n := 0) rfl ?_
                                    refine wb_gf4 237 rfl (wy_pr rfl) wt_237 wf_15_138 (v := 363) wl_237_138 ?_
                                    refine wa_iload_n (n := 3) rfl ?_
                                    refine wa_aload_n (n := 0) rfl ?_
                                    refine wb_gfi 237 rfl (wy_pr rfl) wt_237 wf_15_110 (v := 1) ((w_up_slot (by decide)).trans ((w_up_at (by decide)).trans (w_up_same _ _ _ _))) (fun r37 => ?_)
                                    refine wb_iast 363 rfl (wy_pr rfl) wt_363 (n := 4200) ((w_up_slot (by decide)).trans ((w_up_slot (by decide)).trans ((w_up_slot (by decide)).trans ((ml_363 hM))))) (by omega) (by omega) ⟨(by omega), (by omega)⟩ ?_
                                    refine wa_aload_n (n := 0) rfl ?_
                                    refine wb_gf4 237 rfl (wy_pr rfl) wt_237 wf_15_139 (v := 364) wl_237_139 ?_
                                    refine wa_iload_n (n := 3) rfl ?_
                                    refine wa_aload_n (n := 0) rfl ?_
                                    refine wb_gfl 237 rfl (wy_pr rfl) wt_237 wf_15_111 (v := 1) ((w_up_slot (by decide)).trans ((w_up_slot (by decide)).trans (w_up_same _ _ _ _))) (fun r38 => ?_)
                                    refine wb_last 364 rfl (wy_pr rfl) wt_364 (n := 4200) ((w_up_slot (by decide)).trans ((w_up_slot (by decide)).trans ((w_up_slot (by decide)).trans ((w_up_slot (by decide)).trans ((ml_364 hM)))))) (by omega) (by omega) ⟨(by omega), (by omega)⟩ ?_
                                    refine wa_fall ⟨_, rfl⟩ ?_
                                    refine wa_return rfl ?_
                                    refine ⟨rfl, ?_⟩
                                    first
                                      | (exfalso; omega)
                                      | (rw [if_pos (by omega)]; rfl)
                                      | (rw [if_neg (by omega)]; rfl)
                            · skip
                              exact absurd c31 (by omega)
                        · skip
                          have c21x := @wb_lcmp_cases vx vy
                          refine wa_iconst ?_
                          refine wa_goto ⟨_, rfl⟩ ?_
                          refine wa_ireturn rfl ?_
                          show wJ _ _ _ _ _ _ _ _ _ _
                          refine wa_goto ⟨_, rfl⟩ ?_
                          refine wa_istore (n := 5) rfl ?_
                          refine wa_iload_n (n := 1) rfl ?_
                          refine wa_bipush (w_rg2 (by omega) (by omega)) ?_
                          refine wa_icmpne (w_rg0 (by omega) (by omega)) (w_rg0 (by omega) (by omega)) ⟨_, rfl⟩ (fun c39 => ?_) (fun c39 => ?_)
                          · skip
                            refine wa_iload_n (n := 1) rfl ?_
                            refine wa_bipush (w_rg2 (by omega) (by omega)) ?_
                            refine wa_icmpne (w_rg0 (by omega) (by omega)) (w_rg0 (by omega) (by omega)) ⟨_, rfl⟩ (fun c40 => ?_) (fun c40 => ?_)
                            · skip
                              exact absurd c40 (by omega)
                            · skip
                              refine wa_iload (n := 5) rfl ?_
                              refine wa_ifgt (w_rg0 (by omega) (by omega)) ⟨_, rfl⟩ (fun c41 => ?_) (fun c41 => ?_)
                              · skip
                                exact absurd c41 (by omega)
                              · skip
                                refine wa_iconst ?_
                                refine wa_goto ⟨_, rfl⟩ ?_
                                refine wa_istore (n := 6) rfl ?_
                                refine wa_aload_n (n := 0) rfl ?_
                                refine wa_iconst ?_
                                refine wa_iload (n := 6) rfl ?_
                                refine wa_ifeq (w_rg0 (by omega) (by omega)) ⟨_, rfl⟩ (fun c42 => ?_) (fun c42 => ?_)
                                · skip
                                  exact absurd c42 (by omega)
                                · skip
                                  refine wb_lconst (m := 1) rfl ?_
                                  refine wa_goto ⟨_, rfl⟩ ?_
                                  refine wa_cv 237 rfl (wy_pr rfl) wt_237 (M2 := fun _ => False) rfl at_M_is ⟨_, rfl⟩ rfl rfl ⟨trivial, trivial, trivial, (Or.inr ⟨wy_pr rfl, fun q => q⟩), trivial, trivial, trivial, trivial⟩ trivial (fun _ _ q => False.elim q) ?_ (fun _ _ _ q => q)
                                  refine wa_aload_n (n := 0) rfl ?_
                                  refine wa_iload_n (n := 1) rfl ?_
                                  refine wb_pfi 237 rfl (wy_pr rfl) wt_237 wf_15_110 (n := 110) rfl ⟨(by omega), (by omega)⟩ ?_
                                  refine wa_aload_n (n := 0) rfl ?_
                                  refine wa_lload_n (n := 2) rfl ?_
                                  refine wb_pfl 237 rfl (wy_pr rfl) wt_237 wf_15_111 (n := 111) rfl ⟨(by omega), (by omega)⟩ ?_
                                  refine wa_return rfl ?_
                                  show wJ _ _ _ _ _ _ _ _ _ _
                                  refine wa_return rfl ?_
                                  show wJ _ _ _ _ _ _ _ _ _ _
                                  refine wa_fall ⟨_, rfl⟩ ?_
                                  refine wa_aload_n (n := 0) rfl ?_
                                  refine wb_gf4 237 rfl (wy_pr rfl) wt_237 wf_15_134 (v := 359) wl_237_134 ?_
                                  refine wa_aload_n (n := 0) rfl ?_
                                  refine wb_gfi 237 rfl (wy_pr rfl) wt_237 wf_15_151 (v := t) ((w_up_at (by decide)).trans ((w_up_at (by decide)).trans (mt))) (fun r43 => ?_)
                                  refine wa_dup2 (by decide) (by decide) ?_
                                  refine wb_iald 359 rfl (wy_pr rfl) wt_359 (n := 2) ((w_up_slot (by decide)).trans ((w_up_slot (by decide)).trans ((ml_359 hM)))) (by omega) (by omega) (v := h) ((w_up_slot (by decide)).trans ((w_up_slot (by decide)).trans (mh))) (fun r44 => ?_)
                                  refine wa_iconst ?_
                                  refine wa_isub ?_
                                  refine wb_iast 359 rfl (wy_pr rfl) wt_359 (n := 2) ((w_up_slot (by decide)).trans ((w_up_slot (by decide)).trans ((ml_359 hM)))) (by omega) (by omega) ⟨(by omega), (by omega)⟩ ?_
                                  refine wa_aload_n (n := 0) rfl ?_
                                  refine wb_gf4 237 rfl (wy_pr rfl) wt_237 wf_15_138 (v := 363) wl_237_138 ?_
                                  refine wa_iload_n (n := 3) rfl ?_
                                  refine wa_aload_n (n := 0) rfl ?_
                                  refine wb_gfi 237 rfl (wy_pr rfl) wt_237 wf_15_110 (v := 1) ((w_up_slot (by decide)).trans ((w_up_at (by decide)).trans (w_up_same _ _ _ _))) (fun r45 => ?_)
                                  refine wb_iast 363 rfl (wy_pr rfl) wt_363 (n := 4200) ((w_up_slot (by decide)).trans ((w_up_slot (by decide)).trans ((w_up_slot (by decide)).trans ((ml_363 hM))))) (by omega) (by omega) ⟨(by omega), (by omega)⟩ ?_
                                  refine wa_aload_n (n := 0) rfl ?_
                                  refine wb_gf4 237 rfl (wy_pr rfl) wt_237 wf_15_139 (v := 364) wl_237_139 ?_
                                  refine wa_iload_n (n := 3) rfl ?_
                                  refine wa_aload_n (n := 0) rfl ?_
                                  refine wb_gfl 237 rfl (wy_pr rfl) wt_237 wf_15_111 (v := 1) ((w_up_slot (by decide)).trans ((w_up_slot (by decide)).trans (w_up_same _ _ _ _))) (fun r46 => ?_)
                                  refine wb_last 364 rfl (wy_pr rfl) wt_364 (n := 4200) ((w_up_slot (by decide)).trans ((w_up_slot (by decide)).trans ((w_up_slot (by decide)).trans ((w_up_slot (by decide)).trans ((ml_364 hM)))))) (by omega) (by omega) ⟨(by omega), (by omega)⟩ ?_
                                  refine wa_fall ⟨_, rfl⟩ ?_
                                  refine wa_return rfl ?_
                                  refine ⟨rfl, ?_⟩
                                  first
                                    | (exfalso; omega)
                                    | (rw [if_pos (by omega)]; rfl)
                                    | (rw [if_neg (by omega)]; rfl)
                          · skip
                            exact absurd c39 (by omega)
                    · skip
                      exact absurd c16 (by omega)
                  · skip
                    exact absurd c15 (by omega)
              · skip
                exact absurd c10 (by omega)
          · skip
            exact absurd c8 (by omega)
        · skip
          exact absurd c7 (by omega)
      · skip
        exact absurd c6 (by omega)
    · skip
      exact absurd c5 (by omega)
  · skip
    exact absurd c4 (by omega)
theorem y18 {t c p h tp vx vy : Int} (hP : mP t c p h tp S) (hky : S 363 (2100 * t + h - 1) = 2) (hvy : S 364 (2100 * t + h - 1) = vy) (hkx : S 363 (2100 * t + h - 1 - 1) = 2) (hvx : S 364 (2100 * t + h - 1 - 1) = vx) (hh1 : 2 ≤ h) : wJ (pe_GA xs) wY0 M (d + 11) t_M_operators ((pe_at t_M_operators.bl 0).getD (0, [])).2 [(0, (2, 237)), (1, (0, 18))] [] S (fun o Z => o = .inl none ∧ pXZ t h 1 (if vy < vx then 1 else 0) S = Z) := by
  obtain ⟨hM, ⟨mt, mt0, mt1⟩, mp, mf, ⟨mc, mc0, mc1⟩, ⟨mtp, mtq⟩, ⟨mpa, mp0, mp1⟩, mh, mh0, mh1⟩ := hP
  refine wa_aload_n (n := 0) rfl ?_
  refine wa_cv 237 rfl (wy_pr rfl) wt_237 (M2 := fun _ => False) rfl at_M_h ⟨_, rfl⟩ rfl rfl ⟨(Or.inr ⟨wy_pr rfl, fun q => q⟩), trivial, trivial⟩ trivial (fun _ _ q => False.elim q) ?_ (fun _ _ _ q => q)
  refine wa_aload_n (n := 0) rfl ?_
  refine wb_gfi 237 rfl (wy_pr rfl) wt_237 wf_15_152 (v := (2100 * t)) (mp) (fun r1 => ?_)
  refine wa_aload_n (n := 0) rfl ?_
  refine wb_gf4 237 rfl (wy_pr rfl) wt_237 wf_15_134 (v := 359) wl_237_134 ?_
  refine wa_aload_n (n := 0) rfl ?_
  refine wb_gfi 237 rfl (wy_pr rfl) wt_237 wf_15_151 (v := t) (mt) (fun r2 => ?_)
  refine wb_iald 359 rfl (wy_pr rfl) wt_359 (n := 2) ((ml_359 hM)) (by omega) (by omega) (v := h) (mh) (fun r3 => ?_)
  refine wa_iadd ?_
  refine wa_ireturn rfl ?_
  show wJ _ _ _ _ _ _ _ _ _ _
  refine wa_iconst ?_
  refine wa_isub ?_
  refine wa_istore_n (n := 2) rfl ?_
  refine wa_iload_n (n := 2) rfl ?_
  refine wa_iconst ?_
  refine wa_isub ?_
  refine wa_istore_n (n := 3) rfl ?_
  refine wa_iload_n (n := 1) rfl ?_
  refine wa_iconst ?_
  refine wa_icmpne (w_rg0 (by omega) (by omega)) (w_rg0 (by omega) (by omega)) ⟨_, rfl⟩ (fun c4 => ?_) (fun c4 => ?_)
  · skip
    refine wa_iload_n (n := 1) rfl ?_
    refine wa_bipush (w_rg2 (by omega) (by omega)) ?_
    refine wa_icmpne (w_rg0 (by omega) (by omega)) (w_rg0 (by omega) (by omega)) ⟨_, rfl⟩ (fun c5 => ?_) (fun c5 => ?_)
    · skip
      refine wa_iload_n (n := 1) rfl ?_
      refine wa_bipush (w_rg2 (by omega) (by omega)) ?_
      refine wa_icmpne (w_rg0 (by omega) (by omega)) (w_rg0 (by omega) (by omega)) ⟨_, rfl⟩ (fun c6 => ?_) (fun c6 => ?_)
      · skip
        refine wa_iload_n (n := 1) rfl ?_
        refine wa_bipush (w_rg2 (by omega) (by omega)) ?_
        refine wa_icmpne (w_rg0 (by omega) (by omega)) (w_rg0 (by omega) (by omega)) ⟨_, rfl⟩ (fun c7 => ?_) (fun c7 => ?_)
        · skip
          refine wa_iload_n (n := 1) rfl ?_
          refine wa_bipush (w_rg2 (by omega) (by omega)) ?_
          refine wa_icmpge (w_rg0 (by omega) (by omega)) (w_rg0 (by omega) (by omega)) ⟨_, rfl⟩ (fun c8 => ?_) (fun c8 => ?_)
          · skip
            refine wa_aload_n (n := 0) rfl ?_
            refine wa_iload_n (n := 1) rfl ?_
            refine wa_iload_n (n := 3) rfl ?_
            refine wa_iload_n (n := 2) rfl ?_
            refine wa_cv 237 rfl (wy_pr rfl) wt_237 (M2 := fun _ => False) rfl at_M_compares ⟨_, rfl⟩ rfl rfl ⟨trivial, trivial, (Or.inr ⟨wy_pr rfl, fun q => q⟩), trivial, trivial⟩ trivial (fun _ _ q => False.elim q) ?_ (fun _ _ _ q => q)
            refine wa_iload_n (n := 1) rfl ?_
            refine wa_bipush (w_rg2 (by omega) (by omega)) ?_
            refine wa_icmpeq (w_rg0 (by omega) (by omega)) (w_rg0 (by omega) (by omega)) ⟨_, rfl⟩ (fun c9 => ?_) (fun c9 => ?_)
            · skip
              exact absurd c9 (by omega)
            · skip
              refine wa_iload_n (n := 1) rfl ?_
              refine wa_bipush (w_rg2 (by omega) (by omega)) ?_
              refine wa_icmpne (w_rg0 (by omega) (by omega)) (w_rg0 (by omega) (by omega)) ⟨_, rfl⟩ (fun c10 => ?_) (fun c10 => ?_)
              · skip
                refine wa_aload_n (n := 0) rfl ?_
                refine wb_gf4 237 rfl (wy_pr rfl) wt_237 wf_15_138 (v := 363) wl_237_138 ?_
                refine wa_iload_n (n := 2) rfl ?_
                refine wb_iald 363 rfl (wy_pr rfl) wt_363 (n := 4200) ((ml_363 hM)) (by omega) (by omega) (v := 2) (hkx) (fun r11 => ?_)
                refine wa_aload_n (n := 0) rfl ?_
                refine wb_gf4 237 rfl (wy_pr rfl) wt_237 wf_15_138 (v := 363) wl_237_138 ?_
                refine wa_iload_n (n := 3) rfl ?_
                refine wb_iald 363 rfl (wy_pr rfl) wt_363 (n := 4200) ((ml_363 hM)) (by omega) (by omega) (v := 2) (hky) (fun r12 => ?_)
                refine wa_icmpne (w_rg0 (by omega) (by omega)) (w_rg0 (by omega) (by omega)) ⟨_, rfl⟩ (fun c13 => ?_) (fun c13 => ?_)
                · skip
                  exact absurd c13 (by omega)
                · skip
                  refine wa_aload_n (n := 0) rfl ?_
                  refine wb_gf4 237 rfl (wy_pr rfl) wt_237 wf_15_138 (v := 363) wl_237_138 ?_
                  refine wa_iload_n (n := 2) rfl ?_
                  refine wb_iald 363 rfl (wy_pr rfl) wt_363 (n := 4200) ((ml_363 hM)) (by omega) (by omega) (v := 2) (hkx) (fun r14 => ?_)
                  refine wa_iconst ?_
                  refine wa_icmpeq (w_rg0 (by omega) (by omega)) (w_rg0 (by omega) (by omega)) ⟨_, rfl⟩ (fun c15 => ?_) (fun c15 => ?_)
                  · skip
                    refine wa_iconst ?_
                    refine wa_goto ⟨_, rfl⟩ ?_
                    refine wa_istore (n := 4) rfl ?_
                    refine wa_iload (n := 4) rfl ?_
                    refine wa_ifne (w_rg0 (by omega) (by omega)) ⟨_, rfl⟩ (fun c16 => ?_) (fun c16 => ?_)
                    · skip
                      refine wa_aload_n (n := 0) rfl ?_
                      refine wb_gf4 237 rfl (wy_pr rfl) wt_237 wf_15_138 (v := 363) wl_237_138 ?_
                      refine wa_iload_n (n := 2) rfl ?_
                      refine wb_iald 363 rfl (wy_pr rfl) wt_363 (n := 4200) ((ml_363 hM)) (by omega) (by omega) (v := 2) (hkx) (fun r17 => ?_)
                      refine wa_iconst ?_
                      refine wa_icmpne (w_rg0 (by omega) (by omega)) (w_rg0 (by omega) (by omega)) ⟨_, rfl⟩ (fun c18 => ?_) (fun c18 => ?_)
                      · skip
                        exact absurd c18 (by omega)
                      · skip
                        refine wa_aload_n (n := 0) rfl ?_
                        refine wb_gf4 237 rfl (wy_pr rfl) wt_237 wf_15_139 (v := 364) wl_237_139 ?_
                        refine wa_iload_n (n := 2) rfl ?_
                        refine wb_lald 364 rfl (wy_pr rfl) wt_364 (n := 4200) ((ml_364 hM)) (by omega) (by omega) (v := vx) (hvx) (fun r19 => ?_)
                        refine wa_aload_n (n := 0) rfl ?_
                        refine wb_gf4 237 rfl (wy_pr rfl) wt_237 wf_15_139 (v := 364) wl_237_139 ?_
                        refine wa_iload_n (n := 3) rfl ?_
                        refine wb_lald 364 rfl (wy_pr rfl) wt_364 (n := 4200) ((ml_364 hM)) (by omega) (by omega) (v := vy) (hvy) (fun r20 => ?_)
                        refine wa_cs (M2 := fun _ => False) rfl at_JL_compare ⟨_, rfl⟩ rfl rfl ⟨trivial, (Or.inr ⟨wy_pr rfl, fun q => q⟩), trivial, trivial, trivial, trivial⟩ trivial (fun _ _ q => False.elim q) ?_ (fun _ _ _ q => q)
                        refine wa_lload_n (n := 0) rfl ?_
                        refine wa_lload_n (n := 2) rfl ?_
                        refine wa_lcmp (w_rg1 (by omega) (by omega)) (w_rg1 (by omega) (by omega)) ?_
                        refine wa_ifge (by have := @wb_lcmp_cases; exact w_lcmp_rg) ⟨_, rfl⟩ (fun c21 => ?_) (fun c21 => ?_)
                        · skip
                          have c21x := @wb_lcmp_cases vx vy
                          refine wa_lload_n (n := 0) rfl ?_
                          refine wa_lload_n (n := 2) rfl ?_
                          refine wa_lcmp (w_rg1 (by omega) (by omega)) (w_rg1 (by omega) (by omega)) ?_
                          refine wa_ifne (by have := @wb_lcmp_cases; exact w_lcmp_rg) ⟨_, rfl⟩ (fun c22 => ?_) (fun c22 => ?_)
                          · skip
                            have c22x := @wb_lcmp_cases vx vy
                            refine wa_iconst ?_
                            refine wa_fall ⟨_, rfl⟩ ?_
                            refine wa_ireturn rfl ?_
                            show wJ _ _ _ _ _ _ _ _ _ _
                            refine wa_goto ⟨_, rfl⟩ ?_
                            refine wa_istore (n := 5) rfl ?_
                            refine wa_iload_n (n := 1) rfl ?_
                            refine wa_bipush (w_rg2 (by omega) (by omega)) ?_
                            refine wa_icmpne (w_rg0 (by omega) (by omega)) (w_rg0 (by omega) (by omega)) ⟨_, rfl⟩ (fun c23 => ?_) (fun c23 => ?_)
                            · skip
                              refine wa_iload_n (n := 1) rfl ?_
                              refine wa_bipush (w_rg2 (by omega) (by omega)) ?_
                              refine wa_icmpne (w_rg0 (by omega) (by omega)) (w_rg0 (by omega) (by omega)) ⟨_, rfl⟩ (fun c24 => ?_) (fun c24 => ?_)
                              · skip
                                refine wa_iload_n (n := 1) rfl ?_
                                refine wa_bipush (w_rg2 (by omega) (by omega)) ?_
                                refine wa_icmpne (w_rg0 (by omega) (by omega)) (w_rg0 (by omega) (by omega)) ⟨_, rfl⟩ (fun c25 => ?_) (fun c25 => ?_)
                                · skip
                                  exact absurd c25 (by omega)
                                · skip
                                  refine wa_iload (n := 5) rfl ?_
                                  refine wa_ifle (w_rg0 (by omega) (by omega)) ⟨_, rfl⟩ (fun c26 => ?_) (fun c26 => ?_)
                                  · skip
                                    exact absurd c26 (by omega)
                                  · skip
                                    refine wa_iconst ?_
                                    refine wa_goto ⟨_, rfl⟩ ?_
                                    refine wa_istore (n := 6) rfl ?_
                                    refine wa_aload_n (n := 0) rfl ?_
                                    refine wa_iconst ?_
                                    refine wa_iload (n := 6) rfl ?_
                                    refine wa_ifeq (w_rg0 (by omega) (by omega)) ⟨_, rfl⟩ (fun c27 => ?_) (fun c27 => ?_)
                                    · skip
                                      exact absurd c27 (by omega)
                                    · skip
                                      refine wb_lconst (m := 1) rfl ?_
                                      refine wa_goto ⟨_, rfl⟩ ?_
                                      refine wa_cv 237 rfl (wy_pr rfl) wt_237 (M2 := fun _ => False) rfl at_M_is ⟨_, rfl⟩ rfl rfl ⟨trivial, trivial, trivial, (Or.inr ⟨wy_pr rfl, fun q => q⟩), trivial, trivial, trivial, trivial⟩ trivial (fun _ _ q => False.elim q) ?_ (fun _ _ _ q => q)
                                      refine wa_aload_n (n := 0) rfl ?_
                                      refine wa_iload_n (n := 1) rfl ?_
                                      refine wb_pfi 237 rfl (wy_pr rfl) wt_237 wf_15_110 (n := 110) rfl ⟨(by omega), (by omega)⟩ ?_
                                      refine wa_aload_n (n := 0) rfl ?_
                                      refine wa_lload_n (n := 2) rfl ?_
                                      refine wb_pfl 237 rfl (wy_pr rfl) wt_237 wf_15_111 (n := 111) rfl ⟨(by omega), (by omega)⟩ ?_
                                      refine wa_return rfl ?_
                                      show wJ _ _ _ _ _ _ _ _ _ _
                                      refine wa_return rfl ?_
                                      show wJ _ _ _ _ _ _ _ _ _ _
                                      refine wa_fall ⟨_, rfl⟩ ?_
                                      refine wa_aload_n (n := 0) rfl ?_
                                      refine wb_gf4 237 rfl (wy_pr rfl) wt_237 wf_15_134 (v := 359) wl_237_134 ?_
                                      refine wa_aload_n (n := 0) rfl ?_
                                      refine wb_gfi 237 rfl (wy_pr rfl) wt_237 wf_15_151 (v := t) ((w_up_at (by decide)).trans ((w_up_at (by decide)).trans (mt))) (fun r28 => ?_)
                                      refine wa_dup2 (by decide) (by decide) ?_
                                      refine wb_iald 359 rfl (wy_pr rfl) wt_359 (n := 2) ((w_up_slot (by decide)).trans ((w_up_slot (by decide)).trans ((ml_359 hM)))) (by omega) (by omega) (v := h) ((w_up_slot (by decide)).trans ((w_up_slot (by decide)).trans (mh))) (fun r29 => ?_)
                                      refine wa_iconst ?_
                                      refine wa_isub ?_
                                      refine wb_iast 359 rfl (wy_pr rfl) wt_359 (n := 2) ((w_up_slot (by decide)).trans ((w_up_slot (by decide)).trans ((ml_359 hM)))) (by omega) (by omega) ⟨(by omega), (by omega)⟩ ?_
                                      refine wa_aload_n (n := 0) rfl ?_
                                      refine wb_gf4 237 rfl (wy_pr rfl) wt_237 wf_15_138 (v := 363) wl_237_138 ?_
                                      refine wa_iload_n (n := 3) rfl ?_
                                      refine wa_aload_n (n := 0) rfl ?_
                                      refine wb_gfi 237 rfl (wy_pr rfl) wt_237 wf_15_110 (v := 1) ((w_up_slot (by decide)).trans ((w_up_at (by decide)).trans (w_up_same _ _ _ _))) (fun r30 => ?_)
                                      refine wb_iast 363 rfl (wy_pr rfl) wt_363 (n := 4200) ((w_up_slot (by decide)).trans ((w_up_slot (by decide)).trans ((w_up_slot (by decide)).trans ((ml_363 hM))))) (by omega) (by omega) ⟨(by omega), (by omega)⟩ ?_
                                      refine wa_aload_n (n := 0) rfl ?_
                                      refine wb_gf4 237 rfl (wy_pr rfl) wt_237 wf_15_139 (v := 364) wl_237_139 ?_
                                      refine wa_iload_n (n := 3) rfl ?_
                                      refine wa_aload_n (n := 0) rfl ?_
                                      refine wb_gfl 237 rfl (wy_pr rfl) wt_237 wf_15_111 (v := 1) ((w_up_slot (by decide)).trans ((w_up_slot (by decide)).trans (w_up_same _ _ _ _))) (fun r31 => ?_)
                                      refine wb_last 364 rfl (wy_pr rfl) wt_364 (n := 4200) ((w_up_slot (by decide)).trans ((w_up_slot (by decide)).trans ((w_up_slot (by decide)).trans ((w_up_slot (by decide)).trans ((ml_364 hM)))))) (by omega) (by omega) ⟨(by omega), (by omega)⟩ ?_
                                      refine wa_fall ⟨_, rfl⟩ ?_
                                      refine wa_return rfl ?_
                                      refine ⟨rfl, ?_⟩
                                      first
                                        | (exfalso; omega)
                                        | (rw [if_pos (by omega)]; rfl)
                                        | (rw [if_neg (by omega)]; rfl)
                              · skip
                                exact absurd c24 (by omega)
                            · skip
                              exact absurd c23 (by omega)
                          · skip
                            have c22x := @wb_lcmp_cases vx vy
                            refine wa_iconst ?_
                            refine wa_goto ⟨_, rfl⟩ ?_
                            refine wa_ireturn rfl ?_
                            show wJ _ _ _ _ _ _ _ _ _ _
                            refine wa_goto ⟨_, rfl⟩ ?_
                            refine wa_istore (n := 5) rfl ?_
                            refine wa_iload_n (n := 1) rfl ?_
                            refine wa_bipush (w_rg2 (by omega) (by omega)) ?_
                            refine wa_icmpne (w_rg0 (by omega) (by omega)) (w_rg0 (by omega) (by omega)) ⟨_, rfl⟩ (fun c32 => ?_) (fun c32 => ?_)
                            · skip
                              refine wa_iload_n (n := 1) rfl ?_
                              refine wa_bipush (w_rg2 (by omega) (by omega)) ?_
                              refine wa_icmpne (w_rg0 (by omega) (by omega)) (w_rg0 (by omega) (by omega)) ⟨_, rfl⟩ (fun c33 => ?_) (fun c33 => ?_)
                              · skip
                                refine wa_iload_n (n := 1) rfl ?_
                                refine wa_bipush (w_rg2 (by omega) (by omega)) ?_
                                refine wa_icmpne (w_rg0 (by omega) (by omega)) (w_rg0 (by omega) (by omega)) ⟨_, rfl⟩ (fun c34 => ?_) (fun c34 => ?_)
                                · skip
                                  exact absurd c34 (by omega)
                                · skip
                                  refine wa_iload (n := 5) rfl ?_
                                  refine wa_ifle (w_rg0 (by omega) (by omega)) ⟨_, rfl⟩ (fun c35 => ?_) (fun c35 => ?_)
                                  · skip
                                    refine wa_iconst ?_
                                    refine wa_goto ⟨_, rfl⟩ ?_
                                    refine wa_istore (n := 6) rfl ?_
                                    refine wa_aload_n (n := 0) rfl ?_
                                    refine wa_iconst ?_
                                    refine wa_iload (n := 6) rfl ?_
                                    refine wa_ifeq (w_rg0 (by omega) (by omega)) ⟨_, rfl⟩ (fun c36 => ?_) (fun c36 => ?_)
                                    · skip
                                      refine wb_lconst (m := 0) rfl ?_
                                      refine wa_fall ⟨_, rfl⟩ ?_
                                      refine wa_cv 237 rfl (wy_pr rfl) wt_237 (M2 := fun _ => False) rfl at_M_is ⟨_, rfl⟩ rfl rfl ⟨trivial, trivial, trivial, (Or.inr ⟨wy_pr rfl, fun q => q⟩), trivial, trivial, trivial, trivial⟩ trivial (fun _ _ q => False.elim q) ?_ (fun _ _ _ q => q)
                                      refine wa_aload_n (n := 0) rfl ?_
                                      refine wa_iload_n (n := 1) rfl ?_
                                      refine wb_pfi 237 rfl (wy_pr rfl) wt_237 wf_15_110 (n := 110) rfl ⟨(by omega), (by omega)⟩ ?_
                                      refine wa_aload_n (n := 0) rfl ?_
                                      refine wa_lload_n (n := 2) rfl ?_
                                      refine wb_pfl 237 rfl (wy_pr rfl) wt_237 wf_15_111 (n := 111) rfl ⟨(by omega), (by omega)⟩ ?_
                                      refine wa_return rfl ?_
                                      show wJ _ _ _ _ _ _ _ _ _ _
                                      refine wa_return rfl ?_
                                      show wJ _ _ _ _ _ _ _ _ _ _
                                      refine wa_fall ⟨_, rfl⟩ ?_
                                      refine wa_aload_n (n := 0) rfl ?_
                                      refine wb_gf4 237 rfl (wy_pr rfl) wt_237 wf_15_134 (v := 359) wl_237_134 ?_
                                      refine wa_aload_n (n := 0) rfl ?_
                                      refine wb_gfi 237 rfl (wy_pr rfl) wt_237 wf_15_151 (v := t) ((w_up_at (by decide)).trans ((w_up_at (by decide)).trans (mt))) (fun r37 => ?_)
                                      refine wa_dup2 (by decide) (by decide) ?_
                                      refine wb_iald 359 rfl (wy_pr rfl) wt_359 (n := 2) ((w_up_slot (by decide)).trans ((w_up_slot (by decide)).trans ((ml_359 hM)))) (by omega) (by omega) (v := h) ((w_up_slot (by decide)).trans ((w_up_slot (by decide)).trans (mh))) (fun r38 => ?_)
                                      refine wa_iconst ?_
                                      refine wa_isub ?_
                                      refine wb_iast 359 rfl (wy_pr rfl) wt_359 (n := 2) ((w_up_slot (by decide)).trans ((w_up_slot (by decide)).trans ((ml_359 hM)))) (by omega) (by omega) ⟨(by omega), (by omega)⟩ ?_
                                      refine wa_aload_n (n := 0) rfl ?_
                                      refine wb_gf4 237 rfl (wy_pr rfl) wt_237 wf_15_138 (v := 363) wl_237_138 ?_
                                      refine wa_iload_n (n := 3) rfl ?_
                                      refine wa_aload_n (n := 0) rfl ?_
                                      refine wb_gfi 237 rfl (wy_pr rfl) wt_237 wf_15_110 (v := 1) ((w_up_slot (by decide)).trans ((w_up_at (by decide)).trans (w_up_same _ _ _ _))) (fun r39 => ?_)
                                      refine wb_iast 363 rfl (wy_pr rfl) wt_363 (n := 4200) ((w_up_slot (by decide)).trans ((w_up_slot (by decide)).trans ((w_up_slot (by decide)).trans ((ml_363 hM))))) (by omega) (by omega) ⟨(by omega), (by omega)⟩ ?_
                                      refine wa_aload_n (n := 0) rfl ?_
                                      refine wb_gf4 237 rfl (wy_pr rfl) wt_237 wf_15_139 (v := 364) wl_237_139 ?_
                                      refine wa_iload_n (n := 3) rfl ?_
                                      refine wa_aload_n (n := 0) rfl ?_
                                      refine wb_gfl 237 rfl (wy_pr rfl) wt_237 wf_15_111 (v := 0) ((w_up_slot (by decide)).trans ((w_up_slot (by decide)).trans (w_up_same _ _ _ _))) (fun r40 => ?_)
                                      refine wb_last 364 rfl (wy_pr rfl) wt_364 (n := 4200) ((w_up_slot (by decide)).trans ((w_up_slot (by decide)).trans ((w_up_slot (by decide)).trans ((w_up_slot (by decide)).trans ((ml_364 hM)))))) (by omega) (by omega) ⟨(by omega), (by omega)⟩ ?_
                                      refine wa_fall ⟨_, rfl⟩ ?_
                                      refine wa_return rfl ?_
                                      refine ⟨rfl, ?_⟩
                                      first
                                        | (exfalso; omega)
                                        | (rw [if_pos (by omega)]; rfl)
                                        | (rw [if_neg (by omega)]; rfl)
                                    · skip
                                      exact absurd c36 (by omega)
                                  · skip
                                    exact absurd c35 (by omega)
                              · skip
                                exact absurd c33 (by omega)
                            · skip
                              exact absurd c32 (by omega)
                        · skip
                          have c21x := @wb_lcmp_cases vx vy
                          refine wa_iconst ?_
                          refine wa_goto ⟨_, rfl⟩ ?_
                          refine wa_ireturn rfl ?_
                          show wJ _ _ _ _ _ _ _ _ _ _
                          refine wa_goto ⟨_, rfl⟩ ?_
                          refine wa_istore (n := 5) rfl ?_
                          refine wa_iload_n (n := 1) rfl ?_
                          refine wa_bipush (w_rg2 (by omega) (by omega)) ?_
                          refine wa_icmpne (w_rg0 (by omega) (by omega)) (w_rg0 (by omega) (by omega)) ⟨_, rfl⟩ (fun c41 => ?_) (fun c41 => ?_)
                          · skip
                            refine wa_iload_n (n := 1) rfl ?_
                            refine wa_bipush (w_rg2 (by omega) (by omega)) ?_
                            refine wa_icmpne (w_rg0 (by omega) (by omega)) (w_rg0 (by omega) (by omega)) ⟨_, rfl⟩ (fun c42 => ?_) (fun c42 => ?_)
                            · skip
                              refine wa_iload_n (n := 1) rfl ?_
                              refine wa_bipush (w_rg2 (by omega) (by omega)) ?_
                              refine wa_icmpne (w_rg0 (by omega) (by omega)) (w_rg0 (by omega) (by omega)) ⟨_, rfl⟩ (fun c43 => ?_) (fun c43 => ?_)
                              · skip
                                exact absurd c43 (by omega)
                              · skip
                                refine wa_iload (n := 5) rfl ?_
                                refine wa_ifle (w_rg0 (by omega) (by omega)) ⟨_, rfl⟩ (fun c44 => ?_) (fun c44 => ?_)
                                · skip
                                  refine wa_iconst ?_
                                  refine wa_goto ⟨_, rfl⟩ ?_
                                  refine wa_istore (n := 6) rfl ?_
                                  refine wa_aload_n (n := 0) rfl ?_
                                  refine wa_iconst ?_
                                  refine wa_iload (n := 6) rfl ?_
                                  refine wa_ifeq (w_rg0 (by omega) (by omega)) ⟨_, rfl⟩ (fun c45 => ?_) (fun c45 => ?_)
                                  · skip
                                    refine wb_lconst (m := 0) rfl ?_
                                    refine wa_fall ⟨_, rfl⟩ ?_
                                    refine wa_cv 237 rfl (wy_pr rfl) wt_237 (M2 := fun _ => False) rfl at_M_is ⟨_, rfl⟩ rfl rfl ⟨trivial, trivial, trivial, (Or.inr ⟨wy_pr rfl, fun q => q⟩), trivial, trivial, trivial, trivial⟩ trivial (fun _ _ q => False.elim q) ?_ (fun _ _ _ q => q)
                                    refine wa_aload_n (n := 0) rfl ?_
                                    refine wa_iload_n (n := 1) rfl ?_
                                    refine wb_pfi 237 rfl (wy_pr rfl) wt_237 wf_15_110 (n := 110) rfl ⟨(by omega), (by omega)⟩ ?_
                                    refine wa_aload_n (n := 0) rfl ?_
                                    refine wa_lload_n (n := 2) rfl ?_
                                    refine wb_pfl 237 rfl (wy_pr rfl) wt_237 wf_15_111 (n := 111) rfl ⟨(by omega), (by omega)⟩ ?_
                                    refine wa_return rfl ?_
                                    show wJ _ _ _ _ _ _ _ _ _ _
                                    refine wa_return rfl ?_
                                    show wJ _ _ _ _ _ _ _ _ _ _
                                    refine wa_fall ⟨_, rfl⟩ ?_
                                    refine wa_aload_n (n := 0) rfl ?_
                                    refine wb_gf4 237 rfl (wy_pr rfl) wt_237 wf_15_134 (v := 359) wl_237_134 ?_
                                    refine wa_aload_n (n := 0) rfl ?_
                                    refine wb_gfi 237 rfl (wy_pr rfl) wt_237 wf_15_151 (v := t) ((w_up_at (by decide)).trans ((w_up_at (by decide)).trans (mt))) (fun r46 => ?_)
                                    refine wa_dup2 (by decide) (by decide) ?_
                                    refine wb_iald 359 rfl (wy_pr rfl) wt_359 (n := 2) ((w_up_slot (by decide)).trans ((w_up_slot (by decide)).trans ((ml_359 hM)))) (by omega) (by omega) (v := h) ((w_up_slot (by decide)).trans ((w_up_slot (by decide)).trans (mh))) (fun r47 => ?_)
                                    refine wa_iconst ?_
                                    refine wa_isub ?_
                                    refine wb_iast 359 rfl (wy_pr rfl) wt_359 (n := 2) ((w_up_slot (by decide)).trans ((w_up_slot (by decide)).trans ((ml_359 hM)))) (by omega) (by omega) ⟨(by omega), (by omega)⟩ ?_
                                    refine wa_aload_n (n := 0) rfl ?_
                                    refine wb_gf4 237 rfl (wy_pr rfl) wt_237 wf_15_138 (v := 363) wl_237_138 ?_
                                    refine wa_iload_n (n := 3) rfl ?_
                                    refine wa_aload_n (n := 0) rfl ?_
                                    refine wb_gfi 237 rfl (wy_pr rfl) wt_237 wf_15_110 (v := 1) ((w_up_slot (by decide)).trans ((w_up_at (by decide)).trans (w_up_same _ _ _ _))) (fun r48 => ?_)
                                    refine wb_iast 363 rfl (wy_pr rfl) wt_363 (n := 4200) ((w_up_slot (by decide)).trans ((w_up_slot (by decide)).trans ((w_up_slot (by decide)).trans ((ml_363 hM))))) (by omega) (by omega) ⟨(by omega), (by omega)⟩ ?_
                                    refine wa_aload_n (n := 0) rfl ?_
                                    refine wb_gf4 237 rfl (wy_pr rfl) wt_237 wf_15_139 (v := 364) wl_237_139 ?_
                                    refine wa_iload_n (n := 3) rfl ?_
                                    refine wa_aload_n (n := 0) rfl ?_
                                    refine wb_gfl 237 rfl (wy_pr rfl) wt_237 wf_15_111 (v := 0) ((w_up_slot (by decide)).trans ((w_up_slot (by decide)).trans (w_up_same _ _ _ _))) (fun r49 => ?_)
                                    refine wb_last 364 rfl (wy_pr rfl) wt_364 (n := 4200) ((w_up_slot (by decide)).trans ((w_up_slot (by decide)).trans ((w_up_slot (by decide)).trans ((w_up_slot (by decide)).trans ((ml_364 hM)))))) (by omega) (by omega) ⟨(by omega), (by omega)⟩ ?_
                                    refine wa_fall ⟨_, rfl⟩ ?_
                                    refine wa_return rfl ?_
                                    refine ⟨rfl, ?_⟩
                                    first
                                      | (exfalso; omega)
                                      | (rw [if_pos (by omega)]; rfl)
                                      | (rw [if_neg (by omega)]; rfl)
                                  · skip
                                    exact absurd c45 (by omega)
                                · skip
                                  exact absurd c44 (by omega)
                            · skip
                              exact absurd c42 (by omega)
                          · skip
                            exact absurd c41 (by omega)
                    · skip
                      exact absurd c16 (by omega)
                  · skip
                    exact absurd c15 (by omega)
              · skip
                exact absurd c10 (by omega)
          · skip
            exact absurd c8 (by omega)
        · skip
          exact absurd c7 (by omega)
      · skip
        exact absurd c6 (by omega)
    · skip
      exact absurd c5 (by omega)
  · skip
    exact absurd c4 (by omega)
theorem y19 {t c p h tp vx vy : Int} (hP : mP t c p h tp S) (hky : S 363 (2100 * t + h - 1) = 2) (hvy : S 364 (2100 * t + h - 1) = vy) (hkx : S 363 (2100 * t + h - 1 - 1) = 2) (hvx : S 364 (2100 * t + h - 1 - 1) = vx) (hh1 : 2 ≤ h) : wJ (pe_GA xs) wY0 M (d + 11) t_M_operators ((pe_at t_M_operators.bl 0).getD (0, [])).2 [(0, (2, 237)), (1, (0, 19))] [] S (fun o Z => o = .inl none ∧ pXZ t h 1 (if vy ≤ vx then 1 else 0) S = Z) := by
  obtain ⟨hM, ⟨mt, mt0, mt1⟩, mp, mf, ⟨mc, mc0, mc1⟩, ⟨mtp, mtq⟩, ⟨mpa, mp0, mp1⟩, mh, mh0, mh1⟩ := hP
  refine wa_aload_n (n := 0) rfl ?_
  refine wa_cv 237 rfl (wy_pr rfl) wt_237 (M2 := fun _ => False) rfl at_M_h ⟨_, rfl⟩ rfl rfl ⟨(Or.inr ⟨wy_pr rfl, fun q => q⟩), trivial, trivial⟩ trivial (fun _ _ q => False.elim q) ?_ (fun _ _ _ q => q)
  refine wa_aload_n (n := 0) rfl ?_
  refine wb_gfi 237 rfl (wy_pr rfl) wt_237 wf_15_152 (v := (2100 * t)) (mp) (fun r1 => ?_)
  refine wa_aload_n (n := 0) rfl ?_
  refine wb_gf4 237 rfl (wy_pr rfl) wt_237 wf_15_134 (v := 359) wl_237_134 ?_
  refine wa_aload_n (n := 0) rfl ?_
  refine wb_gfi 237 rfl (wy_pr rfl) wt_237 wf_15_151 (v := t) (mt) (fun r2 => ?_)
  refine wb_iald 359 rfl (wy_pr rfl) wt_359 (n := 2) ((ml_359 hM)) (by omega) (by omega) (v := h) (mh) (fun r3 => ?_)
  refine wa_iadd ?_
  refine wa_ireturn rfl ?_
  show wJ _ _ _ _ _ _ _ _ _ _
  refine wa_iconst ?_
  refine wa_isub ?_
  refine wa_istore_n (n := 2) rfl ?_
  refine wa_iload_n (n := 2) rfl ?_
  refine wa_iconst ?_
  refine wa_isub ?_
  refine wa_istore_n (n := 3) rfl ?_
  refine wa_iload_n (n := 1) rfl ?_
  refine wa_iconst ?_
  refine wa_icmpne (w_rg0 (by omega) (by omega)) (w_rg0 (by omega) (by omega)) ⟨_, rfl⟩ (fun c4 => ?_) (fun c4 => ?_)
  · skip
    refine wa_iload_n (n := 1) rfl ?_
    refine wa_bipush (w_rg2 (by omega) (by omega)) ?_
    refine wa_icmpne (w_rg0 (by omega) (by omega)) (w_rg0 (by omega) (by omega)) ⟨_, rfl⟩ (fun c5 => ?_) (fun c5 => ?_)
    · skip
      refine wa_iload_n (n := 1) rfl ?_
      refine wa_bipush (w_rg2 (by omega) (by omega)) ?_
      refine wa_icmpne (w_rg0 (by omega) (by omega)) (w_rg0 (by omega) (by omega)) ⟨_, rfl⟩ (fun c6 => ?_) (fun c6 => ?_)
      · skip
        refine wa_iload_n (n := 1) rfl ?_
        refine wa_bipush (w_rg2 (by omega) (by omega)) ?_
        refine wa_icmpne (w_rg0 (by omega) (by omega)) (w_rg0 (by omega) (by omega)) ⟨_, rfl⟩ (fun c7 => ?_) (fun c7 => ?_)
        · skip
          refine wa_iload_n (n := 1) rfl ?_
          refine wa_bipush (w_rg2 (by omega) (by omega)) ?_
          refine wa_icmpge (w_rg0 (by omega) (by omega)) (w_rg0 (by omega) (by omega)) ⟨_, rfl⟩ (fun c8 => ?_) (fun c8 => ?_)
          · skip
            refine wa_aload_n (n := 0) rfl ?_
            refine wa_iload_n (n := 1) rfl ?_
            refine wa_iload_n (n := 3) rfl ?_
            refine wa_iload_n (n := 2) rfl ?_
            refine wa_cv 237 rfl (wy_pr rfl) wt_237 (M2 := fun _ => False) rfl at_M_compares ⟨_, rfl⟩ rfl rfl ⟨trivial, trivial, (Or.inr ⟨wy_pr rfl, fun q => q⟩), trivial, trivial⟩ trivial (fun _ _ q => False.elim q) ?_ (fun _ _ _ q => q)
            refine wa_iload_n (n := 1) rfl ?_
            refine wa_bipush (w_rg2 (by omega) (by omega)) ?_
            refine wa_icmpeq (w_rg0 (by omega) (by omega)) (w_rg0 (by omega) (by omega)) ⟨_, rfl⟩ (fun c9 => ?_) (fun c9 => ?_)
            · skip
              exact absurd c9 (by omega)
            · skip
              refine wa_iload_n (n := 1) rfl ?_
              refine wa_bipush (w_rg2 (by omega) (by omega)) ?_
              refine wa_icmpne (w_rg0 (by omega) (by omega)) (w_rg0 (by omega) (by omega)) ⟨_, rfl⟩ (fun c10 => ?_) (fun c10 => ?_)
              · skip
                refine wa_aload_n (n := 0) rfl ?_
                refine wb_gf4 237 rfl (wy_pr rfl) wt_237 wf_15_138 (v := 363) wl_237_138 ?_
                refine wa_iload_n (n := 2) rfl ?_
                refine wb_iald 363 rfl (wy_pr rfl) wt_363 (n := 4200) ((ml_363 hM)) (by omega) (by omega) (v := 2) (hkx) (fun r11 => ?_)
                refine wa_aload_n (n := 0) rfl ?_
                refine wb_gf4 237 rfl (wy_pr rfl) wt_237 wf_15_138 (v := 363) wl_237_138 ?_
                refine wa_iload_n (n := 3) rfl ?_
                refine wb_iald 363 rfl (wy_pr rfl) wt_363 (n := 4200) ((ml_363 hM)) (by omega) (by omega) (v := 2) (hky) (fun r12 => ?_)
                refine wa_icmpne (w_rg0 (by omega) (by omega)) (w_rg0 (by omega) (by omega)) ⟨_, rfl⟩ (fun c13 => ?_) (fun c13 => ?_)
                · skip
                  exact absurd c13 (by omega)
                · skip
                  refine wa_aload_n (n := 0) rfl ?_
                  refine wb_gf4 237 rfl (wy_pr rfl) wt_237 wf_15_138 (v := 363) wl_237_138 ?_
                  refine wa_iload_n (n := 2) rfl ?_
                  refine wb_iald 363 rfl (wy_pr rfl) wt_363 (n := 4200) ((ml_363 hM)) (by omega) (by omega) (v := 2) (hkx) (fun r14 => ?_)
                  refine wa_iconst ?_
                  refine wa_icmpeq (w_rg0 (by omega) (by omega)) (w_rg0 (by omega) (by omega)) ⟨_, rfl⟩ (fun c15 => ?_) (fun c15 => ?_)
                  · skip
                    refine wa_iconst ?_
                    refine wa_goto ⟨_, rfl⟩ ?_
                    refine wa_istore (n := 4) rfl ?_
                    refine wa_iload (n := 4) rfl ?_
                    refine wa_ifne (w_rg0 (by omega) (by omega)) ⟨_, rfl⟩ (fun c16 => ?_) (fun c16 => ?_)
                    · skip
                      refine wa_aload_n (n := 0) rfl ?_
                      refine wb_gf4 237 rfl (wy_pr rfl) wt_237 wf_15_138 (v := 363) wl_237_138 ?_
                      refine wa_iload_n (n := 2) rfl ?_
                      refine wb_iald 363 rfl (wy_pr rfl) wt_363 (n := 4200) ((ml_363 hM)) (by omega) (by omega) (v := 2) (hkx) (fun r17 => ?_)
                      refine wa_iconst ?_
                      refine wa_icmpne (w_rg0 (by omega) (by omega)) (w_rg0 (by omega) (by omega)) ⟨_, rfl⟩ (fun c18 => ?_) (fun c18 => ?_)
                      · skip
                        exact absurd c18 (by omega)
                      · skip
                        refine wa_aload_n (n := 0) rfl ?_
                        refine wb_gf4 237 rfl (wy_pr rfl) wt_237 wf_15_139 (v := 364) wl_237_139 ?_
                        refine wa_iload_n (n := 2) rfl ?_
                        refine wb_lald 364 rfl (wy_pr rfl) wt_364 (n := 4200) ((ml_364 hM)) (by omega) (by omega) (v := vx) (hvx) (fun r19 => ?_)
                        refine wa_aload_n (n := 0) rfl ?_
                        refine wb_gf4 237 rfl (wy_pr rfl) wt_237 wf_15_139 (v := 364) wl_237_139 ?_
                        refine wa_iload_n (n := 3) rfl ?_
                        refine wb_lald 364 rfl (wy_pr rfl) wt_364 (n := 4200) ((ml_364 hM)) (by omega) (by omega) (v := vy) (hvy) (fun r20 => ?_)
                        refine wa_cs (M2 := fun _ => False) rfl at_JL_compare ⟨_, rfl⟩ rfl rfl ⟨trivial, (Or.inr ⟨wy_pr rfl, fun q => q⟩), trivial, trivial, trivial, trivial⟩ trivial (fun _ _ q => False.elim q) ?_ (fun _ _ _ q => q)
                        refine wa_lload_n (n := 0) rfl ?_
                        refine wa_lload_n (n := 2) rfl ?_
                        refine wa_lcmp (w_rg1 (by omega) (by omega)) (w_rg1 (by omega) (by omega)) ?_
                        refine wa_ifge (by have := @wb_lcmp_cases; exact w_lcmp_rg) ⟨_, rfl⟩ (fun c21 => ?_) (fun c21 => ?_)
                        · skip
                          have c21x := @wb_lcmp_cases vx vy
                          refine wa_lload_n (n := 0) rfl ?_
                          refine wa_lload_n (n := 2) rfl ?_
                          refine wa_lcmp (w_rg1 (by omega) (by omega)) (w_rg1 (by omega) (by omega)) ?_
                          refine wa_ifne (by have := @wb_lcmp_cases; exact w_lcmp_rg) ⟨_, rfl⟩ (fun c22 => ?_) (fun c22 => ?_)
                          · skip
                            have c22x := @wb_lcmp_cases vx vy
                            refine wa_iconst ?_
                            refine wa_fall ⟨_, rfl⟩ ?_
                            refine wa_ireturn rfl ?_
                            show wJ _ _ _ _ _ _ _ _ _ _
                            refine wa_goto ⟨_, rfl⟩ ?_
                            refine wa_istore (n := 5) rfl ?_
                            refine wa_iload_n (n := 1) rfl ?_
                            refine wa_bipush (w_rg2 (by omega) (by omega)) ?_
                            refine wa_icmpne (w_rg0 (by omega) (by omega)) (w_rg0 (by omega) (by omega)) ⟨_, rfl⟩ (fun c23 => ?_) (fun c23 => ?_)
                            · skip
                              refine wa_iload_n (n := 1) rfl ?_
                              refine wa_bipush (w_rg2 (by omega) (by omega)) ?_
                              refine wa_icmpne (w_rg0 (by omega) (by omega)) (w_rg0 (by omega) (by omega)) ⟨_, rfl⟩ (fun c24 => ?_) (fun c24 => ?_)
                              · skip
                                refine wa_iload_n (n := 1) rfl ?_
                                refine wa_bipush (w_rg2 (by omega) (by omega)) ?_
                                refine wa_icmpne (w_rg0 (by omega) (by omega)) (w_rg0 (by omega) (by omega)) ⟨_, rfl⟩ (fun c25 => ?_) (fun c25 => ?_)
                                · skip
                                  refine wa_iload (n := 5) rfl ?_
                                  refine wa_iflt (w_rg0 (by omega) (by omega)) ⟨_, rfl⟩ (fun c26 => ?_) (fun c26 => ?_)
                                  · skip
                                    exact absurd c26 (by omega)
                                  · skip
                                    refine wa_iconst ?_
                                    refine wa_goto ⟨_, rfl⟩ ?_
                                    refine wa_istore (n := 6) rfl ?_
                                    refine wa_aload_n (n := 0) rfl ?_
                                    refine wa_iconst ?_
                                    refine wa_iload (n := 6) rfl ?_
                                    refine wa_ifeq (w_rg0 (by omega) (by omega)) ⟨_, rfl⟩ (fun c27 => ?_) (fun c27 => ?_)
                                    · skip
                                      exact absurd c27 (by omega)
                                    · skip
                                      refine wb_lconst (m := 1) rfl ?_
                                      refine wa_goto ⟨_, rfl⟩ ?_
                                      refine wa_cv 237 rfl (wy_pr rfl) wt_237 (M2 := fun _ => False) rfl at_M_is ⟨_, rfl⟩ rfl rfl ⟨trivial, trivial, trivial, (Or.inr ⟨wy_pr rfl, fun q => q⟩), trivial, trivial, trivial, trivial⟩ trivial (fun _ _ q => False.elim q) ?_ (fun _ _ _ q => q)
                                      refine wa_aload_n (n := 0) rfl ?_
                                      refine wa_iload_n (n := 1) rfl ?_
                                      refine wb_pfi 237 rfl (wy_pr rfl) wt_237 wf_15_110 (n := 110) rfl ⟨(by omega), (by omega)⟩ ?_
                                      refine wa_aload_n (n := 0) rfl ?_
                                      refine wa_lload_n (n := 2) rfl ?_
                                      refine wb_pfl 237 rfl (wy_pr rfl) wt_237 wf_15_111 (n := 111) rfl ⟨(by omega), (by omega)⟩ ?_
                                      refine wa_return rfl ?_
                                      show wJ _ _ _ _ _ _ _ _ _ _
                                      refine wa_return rfl ?_
                                      show wJ _ _ _ _ _ _ _ _ _ _
                                      refine wa_fall ⟨_, rfl⟩ ?_
                                      refine wa_aload_n (n := 0) rfl ?_
                                      refine wb_gf4 237 rfl (wy_pr rfl) wt_237 wf_15_134 (v := 359) wl_237_134 ?_
                                      refine wa_aload_n (n := 0) rfl ?_
                                      refine wb_gfi 237 rfl (wy_pr rfl) wt_237 wf_15_151 (v := t) ((w_up_at (by decide)).trans ((w_up_at (by decide)).trans (mt))) (fun r28 => ?_)
                                      refine wa_dup2 (by decide) (by decide) ?_
                                      refine wb_iald 359 rfl (wy_pr rfl) wt_359 (n := 2) ((w_up_slot (by decide)).trans ((w_up_slot (by decide)).trans ((ml_359 hM)))) (by omega) (by omega) (v := h) ((w_up_slot (by decide)).trans ((w_up_slot (by decide)).trans (mh))) (fun r29 => ?_)
                                      refine wa_iconst ?_
                                      refine wa_isub ?_
                                      refine wb_iast 359 rfl (wy_pr rfl) wt_359 (n := 2) ((w_up_slot (by decide)).trans ((w_up_slot (by decide)).trans ((ml_359 hM)))) (by omega) (by omega) ⟨(by omega), (by omega)⟩ ?_
                                      refine wa_aload_n (n := 0) rfl ?_
                                      refine wb_gf4 237 rfl (wy_pr rfl) wt_237 wf_15_138 (v := 363) wl_237_138 ?_
                                      refine wa_iload_n (n := 3) rfl ?_
                                      refine wa_aload_n (n := 0) rfl ?_
                                      refine wb_gfi 237 rfl (wy_pr rfl) wt_237 wf_15_110 (v := 1) ((w_up_slot (by decide)).trans ((w_up_at (by decide)).trans (w_up_same _ _ _ _))) (fun r30 => ?_)
                                      refine wb_iast 363 rfl (wy_pr rfl) wt_363 (n := 4200) ((w_up_slot (by decide)).trans ((w_up_slot (by decide)).trans ((w_up_slot (by decide)).trans ((ml_363 hM))))) (by omega) (by omega) ⟨(by omega), (by omega)⟩ ?_
                                      refine wa_aload_n (n := 0) rfl ?_
                                      refine wb_gf4 237 rfl (wy_pr rfl) wt_237 wf_15_139 (v := 364) wl_237_139 ?_
                                      refine wa_iload_n (n := 3) rfl ?_
                                      refine wa_aload_n (n := 0) rfl ?_
                                      refine wb_gfl 237 rfl (wy_pr rfl) wt_237 wf_15_111 (v := 1) ((w_up_slot (by decide)).trans ((w_up_slot (by decide)).trans (w_up_same _ _ _ _))) (fun r31 => ?_)
                                      refine wb_last 364 rfl (wy_pr rfl) wt_364 (n := 4200) ((w_up_slot (by decide)).trans ((w_up_slot (by decide)).trans ((w_up_slot (by decide)).trans ((w_up_slot (by decide)).trans ((ml_364 hM)))))) (by omega) (by omega) ⟨(by omega), (by omega)⟩ ?_
                                      refine wa_fall ⟨_, rfl⟩ ?_
                                      refine wa_return rfl ?_
                                      refine ⟨rfl, ?_⟩
                                      first
                                        | (exfalso; omega)
                                        | (rw [if_pos (by omega)]; rfl)
                                        | (rw [if_neg (by omega)]; rfl)
                                · skip
                                  exact absurd c25 (by omega)
                              · skip
                                exact absurd c24 (by omega)
                            · skip
                              exact absurd c23 (by omega)
                          · skip
                            have c22x := @wb_lcmp_cases vx vy
                            refine wa_iconst ?_
                            refine wa_goto ⟨_, rfl⟩ ?_
                            refine wa_ireturn rfl ?_
                            show wJ _ _ _ _ _ _ _ _ _ _
                            refine wa_goto ⟨_, rfl⟩ ?_
                            refine wa_istore (n := 5) rfl ?_
                            refine wa_iload_n (n := 1) rfl ?_
                            refine wa_bipush (w_rg2 (by omega) (by omega)) ?_
                            refine wa_icmpne (w_rg0 (by omega) (by omega)) (w_rg0 (by omega) (by omega)) ⟨_, rfl⟩ (fun c32 => ?_) (fun c32 => ?_)
                            · skip
                              refine wa_iload_n (n := 1) rfl ?_
                              refine wa_bipush (w_rg2 (by omega) (by omega)) ?_
                              refine wa_icmpne (w_rg0 (by omega) (by omega)) (w_rg0 (by omega) (by omega)) ⟨_, rfl⟩ (fun c33 => ?_) (fun c33 => ?_)
                              · skip
                                refine wa_iload_n (n := 1) rfl ?_
                                refine wa_bipush (w_rg2 (by omega) (by omega)) ?_
                                refine wa_icmpne (w_rg0 (by omega) (by omega)) (w_rg0 (by omega) (by omega)) ⟨_, rfl⟩ (fun c34 => ?_) (fun c34 => ?_)
                                · skip
                                  refine wa_iload (n := 5) rfl ?_
                                  refine wa_iflt (w_rg0 (by omega) (by omega)) ⟨_, rfl⟩ (fun c35 => ?_) (fun c35 => ?_)
                                  · skip
                                    exact absurd c35 (by omega)
                                  · skip
                                    refine wa_iconst ?_
                                    refine wa_goto ⟨_, rfl⟩ ?_
                                    refine wa_istore (n := 6) rfl ?_
                                    refine wa_aload_n (n := 0) rfl ?_
                                    refine wa_iconst ?_
                                    refine wa_iload (n := 6) rfl ?_
                                    refine wa_ifeq (w_rg0 (by omega) (by omega)) ⟨_, rfl⟩ (fun c36 => ?_) (fun c36 => ?_)
                                    · skip
                                      exact absurd c36 (by omega)
                                    · skip
                                      refine wb_lconst (m := 1) rfl ?_
                                      refine wa_goto ⟨_, rfl⟩ ?_
                                      refine wa_cv 237 rfl (wy_pr rfl) wt_237 (M2 := fun _ => False) rfl at_M_is ⟨_, rfl⟩ rfl rfl ⟨trivial, trivial, trivial, (Or.inr ⟨wy_pr rfl, fun q => q⟩), trivial, trivial, trivial, trivial⟩ trivial (fun _ _ q => False.elim q) ?_ (fun _ _ _ q => q)
                                      refine wa_aload_n (n := 0) rfl ?_
                                      refine wa_iload_n (n := 1) rfl ?_
                                      refine wb_pfi 237 rfl (wy_pr rfl) wt_237 wf_15_110 (n := 110) rfl ⟨(by omega), (by omega)⟩ ?_
                                      refine wa_aload_n (n := 0) rfl ?_
                                      refine wa_lload_n (n := 2) rfl ?_
                                      refine wb_pfl 237 rfl (wy_pr rfl) wt_237 wf_15_111 (n := 111) rfl ⟨(by omega), (by omega)⟩ ?_
                                      refine wa_return rfl ?_
                                      show wJ _ _ _ _ _ _ _ _ _ _
                                      refine wa_return rfl ?_
                                      show wJ _ _ _ _ _ _ _ _ _ _
                                      refine wa_fall ⟨_, rfl⟩ ?_
                                      refine wa_aload_n (n := 0) rfl ?_
                                      refine wb_gf4 237 rfl (wy_pr rfl) wt_237 wf_15_134 (v := 359) wl_237_134 ?_
                                      refine wa_aload_n (n := 0) rfl ?_
                                      refine wb_gfi 237 rfl (wy_pr rfl) wt_237 wf_15_151 (v := t) ((w_up_at (by decide)).trans ((w_up_at (by decide)).trans (mt))) (fun r37 => ?_)
                                      refine wa_dup2 (by decide) (by decide) ?_
                                      refine wb_iald 359 rfl (wy_pr rfl) wt_359 (n := 2) ((w_up_slot (by decide)).trans ((w_up_slot (by decide)).trans ((ml_359 hM)))) (by omega) (by omega) (v := h) ((w_up_slot (by decide)).trans ((w_up_slot (by decide)).trans (mh))) (fun r38 => ?_)
                                      refine wa_iconst ?_
                                      refine wa_isub ?_
                                      refine wb_iast 359 rfl (wy_pr rfl) wt_359 (n := 2) ((w_up_slot (by decide)).trans ((w_up_slot (by decide)).trans ((ml_359 hM)))) (by omega) (by omega) ⟨(by omega), (by omega)⟩ ?_
                                      refine wa_aload_n (n := 0) rfl ?_
                                      refine wb_gf4 237 rfl (wy_pr rfl) wt_237 wf_15_138 (v := 363) wl_237_138 ?_
                                      refine wa_iload_n (n := 3) rfl ?_
                                      refine wa_aload_n (n := 0) rfl ?_
                                      refine wb_gfi 237 rfl (wy_pr rfl) wt_237 wf_15_110 (v := 1) ((w_up_slot (by decide)).trans ((w_up_at (by decide)).trans (w_up_same _ _ _ _))) (fun r39 => ?_)
                                      refine wb_iast 363 rfl (wy_pr rfl) wt_363 (n := 4200) ((w_up_slot (by decide)).trans ((w_up_slot (by decide)).trans ((w_up_slot (by decide)).trans ((ml_363 hM))))) (by omega) (by omega) ⟨(by omega), (by omega)⟩ ?_
                                      refine wa_aload_n (n := 0) rfl ?_
                                      refine wb_gf4 237 rfl (wy_pr rfl) wt_237 wf_15_139 (v := 364) wl_237_139 ?_
                                      refine wa_iload_n (n := 3) rfl ?_
                                      refine wa_aload_n (n := 0) rfl ?_
                                      refine wb_gfl 237 rfl (wy_pr rfl) wt_237 wf_15_111 (v := 1) ((w_up_slot (by decide)).trans ((w_up_slot (by decide)).trans (w_up_same _ _ _ _))) (fun r40 => ?_)
                                      refine wb_last 364 rfl (wy_pr rfl) wt_364 (n := 4200) ((w_up_slot (by decide)).trans ((w_up_slot (by decide)).trans ((w_up_slot (by decide)).trans ((w_up_slot (by decide)).trans ((ml_364 hM)))))) (by omega) (by omega) ⟨(by omega), (by omega)⟩ ?_
                                      refine wa_fall ⟨_, rfl⟩ ?_
                                      refine wa_return rfl ?_
                                      refine ⟨rfl, ?_⟩
                                      first
                                        | (exfalso; omega)
                                        | (rw [if_pos (by omega)]; rfl)
                                        | (rw [if_neg (by omega)]; rfl)
                                · skip
                                  exact absurd c34 (by omega)
                              · skip
                                exact absurd c33 (by omega)
                            · skip
                              exact absurd c32 (by omega)
                        · skip
                          have c21x := @wb_lcmp_cases vx vy
                          refine wa_iconst ?_
                          refine wa_goto ⟨_, rfl⟩ ?_
                          refine wa_ireturn rfl ?_
                          show wJ _ _ _ _ _ _ _ _ _ _
                          refine wa_goto ⟨_, rfl⟩ ?_
                          refine wa_istore (n := 5) rfl ?_
                          refine wa_iload_n (n := 1) rfl ?_
                          refine wa_bipush (w_rg2 (by omega) (by omega)) ?_
                          refine wa_icmpne (w_rg0 (by omega) (by omega)) (w_rg0 (by omega) (by omega)) ⟨_, rfl⟩ (fun c41 => ?_) (fun c41 => ?_)
                          · skip
                            refine wa_iload_n (n := 1) rfl ?_
                            refine wa_bipush (w_rg2 (by omega) (by omega)) ?_
                            refine wa_icmpne (w_rg0 (by omega) (by omega)) (w_rg0 (by omega) (by omega)) ⟨_, rfl⟩ (fun c42 => ?_) (fun c42 => ?_)
                            · skip
                              refine wa_iload_n (n := 1) rfl ?_
                              refine wa_bipush (w_rg2 (by omega) (by omega)) ?_
                              refine wa_icmpne (w_rg0 (by omega) (by omega)) (w_rg0 (by omega) (by omega)) ⟨_, rfl⟩ (fun c43 => ?_) (fun c43 => ?_)
                              · skip
                                refine wa_iload (n := 5) rfl ?_
                                refine wa_iflt (w_rg0 (by omega) (by omega)) ⟨_, rfl⟩ (fun c44 => ?_) (fun c44 => ?_)
                                · skip
                                  refine wa_iconst ?_
                                  refine wa_fall ⟨_, rfl⟩ ?_
                                  refine wa_istore (n := 6) rfl ?_
                                  refine wa_aload_n (n := 0) rfl ?_
                                  refine wa_iconst ?_
                                  refine wa_iload (n := 6) rfl ?_
                                  refine wa_ifeq (w_rg0 (by omega) (by omega)) ⟨_, rfl⟩ (fun c45 => ?_) (fun c45 => ?_)
                                  · skip
                                    refine wb_lconst (m := 0) rfl ?_
                                    refine wa_fall ⟨_, rfl⟩ ?_
                                    refine wa_cv 237 rfl (wy_pr rfl) wt_237 (M2 := fun _ => False) rfl at_M_is ⟨_, rfl⟩ rfl rfl ⟨trivial, trivial, trivial, (Or.inr ⟨wy_pr rfl, fun q => q⟩), trivial, trivial, trivial, trivial⟩ trivial (fun _ _ q => False.elim q) ?_ (fun _ _ _ q => q)
                                    refine wa_aload_n (n := 0) rfl ?_
                                    refine wa_iload_n (n := 1) rfl ?_
                                    refine wb_pfi 237 rfl (wy_pr rfl) wt_237 wf_15_110 (n := 110) rfl ⟨(by omega), (by omega)⟩ ?_
                                    refine wa_aload_n (n := 0) rfl ?_
                                    refine wa_lload_n (n := 2) rfl ?_
                                    refine wb_pfl 237 rfl (wy_pr rfl) wt_237 wf_15_111 (n := 111) rfl ⟨(by omega), (by omega)⟩ ?_
                                    refine wa_return rfl ?_
                                    show wJ _ _ _ _ _ _ _ _ _ _
                                    refine wa_return rfl ?_
                                    show wJ _ _ _ _ _ _ _ _ _ _
                                    refine wa_fall ⟨_, rfl⟩ ?_
                                    refine wa_aload_n (n := 0) rfl ?_
                                    refine wb_gf4 237 rfl (wy_pr rfl) wt_237 wf_15_134 (v := 359) wl_237_134 ?_
                                    refine wa_aload_n (n := 0) rfl ?_
                                    refine wb_gfi 237 rfl (wy_pr rfl) wt_237 wf_15_151 (v := t) ((w_up_at (by decide)).trans ((w_up_at (by decide)).trans (mt))) (fun r46 => ?_)
                                    refine wa_dup2 (by decide) (by decide) ?_
                                    refine wb_iald 359 rfl (wy_pr rfl) wt_359 (n := 2) ((w_up_slot (by decide)).trans ((w_up_slot (by decide)).trans ((ml_359 hM)))) (by omega) (by omega) (v := h) ((w_up_slot (by decide)).trans ((w_up_slot (by decide)).trans (mh))) (fun r47 => ?_)
                                    refine wa_iconst ?_
                                    refine wa_isub ?_
                                    refine wb_iast 359 rfl (wy_pr rfl) wt_359 (n := 2) ((w_up_slot (by decide)).trans ((w_up_slot (by decide)).trans ((ml_359 hM)))) (by omega) (by omega) ⟨(by omega), (by omega)⟩ ?_
                                    refine wa_aload_n (n := 0) rfl ?_
                                    refine wb_gf4 237 rfl (wy_pr rfl) wt_237 wf_15_138 (v := 363) wl_237_138 ?_
                                    refine wa_iload_n (n := 3) rfl ?_
                                    refine wa_aload_n (n := 0) rfl ?_
                                    refine wb_gfi 237 rfl (wy_pr rfl) wt_237 wf_15_110 (v := 1) ((w_up_slot (by decide)).trans ((w_up_at (by decide)).trans (w_up_same _ _ _ _))) (fun r48 => ?_)
                                    refine wb_iast 363 rfl (wy_pr rfl) wt_363 (n := 4200) ((w_up_slot (by decide)).trans ((w_up_slot (by decide)).trans ((w_up_slot (by decide)).trans ((ml_363 hM))))) (by omega) (by omega) ⟨(by omega), (by omega)⟩ ?_
                                    refine wa_aload_n (n := 0) rfl ?_
                                    refine wb_gf4 237 rfl (wy_pr rfl) wt_237 wf_15_139 (v := 364) wl_237_139 ?_
                                    refine wa_iload_n (n := 3) rfl ?_
                                    refine wa_aload_n (n := 0) rfl ?_
                                    refine wb_gfl 237 rfl (wy_pr rfl) wt_237 wf_15_111 (v := 0) ((w_up_slot (by decide)).trans ((w_up_slot (by decide)).trans (w_up_same _ _ _ _))) (fun r49 => ?_)
                                    refine wb_last 364 rfl (wy_pr rfl) wt_364 (n := 4200) ((w_up_slot (by decide)).trans ((w_up_slot (by decide)).trans ((w_up_slot (by decide)).trans ((w_up_slot (by decide)).trans ((ml_364 hM)))))) (by omega) (by omega) ⟨(by omega), (by omega)⟩ ?_
                                    refine wa_fall ⟨_, rfl⟩ ?_
                                    refine wa_return rfl ?_
                                    refine ⟨rfl, ?_⟩
                                    first
                                      | (exfalso; omega)
                                      | (rw [if_pos (by omega)]; rfl)
                                      | (rw [if_neg (by omega)]; rfl)
                                  · skip
                                    exact absurd c45 (by omega)
                                · skip
                                  exact absurd c44 (by omega)
                              · skip
                                exact absurd c43 (by omega)
                            · skip
                              exact absurd c42 (by omega)
                          · skip
                            exact absurd c41 (by omega)
                    · skip
                      exact absurd c16 (by omega)
                  · skip
                    exact absurd c15 (by omega)
              · skip
                exact absurd c10 (by omega)
          · skip
            exact absurd c8 (by omega)
        · skip
          exact absurd c7 (by omega)
      · skip
        exact absurd c6 (by omega)
    · skip
      exact absurd c5 (by omega)
  · skip
    exact absurd c4 (by omega)
theorem y8e {t c p h tp kx ky vx vy oq : Int} (hP : mP t c p h tp S) (ho1 : 8 ≤ oq ∧ oq ≤ 11) (hky : S 363 (2100 * t + h - 1) = ky) (hvy : S 364 (2100 * t + h - 1) = vy) (hkx : S 363 (2100 * t + h - 1 - 1) = kx) (hvx : S 364 (2100 * t + h - 1 - 1) = vx) (hh1 : 2 ≤ h) (hk2 : ¬ (kx = 2 ∧ ky = 2)) : wJ (pe_GA xs) wY0 M (d + 11) t_M_operators ((pe_at t_M_operators.bl 0).getD (0, [])).2 [(0, (2, 237)), (1, (0, oq))] [] S (fun o Z => o = .inr 238 ∧ hZ 1 S = Z) := by
  obtain ⟨hM, ⟨mt, mt0, mt1⟩, mp, mf, ⟨mc, mc0, mc1⟩, ⟨mtp, mtq⟩, ⟨mpa, mp0, mp1⟩, mh, mh0, mh1⟩ := hP
  refine wa_aload_n (n := 0) rfl ?_
  refine wa_cv 237 rfl (wy_pr rfl) wt_237 (M2 := fun _ => False) rfl at_M_h ⟨_, rfl⟩ rfl rfl ⟨(Or.inr ⟨wy_pr rfl, fun q => q⟩), trivial, trivial⟩ trivial (fun _ _ q => False.elim q) ?_ (fun _ _ _ q => q)
  refine wa_aload_n (n := 0) rfl ?_
  refine wb_gfi 237 rfl (wy_pr rfl) wt_237 wf_15_152 (v := (2100 * t)) (mp) (fun r1 => ?_)
  refine wa_aload_n (n := 0) rfl ?_
  refine wb_gf4 237 rfl (wy_pr rfl) wt_237 wf_15_134 (v := 359) wl_237_134 ?_
  refine wa_aload_n (n := 0) rfl ?_
  refine wb_gfi 237 rfl (wy_pr rfl) wt_237 wf_15_151 (v := t) (mt) (fun r2 => ?_)
  refine wb_iald 359 rfl (wy_pr rfl) wt_359 (n := 2) ((ml_359 hM)) (by omega) (by omega) (v := h) (mh) (fun r3 => ?_)
  refine wa_iadd ?_
  refine wa_ireturn rfl ?_
  show wJ _ _ _ _ _ _ _ _ _ _
  refine wa_iconst ?_
  refine wa_isub ?_
  refine wa_istore_n (n := 2) rfl ?_
  refine wa_iload_n (n := 2) rfl ?_
  refine wa_iconst ?_
  refine wa_isub ?_
  refine wa_istore_n (n := 3) rfl ?_
  refine wa_iload_n (n := 1) rfl ?_
  refine wa_iconst ?_
  refine wa_icmpne (w_rg0 (by omega) (by omega)) (w_rg0 (by omega) (by omega)) ⟨_, rfl⟩ (fun c4 => ?_) (fun c4 => ?_)
  · skip
    refine wa_iload_n (n := 1) rfl ?_
    refine wa_bipush (w_rg2 (by omega) (by omega)) ?_
    refine wa_icmpne (w_rg0 (by omega) (by omega)) (w_rg0 (by omega) (by omega)) ⟨_, rfl⟩ (fun c5 => ?_) (fun c5 => ?_)
    · skip
      refine wa_iload_n (n := 1) rfl ?_
      refine wa_bipush (w_rg2 (by omega) (by omega)) ?_
      refine wa_icmpne (w_rg0 (by omega) (by omega)) (w_rg0 (by omega) (by omega)) ⟨_, rfl⟩ (fun c6 => ?_) (fun c6 => ?_)
      · skip
        refine wa_iload_n (n := 1) rfl ?_
        refine wa_bipush (w_rg2 (by omega) (by omega)) ?_
        refine wa_icmpne (w_rg0 (by omega) (by omega)) (w_rg0 (by omega) (by omega)) ⟨_, rfl⟩ (fun c7 => ?_) (fun c7 => ?_)
        · skip
          refine wa_iload_n (n := 1) rfl ?_
          refine wa_bipush (w_rg2 (by omega) (by omega)) ?_
          refine wa_icmpge (w_rg0 (by omega) (by omega)) (w_rg0 (by omega) (by omega)) ⟨_, rfl⟩ (fun c8 => ?_) (fun c8 => ?_)
          · skip
            exact absurd c8 (by omega)
          · skip
            refine wa_aload_n (n := 0) rfl ?_
            refine wa_iload_n (n := 1) rfl ?_
            refine wa_iload_n (n := 3) rfl ?_
            refine wa_iload_n (n := 2) rfl ?_
            refine wa_cv 237 rfl (wy_pr rfl) wt_237 (M2 := fun _ => False) rfl at_M_numbers ⟨_, rfl⟩ rfl rfl ⟨trivial, trivial, (Or.inr ⟨wy_pr rfl, fun q => q⟩), trivial, trivial⟩ trivial (fun _ _ q => False.elim q) ?_ (fun _ _ _ q => q)
            refine wa_aload_n (n := 0) rfl ?_
            refine wb_gf4 237 rfl (wy_pr rfl) wt_237 wf_15_139 (v := 364) wl_237_139 ?_
            refine wa_iload_n (n := 2) rfl ?_
            refine wb_lald 364 rfl (wy_pr rfl) wt_364 (n := 4200) ((ml_364 hM)) (by omega) (by omega) (v := vx) (hvx) (fun r9 => ?_)
            refine wa_lstore (n := 4) rfl ?_
            refine wa_aload_n (n := 0) rfl ?_
            refine wb_gf4 237 rfl (wy_pr rfl) wt_237 wf_15_139 (v := 364) wl_237_139 ?_
            refine wa_iload_n (n := 3) rfl ?_
            refine wb_lald 364 rfl (wy_pr rfl) wt_364 (n := 4200) ((ml_364 hM)) (by omega) (by omega) (v := vy) (hvy) (fun r10 => ?_)
            refine wa_lstore (n := 6) rfl ?_
            refine wa_iload_n (n := 1) rfl ?_
            refine wa_bipush (w_rg2 (by omega) (by omega)) ?_
            refine wa_icmpne (w_rg0 (by omega) (by omega)) (w_rg0 (by omega) (by omega)) ⟨_, rfl⟩ (fun c11 => ?_) (fun c11 => ?_)
            · skip
              refine wa_aload_n (n := 0) rfl ?_
              refine wb_gf4 237 rfl (wy_pr rfl) wt_237 wf_15_138 (v := 363) wl_237_138 ?_
              refine wa_iload_n (n := 2) rfl ?_
              refine wb_iald 363 rfl (wy_pr rfl) wt_363 (n := 4200) ((ml_363 hM)) (by omega) (by omega) (v := kx) (hkx) (fun r12 => ?_)
              refine wa_iconst ?_
              refine wa_icmpne (w_rg0 (by omega) (by omega)) (w_rg0 (by omega) (by omega)) ⟨_, rfl⟩ (fun c13 => ?_) (fun c13 => ?_)
              · skip
                refine wa_aload_n (n := 0) rfl ?_
                refine wa_iconst ?_
                refine wa_cv 237 rfl (wy_pr rfl) wt_237 (M2 := fun _ => False) rfl at_M_error ⟨_, rfl⟩ rfl rfl ⟨trivial, trivial, (Or.inr ⟨wy_pr rfl, fun q => q⟩), trivial, trivial, trivial, trivial⟩ trivial (fun _ _ q => False.elim q) ?_ (fun _ _ _ q => q)
                refine wa_aload_n (n := 0) rfl ?_
                refine wb_gf4 237 rfl (wy_pr rfl) wt_237 wf_15_1 (v := 238) wl_237_1 ?_
                refine wa_iload_n (n := 1) rfl ?_
                refine wa_iconst ?_
                refine wa_cv 238 rfl (wy_pr rfl) wt_238 (M2 := fun _ => False) rfl at_MH_of ⟨_, rfl⟩ rfl rfl ⟨(Or.inr ⟨wy_pr rfl, fun q => q⟩), trivial, trivial⟩ trivial (fun _ _ q => False.elim q) ?_ (fun _ _ _ q => q)
                refine wa_aload_n (n := 0) rfl ?_
                refine wa_iload_n (n := 1) rfl ?_
                refine wb_pfi 238 rfl (wy_pr rfl) wt_238 wf_11_5 (n := 5) rfl ⟨(by omega), (by omega)⟩ ?_
                refine wa_aload_n (n := 0) rfl ?_
                refine wa_iload_n (n := 2) rfl ?_
                refine wb_pfi 238 rfl (wy_pr rfl) wt_238 wf_11_6 (n := 6) rfl ⟨(by omega), (by omega)⟩ ?_
                refine wa_aload_n (n := 0) rfl ?_
                refine wa_oreturn rfl ?_
                show wJ _ _ _ _ _ _ _ _ _ _
                refine wa_th (j := 238) ?_
                refine ⟨rfl, ?_⟩
                refine ⟨rfl, ?_⟩
                exact ⟨rfl, rfl⟩
              · skip
                refine wa_aload_n (n := 0) rfl ?_
                refine wb_gf4 237 rfl (wy_pr rfl) wt_237 wf_15_138 (v := 363) wl_237_138 ?_
                refine wa_iload_n (n := 3) rfl ?_
                refine wb_iald 363 rfl (wy_pr rfl) wt_363 (n := 4200) ((ml_363 hM)) (by omega) (by omega) (v := ky) (hky) (fun r14 => ?_)
                refine wa_iconst ?_
                refine wa_icmpeq (w_rg0 (by omega) (by omega)) (w_rg0 (by omega) (by omega)) ⟨_, rfl⟩ (fun c15 => ?_) (fun c15 => ?_)
                · skip
                  exfalso; omega
                · skip
                  refine wa_fall ⟨_, rfl⟩ ?_
                  refine wa_aload_n (n := 0) rfl ?_
                  refine wa_iconst ?_
                  refine wa_cv 237 rfl (wy_pr rfl) wt_237 (M2 := fun _ => False) rfl at_M_error ⟨_, rfl⟩ rfl rfl ⟨trivial, trivial, (Or.inr ⟨wy_pr rfl, fun q => q⟩), trivial, trivial, trivial, trivial⟩ trivial (fun _ _ q => False.elim q) ?_ (fun _ _ _ q => q)
                  refine wa_aload_n (n := 0) rfl ?_
                  refine wb_gf4 237 rfl (wy_pr rfl) wt_237 wf_15_1 (v := 238) wl_237_1 ?_
                  refine wa_iload_n (n := 1) rfl ?_
                  refine wa_iconst ?_
                  refine wa_cv 238 rfl (wy_pr rfl) wt_238 (M2 := fun _ => False) rfl at_MH_of ⟨_, rfl⟩ rfl rfl ⟨(Or.inr ⟨wy_pr rfl, fun q => q⟩), trivial, trivial⟩ trivial (fun _ _ q => False.elim q) ?_ (fun _ _ _ q => q)
                  refine wa_aload_n (n := 0) rfl ?_
                  refine wa_iload_n (n := 1) rfl ?_
                  refine wb_pfi 238 rfl (wy_pr rfl) wt_238 wf_11_5 (n := 5) rfl ⟨(by omega), (by omega)⟩ ?_
                  refine wa_aload_n (n := 0) rfl ?_
                  refine wa_iload_n (n := 2) rfl ?_
                  refine wb_pfi 238 rfl (wy_pr rfl) wt_238 wf_11_6 (n := 6) rfl ⟨(by omega), (by omega)⟩ ?_
                  refine wa_aload_n (n := 0) rfl ?_
                  refine wa_oreturn rfl ?_
                  show wJ _ _ _ _ _ _ _ _ _ _
                  refine wa_th (j := 238) ?_
                  refine ⟨rfl, ?_⟩
                  refine ⟨rfl, ?_⟩
                  exact ⟨rfl, rfl⟩
            · skip
              exact absurd c11 (by omega)
        · skip
          exact absurd c7 (by omega)
      · skip
        exact absurd c6 (by omega)
    · skip
      exact absurd c5 (by omega)
  · skip
    exact absurd c4 (by omega)
theorem y16e {t c p h tp kx ky vx vy oq : Int} (hP : mP t c p h tp S) (ho1 : 16 ≤ oq ∧ oq ≤ 19) (hky : S 363 (2100 * t + h - 1) = ky) (hvy : S 364 (2100 * t + h - 1) = vy) (hkx : S 363 (2100 * t + h - 1 - 1) = kx) (hvx : S 364 (2100 * t + h - 1 - 1) = vx) (hh1 : 2 ≤ h) (hk2 : ¬ (kx = 2 ∧ ky = 2)) (hk3 : ¬ (kx = 3 ∧ ky = 3)) : wJ (pe_GA xs) wY0 M (d + 11) t_M_operators ((pe_at t_M_operators.bl 0).getD (0, [])).2 [(0, (2, 237)), (1, (0, oq))] [] S (fun o Z => o = .inr 238 ∧ hZ 1 S = Z) := by
  obtain ⟨hM, ⟨mt, mt0, mt1⟩, mp, mf, ⟨mc, mc0, mc1⟩, ⟨mtp, mtq⟩, ⟨mpa, mp0, mp1⟩, mh, mh0, mh1⟩ := hP
  refine wa_aload_n (n := 0) rfl ?_
  refine wa_cv 237 rfl (wy_pr rfl) wt_237 (M2 := fun _ => False) rfl at_M_h ⟨_, rfl⟩ rfl rfl ⟨(Or.inr ⟨wy_pr rfl, fun q => q⟩), trivial, trivial⟩ trivial (fun _ _ q => False.elim q) ?_ (fun _ _ _ q => q)
  refine wa_aload_n (n := 0) rfl ?_
  refine wb_gfi 237 rfl (wy_pr rfl) wt_237 wf_15_152 (v := (2100 * t)) (mp) (fun r1 => ?_)
  refine wa_aload_n (n := 0) rfl ?_
  refine wb_gf4 237 rfl (wy_pr rfl) wt_237 wf_15_134 (v := 359) wl_237_134 ?_
  refine wa_aload_n (n := 0) rfl ?_
  refine wb_gfi 237 rfl (wy_pr rfl) wt_237 wf_15_151 (v := t) (mt) (fun r2 => ?_)
  refine wb_iald 359 rfl (wy_pr rfl) wt_359 (n := 2) ((ml_359 hM)) (by omega) (by omega) (v := h) (mh) (fun r3 => ?_)
  refine wa_iadd ?_
  refine wa_ireturn rfl ?_
  show wJ _ _ _ _ _ _ _ _ _ _
  refine wa_iconst ?_
  refine wa_isub ?_
  refine wa_istore_n (n := 2) rfl ?_
  refine wa_iload_n (n := 2) rfl ?_
  refine wa_iconst ?_
  refine wa_isub ?_
  refine wa_istore_n (n := 3) rfl ?_
  refine wa_iload_n (n := 1) rfl ?_
  refine wa_iconst ?_
  refine wa_icmpne (w_rg0 (by omega) (by omega)) (w_rg0 (by omega) (by omega)) ⟨_, rfl⟩ (fun c4 => ?_) (fun c4 => ?_)
  · skip
    refine wa_iload_n (n := 1) rfl ?_
    refine wa_bipush (w_rg2 (by omega) (by omega)) ?_
    refine wa_icmpne (w_rg0 (by omega) (by omega)) (w_rg0 (by omega) (by omega)) ⟨_, rfl⟩ (fun c5 => ?_) (fun c5 => ?_)
    · skip
      refine wa_iload_n (n := 1) rfl ?_
      refine wa_bipush (w_rg2 (by omega) (by omega)) ?_
      refine wa_icmpne (w_rg0 (by omega) (by omega)) (w_rg0 (by omega) (by omega)) ⟨_, rfl⟩ (fun c6 => ?_) (fun c6 => ?_)
      · skip
        refine wa_iload_n (n := 1) rfl ?_
        refine wa_bipush (w_rg2 (by omega) (by omega)) ?_
        refine wa_icmpne (w_rg0 (by omega) (by omega)) (w_rg0 (by omega) (by omega)) ⟨_, rfl⟩ (fun c7 => ?_) (fun c7 => ?_)
        · skip
          refine wa_iload_n (n := 1) rfl ?_
          refine wa_bipush (w_rg2 (by omega) (by omega)) ?_
          refine wa_icmpge (w_rg0 (by omega) (by omega)) (w_rg0 (by omega) (by omega)) ⟨_, rfl⟩ (fun c8 => ?_) (fun c8 => ?_)
          · skip
            refine wa_aload_n (n := 0) rfl ?_
            refine wa_iload_n (n := 1) rfl ?_
            refine wa_iload_n (n := 3) rfl ?_
            refine wa_iload_n (n := 2) rfl ?_
            refine wa_cv 237 rfl (wy_pr rfl) wt_237 (M2 := fun _ => False) rfl at_M_compares ⟨_, rfl⟩ rfl rfl ⟨trivial, trivial, (Or.inr ⟨wy_pr rfl, fun q => q⟩), trivial, trivial⟩ trivial (fun _ _ q => False.elim q) ?_ (fun _ _ _ q => q)
            refine wa_iload_n (n := 1) rfl ?_
            refine wa_bipush (w_rg2 (by omega) (by omega)) ?_
            refine wa_icmpeq (w_rg0 (by omega) (by omega)) (w_rg0 (by omega) (by omega)) ⟨_, rfl⟩ (fun c9 => ?_) (fun c9 => ?_)
            · skip
              exact absurd c9 (by omega)
            · skip
              refine wa_iload_n (n := 1) rfl ?_
              refine wa_bipush (w_rg2 (by omega) (by omega)) ?_
              refine wa_icmpne (w_rg0 (by omega) (by omega)) (w_rg0 (by omega) (by omega)) ⟨_, rfl⟩ (fun c10 => ?_) (fun c10 => ?_)
              · skip
                refine wa_aload_n (n := 0) rfl ?_
                refine wb_gf4 237 rfl (wy_pr rfl) wt_237 wf_15_138 (v := 363) wl_237_138 ?_
                refine wa_iload_n (n := 2) rfl ?_
                refine wb_iald 363 rfl (wy_pr rfl) wt_363 (n := 4200) ((ml_363 hM)) (by omega) (by omega) (v := kx) (hkx) (fun r11 => ?_)
                refine wa_aload_n (n := 0) rfl ?_
                refine wb_gf4 237 rfl (wy_pr rfl) wt_237 wf_15_138 (v := 363) wl_237_138 ?_
                refine wa_iload_n (n := 3) rfl ?_
                refine wb_iald 363 rfl (wy_pr rfl) wt_363 (n := 4200) ((ml_363 hM)) (by omega) (by omega) (v := ky) (hky) (fun r12 => ?_)
                refine wa_icmpne (w_rg0 (by omega) (by omega)) (w_rg0 (by omega) (by omega)) ⟨_, rfl⟩ (fun c13 => ?_) (fun c13 => ?_)
                · skip
                  refine wa_iconst ?_
                  refine wa_fall ⟨_, rfl⟩ ?_
                  refine wa_istore (n := 4) rfl ?_
                  refine wa_iload (n := 4) rfl ?_
                  refine wa_ifne (w_rg0 (by omega) (by omega)) ⟨_, rfl⟩ (fun c14 => ?_) (fun c14 => ?_)
                  · skip
                    exact absurd c14 (by omega)
                  · skip
                    refine wa_aload_n (n := 0) rfl ?_
                    refine wa_iconst ?_
                    refine wa_cv 237 rfl (wy_pr rfl) wt_237 (M2 := fun _ => False) rfl at_M_error ⟨_, rfl⟩ rfl rfl ⟨trivial, (Or.inr ⟨wy_pr rfl, fun q => q⟩), trivial, trivial, trivial, trivial⟩ trivial (fun _ _ q => False.elim q) ?_ (fun _ _ _ q => q)
                    refine wa_aload_n (n := 0) rfl ?_
                    refine wb_gf4 237 rfl (wy_pr rfl) wt_237 wf_15_1 (v := 238) wl_237_1 ?_
                    refine wa_iload_n (n := 1) rfl ?_
                    refine wa_iconst ?_
                    refine wa_cv 238 rfl (wy_pr rfl) wt_238 (M2 := fun _ => False) rfl at_MH_of ⟨_, rfl⟩ rfl rfl ⟨(Or.inr ⟨wy_pr rfl, fun q => q⟩), trivial, trivial⟩ trivial (fun _ _ q => False.elim q) ?_ (fun _ _ _ q => q)
                    refine wa_aload_n (n := 0) rfl ?_
                    refine wa_iload_n (n := 1) rfl ?_
                    refine wb_pfi 238 rfl (wy_pr rfl) wt_238 wf_11_5 (n := 5) rfl ⟨(by omega), (by omega)⟩ ?_
                    refine wa_aload_n (n := 0) rfl ?_
                    refine wa_iload_n (n := 2) rfl ?_
                    refine wb_pfi 238 rfl (wy_pr rfl) wt_238 wf_11_6 (n := 6) rfl ⟨(by omega), (by omega)⟩ ?_
                    refine wa_aload_n (n := 0) rfl ?_
                    refine wa_oreturn rfl ?_
                    show wJ _ _ _ _ _ _ _ _ _ _
                    refine wa_th (j := 238) ?_
                    refine ⟨rfl, ?_⟩
                    refine ⟨rfl, ?_⟩
                    exact ⟨rfl, rfl⟩
                · skip
                  refine wa_aload_n (n := 0) rfl ?_
                  refine wb_gf4 237 rfl (wy_pr rfl) wt_237 wf_15_138 (v := 363) wl_237_138 ?_
                  refine wa_iload_n (n := 2) rfl ?_
                  refine wb_iald 363 rfl (wy_pr rfl) wt_363 (n := 4200) ((ml_363 hM)) (by omega) (by omega) (v := kx) (hkx) (fun r15 => ?_)
                  refine wa_iconst ?_
                  refine wa_icmpeq (w_rg0 (by omega) (by omega)) (w_rg0 (by omega) (by omega)) ⟨_, rfl⟩ (fun c16 => ?_) (fun c16 => ?_)
                  · skip
                    exfalso; omega
                  · skip
                    refine wa_aload_n (n := 0) rfl ?_
                    refine wb_gf4 237 rfl (wy_pr rfl) wt_237 wf_15_138 (v := 363) wl_237_138 ?_
                    refine wa_iload_n (n := 2) rfl ?_
                    refine wb_iald 363 rfl (wy_pr rfl) wt_363 (n := 4200) ((ml_363 hM)) (by omega) (by omega) (v := kx) (hkx) (fun r17 => ?_)
                    refine wa_iconst ?_
                    refine wa_icmpne (w_rg0 (by omega) (by omega)) (w_rg0 (by omega) (by omega)) ⟨_, rfl⟩ (fun c18 => ?_) (fun c18 => ?_)
                    · skip
                      refine wa_iconst ?_
                      refine wa_fall ⟨_, rfl⟩ ?_
                      refine wa_istore (n := 4) rfl ?_
                      refine wa_iload (n := 4) rfl ?_
                      refine wa_ifne (w_rg0 (by omega) (by omega)) ⟨_, rfl⟩ (fun c19 => ?_) (fun c19 => ?_)
                      · skip
                        exact absurd c19 (by omega)
                      · skip
                        refine wa_aload_n (n := 0) rfl ?_
                        refine wa_iconst ?_
                        refine wa_cv 237 rfl (wy_pr rfl) wt_237 (M2 := fun _ => False) rfl at_M_error ⟨_, rfl⟩ rfl rfl ⟨trivial, (Or.inr ⟨wy_pr rfl, fun q => q⟩), trivial, trivial, trivial, trivial⟩ trivial (fun _ _ q => False.elim q) ?_ (fun _ _ _ q => q)
                        refine wa_aload_n (n := 0) rfl ?_
                        refine wb_gf4 237 rfl (wy_pr rfl) wt_237 wf_15_1 (v := 238) wl_237_1 ?_
                        refine wa_iload_n (n := 1) rfl ?_
                        refine wa_iconst ?_
                        refine wa_cv 238 rfl (wy_pr rfl) wt_238 (M2 := fun _ => False) rfl at_MH_of ⟨_, rfl⟩ rfl rfl ⟨(Or.inr ⟨wy_pr rfl, fun q => q⟩), trivial, trivial⟩ trivial (fun _ _ q => False.elim q) ?_ (fun _ _ _ q => q)
                        refine wa_aload_n (n := 0) rfl ?_
                        refine wa_iload_n (n := 1) rfl ?_
                        refine wb_pfi 238 rfl (wy_pr rfl) wt_238 wf_11_5 (n := 5) rfl ⟨(by omega), (by omega)⟩ ?_
                        refine wa_aload_n (n := 0) rfl ?_
                        refine wa_iload_n (n := 2) rfl ?_
                        refine wb_pfi 238 rfl (wy_pr rfl) wt_238 wf_11_6 (n := 6) rfl ⟨(by omega), (by omega)⟩ ?_
                        refine wa_aload_n (n := 0) rfl ?_
                        refine wa_oreturn rfl ?_
                        show wJ _ _ _ _ _ _ _ _ _ _
                        refine wa_th (j := 238) ?_
                        refine ⟨rfl, ?_⟩
                        refine ⟨rfl, ?_⟩
                        exact ⟨rfl, rfl⟩
                    · skip
                      refine wa_fall ⟨_, rfl⟩ ?_
                      exfalso; omega
              · skip
                exact absurd c10 (by omega)
          · skip
            exact absurd c8 (by omega)
        · skip
          exact absurd c7 (by omega)
      · skip
        exact absurd c6 (by omega)
    · skip
      exact absurd c5 (by omega)
  · skip
    exact absurd c4 (by omega)
theorem ml_o {a m tp : Int} (hM : w_ML S) (hm : 0 ≤ m ∧ m ≤ 8000) (ha : 0 ≤ a ∧ a ≤ 100000) : ∀ (n : Nat) (x i : Int), i + (n : Int) = a → 0 ≤ i → (∀ j : Nat, j < n → 0 ≤ cO (S 333) j x ∧ cO (S 333) j x < m) → wJ (pe_GA xs) wY0 M d t_M_callOut ((pe_at t_M_callOut.bl 1).getD (0, [])).2 [(0, (2, 237)), (1, (0, a)), (2, (0, x)), (3, (0, i))] [] S (fun o Z => S = Z ∧ o = .inl (some (0, cO (S 333) n x))) := by
  intro n
  induction n with
  | zero =>
    intro x i h1 h2 hj
    refine wa_iload_n (n := 3) rfl ?_
    refine wa_iload_n (n := 1) rfl ?_
    refine wa_icmpge (w_rg0 (by omega) (by omega)) (w_rg0 (by omega) (by omega)) ⟨_, rfl⟩ (fun c1 => ?_) (fun c1 => ?_)
    · skip
      refine wa_iload_n (n := 2) rfl ?_
      refine wa_ireturn rfl ?_
      exact ⟨rfl, rfl⟩
    · skip
      exfalso; omega
  | succ n ih =>
    intro x i h1 h2 hj
    have hx0 : 0 ≤ x ∧ x < m := hj 0 (by omega)
    refine wa_iload_n (n := 3) rfl ?_
    refine wa_iload_n (n := 1) rfl ?_
    refine wa_icmpge (w_rg0 (by omega) (by omega)) (w_rg0 (by omega) (by omega)) ⟨_, rfl⟩ (fun c1 => ?_) (fun c1 => ?_)
    · skip
      exfalso; omega
    · skip
      refine wa_aload_n (n := 0) rfl ?_
      refine wb_gf4 237 rfl (wy_pr rfl) wt_237 wf_15_92 (v := 333) wl_237_92 ?_
      refine wa_iload_n (n := 2) rfl ?_
      refine wb_iald 333 rfl (wy_pr rfl) wt_333 (n := 8000) ((ml_333 hM)) (by omega) (by omega) (v := (S 333 x)) rfl (fun r2 => ?_)
      refine wa_istore_n (n := 2) rfl ?_
      refine wa_iinc rfl rfl ?_
      refine wa_goto ⟨_, rfl⟩ ?_
      exact wJ_S (ih (S 333 x) (i + 1) (by omega) (by omega) (fun j hj2 => hj (j + 1) (by omega))) ⟨rfl, rfl, rfl, rfl, trivial⟩
theorem mo_o {a m tp x u : Int} (hM : w_ML S) (mtp : S 237 154 = tp) (mt0 : 0 ≤ tp ∧ tp < 400) (hx : S 367 tp = x) (hm : 0 ≤ m ∧ m ≤ 8000) (ha : 0 ≤ a ∧ a ≤ 100000) (hj : ∀ j : Nat, j ≤ a.toNat → 0 ≤ cO (S 333) j x ∧ cO (S 333) j x < m) (hu : cO (S 333) a.toNat x = u) : wJ (pe_GA xs) wY0 M d t_M_callOut ((pe_at t_M_callOut.bl 0).getD (0, [])).2 [(0, (2, 237)), (1, (0, a))] [] S (fun o Z => S = Z ∧ o = .inl (some (0, u))) := by
  subst hu
  refine wa_aload_n (n := 0) rfl ?_
  refine wb_gf4 237 rfl (wy_pr rfl) wt_237 wf_15_142 (v := 367) wl_237_142 ?_
  refine wa_aload_n (n := 0) rfl ?_
  refine wb_gfi 237 rfl (wy_pr rfl) wt_237 wf_15_154 (v := tp) (mtp) (fun r1 => ?_)
  refine wb_iald 367 rfl (wy_pr rfl) wt_367 (n := 400) ((ml_367 hM)) (by omega) (by omega) (v := x) (hx) (fun r2 => ?_)
  refine wa_istore_n (n := 2) rfl ?_
  refine wa_iconst ?_
  refine wa_istore_n (n := 3) rfl ?_
  refine wa_fall ⟨_, rfl⟩ ?_
  exact wJ_S (ml_o (tp := tp) hM hm ha a.toNat x 0 (by omega) (by omega) (fun j hj2 => hj j (by omega))) ⟨rfl, rfl, rfl, rfl, trivial⟩
theorem y1 {t c p h tp a b x m u v ky vy : Int} (hP : mP t c p h tp S) (hab : (-2147483648 ≤ a ∧ a ≤ 2147483647) ∧ (-2147483648 ≤ b ∧ b ≤ 2147483647)) (hx : S 367 tp = x) (hm : 0 ≤ m ∧ m ≤ 8000) (ha : 0 ≤ a ∧ a ≤ 100000) (hb : 0 ≤ b ∧ b ≤ 100000) (hj : ∀ j : Nat, j ≤ a.toNat → 0 ≤ cO (S 333) j x ∧ cO (S 333) j x < m) (hu : cO (S 333) a.toNat x = v) (hv : S 334 v = u) (hu1 : 0 ≤ u ∧ u + b < 60000) (hky : S 335 (u + b) = ky) (hvy : S 336 (u + b) = vy) : wJ (pe_GA xs) wY0 M (d + 11) t_M_variables ((pe_at t_M_variables.bl 0).getD (0, [])).2 [(0, (2, 237)), (1, (0, 1)), (2, (0, a)), (3, (0, b))] [] S (fun o Z => (if h < 2000 then o = .inl none ∧ pUZ t h (ky) (vy) S = Z else o = .inr 238 ∧ hZ 11 S = Z)) := by
  obtain ⟨hM, ⟨mt, mt0, mt1⟩, mp, mf, ⟨mc, mc0, mc1⟩, ⟨mtp, mtq⟩, ⟨mpa, mp0, mp1⟩, mh, mh0, mh1⟩ := hP
  refine wa_iload_n (n := 1) rfl ?_
  refine wa_iconst ?_
  refine wa_icmpeq (w_rg0 (by omega) (by omega)) (w_rg0 (by omega) (by omega)) ⟨_, rfl⟩ (fun c1 => ?_) (fun c1 => ?_)
  · skip
    refine wa_aload_n (n := 0) rfl ?_
    refine wb_gf4 237 rfl (wy_pr rfl) wt_237 wf_15_93 (v := 334) wl_237_93 ?_
    refine wa_aload_n (n := 0) rfl ?_
    refine wa_iload_n (n := 2) rfl ?_
    refine wa_cv 237 rfl (wy_pr rfl) wt_237 (M2 := fun _ => False) rfl at_M_callOut ⟨_, rfl⟩ rfl rfl ⟨(Or.inr ⟨wy_pr rfl, fun q => q⟩), trivial, trivial, trivial, trivial⟩ ⟨(Or.inr ⟨wy_pr rfl, fun q => q⟩), trivial⟩ (fun _ _ q => False.elim q) (mo_o (S := S) hM mtp ⟨by omega, by omega⟩ hx hm ha hj hu) (fun oq2 Sq2 hp3 q2 => ?_)
    rcases q2 with ⟨rfl, rfl⟩
    show wJ _ _ _ _ _ _ _ _ _ _
    have hv1 := hj a.toNat (Nat.le_refl _)
    rw [hu] at hv1
    refine wb_iald 334 rfl (wy_pr rfl) wt_334 (n := 8000) ((ml_334 hM)) (by omega) (by omega) (v := u) (hv) (fun r4 => ?_)
    refine wa_iload_n (n := 3) rfl ?_
    refine wa_iadd ?_
    refine wa_goto ⟨_, rfl⟩ ?_
    refine wa_istore (n := 4) rfl ?_
    refine wa_aload_n (n := 0) rfl ?_
    refine wa_cv 237 rfl (wy_pr rfl) wt_237 (M2 := fun _ => False) rfl at_M_h ⟨_, rfl⟩ rfl rfl ⟨trivial, (Or.inr ⟨wy_pr rfl, fun q => q⟩), trivial, trivial, trivial, trivial⟩ trivial (fun _ _ q => False.elim q) ?_ (fun _ _ _ q => q)
    refine wa_aload_n (n := 0) rfl ?_
    refine wb_gfi 237 rfl (wy_pr rfl) wt_237 wf_15_152 (v := (2100 * t)) (mp) (fun r5 => ?_)
    refine wa_aload_n (n := 0) rfl ?_
    refine wb_gf4 237 rfl (wy_pr rfl) wt_237 wf_15_134 (v := 359) wl_237_134 ?_
    refine wa_aload_n (n := 0) rfl ?_
    refine wb_gfi 237 rfl (wy_pr rfl) wt_237 wf_15_151 (v := t) (mt) (fun r6 => ?_)
    refine wb_iald 359 rfl (wy_pr rfl) wt_359 (n := 2) ((ml_359 hM)) (by omega) (by omega) (v := h) (mh) (fun r7 => ?_)
    refine wa_iadd ?_
    refine wa_ireturn rfl ?_
    show wJ _ _ _ _ _ _ _ _ _ _
    refine wa_iconst ?_
    refine wa_isub ?_
    refine wa_istore (n := 5) rfl ?_
    refine wa_iload_n (n := 1) rfl ?_
    refine wb_sw (w_rg0 (by omega) (by omega)) (tb := 12) rfl ⟨_, rfl⟩ ?_
    refine wa_aload_n (n := 0) rfl ?_
    refine wa_cv 237 rfl (wy_pr rfl) wt_237 (M2 := fun _ => False) rfl at_M_mayPile ⟨_, rfl⟩ rfl rfl ⟨trivial, trivial, (Or.inr ⟨wy_pr rfl, fun q => q⟩), trivial, trivial, trivial, trivial⟩ trivial (fun _ _ q => False.elim q) ?_ (fun _ _ _ q => q)
    refine wa_aload_n (n := 0) rfl ?_
    refine wb_gf4 237 rfl (wy_pr rfl) wt_237 wf_15_134 (v := 359) wl_237_134 ?_
    refine wa_aload_n (n := 0) rfl ?_
    refine wb_gfi 237 rfl (wy_pr rfl) wt_237 wf_15_151 (v := t) (mt) (fun r8 => ?_)
    refine wb_iald 359 rfl (wy_pr rfl) wt_359 (n := 2) ((ml_359 hM)) (by omega) (by omega) (v := h) (mh) (fun r9 => ?_)
    refine wa_sipush (by omega) ?_
    refine wa_icmplt (w_rg0 (by omega) (by omega)) (w_rg0 (by omega) (by omega)) ⟨_, rfl⟩ (fun c10 => ?_) (fun c10 => ?_)
    · skip
      refine wa_return rfl ?_
      show wJ _ _ _ _ _ _ _ _ _ _
      refine wa_aload_n (n := 0) rfl ?_
      refine wa_aload_n (n := 0) rfl ?_
      refine wb_gf4 237 rfl (wy_pr rfl) wt_237 wf_15_95 (v := 335) wl_237_95 ?_
      refine wa_iload (n := 4) rfl ?_
      refine wb_iald 335 rfl (wy_pr rfl) wt_335 (n := 60000) ((ml_335 hM)) (by omega) (by omega) (v := ky) (hky) (fun r11 => ?_)
      refine wa_aload_n (n := 0) rfl ?_
      refine wb_gf4 237 rfl (wy_pr rfl) wt_237 wf_15_96 (v := 336) wl_237_96 ?_
      refine wa_iload (n := 4) rfl ?_
      refine wb_lald 336 rfl (wy_pr rfl) wt_336 (n := 60000) ((ml_336 hM)) (by omega) (by omega) (v := vy) (hvy) (fun r12 => ?_)
      refine wa_cv 237 rfl (wy_pr rfl) wt_237 (M2 := fun _ => False) rfl at_M_push ⟨_, rfl⟩ rfl rfl ⟨trivial, trivial, (Or.inr ⟨wy_pr rfl, fun q => q⟩), trivial, trivial, trivial, trivial⟩ trivial (fun _ _ q => False.elim q) ?_ (fun _ _ _ q => q)
      refine wa_aload_n (n := 0) rfl ?_
      refine wb_gf4 237 rfl (wy_pr rfl) wt_237 wf_15_138 (v := 363) wl_237_138 ?_
      refine wa_aload_n (n := 0) rfl ?_
      refine wa_cv 237 rfl (wy_pr rfl) wt_237 (M2 := fun _ => False) rfl at_M_h ⟨_, rfl⟩ rfl rfl ⟨(Or.inr ⟨wy_pr rfl, fun q => q⟩), trivial, trivial, trivial⟩ ⟨(Or.inr ⟨wy_pr rfl, fun q => q⟩), trivial⟩ (fun _ _ q => False.elim q) ?_ (fun _ _ _ q => q)
      refine wa_aload_n (n := 0) rfl ?_
      refine wb_gfi 237 rfl (wy_pr rfl) wt_237 wf_15_152 (v := (2100 * t)) (mp) (fun r13 => ?_)
      refine wa_aload_n (n := 0) rfl ?_
      refine wb_gf4 237 rfl (wy_pr rfl) wt_237 wf_15_134 (v := 359) wl_237_134 ?_
      refine wa_aload_n (n := 0) rfl ?_
      refine wb_gfi 237 rfl (wy_pr rfl) wt_237 wf_15_151 (v := t) (mt) (fun r14 => ?_)
      refine wb_iald 359 rfl (wy_pr rfl) wt_359 (n := 2) ((ml_359 hM)) (by omega) (by omega) (v := h) (mh) (fun r15 => ?_)
      refine wa_iadd ?_
      refine wa_ireturn rfl ?_
      show wJ _ _ _ _ _ _ _ _ _ _
      refine wa_iload_n (n := 1) rfl ?_
      refine wb_iast 363 rfl (wy_pr rfl) wt_363 (n := 4200) ((ml_363 hM)) (by omega) (by omega) ⟨(by omega), (by omega)⟩ ?_
      refine wa_aload_n (n := 0) rfl ?_
      refine wb_gf4 237 rfl (wy_pr rfl) wt_237 wf_15_139 (v := 364) wl_237_139 ?_
      refine wa_aload_n (n := 0) rfl ?_
      refine wa_cv 237 rfl (wy_pr rfl) wt_237 (M2 := fun _ => False) rfl at_M_h ⟨_, rfl⟩ rfl rfl ⟨(Or.inr ⟨wy_pr rfl, fun q => q⟩), trivial, trivial, trivial⟩ ⟨(Or.inr ⟨wy_pr rfl, fun q => q⟩), trivial⟩ (fun _ _ q => False.elim q) ?_ (fun _ _ _ q => q)
      refine wa_aload_n (n := 0) rfl ?_
      refine wb_gfi 237 rfl (wy_pr rfl) wt_237 wf_15_152 (v := (2100 * t)) ((w_up_slot (by decide)).trans (mp)) (fun r16 => ?_)
      refine wa_aload_n (n := 0) rfl ?_
      refine wb_gf4 237 rfl (wy_pr rfl) wt_237 wf_15_134 (v := 359) wl_237_134 ?_
      refine wa_aload_n (n := 0) rfl ?_
      refine wb_gfi 237 rfl (wy_pr rfl) wt_237 wf_15_151 (v := t) ((w_up_slot (by decide)).trans (mt)) (fun r17 => ?_)
      refine wb_iald 359 rfl (wy_pr rfl) wt_359 (n := 2) ((w_up_slot (by decide)).trans ((ml_359 hM))) (by omega) (by omega) (v := h) ((w_up_slot (by decide)).trans (mh)) (fun r18 => ?_)
      refine wa_iadd ?_
      refine wa_ireturn rfl ?_
      show wJ _ _ _ _ _ _ _ _ _ _
      refine wa_lload_n (n := 2) rfl ?_
      refine wb_last 364 rfl (wy_pr rfl) wt_364 (n := 4200) ((w_up_slot (by decide)).trans ((ml_364 hM))) (by omega) (by omega) ⟨(by omega), (by omega)⟩ ?_
      refine wa_aload_n (n := 0) rfl ?_
      refine wb_gf4 237 rfl (wy_pr rfl) wt_237 wf_15_134 (v := 359) wl_237_134 ?_
      refine wa_aload_n (n := 0) rfl ?_
      refine wb_gfi 237 rfl (wy_pr rfl) wt_237 wf_15_151 (v := t) ((w_up_slot (by decide)).trans ((w_up_slot (by decide)).trans (mt))) (fun r19 => ?_)
      refine wa_dup2 (by decide) (by decide) ?_
      refine wb_iald 359 rfl (wy_pr rfl) wt_359 (n := 2) ((w_up_slot (by decide)).trans ((w_up_slot (by decide)).trans ((ml_359 hM)))) (by omega) (by omega) (v := h) ((w_up_slot (by decide)).trans ((w_up_slot (by decide)).trans (mh))) (fun r20 => ?_)
      refine wa_iconst ?_
      refine wa_iadd ?_
      refine wb_iast 359 rfl (wy_pr rfl) wt_359 (n := 2) ((w_up_slot (by decide)).trans ((w_up_slot (by decide)).trans ((ml_359 hM)))) (by omega) (by omega) ⟨(by omega), (by omega)⟩ ?_
      refine wa_return rfl ?_
      show wJ _ _ _ _ _ _ _ _ _ _
      refine wa_goto ⟨_, rfl⟩ ?_
      refine wa_return rfl ?_
      rw [if_pos (by omega)]
      exact ⟨rfl, rfl⟩
    · skip
      refine wa_aload_n (n := 0) rfl ?_
      refine wa_bipush (w_rg2 (by omega) (by omega)) ?_
      refine wa_cv 237 rfl (wy_pr rfl) wt_237 (M2 := fun _ => False) rfl at_M_error ⟨_, rfl⟩ rfl rfl ⟨(Or.inr ⟨wy_pr rfl, fun q => q⟩), trivial⟩ trivial (fun _ _ q => False.elim q) ?_ (fun _ _ _ q => q)
      refine wa_aload_n (n := 0) rfl ?_
      refine wb_gf4 237 rfl (wy_pr rfl) wt_237 wf_15_1 (v := 238) wl_237_1 ?_
      refine wa_iload_n (n := 1) rfl ?_
      refine wa_iconst ?_
      refine wa_cv 238 rfl (wy_pr rfl) wt_238 (M2 := fun _ => False) rfl at_MH_of ⟨_, rfl⟩ rfl rfl ⟨(Or.inr ⟨wy_pr rfl, fun q => q⟩), trivial, trivial⟩ trivial (fun _ _ q => False.elim q) ?_ (fun _ _ _ q => q)
      refine wa_aload_n (n := 0) rfl ?_
      refine wa_iload_n (n := 1) rfl ?_
      refine wb_pfi 238 rfl (wy_pr rfl) wt_238 wf_11_5 (n := 5) rfl ⟨(by omega), (by omega)⟩ ?_
      refine wa_aload_n (n := 0) rfl ?_
      refine wa_iload_n (n := 2) rfl ?_
      refine wb_pfi 238 rfl (wy_pr rfl) wt_238 wf_11_6 (n := 6) rfl ⟨(by omega), (by omega)⟩ ?_
      refine wa_aload_n (n := 0) rfl ?_
      refine wa_oreturn rfl ?_
      show wJ _ _ _ _ _ _ _ _ _ _
      refine wa_th (j := 238) ?_
      refine ⟨rfl, ?_⟩
      refine ⟨rfl, ?_⟩
      dsimp only
      rw [if_neg (by omega)]
      exact ⟨rfl, rfl⟩
  · skip
    exact absurd c1 (by omega)
theorem y2 {t c p h tp a b x m u v ky vy : Int} (hP : mP t c p h tp S) (hab : (-2147483648 ≤ a ∧ a ≤ 2147483647) ∧ (-2147483648 ≤ b ∧ b ≤ 2147483647)) (hx : S 367 tp = x) (hm : 0 ≤ m ∧ m ≤ 8000) (ha : 0 ≤ a ∧ a ≤ 100000) (hb : 0 ≤ b ∧ b ≤ 100000) (hj : ∀ j : Nat, j ≤ a.toNat → 0 ≤ cO (S 333) j x ∧ cO (S 333) j x < m) (hu : cO (S 333) a.toNat x = v) (hv : S 334 v = u) (hu1 : 0 ≤ u ∧ u + b < 60000) (hky : S 363 (2100 * t + h - 1) = ky) (hvy : S 364 (2100 * t + h - 1) = vy) (hh1 : 1 ≤ h) : wJ (pe_GA xs) wY0 M (d + 11) t_M_variables ((pe_at t_M_variables.bl 0).getD (0, [])).2 [(0, (2, 237)), (1, (0, 2)), (2, (0, a)), (3, (0, b))] [] S (fun o Z => o = .inl none ∧ w_up (w_up S 335 (u + b) ky) 336 (u + b) vy = Z) := by
  obtain ⟨hM, ⟨mt, mt0, mt1⟩, mp, mf, ⟨mc, mc0, mc1⟩, ⟨mtp, mtq⟩, ⟨mpa, mp0, mp1⟩, mh, mh0, mh1⟩ := hP
  refine wa_iload_n (n := 1) rfl ?_
  refine wa_iconst ?_
  refine wa_icmpeq (w_rg0 (by omega) (by omega)) (w_rg0 (by omega) (by omega)) ⟨_, rfl⟩ (fun c1 => ?_) (fun c1 => ?_)
  · skip
    exact absurd c1 (by omega)
  · skip
    refine wa_iload_n (n := 1) rfl ?_
    refine wa_iconst ?_
    refine wa_icmpne (w_rg0 (by omega) (by omega)) (w_rg0 (by omega) (by omega)) ⟨_, rfl⟩ (fun c2 => ?_) (fun c2 => ?_)
    · skip
      exact absurd c2 (by omega)
    · skip
      refine wa_fall ⟨_, rfl⟩ ?_
      refine wa_aload_n (n := 0) rfl ?_
      refine wb_gf4 237 rfl (wy_pr rfl) wt_237 wf_15_93 (v := 334) wl_237_93 ?_
      refine wa_aload_n (n := 0) rfl ?_
      refine wa_iload_n (n := 2) rfl ?_
      refine wa_cv 237 rfl (wy_pr rfl) wt_237 (M2 := fun _ => False) rfl at_M_callOut ⟨_, rfl⟩ rfl rfl ⟨(Or.inr ⟨wy_pr rfl, fun q => q⟩), trivial, trivial, trivial, trivial⟩ ⟨(Or.inr ⟨wy_pr rfl, fun q => q⟩), trivial⟩ (fun _ _ q => False.elim q) (mo_o (S := S) hM mtp ⟨by omega, by omega⟩ hx hm ha hj hu) (fun oq3 Sq3 hp4 q3 => ?_)
      rcases q3 with ⟨rfl, rfl⟩
      show wJ _ _ _ _ _ _ _ _ _ _
      have hv1 := hj a.toNat (Nat.le_refl _)
      rw [hu] at hv1
      refine wb_iald 334 rfl (wy_pr rfl) wt_334 (n := 8000) ((ml_334 hM)) (by omega) (by omega) (v := u) (hv) (fun r5 => ?_)
      refine wa_iload_n (n := 3) rfl ?_
      refine wa_iadd ?_
      refine wa_goto ⟨_, rfl⟩ ?_
      refine wa_istore (n := 4) rfl ?_
      refine wa_aload_n (n := 0) rfl ?_
      refine wa_cv 237 rfl (wy_pr rfl) wt_237 (M2 := fun _ => False) rfl at_M_h ⟨_, rfl⟩ rfl rfl ⟨trivial, (Or.inr ⟨wy_pr rfl, fun q => q⟩), trivial, trivial, trivial, trivial⟩ trivial (fun _ _ q => False.elim q) ?_ (fun _ _ _ q => q)
      refine wa_aload_n (n := 0) rfl ?_
      refine wb_gfi 237 rfl (wy_pr rfl) wt_237 wf_15_152 (v := (2100 * t)) (mp) (fun r6 => ?_)
      refine wa_aload_n (n := 0) rfl ?_
      refine wb_gf4 237 rfl (wy_pr rfl) wt_237 wf_15_134 (v := 359) wl_237_134 ?_
      refine wa_aload_n (n := 0) rfl ?_
      refine wb_gfi 237 rfl (wy_pr rfl) wt_237 wf_15_151 (v := t) (mt) (fun r7 => ?_)
      refine wb_iald 359 rfl (wy_pr rfl) wt_359 (n := 2) ((ml_359 hM)) (by omega) (by omega) (v := h) (mh) (fun r8 => ?_)
      refine wa_iadd ?_
      refine wa_ireturn rfl ?_
      show wJ _ _ _ _ _ _ _ _ _ _
      refine wa_iconst ?_
      refine wa_isub ?_
      refine wa_istore (n := 5) rfl ?_
      refine wa_iload_n (n := 1) rfl ?_
      refine wb_sw (w_rg0 (by omega) (by omega)) (tb := 13) rfl ⟨_, rfl⟩ ?_
      refine wa_aload_n (n := 0) rfl ?_
      refine wa_iload (n := 4) rfl ?_
      refine wa_aload_n (n := 0) rfl ?_
      refine wb_gf4 237 rfl (wy_pr rfl) wt_237 wf_15_138 (v := 363) wl_237_138 ?_
      refine wa_iload (n := 5) rfl ?_
      refine wb_iald 363 rfl (wy_pr rfl) wt_363 (n := 4200) ((ml_363 hM)) (by omega) (by omega) (v := ky) (hky) (fun r9 => ?_)
      refine wa_aload_n (n := 0) rfl ?_
      refine wb_gf4 237 rfl (wy_pr rfl) wt_237 wf_15_139 (v := 364) wl_237_139 ?_
      refine wa_iload (n := 5) rfl ?_
      refine wb_lald 364 rfl (wy_pr rfl) wt_364 (n := 4200) ((ml_364 hM)) (by omega) (by omega) (v := vy) (hvy) (fun r10 => ?_)
      refine wa_cv 237 rfl (wy_pr rfl) wt_237 (M2 := fun _ => False) rfl at_M_setsVariable ⟨_, rfl⟩ rfl rfl ⟨trivial, trivial, (Or.inr ⟨wy_pr rfl, fun q => q⟩), trivial, trivial, trivial, trivial⟩ trivial (fun _ _ q => False.elim q) ?_ (fun _ _ _ q => q)
      refine wa_aload_n (n := 0) rfl ?_
      refine wb_gf4 237 rfl (wy_pr rfl) wt_237 wf_15_95 (v := 335) wl_237_95 ?_
      refine wa_iload_n (n := 1) rfl ?_
      refine wa_iload_n (n := 2) rfl ?_
      refine wb_iast 335 rfl (wy_pr rfl) wt_335 (n := 60000) ((ml_335 hM)) (by omega) (by omega) ⟨(by omega), (by omega)⟩ ?_
      refine wa_aload_n (n := 0) rfl ?_
      refine wb_gf4 237 rfl (wy_pr rfl) wt_237 wf_15_96 (v := 336) wl_237_96 ?_
      refine wa_iload_n (n := 1) rfl ?_
      refine wa_lload_n (n := 3) rfl ?_
      refine wb_last 336 rfl (wy_pr rfl) wt_336 (n := 60000) ((w_up_slot (by decide)).trans ((ml_336 hM))) (by omega) (by omega) ⟨(by omega), (by omega)⟩ ?_
      refine wa_return rfl ?_
      show wJ _ _ _ _ _ _ _ _ _ _
      refine wa_goto ⟨_, rfl⟩ ?_
      refine wa_return rfl ?_
      exact ⟨rfl, rfl⟩
theorem y3 {t c p h tp a b kg vg gb : Int} (hP : mP t c p h tp S) (hab : (-2147483648 ≤ a ∧ a ≤ 2147483647) ∧ (-2147483648 ≤ b ∧ b ≤ 2147483647)) (ha : 0 ≤ a ∧ a < 4000) (hgb : S 337 a = gb) (hkg : S 338 a = kg) (hvg : S 339 a = vg) : wJ (pe_GA xs) wY0 M (d + 11) t_M_variables ((pe_at t_M_variables.bl 0).getD (0, [])).2 [(0, (2, 237)), (1, (0, 3)), (2, (0, a)), (3, (0, b))] [] S (fun o Z => (if h < 2000 then (if gb = 0 then o = .inr 238 ∧ hZ 10 S = Z else o = .inl none ∧ pUZ t h kg vg S = Z) else o = .inr 238 ∧ hZ 11 S = Z)) := by
  obtain ⟨hM, ⟨mt, mt0, mt1⟩, mp, mf, ⟨mc, mc0, mc1⟩, ⟨mtp, mtq⟩, ⟨mpa, mp0, mp1⟩, mh, mh0, mh1⟩ := hP
  refine wa_iload_n (n := 1) rfl ?_
  refine wa_iconst ?_
  refine wa_icmpeq (w_rg0 (by omega) (by omega)) (w_rg0 (by omega) (by omega)) ⟨_, rfl⟩ (fun c1 => ?_) (fun c1 => ?_)
  · skip
    exact absurd c1 (by omega)
  · skip
    refine wa_iload_n (n := 1) rfl ?_
    refine wa_iconst ?_
    refine wa_icmpne (w_rg0 (by omega) (by omega)) (w_rg0 (by omega) (by omega)) ⟨_, rfl⟩ (fun c2 => ?_) (fun c2 => ?_)
    · skip
      refine wa_iconst ?_
      refine wa_fall ⟨_, rfl⟩ ?_
      refine wa_istore (n := 4) rfl ?_
      refine wa_aload_n (n := 0) rfl ?_
      refine wa_cv 237 rfl (wy_pr rfl) wt_237 (M2 := fun _ => False) rfl at_M_h ⟨_, rfl⟩ rfl rfl ⟨trivial, (Or.inr ⟨wy_pr rfl, fun q => q⟩), trivial, trivial, trivial, trivial⟩ trivial (fun _ _ q => False.elim q) ?_ (fun _ _ _ q => q)
      refine wa_aload_n (n := 0) rfl ?_
      refine wb_gfi 237 rfl (wy_pr rfl) wt_237 wf_15_152 (v := (2100 * t)) (mp) (fun r3 => ?_)
      refine wa_aload_n (n := 0) rfl ?_
      refine wb_gf4 237 rfl (wy_pr rfl) wt_237 wf_15_134 (v := 359) wl_237_134 ?_
      refine wa_aload_n (n := 0) rfl ?_
      refine wb_gfi 237 rfl (wy_pr rfl) wt_237 wf_15_151 (v := t) (mt) (fun r4 => ?_)
      refine wb_iald 359 rfl (wy_pr rfl) wt_359 (n := 2) ((ml_359 hM)) (by omega) (by omega) (v := h) (mh) (fun r5 => ?_)
      refine wa_iadd ?_
      refine wa_ireturn rfl ?_
      show wJ _ _ _ _ _ _ _ _ _ _
      refine wa_iconst ?_
      refine wa_isub ?_
      refine wa_istore (n := 5) rfl ?_
      refine wa_iload_n (n := 1) rfl ?_
      refine wb_sw (w_rg0 (by omega) (by omega)) (tb := 14) rfl ⟨_, rfl⟩ ?_
      refine wa_aload_n (n := 0) rfl ?_
      refine wa_cv 237 rfl (wy_pr rfl) wt_237 (M2 := fun _ => False) rfl at_M_mayPile ⟨_, rfl⟩ rfl rfl ⟨trivial, trivial, (Or.inr ⟨wy_pr rfl, fun q => q⟩), trivial, trivial, trivial, trivial⟩ trivial (fun _ _ q => False.elim q) ?_ (fun _ _ _ q => q)
      refine wa_aload_n (n := 0) rfl ?_
      refine wb_gf4 237 rfl (wy_pr rfl) wt_237 wf_15_134 (v := 359) wl_237_134 ?_
      refine wa_aload_n (n := 0) rfl ?_
      refine wb_gfi 237 rfl (wy_pr rfl) wt_237 wf_15_151 (v := t) (mt) (fun r6 => ?_)
      refine wb_iald 359 rfl (wy_pr rfl) wt_359 (n := 2) ((ml_359 hM)) (by omega) (by omega) (v := h) (mh) (fun r7 => ?_)
      refine wa_sipush (by omega) ?_
      refine wa_icmplt (w_rg0 (by omega) (by omega)) (w_rg0 (by omega) (by omega)) ⟨_, rfl⟩ (fun c8 => ?_) (fun c8 => ?_)
      · skip
        refine wa_return rfl ?_
        show wJ _ _ _ _ _ _ _ _ _ _
        refine wa_aload_n (n := 0) rfl ?_
        refine wb_gf4 237 rfl (wy_pr rfl) wt_237 wf_15_97 (v := 337) wl_237_97 ?_
        refine wa_iload_n (n := 2) rfl ?_
        refine wb_zald 337 rfl (wy_pr rfl) wt_337 (n := 4000) ((ml_337 hM)) (by omega) (by omega) (v := gb) (hgb) (fun r9 => ?_)
        refine wa_ifne (w_rg0 (by omega) (by omega)) ⟨_, rfl⟩ (fun c10 => ?_) (fun c10 => ?_)
        · skip
          refine wa_aload_n (n := 0) rfl ?_
          refine wa_aload_n (n := 0) rfl ?_
          refine wb_gf4 237 rfl (wy_pr rfl) wt_237 wf_15_98 (v := 338) wl_237_98 ?_
          refine wa_iload_n (n := 2) rfl ?_
          refine wb_iald 338 rfl (wy_pr rfl) wt_338 (n := 4000) ((ml_338 hM)) (by omega) (by omega) (v := kg) (hkg) (fun r11 => ?_)
          refine wa_aload_n (n := 0) rfl ?_
          refine wb_gf4 237 rfl (wy_pr rfl) wt_237 wf_15_99 (v := 339) wl_237_99 ?_
          refine wa_iload_n (n := 2) rfl ?_
          refine wb_lald 339 rfl (wy_pr rfl) wt_339 (n := 4000) ((ml_339 hM)) (by omega) (by omega) (v := vg) (hvg) (fun r12 => ?_)
          refine wa_cv 237 rfl (wy_pr rfl) wt_237 (M2 := fun _ => False) rfl at_M_push ⟨_, rfl⟩ rfl rfl ⟨trivial, trivial, (Or.inr ⟨wy_pr rfl, fun q => q⟩), trivial, trivial, trivial, trivial⟩ trivial (fun _ _ q => False.elim q) ?_ (fun _ _ _ q => q)
          refine wa_aload_n (n := 0) rfl ?_
          refine wb_gf4 237 rfl (wy_pr rfl) wt_237 wf_15_138 (v := 363) wl_237_138 ?_
          refine wa_aload_n (n := 0) rfl ?_
          refine wa_cv 237 rfl (wy_pr rfl) wt_237 (M2 := fun _ => False) rfl at_M_h ⟨_, rfl⟩ rfl rfl ⟨(Or.inr ⟨wy_pr rfl, fun q => q⟩), trivial, trivial, trivial⟩ ⟨(Or.inr ⟨wy_pr rfl, fun q => q⟩), trivial⟩ (fun _ _ q => False.elim q) ?_ (fun _ _ _ q => q)
          refine wa_aload_n (n := 0) rfl ?_
          refine wb_gfi 237 rfl (wy_pr rfl) wt_237 wf_15_152 (v := (2100 * t)) (mp) (fun r13 => ?_)
          refine wa_aload_n (n := 0) rfl ?_
          refine wb_gf4 237 rfl (wy_pr rfl) wt_237 wf_15_134 (v := 359) wl_237_134 ?_
          refine wa_aload_n (n := 0) rfl ?_
          refine wb_gfi 237 rfl (wy_pr rfl) wt_237 wf_15_151 (v := t) (mt) (fun r14 => ?_)
          refine wb_iald 359 rfl (wy_pr rfl) wt_359 (n := 2) ((ml_359 hM)) (by omega) (by omega) (v := h) (mh) (fun r15 => ?_)
          refine wa_iadd ?_
          refine wa_ireturn rfl ?_
          show wJ _ _ _ _ _ _ _ _ _ _
          refine wa_iload_n (n := 1) rfl ?_
          refine wb_iast 363 rfl (wy_pr rfl) wt_363 (n := 4200) ((ml_363 hM)) (by omega) (by omega) ⟨(by omega), (by omega)⟩ ?_
          refine wa_aload_n (n := 0) rfl ?_
          refine wb_gf4 237 rfl (wy_pr rfl) wt_237 wf_15_139 (v := 364) wl_237_139 ?_
          refine wa_aload_n (n := 0) rfl ?_
          refine wa_cv 237 rfl (wy_pr rfl) wt_237 (M2 := fun _ => False) rfl at_M_h ⟨_, rfl⟩ rfl rfl ⟨(Or.inr ⟨wy_pr rfl, fun q => q⟩), trivial, trivial, trivial⟩ ⟨(Or.inr ⟨wy_pr rfl, fun q => q⟩), trivial⟩ (fun _ _ q => False.elim q) ?_ (fun _ _ _ q => q)
          refine wa_aload_n (n := 0) rfl ?_
          refine wb_gfi 237 rfl (wy_pr rfl) wt_237 wf_15_152 (v := (2100 * t)) ((w_up_slot (by decide)).trans (mp)) (fun r16 => ?_)
          refine wa_aload_n (n := 0) rfl ?_
          refine wb_gf4 237 rfl (wy_pr rfl) wt_237 wf_15_134 (v := 359) wl_237_134 ?_
          refine wa_aload_n (n := 0) rfl ?_
          refine wb_gfi 237 rfl (wy_pr rfl) wt_237 wf_15_151 (v := t) ((w_up_slot (by decide)).trans (mt)) (fun r17 => ?_)
          refine wb_iald 359 rfl (wy_pr rfl) wt_359 (n := 2) ((w_up_slot (by decide)).trans ((ml_359 hM))) (by omega) (by omega) (v := h) ((w_up_slot (by decide)).trans (mh)) (fun r18 => ?_)
          refine wa_iadd ?_
          refine wa_ireturn rfl ?_
          show wJ _ _ _ _ _ _ _ _ _ _
          refine wa_lload_n (n := 2) rfl ?_
          refine wb_last 364 rfl (wy_pr rfl) wt_364 (n := 4200) ((w_up_slot (by decide)).trans ((ml_364 hM))) (by omega) (by omega) ⟨(by omega), (by omega)⟩ ?_
          refine wa_aload_n (n := 0) rfl ?_
          refine wb_gf4 237 rfl (wy_pr rfl) wt_237 wf_15_134 (v := 359) wl_237_134 ?_
          refine wa_aload_n (n := 0) rfl ?_
          refine wb_gfi 237 rfl (wy_pr rfl) wt_237 wf_15_151 (v := t) ((w_up_slot (by decide)).trans ((w_up_slot (by decide)).trans (mt))) (fun r19 => ?_)
          refine wa_dup2 (by decide) (by decide) ?_
          refine wb_iald 359 rfl (wy_pr rfl) wt_359 (n := 2) ((w_up_slot (by decide)).trans ((w_up_slot (by decide)).trans ((ml_359 hM)))) (by omega) (by omega) (v := h) ((w_up_slot (by decide)).trans ((w_up_slot (by decide)).trans (mh))) (fun r20 => ?_)
          refine wa_iconst ?_
          refine wa_iadd ?_
          refine wb_iast 359 rfl (wy_pr rfl) wt_359 (n := 2) ((w_up_slot (by decide)).trans ((w_up_slot (by decide)).trans ((ml_359 hM)))) (by omega) (by omega) ⟨(by omega), (by omega)⟩ ?_
          refine wa_return rfl ?_
          show wJ _ _ _ _ _ _ _ _ _ _
          refine wa_goto ⟨_, rfl⟩ ?_
          refine wa_return rfl ?_
          rw [if_pos (by omega), if_neg (by omega)]
          exact ⟨rfl, rfl⟩
        · skip
          refine wa_aload_n (n := 0) rfl ?_
          refine wa_bipush (w_rg2 (by omega) (by omega)) ?_
          refine wa_cv 237 rfl (wy_pr rfl) wt_237 (M2 := fun _ => False) rfl at_M_error ⟨_, rfl⟩ rfl rfl ⟨trivial, trivial, (Or.inr ⟨wy_pr rfl, fun q => q⟩), trivial, trivial, trivial, trivial⟩ trivial (fun _ _ q => False.elim q) ?_ (fun _ _ _ q => q)
          refine wa_aload_n (n := 0) rfl ?_
          refine wb_gf4 237 rfl (wy_pr rfl) wt_237 wf_15_1 (v := 238) wl_237_1 ?_
          refine wa_iload_n (n := 1) rfl ?_
          refine wa_iconst ?_
          refine wa_cv 238 rfl (wy_pr rfl) wt_238 (M2 := fun _ => False) rfl at_MH_of ⟨_, rfl⟩ rfl rfl ⟨(Or.inr ⟨wy_pr rfl, fun q => q⟩), trivial, trivial⟩ trivial (fun _ _ q => False.elim q) ?_ (fun _ _ _ q => q)
          refine wa_aload_n (n := 0) rfl ?_
          refine wa_iload_n (n := 1) rfl ?_
          refine wb_pfi 238 rfl (wy_pr rfl) wt_238 wf_11_5 (n := 5) rfl ⟨(by omega), (by omega)⟩ ?_
          refine wa_aload_n (n := 0) rfl ?_
          refine wa_iload_n (n := 2) rfl ?_
          refine wb_pfi 238 rfl (wy_pr rfl) wt_238 wf_11_6 (n := 6) rfl ⟨(by omega), (by omega)⟩ ?_
          refine wa_aload_n (n := 0) rfl ?_
          refine wa_oreturn rfl ?_
          show wJ _ _ _ _ _ _ _ _ _ _
          refine wa_th (j := 238) ?_
          refine ⟨rfl, ?_⟩
          dsimp only
          rw [if_pos (by omega), if_pos (by omega)]
          exact ⟨rfl, rfl⟩
      · skip
        refine wa_aload_n (n := 0) rfl ?_
        refine wa_bipush (w_rg2 (by omega) (by omega)) ?_
        refine wa_cv 237 rfl (wy_pr rfl) wt_237 (M2 := fun _ => False) rfl at_M_error ⟨_, rfl⟩ rfl rfl ⟨(Or.inr ⟨wy_pr rfl, fun q => q⟩), trivial⟩ trivial (fun _ _ q => False.elim q) ?_ (fun _ _ _ q => q)
        refine wa_aload_n (n := 0) rfl ?_
        refine wb_gf4 237 rfl (wy_pr rfl) wt_237 wf_15_1 (v := 238) wl_237_1 ?_
        refine wa_iload_n (n := 1) rfl ?_
        refine wa_iconst ?_
        refine wa_cv 238 rfl (wy_pr rfl) wt_238 (M2 := fun _ => False) rfl at_MH_of ⟨_, rfl⟩ rfl rfl ⟨(Or.inr ⟨wy_pr rfl, fun q => q⟩), trivial, trivial⟩ trivial (fun _ _ q => False.elim q) ?_ (fun _ _ _ q => q)
        refine wa_aload_n (n := 0) rfl ?_
        refine wa_iload_n (n := 1) rfl ?_
        refine wb_pfi 238 rfl (wy_pr rfl) wt_238 wf_11_5 (n := 5) rfl ⟨(by omega), (by omega)⟩ ?_
        refine wa_aload_n (n := 0) rfl ?_
        refine wa_iload_n (n := 2) rfl ?_
        refine wb_pfi 238 rfl (wy_pr rfl) wt_238 wf_11_6 (n := 6) rfl ⟨(by omega), (by omega)⟩ ?_
        refine wa_aload_n (n := 0) rfl ?_
        refine wa_oreturn rfl ?_
        show wJ _ _ _ _ _ _ _ _ _ _
        refine wa_th (j := 238) ?_
        refine ⟨rfl, ?_⟩
        refine ⟨rfl, ?_⟩
        dsimp only
        rw [if_neg (by omega)]
        exact ⟨rfl, rfl⟩
    · skip
      exact absurd c2 (by omega)
theorem y4 {t c p h tp a b ky vy : Int} (hP : mP t c p h tp S) (hab : (-2147483648 ≤ a ∧ a ≤ 2147483647) ∧ (-2147483648 ≤ b ∧ b ≤ 2147483647)) (ha : 0 ≤ a ∧ a < 4000) (hky : S 363 (2100 * t + h - 1) = ky) (hvy : S 364 (2100 * t + h - 1) = vy) (hh1 : 1 ≤ h) : wJ (pe_GA xs) wY0 M (d + 11) t_M_variables ((pe_at t_M_variables.bl 0).getD (0, [])).2 [(0, (2, 237)), (1, (0, 4)), (2, (0, a)), (3, (0, b))] [] S (fun o Z => o = .inl none ∧ w_up (w_up (w_up S 337 a 1) 338 a ky) 339 a vy = Z) := by
  obtain ⟨hM, ⟨mt, mt0, mt1⟩, mp, mf, ⟨mc, mc0, mc1⟩, ⟨mtp, mtq⟩, ⟨mpa, mp0, mp1⟩, mh, mh0, mh1⟩ := hP
  refine wa_iload_n (n := 1) rfl ?_
  refine wa_iconst ?_
  refine wa_icmpeq (w_rg0 (by omega) (by omega)) (w_rg0 (by omega) (by omega)) ⟨_, rfl⟩ (fun c1 => ?_) (fun c1 => ?_)
  · skip
    exact absurd c1 (by omega)
  · skip
    refine wa_iload_n (n := 1) rfl ?_
    refine wa_iconst ?_
    refine wa_icmpne (w_rg0 (by omega) (by omega)) (w_rg0 (by omega) (by omega)) ⟨_, rfl⟩ (fun c2 => ?_) (fun c2 => ?_)
    · skip
      refine wa_iconst ?_
      refine wa_fall ⟨_, rfl⟩ ?_
      refine wa_istore (n := 4) rfl ?_
      refine wa_aload_n (n := 0) rfl ?_
      refine wa_cv 237 rfl (wy_pr rfl) wt_237 (M2 := fun _ => False) rfl at_M_h ⟨_, rfl⟩ rfl rfl ⟨trivial, (Or.inr ⟨wy_pr rfl, fun q => q⟩), trivial, trivial, trivial, trivial⟩ trivial (fun _ _ q => False.elim q) ?_ (fun _ _ _ q => q)
      refine wa_aload_n (n := 0) rfl ?_
      refine wb_gfi 237 rfl (wy_pr rfl) wt_237 wf_15_152 (v := (2100 * t)) (mp) (fun r3 => ?_)
      refine wa_aload_n (n := 0) rfl ?_
      refine wb_gf4 237 rfl (wy_pr rfl) wt_237 wf_15_134 (v := 359) wl_237_134 ?_
      refine wa_aload_n (n := 0) rfl ?_
      refine wb_gfi 237 rfl (wy_pr rfl) wt_237 wf_15_151 (v := t) (mt) (fun r4 => ?_)
      refine wb_iald 359 rfl (wy_pr rfl) wt_359 (n := 2) ((ml_359 hM)) (by omega) (by omega) (v := h) (mh) (fun r5 => ?_)
      refine wa_iadd ?_
      refine wa_ireturn rfl ?_
      show wJ _ _ _ _ _ _ _ _ _ _
      refine wa_iconst ?_
      refine wa_isub ?_
      refine wa_istore (n := 5) rfl ?_
      refine wa_iload_n (n := 1) rfl ?_
      refine wb_sw (w_rg0 (by omega) (by omega)) (tb := 16) rfl ⟨_, rfl⟩ ?_
      refine wa_aload_n (n := 0) rfl ?_
      refine wb_gf4 237 rfl (wy_pr rfl) wt_237 wf_15_97 (v := 337) wl_237_97 ?_
      refine wa_iload_n (n := 2) rfl ?_
      refine wa_iconst ?_
      refine wb_zast 337 rfl (wy_pr rfl) wt_337 (n := 4000) ((ml_337 hM)) (by omega) (by omega) ⟨(by omega), (by omega)⟩ ?_
      refine wa_aload_n (n := 0) rfl ?_
      refine wb_gf4 237 rfl (wy_pr rfl) wt_237 wf_15_98 (v := 338) wl_237_98 ?_
      refine wa_iload_n (n := 2) rfl ?_
      refine wa_aload_n (n := 0) rfl ?_
      refine wb_gf4 237 rfl (wy_pr rfl) wt_237 wf_15_138 (v := 363) wl_237_138 ?_
      refine wa_iload (n := 5) rfl ?_
      refine wb_iald 363 rfl (wy_pr rfl) wt_363 (n := 4200) ((w_up_slot (by decide)).trans ((ml_363 hM))) (by omega) (by omega) (v := ky) ((w_up_slot (by decide)).trans (hky)) (fun r6 => ?_)
      refine wb_iast 338 rfl (wy_pr rfl) wt_338 (n := 4000) ((w_up_slot (by decide)).trans ((ml_338 hM))) (by omega) (by omega) ⟨(by omega), (by omega)⟩ ?_
      refine wa_aload_n (n := 0) rfl ?_
      refine wb_gf4 237 rfl (wy_pr rfl) wt_237 wf_15_99 (v := 339) wl_237_99 ?_
      refine wa_iload_n (n := 2) rfl ?_
      refine wa_aload_n (n := 0) rfl ?_
      refine wb_gf4 237 rfl (wy_pr rfl) wt_237 wf_15_139 (v := 364) wl_237_139 ?_
      refine wa_iload (n := 5) rfl ?_
      refine wb_lald 364 rfl (wy_pr rfl) wt_364 (n := 4200) ((w_up_slot (by decide)).trans ((w_up_slot (by decide)).trans ((ml_364 hM)))) (by omega) (by omega) (v := vy) ((w_up_slot (by decide)).trans ((w_up_slot (by decide)).trans (hvy))) (fun r7 => ?_)
      refine wb_last 339 rfl (wy_pr rfl) wt_339 (n := 4000) ((w_up_slot (by decide)).trans ((w_up_slot (by decide)).trans ((ml_339 hM)))) (by omega) (by omega) ⟨(by omega), (by omega)⟩ ?_
      refine wa_fall ⟨_, rfl⟩ ?_
      refine wa_return rfl ?_
      exact ⟨rfl, rfl⟩
    · skip
      exact absurd c2 (by omega)
end Wdy
