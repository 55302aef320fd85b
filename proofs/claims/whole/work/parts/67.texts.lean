/-! PART 67: the reference's lexer: texts. -/
section W67
variable {xs : List (Nat × List Int32)} {M : Nat → Prop} {d : Nat} {S : wS} {Q : wO → wS → Prop}
/-- the sign that a text has at t (0: none), and its last place -/
def lx_tc (T : Int → Int) (n t : Int) : Int := if lx_at T n t = 92 then (if lx_at T n (t + 1) = 110 then 10 else if lx_at T n (t + 1) = 34 ∨ lx_at T n (t + 1) = 92 then lx_at T n (t + 1) else 0) else if lx_at T n t < 32 then 0 else lx_at T n t
def lx_t2 (T : Int → Int) (n t : Int) : Int := if lx_at T n t = 92 then t + 1 else t
/-- a text's token (3, or 5: a fault), the place where it ends, its bytes -/
def lx_tx (T : Int → Int) (n : Int) : Nat → Int → List Int → Int × Int × List Int
  | 0, t, l => (5, t, l)
  | f + 1, t, l => if lx_at T n t = 34 then (3, t, l) else if lx_tc T n t = 0 ∨ l.length = 60 then (5, lx_t2 T n t, l) else lx_tx T n f (lx_t2 T n t + 1) (l ++ [lx_tc T n t])
theorem lx_tx_s (T : Int → Int) (n t : Int) (f : Nat) (l : List Int) : lx_tx T n (f + 1) t l = if lx_at T n t = 34 then (3, t, l) else if lx_tc T n t = 0 ∨ l.length = 60 then (5, lx_t2 T n t, l) else lx_tx T n f (lx_t2 T n t + 1) (l ++ [lx_tc T n t]) := rfl
/-- the state holds the bytes l as its text -/
def lx_tl (Z : wS) (l : List Int) : Prop := Z 237 12 = (l.length : Int) ∧ ∀ i : Nat, i < l.length → Z 240 i = l.getD i 0
theorem lx_tl_up {Z : wS} {l : List Int} {j x : Int} (h : lx_tl Z l) (hj : j ≠ 12) : lx_tl (w_up Z 237 j x) l := ⟨(w_up_at (by omega)).trans h.1, fun i hi => (w_up_slot (by decide)).trans (h.2 i hi)⟩
theorem lx_tl_add {Z : wS} {l : List Int} {c : Int} (h : lx_tl Z l) : lx_tl (w_up (w_up Z 240 (l.length : Int) c) 237 12 ((l.length : Int) + 1)) (l ++ [c]) := by
  refine ⟨by rw [w_up_same, List.length_append]; rfl, fun i hi => ?_⟩
  rw [w_up_slot (by decide)]
  rw [List.length_append] at hi
  simp only [List.length_cons, List.length_nil] at hi
  by_cases he : i = l.length
  · subst he
    rw [w_up_same, List.getD_eq_getElem?_getD, List.getElem?_append_right (Nat.le_refl _), Nat.sub_self]; rfl
  · rw [w_up_at (by omega), h.2 i (by omega), List.getD_eq_getElem?_getD, List.getD_eq_getElem?_getD, List.getElem?_append_left (by omega)]
theorem rd_loop {tk e p : Int} {r : List Int} (hM0 : w_ML S) (hn : 0 ≤ S 237 4 ∧ S 237 4 ≤ 65536) (hk : ∀ Z, lx_ag S Z → Z 237 6 = tk → Z 237 8 = e → Z 237 7 = p → lx_tl Z r → (0 ≤ Z 237 8 ∧ Z 237 8 ≤ S 237 4 + 1) → wJ (pe_GA xs) wY0 M (d + 1) t_M_reads ((pe_at t_M_reads.bl 11).getD (0, [])).2 [(0, (2, 237))] [] Z Q) : ∀ (f : Nat) (t : Int) (l : List Int) (Z : wS), (S 237 4 - t).toNat < f → 0 ≤ t → t ≤ S 237 4 → l.length ≤ 60 → lx_tx (S 239) (S 237 4) f t l = (tk, e, r) → lx_ag S Z → Z 237 8 = t → Z 237 7 = p → Z 237 6 = 3 → lx_tl Z l → wJ (pe_GA xs) wY0 M (d + 1) t_M_reads ((pe_at t_M_reads.bl 1).getD (0, [])).2 [(0, (2, 237))] [] Z Q := by
  intro f
  induction f with
  | zero => intros; omega
  | succ f ih =>
    intro t l Z hf ht0 ht hll he hag h8 h7 h6 htl
    have hz : ∀ z : Int, lx_at (S 239) (S 237 4) z ≠ 0 → z < S 237 4 := fun z hz => lx_at_lt hz
    have hz1 := hz t
    have hz2 := hz (t + 1)
    rw [lx_tx_s] at he
    refine wa_aload_n (n := 0) rfl ?_
    refine wb_gfi 237 rfl (wy_pr rfl) wt_237 wf_15_6 (v := 3) (h6) (fun r1 => ?_)
    refine wa_iconst ?_
    refine wa_icmpne (w_rg0 (by omega) (by omega)) (w_rg0 (by omega) (by omega)) ⟨_, rfl⟩ (fun c2 => ?_) (fun c2 => ?_)
    · skip
      exact absurd c2 (by omega)
    · skip
      refine wa_aload_n (n := 0) rfl ?_
      refine wa_aload_n (n := 0) rfl ?_
      refine wb_gfi 237 rfl (wy_pr rfl) wt_237 wf_15_8 (v := t) (h8) (fun r3 => ?_)
      refine wa_cv 237 rfl (wy_pr rfl) wt_237 (M2 := fun _ => False) rfl at_M_at ⟨_, rfl⟩ rfl rfl ⟨(Or.inr ⟨wy_pr rfl, fun q => q⟩), trivial⟩ trivial (fun _ _ q => False.elim q) (lx_at_ok hM0 hag ⟨by omega, by omega⟩ hn) (fun oq5 Sq5 hp6 q5 => ?_)
      rcases q5 with ⟨rfl, rfl, ga4⟩
      show wJ _ _ _ _ _ _ _ _ _ _
      refine wa_bipush (w_rg2 (by omega) (by omega)) ?_
      refine wa_icmpeq (w_rg0 (by omega) (by omega)) (w_rg0 (by omega) (by omega)) ⟨_, rfl⟩ (fun c7 => ?_) (fun c7 => ?_)
      · skip
        rw [if_pos (by omega)] at he
        have e1 := congrArg Prod.fst he
        have e2 := congrArg (fun q => q.2.1) he
        have e3 := congrArg (fun q => q.2.2) he
        simp only at e1 e2 e3
        subst e1 e2 e3
        exact wJ_S (hk _ hag (h6) (h8) (h7) htl (by rw [show _ = t from (h8)]; omega)) ⟨rfl, trivial⟩
      · skip
        refine wa_aload_n (n := 0) rfl ?_
        refine wa_aload_n (n := 0) rfl ?_
        refine wb_gfi 237 rfl (wy_pr rfl) wt_237 wf_15_8 (v := t) (h8) (fun r8 => ?_)
        refine wa_cv 237 rfl (wy_pr rfl) wt_237 (M2 := fun _ => False) rfl at_M_at ⟨_, rfl⟩ rfl rfl ⟨(Or.inr ⟨wy_pr rfl, fun q => q⟩), trivial⟩ trivial (fun _ _ q => False.elim q) (lx_at_ok hM0 hag ⟨by omega, by omega⟩ hn) (fun oq10 Sq10 hp11 q10 => ?_)
        rcases q10 with ⟨rfl, rfl, ga9⟩
        show wJ _ _ _ _ _ _ _ _ _ _
        refine wa_istore_n (n := 1) rfl ?_
        refine wa_iload_n (n := 1) rfl ?_
        refine wa_bipush (w_rg2 (by omega) (by omega)) ?_
        refine wa_icmpne (w_rg0 (by omega) (by omega)) (w_rg0 (by omega) (by omega)) ⟨_, rfl⟩ (fun c12 => ?_) (fun c12 => ?_)
        · skip
          refine wa_iload_n (n := 1) rfl ?_
          refine wa_bipush (w_rg2 (by omega) (by omega)) ?_
          refine wa_icmpge (w_rg0 (by omega) (by omega)) (w_rg0 (by omega) (by omega)) ⟨_, rfl⟩ (fun c13 => ?_) (fun c13 => ?_)
          · skip
            refine wa_iload_n (n := 1) rfl ?_
            refine wa_ifeq (w_rg0 (by omega) (by omega)) ⟨_, rfl⟩ (fun c14 => ?_) (fun c14 => ?_)
            · skip
              exact absurd c14 (by omega)
            · skip
              refine wa_aload_n (n := 0) rfl ?_
              refine wb_gfi 237 rfl (wy_pr rfl) wt_237 wf_15_12 (v := (l.length : Int)) (htl.1) (fun r15 => ?_)
              refine wa_bipush (w_rg2 (by omega) (by omega)) ?_
              refine wa_icmpne (w_rg0 (by omega) (by omega)) (w_rg0 (by omega) (by omega)) ⟨_, rfl⟩ (fun c16 => ?_) (fun c16 => ?_)
              · skip
                refine wa_aload_n (n := 0) rfl ?_
                refine wb_gf4 237 rfl (wy_pr rfl) wt_237 wf_15_11 (v := 240) wl_237_11 ?_
                refine wa_aload_n (n := 0) rfl ?_
                refine wb_gfi 237 rfl (wy_pr rfl) wt_237 wf_15_12 (v := (l.length : Int)) (htl.1) (fun r17 => ?_)
                refine wa_iload_n (n := 1) rfl ?_
                refine wb_i2b_r (wb_i2b_id ⟨(by omega), (by omega)⟩) ?_
                refine wb_bast 240 rfl (wy_pr rfl) wt_240 (n := 64) ((ml_240 (lx_ag_ML hag hM0))) (by omega) (by omega) ⟨(by omega), (by omega)⟩ ?_
                refine wa_aload_n (n := 0) rfl ?_
                refine wa_dup (by decide) ?_
                refine wb_gfi 237 rfl (wy_pr rfl) wt_237 wf_15_12 (v := (l.length : Int)) ((w_up_slot (by decide)).trans (htl.1)) (fun r18 => ?_)
                refine wa_iconst ?_
                refine wa_iadd ?_
                refine wb_pfi 237 rfl (wy_pr rfl) wt_237 wf_15_12 (n := 12) rfl ⟨(by omega), (by omega)⟩ ?_
                refine wa_aload_n (n := 0) rfl ?_
                refine wa_dup (by decide) ?_
                refine wb_gfi 237 rfl (wy_pr rfl) wt_237 wf_15_8 (v := t) ((w_up_at (by decide)).trans ((w_up_slot (by decide)).trans (h8))) (fun r19 => ?_)
                refine wa_iconst ?_
                refine wa_iadd ?_
                refine wb_pfi 237 rfl (wy_pr rfl) wt_237 wf_15_8 (n := 8) rfl ⟨(by omega), (by omega)⟩ ?_
                refine wa_fall ⟨_, rfl⟩ ?_
                refine wa_goto ⟨_, rfl⟩ ?_
                have htc : lx_tc (S 239) (S 237 4) t = (lx_at (S 239) (S 237 4) t) := by unfold lx_tc; (split <;> (try split) <;> (try split) <;> omega)
                have ht2 : lx_t2 (S 239) (S 237 4) t = t := by unfold lx_t2; split <;> omega
                rw [if_neg (by omega), if_neg (by omega), htc, ht2] at he
                exact wJ_S (ih _ _ _ (by omega) (by omega) (by omega) (by rw [List.length_append]; simp only [List.length_cons, List.length_nil]; omega) he (lx_ag_up (lx_ag_up (lx_ag_tx hag (by omega)) (by omega)) (by omega)) (w_up_same _ _ _ _) ((w_up_at (by decide)).trans ((w_up_at (by decide)).trans ((w_up_slot (by decide)).trans (h7)))) ((w_up_at (by decide)).trans ((w_up_at (by decide)).trans ((w_up_slot (by decide)).trans (h6)))) (lx_tl_up (lx_tl_add htl) (by decide))) ⟨rfl, trivial⟩
              · skip
                refine wa_fall ⟨_, rfl⟩ ?_
                refine wa_aload_n (n := 0) rfl ?_
                refine wa_iconst ?_
                refine wb_pfi 237 rfl (wy_pr rfl) wt_237 wf_15_6 (n := 6) rfl ⟨(by omega), (by omega)⟩ ?_
                refine wa_goto ⟨_, rfl⟩ ?_
                refine wa_goto ⟨_, rfl⟩ ?_
                refine wa_aload_n (n := 0) rfl ?_
                refine wb_gfi 237 rfl (wy_pr rfl) wt_237 wf_15_6 (v := 5) (w_up_same _ _ _ _) (fun r20 => ?_)
                refine wa_iconst ?_
                refine wa_icmpne (w_rg0 (by omega) (by omega)) (w_rg0 (by omega) (by omega)) ⟨_, rfl⟩ (fun c21 => ?_) (fun c21 => ?_)
                · skip
                  have htc : lx_tc (S 239) (S 237 4) t = (lx_at (S 239) (S 237 4) t) := by unfold lx_tc; (split <;> (try split) <;> (try split) <;> omega)
                  have ht2 : lx_t2 (S 239) (S 237 4) t = t := by unfold lx_t2; split <;> omega
                  rw [if_neg (by omega), if_pos (by omega), ht2] at he
                  have e1 := congrArg Prod.fst he
                  have e2 := congrArg (fun q => q.2.1) he
                  have e3 := congrArg (fun q => q.2.2) he
                  simp only at e1 e2 e3
                  subst e1 e2 e3
                  exact wJ_S (hk _ (lx_ag_up hag (by omega)) (w_up_same _ _ _ _) ((w_up_at (by decide)).trans (h8)) ((w_up_at (by decide)).trans (h7)) (lx_tl_up htl (by decide)) (by rw [show _ = t from ((w_up_at (by decide)).trans (h8))]; omega)) ⟨rfl, trivial⟩
                · skip
                  exact absurd c21 (by omega)
          · skip
            refine wa_iconst ?_
            refine wa_istore_n (n := 1) rfl ?_
            refine wa_fall ⟨_, rfl⟩ ?_
            refine wa_iload_n (n := 1) rfl ?_
            refine wa_ifeq (w_rg0 (by omega) (by omega)) ⟨_, rfl⟩ (fun c22 => ?_) (fun c22 => ?_)
            · skip
              refine wa_aload_n (n := 0) rfl ?_
              refine wa_iconst ?_
              refine wb_pfi 237 rfl (wy_pr rfl) wt_237 wf_15_6 (n := 6) rfl ⟨(by omega), (by omega)⟩ ?_
              refine wa_goto ⟨_, rfl⟩ ?_
              refine wa_goto ⟨_, rfl⟩ ?_
              refine wa_aload_n (n := 0) rfl ?_
              refine wb_gfi 237 rfl (wy_pr rfl) wt_237 wf_15_6 (v := 5) (w_up_same _ _ _ _) (fun r23 => ?_)
              refine wa_iconst ?_
              refine wa_icmpne (w_rg0 (by omega) (by omega)) (w_rg0 (by omega) (by omega)) ⟨_, rfl⟩ (fun c24 => ?_) (fun c24 => ?_)
              · skip
                have htc : lx_tc (S 239) (S 237 4) t = 0 := by unfold lx_tc; (split <;> (try split) <;> (try split) <;> omega)
                have ht2 : lx_t2 (S 239) (S 237 4) t = t := by unfold lx_t2; split <;> omega
                rw [if_neg (by omega), if_pos (by omega), ht2] at he
                have e1 := congrArg Prod.fst he
                have e2 := congrArg (fun q => q.2.1) he
                have e3 := congrArg (fun q => q.2.2) he
                simp only at e1 e2 e3
                subst e1 e2 e3
                exact wJ_S (hk _ (lx_ag_up hag (by omega)) (w_up_same _ _ _ _) ((w_up_at (by decide)).trans (h8)) ((w_up_at (by decide)).trans (h7)) (lx_tl_up htl (by decide)) (by rw [show _ = t from ((w_up_at (by decide)).trans (h8))]; omega)) ⟨rfl, trivial⟩
              · skip
                exact absurd c24 (by omega)
            · skip
              exact absurd c22 (by omega)
        · skip
          refine wa_aload_n (n := 0) rfl ?_
          refine wa_dup (by decide) ?_
          refine wb_gfi 237 rfl (wy_pr rfl) wt_237 wf_15_8 (v := t) (h8) (fun r25 => ?_)
          refine wa_iconst ?_
          refine wa_iadd ?_
          refine wb_pfi 237 rfl (wy_pr rfl) wt_237 wf_15_8 (n := 8) rfl ⟨(by omega), (by omega)⟩ ?_
          refine wa_aload_n (n := 0) rfl ?_
          refine wa_aload_n (n := 0) rfl ?_
          refine wb_gfi 237 rfl (wy_pr rfl) wt_237 wf_15_8 (v := (t + 1)) (w_up_same _ _ _ _) (fun r26 => ?_)
          refine wa_cv 237 rfl (wy_pr rfl) wt_237 (M2 := fun _ => False) rfl at_M_at ⟨_, rfl⟩ rfl rfl ⟨trivial, (Or.inr ⟨wy_pr rfl, fun q => q⟩), trivial⟩ trivial (fun _ _ q => False.elim q) (lx_at_ok hM0 (lx_ag_up hag (by omega)) ⟨by omega, by omega⟩ hn) (fun oq28 Sq28 hp29 q28 => ?_)
          rcases q28 with ⟨rfl, rfl, ga27⟩
          show wJ _ _ _ _ _ _ _ _ _ _
          refine wa_bipush (w_rg2 (by omega) (by omega)) ?_
          refine wa_icmpne (w_rg0 (by omega) (by omega)) (w_rg0 (by omega) (by omega)) ⟨_, rfl⟩ (fun c30 => ?_) (fun c30 => ?_)
          · skip
            refine wa_aload_n (n := 0) rfl ?_
            refine wa_aload_n (n := 0) rfl ?_
            refine wb_gfi 237 rfl (wy_pr rfl) wt_237 wf_15_8 (v := (t + 1)) (w_up_same _ _ _ _) (fun r31 => ?_)
            refine wa_cv 237 rfl (wy_pr rfl) wt_237 (M2 := fun _ => False) rfl at_M_at ⟨_, rfl⟩ rfl rfl ⟨trivial, (Or.inr ⟨wy_pr rfl, fun q => q⟩), trivial⟩ trivial (fun _ _ q => False.elim q) (lx_at_ok hM0 (lx_ag_up hag (by omega)) ⟨by omega, by omega⟩ hn) (fun oq33 Sq33 hp34 q33 => ?_)
            rcases q33 with ⟨rfl, rfl, ga32⟩
            show wJ _ _ _ _ _ _ _ _ _ _
            refine wa_bipush (w_rg2 (by omega) (by omega)) ?_
            refine wa_icmpeq (w_rg0 (by omega) (by omega)) (w_rg0 (by omega) (by omega)) ⟨_, rfl⟩ (fun c35 => ?_) (fun c35 => ?_)
            · skip
              refine wa_aload_n (n := 0) rfl ?_
              refine wa_aload_n (n := 0) rfl ?_
              refine wb_gfi 237 rfl (wy_pr rfl) wt_237 wf_15_8 (v := (t + 1)) (w_up_same _ _ _ _) (fun r36 => ?_)
              refine wa_cv 237 rfl (wy_pr rfl) wt_237 (M2 := fun _ => False) rfl at_M_at ⟨_, rfl⟩ rfl rfl ⟨trivial, (Or.inr ⟨wy_pr rfl, fun q => q⟩), trivial⟩ trivial (fun _ _ q => False.elim q) (lx_at_ok hM0 (lx_ag_up hag (by omega)) ⟨by omega, by omega⟩ hn) (fun oq38 Sq38 hp39 q38 => ?_)
              rcases q38 with ⟨rfl, rfl, ga37⟩
              show wJ _ _ _ _ _ _ _ _ _ _
              refine wa_goto ⟨_, rfl⟩ ?_
              refine wa_istore_n (n := 1) rfl ?_
              refine wa_goto ⟨_, rfl⟩ ?_
              refine wa_iload_n (n := 1) rfl ?_
              refine wa_ifeq (w_rg0 (by omega) (by omega)) ⟨_, rfl⟩ (fun c40 => ?_) (fun c40 => ?_)
              · skip
                exact absurd c40 (by omega)
              · skip
                refine wa_aload_n (n := 0) rfl ?_
                refine wb_gfi 237 rfl (wy_pr rfl) wt_237 wf_15_12 (v := (l.length : Int)) ((w_up_at (by decide)).trans (htl.1)) (fun r41 => ?_)
                refine wa_bipush (w_rg2 (by omega) (by omega)) ?_
                refine wa_icmpne (w_rg0 (by omega) (by omega)) (w_rg0 (by omega) (by omega)) ⟨_, rfl⟩ (fun c42 => ?_) (fun c42 => ?_)
                · skip
                  refine wa_aload_n (n := 0) rfl ?_
                  refine wb_gf4 237 rfl (wy_pr rfl) wt_237 wf_15_11 (v := 240) wl_237_11 ?_
                  refine wa_aload_n (n := 0) rfl ?_
                  refine wb_gfi 237 rfl (wy_pr rfl) wt_237 wf_15_12 (v := (l.length : Int)) ((w_up_at (by decide)).trans (htl.1)) (fun r43 => ?_)
                  refine wa_iload_n (n := 1) rfl ?_
                  refine wb_i2b_r (wb_i2b_id ⟨(by omega), (by omega)⟩) ?_
                  refine wb_bast 240 rfl (wy_pr rfl) wt_240 (n := 64) ((w_up_slot (by decide)).trans ((ml_240 (lx_ag_ML hag hM0)))) (by omega) (by omega) ⟨(by omega), (by omega)⟩ ?_
                  refine wa_aload_n (n := 0) rfl ?_
                  refine wa_dup (by decide) ?_
                  refine wb_gfi 237 rfl (wy_pr rfl) wt_237 wf_15_12 (v := (l.length : Int)) ((w_up_slot (by decide)).trans ((w_up_at (by decide)).trans (htl.1))) (fun r44 => ?_)
                  refine wa_iconst ?_
                  refine wa_iadd ?_
                  refine wb_pfi 237 rfl (wy_pr rfl) wt_237 wf_15_12 (n := 12) rfl ⟨(by omega), (by omega)⟩ ?_
                  refine wa_aload_n (n := 0) rfl ?_
                  refine wa_dup (by decide) ?_
                  refine wb_gfi 237 rfl (wy_pr rfl) wt_237 wf_15_8 (v := (t + 1)) ((w_up_at (by decide)).trans ((w_up_slot (by decide)).trans (w_up_same _ _ _ _))) (fun r45 => ?_)
                  refine wa_iconst ?_
                  refine wa_iadd ?_
                  refine wb_pfi 237 rfl (wy_pr rfl) wt_237 wf_15_8 (n := 8) rfl ⟨(by omega), (by omega)⟩ ?_
                  refine wa_fall ⟨_, rfl⟩ ?_
                  refine wa_goto ⟨_, rfl⟩ ?_
                  have htc : lx_tc (S 239) (S 237 4) t = (lx_at (S 239) (S 237 4) (t + 1)) := by unfold lx_tc; (split <;> (try split) <;> (try split) <;> omega)
                  have ht2 : lx_t2 (S 239) (S 237 4) t = (t + 1) := by unfold lx_t2; split <;> omega
                  rw [if_neg (by omega), if_neg (by omega), htc, ht2] at he
                  exact wJ_S (ih _ _ _ (by omega) (by omega) (by omega) (by rw [List.length_append]; simp only [List.length_cons, List.length_nil]; omega) he (lx_ag_up (lx_ag_up (lx_ag_tx (lx_ag_up hag (by omega)) (by omega)) (by omega)) (by omega)) (w_up_same _ _ _ _) ((w_up_at (by decide)).trans ((w_up_at (by decide)).trans ((w_up_slot (by decide)).trans ((w_up_at (by decide)).trans (h7))))) ((w_up_at (by decide)).trans ((w_up_at (by decide)).trans ((w_up_slot (by decide)).trans ((w_up_at (by decide)).trans (h6))))) (lx_tl_up (lx_tl_add (lx_tl_up htl (by decide))) (by decide))) ⟨rfl, trivial⟩
                · skip
                  refine wa_fall ⟨_, rfl⟩ ?_
                  refine wa_aload_n (n := 0) rfl ?_
                  refine wa_iconst ?_
                  refine wb_pfi 237 rfl (wy_pr rfl) wt_237 wf_15_6 (n := 6) rfl ⟨(by omega), (by omega)⟩ ?_
                  refine wa_goto ⟨_, rfl⟩ ?_
                  refine wa_goto ⟨_, rfl⟩ ?_
                  refine wa_aload_n (n := 0) rfl ?_
                  refine wb_gfi 237 rfl (wy_pr rfl) wt_237 wf_15_6 (v := 5) (w_up_same _ _ _ _) (fun r46 => ?_)
                  refine wa_iconst ?_
                  refine wa_icmpne (w_rg0 (by omega) (by omega)) (w_rg0 (by omega) (by omega)) ⟨_, rfl⟩ (fun c47 => ?_) (fun c47 => ?_)
                  · skip
                    have htc : lx_tc (S 239) (S 237 4) t = (lx_at (S 239) (S 237 4) (t + 1)) := by unfold lx_tc; (split <;> (try split) <;> (try split) <;> omega)
                    have ht2 : lx_t2 (S 239) (S 237 4) t = (t + 1) := by unfold lx_t2; split <;> omega
                    rw [if_neg (by omega), if_pos (by omega), ht2] at he
                    have e1 := congrArg Prod.fst he
                    have e2 := congrArg (fun q => q.2.1) he
                    have e3 := congrArg (fun q => q.2.2) he
                    simp only at e1 e2 e3
                    subst e1 e2 e3
                    exact wJ_S (hk _ (lx_ag_up (lx_ag_up hag (by omega)) (by omega)) (w_up_same _ _ _ _) ((w_up_at (by decide)).trans (w_up_same _ _ _ _)) ((w_up_at (by decide)).trans ((w_up_at (by decide)).trans (h7))) (lx_tl_up (lx_tl_up htl (by decide)) (by decide)) (by rw [show _ = (t + 1) from ((w_up_at (by decide)).trans (w_up_same _ _ _ _))]; omega)) ⟨rfl, trivial⟩
                  · skip
                    exact absurd c47 (by omega)
            · skip
              refine wa_aload_n (n := 0) rfl ?_
              refine wa_aload_n (n := 0) rfl ?_
              refine wb_gfi 237 rfl (wy_pr rfl) wt_237 wf_15_8 (v := (t + 1)) (w_up_same _ _ _ _) (fun r48 => ?_)
              refine wa_cv 237 rfl (wy_pr rfl) wt_237 (M2 := fun _ => False) rfl at_M_at ⟨_, rfl⟩ rfl rfl ⟨trivial, (Or.inr ⟨wy_pr rfl, fun q => q⟩), trivial⟩ trivial (fun _ _ q => False.elim q) (lx_at_ok hM0 (lx_ag_up hag (by omega)) ⟨by omega, by omega⟩ hn) (fun oq50 Sq50 hp51 q50 => ?_)
              rcases q50 with ⟨rfl, rfl, ga49⟩
              show wJ _ _ _ _ _ _ _ _ _ _
              refine wa_bipush (w_rg2 (by omega) (by omega)) ?_
              refine wa_icmpne (w_rg0 (by omega) (by omega)) (w_rg0 (by omega) (by omega)) ⟨_, rfl⟩ (fun c52 => ?_) (fun c52 => ?_)
              · skip
                refine wa_iconst ?_
                refine wa_fall ⟨_, rfl⟩ ?_
                refine wa_istore_n (n := 1) rfl ?_
                refine wa_goto ⟨_, rfl⟩ ?_
                refine wa_iload_n (n := 1) rfl ?_
                refine wa_ifeq (w_rg0 (by omega) (by omega)) ⟨_, rfl⟩ (fun c53 => ?_) (fun c53 => ?_)
                · skip
                  refine wa_aload_n (n := 0) rfl ?_
                  refine wa_iconst ?_
                  refine wb_pfi 237 rfl (wy_pr rfl) wt_237 wf_15_6 (n := 6) rfl ⟨(by omega), (by omega)⟩ ?_
                  refine wa_goto ⟨_, rfl⟩ ?_
                  refine wa_goto ⟨_, rfl⟩ ?_
                  refine wa_aload_n (n := 0) rfl ?_
                  refine wb_gfi 237 rfl (wy_pr rfl) wt_237 wf_15_6 (v := 5) (w_up_same _ _ _ _) (fun r54 => ?_)
                  refine wa_iconst ?_
                  refine wa_icmpne (w_rg0 (by omega) (by omega)) (w_rg0 (by omega) (by omega)) ⟨_, rfl⟩ (fun c55 => ?_) (fun c55 => ?_)
                  · skip
                    have htc : lx_tc (S 239) (S 237 4) t = 0 := by unfold lx_tc; (split <;> (try split) <;> (try split) <;> omega)
                    have ht2 : lx_t2 (S 239) (S 237 4) t = (t + 1) := by unfold lx_t2; split <;> omega
                    rw [if_neg (by omega), if_pos (by omega), ht2] at he
                    have e1 := congrArg Prod.fst he
                    have e2 := congrArg (fun q => q.2.1) he
                    have e3 := congrArg (fun q => q.2.2) he
                    simp only at e1 e2 e3
                    subst e1 e2 e3
                    exact wJ_S (hk _ (lx_ag_up (lx_ag_up hag (by omega)) (by omega)) (w_up_same _ _ _ _) ((w_up_at (by decide)).trans (w_up_same _ _ _ _)) ((w_up_at (by decide)).trans ((w_up_at (by decide)).trans (h7))) (lx_tl_up (lx_tl_up htl (by decide)) (by decide)) (by rw [show _ = (t + 1) from ((w_up_at (by decide)).trans (w_up_same _ _ _ _))]; omega)) ⟨rfl, trivial⟩
                  · skip
                    exact absurd c55 (by omega)
                · skip
                  exact absurd c53 (by omega)
              · skip
                refine wa_fall ⟨_, rfl⟩ ?_
                refine wa_aload_n (n := 0) rfl ?_
                refine wa_aload_n (n := 0) rfl ?_
                refine wb_gfi 237 rfl (wy_pr rfl) wt_237 wf_15_8 (v := (t + 1)) (w_up_same _ _ _ _) (fun r56 => ?_)
                refine wa_cv 237 rfl (wy_pr rfl) wt_237 (M2 := fun _ => False) rfl at_M_at ⟨_, rfl⟩ rfl rfl ⟨trivial, (Or.inr ⟨wy_pr rfl, fun q => q⟩), trivial⟩ trivial (fun _ _ q => False.elim q) (lx_at_ok hM0 (lx_ag_up hag (by omega)) ⟨by omega, by omega⟩ hn) (fun oq58 Sq58 hp59 q58 => ?_)
                rcases q58 with ⟨rfl, rfl, ga57⟩
                show wJ _ _ _ _ _ _ _ _ _ _
                refine wa_goto ⟨_, rfl⟩ ?_
                refine wa_istore_n (n := 1) rfl ?_
                refine wa_goto ⟨_, rfl⟩ ?_
                refine wa_iload_n (n := 1) rfl ?_
                refine wa_ifeq (w_rg0 (by omega) (by omega)) ⟨_, rfl⟩ (fun c60 => ?_) (fun c60 => ?_)
                · skip
                  exact absurd c60 (by omega)
                · skip
                  refine wa_aload_n (n := 0) rfl ?_
                  refine wb_gfi 237 rfl (wy_pr rfl) wt_237 wf_15_12 (v := (l.length : Int)) ((w_up_at (by decide)).trans (htl.1)) (fun r61 => ?_)
                  refine wa_bipush (w_rg2 (by omega) (by omega)) ?_
                  refine wa_icmpne (w_rg0 (by omega) (by omega)) (w_rg0 (by omega) (by omega)) ⟨_, rfl⟩ (fun c62 => ?_) (fun c62 => ?_)
                  · skip
                    refine wa_aload_n (n := 0) rfl ?_
                    refine wb_gf4 237 rfl (wy_pr rfl) wt_237 wf_15_11 (v := 240) wl_237_11 ?_
                    refine wa_aload_n (n := 0) rfl ?_
                    refine wb_gfi 237 rfl (wy_pr rfl) wt_237 wf_15_12 (v := (l.length : Int)) ((w_up_at (by decide)).trans (htl.1)) (fun r63 => ?_)
                    refine wa_iload_n (n := 1) rfl ?_
                    refine wb_i2b_r (wb_i2b_id ⟨(by omega), (by omega)⟩) ?_
                    refine wb_bast 240 rfl (wy_pr rfl) wt_240 (n := 64) ((w_up_slot (by decide)).trans ((ml_240 (lx_ag_ML hag hM0)))) (by omega) (by omega) ⟨(by omega), (by omega)⟩ ?_
                    refine wa_aload_n (n := 0) rfl ?_
                    refine wa_dup (by decide) ?_
                    refine wb_gfi 237 rfl (wy_pr rfl) wt_237 wf_15_12 (v := (l.length : Int)) ((w_up_slot (by decide)).trans ((w_up_at (by decide)).trans (htl.1))) (fun r64 => ?_)
                    refine wa_iconst ?_
                    refine wa_iadd ?_
                    refine wb_pfi 237 rfl (wy_pr rfl) wt_237 wf_15_12 (n := 12) rfl ⟨(by omega), (by omega)⟩ ?_
                    refine wa_aload_n (n := 0) rfl ?_
                    refine wa_dup (by decide) ?_
                    refine wb_gfi 237 rfl (wy_pr rfl) wt_237 wf_15_8 (v := (t + 1)) ((w_up_at (by decide)).trans ((w_up_slot (by decide)).trans (w_up_same _ _ _ _))) (fun r65 => ?_)
                    refine wa_iconst ?_
                    refine wa_iadd ?_
                    refine wb_pfi 237 rfl (wy_pr rfl) wt_237 wf_15_8 (n := 8) rfl ⟨(by omega), (by omega)⟩ ?_
                    refine wa_fall ⟨_, rfl⟩ ?_
                    refine wa_goto ⟨_, rfl⟩ ?_
                    have htc : lx_tc (S 239) (S 237 4) t = (lx_at (S 239) (S 237 4) (t + 1)) := by unfold lx_tc; (split <;> (try split) <;> (try split) <;> omega)
                    have ht2 : lx_t2 (S 239) (S 237 4) t = (t + 1) := by unfold lx_t2; split <;> omega
                    rw [if_neg (by omega), if_neg (by omega), htc, ht2] at he
                    exact wJ_S (ih _ _ _ (by omega) (by omega) (by omega) (by rw [List.length_append]; simp only [List.length_cons, List.length_nil]; omega) he (lx_ag_up (lx_ag_up (lx_ag_tx (lx_ag_up hag (by omega)) (by omega)) (by omega)) (by omega)) (w_up_same _ _ _ _) ((w_up_at (by decide)).trans ((w_up_at (by decide)).trans ((w_up_slot (by decide)).trans ((w_up_at (by decide)).trans (h7))))) ((w_up_at (by decide)).trans ((w_up_at (by decide)).trans ((w_up_slot (by decide)).trans ((w_up_at (by decide)).trans (h6))))) (lx_tl_up (lx_tl_add (lx_tl_up htl (by decide))) (by decide))) ⟨rfl, trivial⟩
                  · skip
                    refine wa_fall ⟨_, rfl⟩ ?_
                    refine wa_aload_n (n := 0) rfl ?_
                    refine wa_iconst ?_
                    refine wb_pfi 237 rfl (wy_pr rfl) wt_237 wf_15_6 (n := 6) rfl ⟨(by omega), (by omega)⟩ ?_
                    refine wa_goto ⟨_, rfl⟩ ?_
                    refine wa_goto ⟨_, rfl⟩ ?_
                    refine wa_aload_n (n := 0) rfl ?_
                    refine wb_gfi 237 rfl (wy_pr rfl) wt_237 wf_15_6 (v := 5) (w_up_same _ _ _ _) (fun r66 => ?_)
                    refine wa_iconst ?_
                    refine wa_icmpne (w_rg0 (by omega) (by omega)) (w_rg0 (by omega) (by omega)) ⟨_, rfl⟩ (fun c67 => ?_) (fun c67 => ?_)
                    · skip
                      have htc : lx_tc (S 239) (S 237 4) t = (lx_at (S 239) (S 237 4) (t + 1)) := by unfold lx_tc; (split <;> (try split) <;> (try split) <;> omega)
                      have ht2 : lx_t2 (S 239) (S 237 4) t = (t + 1) := by unfold lx_t2; split <;> omega
                      rw [if_neg (by omega), if_pos (by omega), ht2] at he
                      have e1 := congrArg Prod.fst he
                      have e2 := congrArg (fun q => q.2.1) he
                      have e3 := congrArg (fun q => q.2.2) he
                      simp only at e1 e2 e3
                      subst e1 e2 e3
                      exact wJ_S (hk _ (lx_ag_up (lx_ag_up hag (by omega)) (by omega)) (w_up_same _ _ _ _) ((w_up_at (by decide)).trans (w_up_same _ _ _ _)) ((w_up_at (by decide)).trans ((w_up_at (by decide)).trans (h7))) (lx_tl_up (lx_tl_up htl (by decide)) (by decide)) (by rw [show _ = (t + 1) from ((w_up_at (by decide)).trans (w_up_same _ _ _ _))]; omega)) ⟨rfl, trivial⟩
                    · skip
                      exact absurd c67 (by omega)
          · skip
            refine wa_bipush (w_rg2 (by omega) (by omega)) ?_
            refine wa_goto ⟨_, rfl⟩ ?_
            refine wa_istore_n (n := 1) rfl ?_
            refine wa_goto ⟨_, rfl⟩ ?_
            refine wa_iload_n (n := 1) rfl ?_
            refine wa_ifeq (w_rg0 (by omega) (by omega)) ⟨_, rfl⟩ (fun c68 => ?_) (fun c68 => ?_)
            · skip
              exact absurd c68 (by omega)
            · skip
              refine wa_aload_n (n := 0) rfl ?_
              refine wb_gfi 237 rfl (wy_pr rfl) wt_237 wf_15_12 (v := (l.length : Int)) ((w_up_at (by decide)).trans (htl.1)) (fun r69 => ?_)
              refine wa_bipush (w_rg2 (by omega) (by omega)) ?_
              refine wa_icmpne (w_rg0 (by omega) (by omega)) (w_rg0 (by omega) (by omega)) ⟨_, rfl⟩ (fun c70 => ?_) (fun c70 => ?_)
              · skip
                refine wa_aload_n (n := 0) rfl ?_
                refine wb_gf4 237 rfl (wy_pr rfl) wt_237 wf_15_11 (v := 240) wl_237_11 ?_
                refine wa_aload_n (n := 0) rfl ?_
                refine wb_gfi 237 rfl (wy_pr rfl) wt_237 wf_15_12 (v := (l.length : Int)) ((w_up_at (by decide)).trans (htl.1)) (fun r71 => ?_)
                refine wa_iload_n (n := 1) rfl ?_
                refine wb_i2b_r (wb_i2b_id ⟨(by omega), (by omega)⟩) ?_
                refine wb_bast 240 rfl (wy_pr rfl) wt_240 (n := 64) ((w_up_slot (by decide)).trans ((ml_240 (lx_ag_ML hag hM0)))) (by omega) (by omega) ⟨(by omega), (by omega)⟩ ?_
                refine wa_aload_n (n := 0) rfl ?_
                refine wa_dup (by decide) ?_
                refine wb_gfi 237 rfl (wy_pr rfl) wt_237 wf_15_12 (v := (l.length : Int)) ((w_up_slot (by decide)).trans ((w_up_at (by decide)).trans (htl.1))) (fun r72 => ?_)
                refine wa_iconst ?_
                refine wa_iadd ?_
                refine wb_pfi 237 rfl (wy_pr rfl) wt_237 wf_15_12 (n := 12) rfl ⟨(by omega), (by omega)⟩ ?_
                refine wa_aload_n (n := 0) rfl ?_
                refine wa_dup (by decide) ?_
                refine wb_gfi 237 rfl (wy_pr rfl) wt_237 wf_15_8 (v := (t + 1)) ((w_up_at (by decide)).trans ((w_up_slot (by decide)).trans (w_up_same _ _ _ _))) (fun r73 => ?_)
                refine wa_iconst ?_
                refine wa_iadd ?_
                refine wb_pfi 237 rfl (wy_pr rfl) wt_237 wf_15_8 (n := 8) rfl ⟨(by omega), (by omega)⟩ ?_
                refine wa_fall ⟨_, rfl⟩ ?_
                refine wa_goto ⟨_, rfl⟩ ?_
                have htc : lx_tc (S 239) (S 237 4) t = 10 := by unfold lx_tc; (split <;> (try split) <;> (try split) <;> omega)
                have ht2 : lx_t2 (S 239) (S 237 4) t = (t + 1) := by unfold lx_t2; split <;> omega
                rw [if_neg (by omega), if_neg (by omega), htc, ht2] at he
                exact wJ_S (ih _ _ _ (by omega) (by omega) (by omega) (by rw [List.length_append]; simp only [List.length_cons, List.length_nil]; omega) he (lx_ag_up (lx_ag_up (lx_ag_tx (lx_ag_up hag (by omega)) (by omega)) (by omega)) (by omega)) (w_up_same _ _ _ _) ((w_up_at (by decide)).trans ((w_up_at (by decide)).trans ((w_up_slot (by decide)).trans ((w_up_at (by decide)).trans (h7))))) ((w_up_at (by decide)).trans ((w_up_at (by decide)).trans ((w_up_slot (by decide)).trans ((w_up_at (by decide)).trans (h6))))) (lx_tl_up (lx_tl_add (lx_tl_up htl (by decide))) (by decide))) ⟨rfl, trivial⟩
              · skip
                refine wa_fall ⟨_, rfl⟩ ?_
                refine wa_aload_n (n := 0) rfl ?_
                refine wa_iconst ?_
                refine wb_pfi 237 rfl (wy_pr rfl) wt_237 wf_15_6 (n := 6) rfl ⟨(by omega), (by omega)⟩ ?_
                refine wa_goto ⟨_, rfl⟩ ?_
                refine wa_goto ⟨_, rfl⟩ ?_
                refine wa_aload_n (n := 0) rfl ?_
                refine wb_gfi 237 rfl (wy_pr rfl) wt_237 wf_15_6 (v := 5) (w_up_same _ _ _ _) (fun r74 => ?_)
                refine wa_iconst ?_
                refine wa_icmpne (w_rg0 (by omega) (by omega)) (w_rg0 (by omega) (by omega)) ⟨_, rfl⟩ (fun c75 => ?_) (fun c75 => ?_)
                · skip
                  have htc : lx_tc (S 239) (S 237 4) t = 10 := by unfold lx_tc; (split <;> (try split) <;> (try split) <;> omega)
                  have ht2 : lx_t2 (S 239) (S 237 4) t = (t + 1) := by unfold lx_t2; split <;> omega
                  rw [if_neg (by omega), if_pos (by omega), ht2] at he
                  have e1 := congrArg Prod.fst he
                  have e2 := congrArg (fun q => q.2.1) he
                  have e3 := congrArg (fun q => q.2.2) he
                  simp only at e1 e2 e3
                  subst e1 e2 e3
                  exact wJ_S (hk _ (lx_ag_up (lx_ag_up hag (by omega)) (by omega)) (w_up_same _ _ _ _) ((w_up_at (by decide)).trans (w_up_same _ _ _ _)) ((w_up_at (by decide)).trans ((w_up_at (by decide)).trans (h7))) (lx_tl_up (lx_tl_up htl (by decide)) (by decide)) (by rw [show _ = (t + 1) from ((w_up_at (by decide)).trans (w_up_same _ _ _ _))]; omega)) ⟨rfl, trivial⟩
                · skip
                  exact absurd c75 (by omega)
theorem rd_ok {t p tk e : Int} {r : List Int} {Z : wS} (hM0 : w_ML S) (hn : 0 ≤ S 237 4 ∧ S 237 4 ≤ 65536) (hag : lx_ag S Z) (h8 : Z 237 8 = t) (h7 : Z 237 7 = p) (ht : 0 ≤ t ∧ t + 1 ≤ S 237 4) (he : lx_tx (S 239) (S 237 4) ((S 237 4 - t).toNat + 1) (t + 1) [] = (tk, e, r)) : wJ (pe_GA xs) wY0 M (d + 1) t_M_reads ((pe_at t_M_reads.bl 0).getD (0, [])).2 [(0, (2, 237))] [] Z (fun o S2 => o = .inl none ∧ lx_ag S S2 ∧ S2 237 7 = p ∧ S2 237 6 = tk ∧ S2 237 8 = e + 1 ∧ lx_tl S2 r) := by
  refine wa_aload_n (n := 0) rfl ?_
  refine wa_dup (by decide) ?_
  refine wb_gfi 237 rfl (wy_pr rfl) wt_237 wf_15_8 (v := t) (h8) (fun r1 => ?_)
  refine wa_iconst ?_
  refine wa_iadd ?_
  refine wb_pfi 237 rfl (wy_pr rfl) wt_237 wf_15_8 (n := 8) rfl ⟨(by omega), (by omega)⟩ ?_
  refine wa_aload_n (n := 0) rfl ?_
  refine wa_iconst ?_
  refine wb_pfi 237 rfl (wy_pr rfl) wt_237 wf_15_12 (n := 12) rfl ⟨(by omega), (by omega)⟩ ?_
  refine wa_aload_n (n := 0) rfl ?_
  refine wa_iconst ?_
  refine wb_pfi 237 rfl (wy_pr rfl) wt_237 wf_15_6 (n := 6) rfl ⟨(by omega), (by omega)⟩ ?_
  refine wa_fall ⟨_, rfl⟩ ?_
  refine wJ_S (rd_loop hM0 hn (fun Z2 a1 a2 a3 a4 a5 a6 => ?_) ((S 237 4 - t).toNat + 1) (t + 1) [] _ (by omega) (by omega) (by omega) (Nat.zero_le _) he (lx_ag_up (lx_ag_up (lx_ag_up hag (by omega)) (by omega)) (by omega)) ((w_up_at (by decide)).trans ((w_up_at (by decide)).trans (w_up_same _ _ _ _))) ((w_up_at (by decide)).trans ((w_up_at (by decide)).trans ((w_up_at (by decide)).trans (h7)))) (w_up_same _ _ _ _) ⟨((w_up_at (by decide)).trans (w_up_same _ _ _ _)), fun i hi => absurd hi (Nat.not_lt_zero i)⟩) ⟨rfl, trivial⟩
  refine wa_aload_n (n := 0) rfl ?_
  refine wa_dup (by decide) ?_
  refine wb_gfi 237 rfl (wy_pr rfl) wt_237 wf_15_8 (v := (Z2 237 8)) rfl (fun r1 => ?_)
  refine wa_iconst ?_
  refine wa_iadd ?_
  refine wb_pfi 237 rfl (wy_pr rfl) wt_237 wf_15_8 (n := 8) rfl ⟨(by omega), (by omega)⟩ ?_
  refine wa_return rfl ?_
  exact ⟨rfl, lx_ag_up a1 (by omega), (w_up_at (by decide)).trans a4, (w_up_at (by decide)).trans a2, by rw [w_up_same, a3], lx_tl_up a5 (by decide)⟩
end W67
