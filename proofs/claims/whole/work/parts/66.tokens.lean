/-! PART 66: the reference's lexer: names, numbers, texts, signs, next. -/
section W66
variable {xs : List (Nat × List Int32)} {M : Nat → Prop} {d : Nat} {S : wS} {Q : wO → wS → Prop}
theorem lx_nm_s (T : Int → Int) (n t : Int) (f : Nat) : lx_nm T n (f + 1) t = if (lx_le (lx_at T n t) || lx_di (lx_at T n t)) = true then lx_nm T n f (t + 1) else t := rfl
theorem lx_nu_s (T : Int → Int) (n p t v : Int) (f : Nat) : lx_nu T n p (f + 1) t v = if lx_di (lx_at T n t) = true then lx_nu T n p f (t + 1) (if t - p < 11 then 10 * v + lx_at T n t - 48 else v) else (t, v) := rfl
theorem lx_p10 : ∀ q : Nat, q < 12 → (10 : Int) ^ q ≤ 100000000000 := by decide
theorem lx_p10s {p t v c : Int} (h0 : 0 ≤ t - p) (h : t - p < 11) (hv : 0 ≤ v ∧ v < (10 : Int) ^ (min (t - p) 11).toNat) (hc : 48 ≤ c ∧ c ≤ 57) : 0 ≤ 10 * v + c - 48 ∧ 10 * v + c - 48 < (10 : Int) ^ (min (t + 1 - p) 11).toNat := by
  have e : (min (t + 1 - p) 11).toNat = (min (t - p) 11).toNat + 1 := by omega
  rw [e, Int.pow_succ]
  omega
theorem lx_p10t {p t v : Int} (h : ¬ t - p < 11) (hv : 0 ≤ v ∧ v < (10 : Int) ^ (min (t - p) 11).toNat) : 0 ≤ v ∧ v < (10 : Int) ^ (min (t + 1 - p) 11).toNat := by
  have e : (min (t + 1 - p) 11).toNat = (min (t - p) 11).toNat := by omega
  rw [e]; exact hv
theorem lx_p10u {p t v : Int} (h0 : 0 ≤ t - p) (hv : 0 ≤ v ∧ v < (10 : Int) ^ (min (t - p) 11).toNat) : v < 100000000000 := by
  have := lx_p10 (min (t - p) 11).toNat (by omega)
  omega
theorem nm_loop {e p : Int} (hM0 : w_ML S) (hn : 0 ≤ S 237 4 ∧ S 237 4 ≤ 65536) (hk : ∀ Z, lx_ag S Z → Z 237 8 = e → Z 237 7 = p → (0 ≤ Z 237 8 ∧ Z 237 8 ≤ S 237 4) → wJ (pe_GA xs) wY0 M (d + 2) t_M_next ((pe_at t_M_next.bl 11).getD (0, [])).2 [(0, (2, 237))] [] Z Q) : ∀ (f : Nat) (t : Int) (Z : wS), (S 237 4 - t).toNat < f → 0 ≤ t → t ≤ S 237 4 → lx_nm (S 239) (S 237 4) f t = e → lx_ag S Z → Z 237 8 = t → Z 237 7 = p → wJ (pe_GA xs) wY0 M (d + 2) t_M_next ((pe_at t_M_next.bl 9).getD (0, [])).2 [(0, (2, 237))] [] Z Q := by
  intro f
  induction f with
  | zero => intros; omega
  | succ f ih =>
    intro t Z hf ht0 ht he hag h8 h7
    have hz : ∀ z : Int, lx_at (S 239) (S 237 4) z ≠ 0 → z < S 237 4 := fun z hz => lx_at_lt hz
    have hz1 := hz t
    rw [lx_nm_s] at he
    refine wa_aload_n (n := 0) rfl ?_
    refine wa_aload_n (n := 0) rfl ?_
    refine wb_gfi 237 rfl (wy_pr rfl) wt_237 wf_15_8 (v := t) (h8) (fun r1 => ?_)
    refine wa_cv 237 rfl (wy_pr rfl) wt_237 (M2 := fun _ => False) rfl at_M_at ⟨_, rfl⟩ rfl rfl ⟨(Or.inr ⟨wy_pr rfl, fun q => q⟩), trivial⟩ trivial (fun _ _ q => False.elim q) (lx_at_ok hM0 hag ⟨by omega, by omega⟩ hn) (fun oq3 Sq3 hp4 q3 => ?_)
    rcases q3 with ⟨rfl, rfl, ga2⟩
    show wJ _ _ _ _ _ _ _ _ _ _
    refine wa_cs (M2 := fun _ => False) rfl at_M_isLetter ⟨_, rfl⟩ rfl rfl ⟨(Or.inr ⟨wy_pr rfl, fun q => q⟩), trivial⟩ trivial (fun _ _ q => False.elim q) (isLetter_ok ⟨by omega, by omega⟩) (fun oq6 Sq6 hp7 q6 => ?_)
    rcases q6 with ⟨rfl, ⟨rfl, g5⟩ | ⟨rfl, g5⟩⟩
    · skip
      show wJ _ _ _ _ _ _ _ _ _ _
      have g5n := lx_le_nz g5
      have gl := g5
      refine wa_ifne (w_rg0 (by omega) (by omega)) ⟨_, rfl⟩ (fun c8 => ?_) (fun c8 => ?_)
      · skip
        refine wa_aload_n (n := 0) rfl ?_
        refine wa_dup (by decide) ?_
        refine wb_gfi 237 rfl (wy_pr rfl) wt_237 wf_15_8 (v := t) (h8) (fun r9 => ?_)
        refine wa_iconst ?_
        refine wa_iadd ?_
        refine wb_pfi 237 rfl (wy_pr rfl) wt_237 wf_15_8 (n := 8) rfl ⟨(by omega), (by omega)⟩ ?_
        refine wa_goto ⟨_, rfl⟩ ?_
        rw [if_pos (by first | (rw [gl]; rfl) | (rw [gd, Bool.or_true]))] at he
        exact wJ_S (ih (t + 1) _ (by omega) (by omega) (by omega) he (lx_ag_up hag (by omega)) (w_up_same _ _ _ _) ((w_up_at (by decide)).trans h7)) ⟨rfl, trivial⟩
      · skip
        exact absurd c8 (by omega)
    · skip
      show wJ _ _ _ _ _ _ _ _ _ _
      have gl := g5
      refine wa_ifne (w_rg0 (by omega) (by omega)) ⟨_, rfl⟩ (fun c10 => ?_) (fun c10 => ?_)
      · skip
        exact absurd c10 (by omega)
      · skip
        refine wa_aload_n (n := 0) rfl ?_
        refine wa_aload_n (n := 0) rfl ?_
        refine wb_gfi 237 rfl (wy_pr rfl) wt_237 wf_15_8 (v := t) (h8) (fun r11 => ?_)
        refine wa_cv 237 rfl (wy_pr rfl) wt_237 (M2 := fun _ => False) rfl at_M_at ⟨_, rfl⟩ rfl rfl ⟨(Or.inr ⟨wy_pr rfl, fun q => q⟩), trivial⟩ trivial (fun _ _ q => False.elim q) (lx_at_ok hM0 hag ⟨by omega, by omega⟩ hn) (fun oq13 Sq13 hp14 q13 => ?_)
        rcases q13 with ⟨rfl, rfl, ga12⟩
        show wJ _ _ _ _ _ _ _ _ _ _
        refine wa_cs (M2 := fun _ => False) rfl at_M_isDigit ⟨_, rfl⟩ rfl rfl ⟨(Or.inr ⟨wy_pr rfl, fun q => q⟩), trivial⟩ trivial (fun _ _ q => False.elim q) (isDigit_ok ⟨by omega, by omega⟩) (fun oq16 Sq16 hp17 q16 => ?_)
        rcases q16 with ⟨rfl, ⟨rfl, g15⟩ | ⟨rfl, g15⟩⟩
        · skip
          show wJ _ _ _ _ _ _ _ _ _ _
          have g15n := lx_di_rg g15
          have gd := g15
          refine wa_ifeq (w_rg0 (by omega) (by omega)) ⟨_, rfl⟩ (fun c18 => ?_) (fun c18 => ?_)
          · skip
            exact absurd c18 (by omega)
          · skip
            refine wa_fall ⟨_, rfl⟩ ?_
            refine wa_aload_n (n := 0) rfl ?_
            refine wa_dup (by decide) ?_
            refine wb_gfi 237 rfl (wy_pr rfl) wt_237 wf_15_8 (v := t) (h8) (fun r19 => ?_)
            refine wa_iconst ?_
            refine wa_iadd ?_
            refine wb_pfi 237 rfl (wy_pr rfl) wt_237 wf_15_8 (n := 8) rfl ⟨(by omega), (by omega)⟩ ?_
            refine wa_goto ⟨_, rfl⟩ ?_
            rw [if_pos (by first | (rw [gl]; rfl) | (rw [gd, Bool.or_true]))] at he
            exact wJ_S (ih (t + 1) _ (by omega) (by omega) (by omega) he (lx_ag_up hag (by omega)) (w_up_same _ _ _ _) ((w_up_at (by decide)).trans h7)) ⟨rfl, trivial⟩
        · skip
          show wJ _ _ _ _ _ _ _ _ _ _
          have gd := g15
          refine wa_ifeq (w_rg0 (by omega) (by omega)) ⟨_, rfl⟩ (fun c20 => ?_) (fun c20 => ?_)
          · skip
            rw [if_neg (by rw [gl, gd]; decide)] at he
            exact wJ_S (hk _ hag (h8.trans he) h7 (by omega)) ⟨rfl, trivial⟩
          · skip
            exact absurd c20 (by omega)
theorem nu_loop {e u p : Int} (hM0 : w_ML S) (hn : 0 ≤ S 237 4 ∧ S 237 4 ≤ 65536) (hk : ∀ Z, lx_ag S Z → Z 237 8 = e → Z 237 7 = p → (0 ≤ Z 237 8 ∧ Z 237 8 ≤ S 237 4) → (0 ≤ u ∧ u < 100000000000) → wJ (pe_GA xs) wY0 M (d + 2) t_M_next ((pe_at t_M_next.bl 18).getD (0, [])).2 [(0, (2, 237)), (3, (1, u))] [] Z Q) : ∀ (f : Nat) (t v : Int) (Z : wS), (S 237 4 - t).toNat < f → 0 ≤ p → p ≤ t → t ≤ S 237 4 → lx_nu (S 239) (S 237 4) p f t v = (e, u) → lx_ag S Z → Z 237 8 = t → Z 237 7 = p → (0 ≤ v ∧ v < (10 : Int) ^ (min (t - p) 11).toNat) → wJ (pe_GA xs) wY0 M (d + 2) t_M_next ((pe_at t_M_next.bl 15).getD (0, [])).2 [(0, (2, 237)), (3, (1, v))] [] Z Q := by
  intro f
  induction f with
  | zero => intros; omega
  | succ f ih =>
    intro t v Z hf ht0 ht1 ht he hag h8 h7 hv
    have hz : ∀ z : Int, lx_at (S 239) (S 237 4) z ≠ 0 → z < S 237 4 := fun z hz => lx_at_lt hz
    have hz1 := hz t
    rw [lx_nu_s] at he
    refine wa_aload_n (n := 0) rfl ?_
    refine wa_aload_n (n := 0) rfl ?_
    refine wb_gfi 237 rfl (wy_pr rfl) wt_237 wf_15_8 (v := t) (h8) (fun r1 => ?_)
    refine wa_cv 237 rfl (wy_pr rfl) wt_237 (M2 := fun _ => False) rfl at_M_at ⟨_, rfl⟩ rfl rfl ⟨(Or.inr ⟨wy_pr rfl, fun q => q⟩), trivial, trivial⟩ trivial (fun _ _ q => False.elim q) (lx_at_ok hM0 hag ⟨by omega, by omega⟩ hn) (fun oq3 Sq3 hp4 q3 => ?_)
    rcases q3 with ⟨rfl, rfl, ga2⟩
    show wJ _ _ _ _ _ _ _ _ _ _
    refine wa_cs (M2 := fun _ => False) rfl at_M_isDigit ⟨_, rfl⟩ rfl rfl ⟨(Or.inr ⟨wy_pr rfl, fun q => q⟩), trivial, trivial⟩ trivial (fun _ _ q => False.elim q) (isDigit_ok ⟨by omega, by omega⟩) (fun oq6 Sq6 hp7 q6 => ?_)
    rcases q6 with ⟨rfl, ⟨rfl, g5⟩ | ⟨rfl, g5⟩⟩
    · skip
      show wJ _ _ _ _ _ _ _ _ _ _
      have g5n := lx_di_rg g5
      have gd := g5
      refine wa_ifeq (w_rg0 (by omega) (by omega)) ⟨_, rfl⟩ (fun c8 => ?_) (fun c8 => ?_)
      · skip
        exact absurd c8 (by omega)
      · skip
        refine wa_aload_n (n := 0) rfl ?_
        refine wb_gfi 237 rfl (wy_pr rfl) wt_237 wf_15_8 (v := t) (h8) (fun r9 => ?_)
        refine wa_aload_n (n := 0) rfl ?_
        refine wb_gfi 237 rfl (wy_pr rfl) wt_237 wf_15_7 (v := p) (h7) (fun r10 => ?_)
        refine wa_isub ?_
        refine wa_bipush (w_rg2 (by omega) (by omega)) ?_
        refine wa_icmpge (w_rg0 (by omega) (by omega)) (w_rg0 (by omega) (by omega)) ⟨_, rfl⟩ (fun c11 => ?_) (fun c11 => ?_)
        · skip
          refine wa_lload_n (n := 3) rfl ?_
          refine wa_fall ⟨_, rfl⟩ ?_
          refine wa_lstore_n (n := 3) rfl ?_
          refine wa_aload_n (n := 0) rfl ?_
          refine wa_dup (by decide) ?_
          refine wb_gfi 237 rfl (wy_pr rfl) wt_237 wf_15_8 (v := t) (h8) (fun r12 => ?_)
          refine wa_iconst ?_
          refine wa_iadd ?_
          refine wb_pfi 237 rfl (wy_pr rfl) wt_237 wf_15_8 (n := 8) rfl ⟨(by omega), (by omega)⟩ ?_
          refine wa_goto ⟨_, rfl⟩ ?_
          rw [if_pos gd] at he
          first | rw [if_pos (by omega)] at he | rw [if_neg (by omega)] at he
          exact wJ_S (ih (t + 1) _ _ (by omega) (by omega) (by omega) (by omega) he (lx_ag_up hag (by omega)) (w_up_same _ _ _ _) ((w_up_at (by decide)).trans h7) (by first | exact lx_p10s (by omega) (by omega) hv (by omega) | exact lx_p10t (by omega) hv)) ⟨rfl, rfl, trivial⟩
        · skip
          refine wb_kl (n := 10) rfl ?_
          refine wa_lload_n (n := 3) rfl ?_
          refine wa_lmul ?_
          refine wa_aload_n (n := 0) rfl ?_
          refine wa_aload_n (n := 0) rfl ?_
          refine wb_gfi 237 rfl (wy_pr rfl) wt_237 wf_15_8 (v := t) (h8) (fun r13 => ?_)
          refine wa_cv 237 rfl (wy_pr rfl) wt_237 (M2 := fun _ => False) rfl at_M_at ⟨_, rfl⟩ rfl rfl ⟨(Or.inr ⟨wy_pr rfl, fun q => q⟩), trivial, trivial⟩ ⟨trivial, trivial⟩ (fun _ _ q => False.elim q) (lx_at_ok hM0 hag ⟨by omega, by omega⟩ hn) (fun oq15 Sq15 hp16 q15 => ?_)
          rcases q15 with ⟨rfl, rfl, ga14⟩
          show wJ _ _ _ _ _ _ _ _ _ _
          refine wa_i2l (w_rg0 (by omega) (by omega)) ?_
          refine wa_ladd ?_
          refine wb_kl (n := 48) rfl ?_
          refine wa_lsub ?_
          refine wa_goto ⟨_, rfl⟩ ?_
          refine wa_lstore_n (n := 3) rfl ?_
          refine wa_aload_n (n := 0) rfl ?_
          refine wa_dup (by decide) ?_
          refine wb_gfi 237 rfl (wy_pr rfl) wt_237 wf_15_8 (v := t) (h8) (fun r17 => ?_)
          refine wa_iconst ?_
          refine wa_iadd ?_
          refine wb_pfi 237 rfl (wy_pr rfl) wt_237 wf_15_8 (n := 8) rfl ⟨(by omega), (by omega)⟩ ?_
          refine wa_goto ⟨_, rfl⟩ ?_
          rw [if_pos gd] at he
          first | rw [if_pos (by omega)] at he | rw [if_neg (by omega)] at he
          exact wJ_S (ih (t + 1) _ _ (by omega) (by omega) (by omega) (by omega) he (lx_ag_up hag (by omega)) (w_up_same _ _ _ _) ((w_up_at (by decide)).trans h7) (by first | exact lx_p10s (by omega) (by omega) hv (by omega) | exact lx_p10t (by omega) hv)) ⟨rfl, rfl, trivial⟩
    · skip
      show wJ _ _ _ _ _ _ _ _ _ _
      have gd := g5
      refine wa_ifeq (w_rg0 (by omega) (by omega)) ⟨_, rfl⟩ (fun c18 => ?_) (fun c18 => ?_)
      · skip
        rw [if_neg (by rw [gd]; decide)] at he
        have e1 : t = e := congrArg Prod.fst he
        have e2 : v = u := congrArg Prod.snd he
        subst e2
        exact wJ_S (hk _ hag (h8.trans e1) h7 (by omega) ⟨hv.1, lx_p10u (by omega) hv⟩) ⟨rfl, rfl, trivial⟩
      · skip
        exact absurd c18 (by omega)
end W66
