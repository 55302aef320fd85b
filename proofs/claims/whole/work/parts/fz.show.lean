/-! PART fz: showNumber of the class. -/
section Wfz
variable {xs : List (Nat × List Int32)} {M : Nat → Prop} {d : Nat} {S Z A B : wS} {Q : wO → wS → Prop} {b : Bool} {e : Int} {l l2 : List Int}
/-- something has come ahead of what is shown -/
def shA (l : List Int) (e : Int) (S Z : wS) : Prop := Z 72 19 = e - (l.length : Int) ∧ (∀ k : Nat, k < l.length → Z 157 (e - (l.length : Int) + (k : Int)) = l.getD k 0) ∧ (∀ (j : Nat) (x : Int), (j ≠ 157 ∨ x < e - (l.length : Int) ∨ e ≤ x) → (j ≠ 72 ∨ x ≠ 19) → Z j x = S j x) ∧ gI Z ∧ rmR S Z
theorem shA_ap (h : shA l2 e S A) (g : shA l (e - (l2.length : Int)) A Z) : shA (l ++ l2) e S Z := by
  obtain ⟨h1, h2, h3, h4, h5⟩ := h
  obtain ⟨g1, g2, g3, g4, g5⟩ := g
  have ll : (l ++ l2).length = l.length + l2.length := List.length_append
  refine ⟨by rw [g1, ll]; omega, fun k hk => ?_, fun j x j0 j1 => (g3 j x (by omega) j1).trans (h3 j x (by omega) j1), g4, rmR_tr h5 g5⟩
  rw [ll] at hk ⊢
  by_cases c : k < l.length
  · rw [show e - ((l.length + l2.length : Nat) : Int) + (k : Int) = e - (l2.length : Int) - (l.length : Int) + (k : Int) by omega, g2 k c, List.getD_eq_getElem?_getD, List.getD_eq_getElem?_getD, List.getElem?_append_left c]
  · rw [show e - ((l.length + l2.length : Nat) : Int) + (k : Int) = e - (l2.length : Int) + ((k - l.length : Nat) : Int) by omega, g3 157 _ (Or.inr (Or.inr (by omega))) (Or.inl (by first | decide | omega)), h2 (k - l.length) (by omega), List.getD_eq_getElem?_getD, List.getD_eq_getElem?_getD, List.getElem?_append_right (by omega)]
theorem shA_1 {v w : Int} (hI : gI S) (he : 1 ≤ e) (hv : v = w) : shA [w] e S (w_up (w_up S 72 19 (e - 1)) 157 (e - 1) v) := by
  have l1 : (([w] : List Int).length : Int) = 1 := rfl
  refine ⟨by rw [l1]; exact (w_up_slot (by first | decide | omega)).trans (w_up_same _ _ _ _), fun k hk => ?_, fun j x j0 j1 => ?_, gI_up (gI_up hI (by first | decide | omega) (by first | decide | omega) (by first | decide | omega)) (by omega) (by first | decide | omega) (by first | decide | omega), rmR_up (rmR_up (rmR_rfl S) (by first | decide | omega) (by first | decide | omega)) (by omega) (by first | decide | omega)⟩
  · have k0 : k = 0 := by
      have : ([w] : List Int).length = 1 := rfl
      omega
    rw [k0, l1, show e - 1 + ((0 : Nat) : Int) = e - 1 by omega]
    exact (w_up_same _ _ _ _).trans hv
  · rw [l1] at j0
    exact (w_up_no (by omega)).trans (w_up_no (by omega))
theorem sgV_c (n : Nat) : sgV b n = (n : Int) ∨ sgV b n = -(n : Int) := by
  unfold sgV
  split
  · exact Or.inr rfl
  · exact Or.inl rfl
theorem l2d {n : Nat} (h : sgR b n) : wb_l2i (wb_lrem (sgV b n) 10) = sgV b (n % 10) := by
  have e : wb_lrem (sgV b n) 10 = sgV b (n % 10) := lr_s (m := 10) h ⟨by decide, by decide⟩
  rw [e]
  have := sgV_c (b := b) (n % 10)
  exact wb_l2i_id ⟨by omega, by omega⟩
set_option maxHeartbeats 4000000 in
theorem sn_b {num : Int} (hnum : -9223372036854775808 ≤ num ∧ num ≤ 9223372036854775807) : ∀ (f n : Nat) (e i : Int) (S : wS), i + (f : Int) = 19 → 0 ≤ i → n < 10 ^ (f + 1) → sgR b n → S 72 19 = e → (f : Int) + 1 ≤ e → e ≤ 64 → S 157 (-1) = 64 → gI S → (∀ (Z : wS) (r2 i2 : Int), shA (dgF (f + 1) n) e S Z → wJ (pe_GA xs) wY0 M (d + 1) t_XH_showNumber ((pe_at t_XH_showNumber.bl 3).getD (0, [])).2 [(0, (2, 72)), (1, (1, num)), (3, (1, r2)), (5, (0, i2))] [] Z Q) → wJ (pe_GA xs) wY0 M (d + 1) t_XH_showNumber ((pe_at t_XH_showNumber.bl 2).getD (0, [])).2 [(0, (2, 72)), (1, (1, num)), (3, (1, sgV b n)), (5, (0, i))] [] S Q := by
  intro f
  induction f with
  | zero =>
    intro n e i S hi i0 hn hr h19 he1 he2 h57 hI hk
    have hn10 : n < 10 := by rw [Nat.pow_one] at hn; exact hn
    have hd := sgV_c (b := b) (n % 10)
    have hq := sgV_c (b := b) (n / 10)
    have hr2 := sgR_le hr (Nat.div_le_self n 10)
    have hr3 : -9223372036854775808 ≤ sgV b (n / 10) ∧ sgV b (n / 10) ≤ 9223372036854775807 := hr2
    have hdv : wb_ldiv (sgV b n) 10 = sgV b (n / 10) := ld_s (m := 10) hr ⟨by decide, by decide⟩
    refine wa_aload_n (n := 0) rfl ?_
    refine wa_dup (by decide) ?_
    refine wb_gfi 72 rfl (wy_pr rfl) wt_72 wf_2_19 (v := e) (h19) (fun r1 => ?_)
    refine wa_iconst ?_
    refine wa_isub ?_
    refine wb_pfi 72 rfl (wy_pr rfl) wt_72 wf_2_19 (n := 19) rfl ⟨(by omega), (by omega)⟩ ?_
    refine wa_aload_n (n := 0) rfl ?_
    refine wb_gf4 72 rfl (wy_pr rfl) wt_72 wf_2_18 (v := 157) wl_72_18 ?_
    refine wa_aload_n (n := 0) rfl ?_
    refine wb_gfi 72 rfl (wy_pr rfl) wt_72 wf_2_19 (v := (e - 1)) (w_up_same _ _ _ _) (fun r2 => ?_)
    refine wa_bipush (w_rg2 (by omega) (by omega)) ?_
    refine wa_lload_n (n := 3) rfl ?_
    refine wb_kl (n := 10) rfl ?_
    refine wa_lrem (w_rg1 (by omega) (by omega)) (by omega) ?_
    refine wb_l2i_r (y := (sgV b (n % 10))) (l2d hr) ?_
    refine wa_cs (M2 := fun _ => False) rfl at_JM_abs ⟨_, rfl⟩ rfl rfl ⟨(Or.inr ⟨wy_pr rfl, fun q => q⟩), trivial, trivial, trivial, trivial⟩ ⟨trivial, trivial, (Or.inr ⟨wy_pr rfl, fun q => q⟩), trivial⟩ (fun _ _ q => False.elim q) ?_ (fun _ _ _ q => q)
    refine wa_iload_n (n := 0) rfl ?_
    refine wa_ifge (w_rg0 (by omega) (by omega)) ⟨_, rfl⟩ (fun c3 => ?_) (fun c3 => ?_)
    · skip
      refine wa_iload_n (n := 0) rfl ?_
      refine wa_fall ⟨_, rfl⟩ ?_
      refine wa_ireturn rfl ?_
      show wJ _ _ _ _ _ _ _ _ _ _
      refine wa_iadd ?_
      refine wb_i2b_r (wb_i2b_id ⟨(by omega), (by omega)⟩) ?_
      refine wb_bast 157 rfl (wy_pr rfl) wt_157 (n := 64) ((w_up_slot (by decide)).trans (h57)) (by omega) (by omega) ⟨(by omega), (by omega)⟩ ?_
      refine wa_lload_n (n := 3) rfl ?_
      refine wb_kl (n := 10) rfl ?_
      refine wa_ldiv (w_rg1 (by omega) (by omega)) (by omega) ?_
      rw [hdv]
      refine wa_lstore_n (n := 3) rfl ?_
      refine wa_iinc rfl rfl ?_
      refine wa_goto ⟨_, rfl⟩ ?_
      refine wa_iload (n := 5) rfl ?_
      refine wa_bipush (w_rg2 (by omega) (by omega)) ?_
      refine wa_icmpge (w_rg0 (by omega) (by omega)) (w_rg0 (by omega) (by omega)) ⟨_, rfl⟩ (fun c4 => ?_) (fun c4 => ?_)
      · skip
        have h1 : shA [48 + ((n % 10 : Nat) : Int)] e S (w_up (w_up S 72 19 (e - 1)) 157 (e - 1) (48 + (sgV b (n % 10)))) := shA_1 hI (by omega) (by omega)
        have e1 : dgF (0 + 1) n = [48 + ((n % 10 : Nat) : Int)] := by
          have hl : n < 10 := by omega
          rw [dgF_1 hl, Nat.mod_eq_of_lt hl]
        exact wJ_S (hk _ _ _ (by rw [e1]; exact h1)) ⟨rfl, rfl, rfl, rfl, trivial⟩
      · skip
        exfalso; omega
    · skip
      refine wa_iload_n (n := 0) rfl ?_
      refine wa_ineg ?_
      refine wa_goto ⟨_, rfl⟩ ?_
      refine wa_ireturn rfl ?_
      show wJ _ _ _ _ _ _ _ _ _ _
      refine wa_iadd ?_
      refine wb_i2b_r (wb_i2b_id ⟨(by omega), (by omega)⟩) ?_
      refine wb_bast 157 rfl (wy_pr rfl) wt_157 (n := 64) ((w_up_slot (by decide)).trans (h57)) (by omega) (by omega) ⟨(by omega), (by omega)⟩ ?_
      refine wa_lload_n (n := 3) rfl ?_
      refine wb_kl (n := 10) rfl ?_
      refine wa_ldiv (w_rg1 (by omega) (by omega)) (by omega) ?_
      rw [hdv]
      refine wa_lstore_n (n := 3) rfl ?_
      refine wa_iinc rfl rfl ?_
      refine wa_goto ⟨_, rfl⟩ ?_
      refine wa_iload (n := 5) rfl ?_
      refine wa_bipush (w_rg2 (by omega) (by omega)) ?_
      refine wa_icmpge (w_rg0 (by omega) (by omega)) (w_rg0 (by omega) (by omega)) ⟨_, rfl⟩ (fun c5 => ?_) (fun c5 => ?_)
      · skip
        have h1 : shA [48 + ((n % 10 : Nat) : Int)] e S (w_up (w_up S 72 19 (e - 1)) 157 (e - 1) (48 + (-(sgV b (n % 10))))) := shA_1 hI (by omega) (by omega)
        have e1 : dgF (0 + 1) n = [48 + ((n % 10 : Nat) : Int)] := by
          have hl : n < 10 := by omega
          rw [dgF_1 hl, Nat.mod_eq_of_lt hl]
        exact wJ_S (hk _ _ _ (by rw [e1]; exact h1)) ⟨rfl, rfl, rfl, rfl, trivial⟩
      · skip
        exfalso; omega
  | succ f ih =>
    intro n e i S hi i0 hn hr h19 he1 he2 h57 hI hk
    have hn2 : n / 10 < 10 ^ (f + 1) := by
      have e2 : 10 ^ (f + 1 + 1) = 10 ^ (f + 1) * 10 := Nat.pow_succ 10 (f + 1)
      omega
    have hd := sgV_c (b := b) (n % 10)
    have hq := sgV_c (b := b) (n / 10)
    have hr2 := sgR_le hr (Nat.div_le_self n 10)
    have hr3 : -9223372036854775808 ≤ sgV b (n / 10) ∧ sgV b (n / 10) ≤ 9223372036854775807 := hr2
    have hdv : wb_ldiv (sgV b n) 10 = sgV b (n / 10) := ld_s (m := 10) hr ⟨by decide, by decide⟩
    refine wa_aload_n (n := 0) rfl ?_
    refine wa_dup (by decide) ?_
    refine wb_gfi 72 rfl (wy_pr rfl) wt_72 wf_2_19 (v := e) (h19) (fun r101 => ?_)
    refine wa_iconst ?_
    refine wa_isub ?_
    refine wb_pfi 72 rfl (wy_pr rfl) wt_72 wf_2_19 (n := 19) rfl ⟨(by omega), (by omega)⟩ ?_
    refine wa_aload_n (n := 0) rfl ?_
    refine wb_gf4 72 rfl (wy_pr rfl) wt_72 wf_2_18 (v := 157) wl_72_18 ?_
    refine wa_aload_n (n := 0) rfl ?_
    refine wb_gfi 72 rfl (wy_pr rfl) wt_72 wf_2_19 (v := (e - 1)) (w_up_same _ _ _ _) (fun r102 => ?_)
    refine wa_bipush (w_rg2 (by omega) (by omega)) ?_
    refine wa_lload_n (n := 3) rfl ?_
    refine wb_kl (n := 10) rfl ?_
    refine wa_lrem (w_rg1 (by omega) (by omega)) (by omega) ?_
    refine wb_l2i_r (y := (sgV b (n % 10))) (l2d hr) ?_
    refine wa_cs (M2 := fun _ => False) rfl at_JM_abs ⟨_, rfl⟩ rfl rfl ⟨(Or.inr ⟨wy_pr rfl, fun q => q⟩), trivial, trivial, trivial, trivial⟩ ⟨trivial, trivial, (Or.inr ⟨wy_pr rfl, fun q => q⟩), trivial⟩ (fun _ _ q => False.elim q) ?_ (fun _ _ _ q => q)
    refine wa_iload_n (n := 0) rfl ?_
    refine wa_ifge (w_rg0 (by omega) (by omega)) ⟨_, rfl⟩ (fun c103 => ?_) (fun c103 => ?_)
    · skip
      refine wa_iload_n (n := 0) rfl ?_
      refine wa_fall ⟨_, rfl⟩ ?_
      refine wa_ireturn rfl ?_
      show wJ _ _ _ _ _ _ _ _ _ _
      refine wa_iadd ?_
      refine wb_i2b_r (wb_i2b_id ⟨(by omega), (by omega)⟩) ?_
      refine wb_bast 157 rfl (wy_pr rfl) wt_157 (n := 64) ((w_up_slot (by decide)).trans (h57)) (by omega) (by omega) ⟨(by omega), (by omega)⟩ ?_
      refine wa_lload_n (n := 3) rfl ?_
      refine wb_kl (n := 10) rfl ?_
      refine wa_ldiv (w_rg1 (by omega) (by omega)) (by omega) ?_
      rw [hdv]
      refine wa_lstore_n (n := 3) rfl ?_
      refine wa_iinc rfl rfl ?_
      refine wa_goto ⟨_, rfl⟩ ?_
      refine wa_iload (n := 5) rfl ?_
      refine wa_bipush (w_rg2 (by omega) (by omega)) ?_
      refine wa_icmpge (w_rg0 (by omega) (by omega)) (w_rg0 (by omega) (by omega)) ⟨_, rfl⟩ (fun c104 => ?_) (fun c104 => ?_)
      · skip
        exfalso; omega
      · skip
        refine wa_iload (n := 5) rfl ?_
        refine wa_ifeq (w_rg0 (by omega) (by omega)) ⟨_, rfl⟩ (fun c105 => ?_) (fun c105 => ?_)
        · skip
          exfalso; omega
        · skip
          refine wa_lload_n (n := 3) rfl ?_
          refine wb_lconst (m := 0) rfl ?_
          refine wa_lcmp (w_rg1 (by omega) (by omega)) (w_rg1 (by omega) (by omega)) ?_
          refine wa_ifeq (by have := @wb_lcmp_cases; exact w_lcmp_rg) ⟨_, rfl⟩ (fun c106 => ?_) (fun c106 => ?_)
          · skip
            have c106x := @wb_lcmp_cases (sgV b (n / 10)) 0
            have h1 : shA [48 + ((n % 10 : Nat) : Int)] e S (w_up (w_up S 72 19 (e - 1)) 157 (e - 1) (48 + (sgV b (n % 10)))) := shA_1 hI (by omega) (by omega)
            have e1 : dgF (f + 1 + 1) n = [48 + ((n % 10 : Nat) : Int)] := by
              have hl : n < 10 := by omega
              rw [dgF_1 hl, Nat.mod_eq_of_lt hl]
            exact wJ_S (hk _ _ _ (by rw [e1]; exact h1)) ⟨rfl, rfl, rfl, rfl, trivial⟩
          · skip
            have c106x := @wb_lcmp_cases (sgV b (n / 10)) 0
            refine wa_fall ⟨_, rfl⟩ ?_
            have h1 : shA [48 + ((n % 10 : Nat) : Int)] e S (w_up (w_up S 72 19 (e - 1)) 157 (e - 1) (48 + (sgV b (n % 10)))) := shA_1 hI (by omega) (by omega)
            have e1 : dgF (f + 1 + 1) n = dgF (f + 1) (n / 10) ++ [48 + ((n % 10 : Nat) : Int)] := dgF_n (by omega)
            exact wJ_S (ih (n / 10) (e - 1) (i + 1) (w_up (w_up S 72 19 (e - 1)) 157 (e - 1) (48 + (sgV b (n % 10)))) (by omega) (by omega) hn2 hr2 ((w_up_slot (by first | decide | omega)).trans (w_up_same _ _ _ _)) (by omega) (by omega) ((w_up_at (by omega)).trans ((w_up_slot (by first | decide | omega)).trans h57)) h1.2.2.2.1 (fun Z r2 i2 hz => hk Z r2 i2 (by rw [e1]; exact shA_ap h1 hz))) ⟨rfl, rfl, rfl, rfl, trivial⟩
    · skip
      refine wa_iload_n (n := 0) rfl ?_
      refine wa_ineg ?_
      refine wa_goto ⟨_, rfl⟩ ?_
      refine wa_ireturn rfl ?_
      show wJ _ _ _ _ _ _ _ _ _ _
      refine wa_iadd ?_
      refine wb_i2b_r (wb_i2b_id ⟨(by omega), (by omega)⟩) ?_
      refine wb_bast 157 rfl (wy_pr rfl) wt_157 (n := 64) ((w_up_slot (by decide)).trans (h57)) (by omega) (by omega) ⟨(by omega), (by omega)⟩ ?_
      refine wa_lload_n (n := 3) rfl ?_
      refine wb_kl (n := 10) rfl ?_
      refine wa_ldiv (w_rg1 (by omega) (by omega)) (by omega) ?_
      rw [hdv]
      refine wa_lstore_n (n := 3) rfl ?_
      refine wa_iinc rfl rfl ?_
      refine wa_goto ⟨_, rfl⟩ ?_
      refine wa_iload (n := 5) rfl ?_
      refine wa_bipush (w_rg2 (by omega) (by omega)) ?_
      refine wa_icmpge (w_rg0 (by omega) (by omega)) (w_rg0 (by omega) (by omega)) ⟨_, rfl⟩ (fun c107 => ?_) (fun c107 => ?_)
      · skip
        exfalso; omega
      · skip
        refine wa_iload (n := 5) rfl ?_
        refine wa_ifeq (w_rg0 (by omega) (by omega)) ⟨_, rfl⟩ (fun c108 => ?_) (fun c108 => ?_)
        · skip
          exfalso; omega
        · skip
          refine wa_lload_n (n := 3) rfl ?_
          refine wb_lconst (m := 0) rfl ?_
          refine wa_lcmp (w_rg1 (by omega) (by omega)) (w_rg1 (by omega) (by omega)) ?_
          refine wa_ifeq (by have := @wb_lcmp_cases; exact w_lcmp_rg) ⟨_, rfl⟩ (fun c109 => ?_) (fun c109 => ?_)
          · skip
            have c109x := @wb_lcmp_cases (sgV b (n / 10)) 0
            have h1 : shA [48 + ((n % 10 : Nat) : Int)] e S (w_up (w_up S 72 19 (e - 1)) 157 (e - 1) (48 + (-(sgV b (n % 10))))) := shA_1 hI (by omega) (by omega)
            have e1 : dgF (f + 1 + 1) n = [48 + ((n % 10 : Nat) : Int)] := by
              have hl : n < 10 := by omega
              rw [dgF_1 hl, Nat.mod_eq_of_lt hl]
            exact wJ_S (hk _ _ _ (by rw [e1]; exact h1)) ⟨rfl, rfl, rfl, rfl, trivial⟩
          · skip
            have c109x := @wb_lcmp_cases (sgV b (n / 10)) 0
            refine wa_fall ⟨_, rfl⟩ ?_
            have h1 : shA [48 + ((n % 10 : Nat) : Int)] e S (w_up (w_up S 72 19 (e - 1)) 157 (e - 1) (48 + (-(sgV b (n % 10))))) := shA_1 hI (by omega) (by omega)
            have e1 : dgF (f + 1 + 1) n = dgF (f + 1) (n / 10) ++ [48 + ((n % 10 : Nat) : Int)] := dgF_n (by omega)
            exact wJ_S (ih (n / 10) (e - 1) (i + 1) (w_up (w_up S 72 19 (e - 1)) 157 (e - 1) (48 + (-(sgV b (n % 10))))) (by omega) (by omega) hn2 hr2 ((w_up_slot (by first | decide | omega)).trans (w_up_same _ _ _ _)) (by omega) (by omega) ((w_up_at (by omega)).trans ((w_up_slot (by first | decide | omega)).trans h57)) h1.2.2.2.1 (fun Z r2 i2 hz => hk Z r2 i2 (by rw [e1]; exact shA_ap h1 hz))) ⟨rfl, rfl, rfl, rfl, trivial⟩
theorem sn_ok {v : Int} (hv : -9223372036854775808 ≤ v ∧ v ≤ 9223372036854775807) (h19 : S 72 19 = e) (he : 21 ≤ e ∧ e ≤ 64) (h57 : S 157 (-1) = 64) (hI : gI S) : wJ (pe_GA xs) wY0 M (d + 1) t_XH_showNumber ((pe_at t_XH_showNumber.bl 0).getD (0, [])).2 [(0, (2, 72)), (1, (1, v))] [] S (fun o Z => o = .inl none ∧ shA (shN v) e S Z) := by
  have hs := sgV_of v
  have hr : sgR (decide (v < 0)) v.natAbs := by
    show -9223372036854775808 ≤ sgV (decide (v < 0)) v.natAbs ∧ sgV (decide (v < 0)) v.natAbs ≤ 9223372036854775807
    rw [← hs]; exact hv
  have hn : v.natAbs < 10 ^ (19 + 1) := by
    have : (10 : Nat) ^ (19 + 1) = 100000000000000000000 := rfl
    omega
  refine wa_lload_n (n := 1) rfl ?_
  refine wa_lstore_n (n := 3) rfl ?_
  refine wa_iconst ?_
  refine wa_istore (n := 5) rfl ?_
  refine wa_fall ⟨_, rfl⟩ ?_
  refine wa_iload (n := 5) rfl ?_
  refine wa_bipush (w_rg2 (by omega) (by omega)) ?_
  refine wa_icmpge (w_rg0 (by omega) (by omega)) (w_rg0 (by omega) (by omega)) ⟨_, rfl⟩ (fun c201 => ?_) (fun c201 => ?_)
  · skip
    exact absurd c201 (by omega)
  · skip
    refine wa_iload (n := 5) rfl ?_
    refine wa_ifeq (w_rg0 (by omega) (by omega)) ⟨_, rfl⟩ (fun c202 => ?_) (fun c202 => ?_)
    · skip
      refine wJ_S (L2 := [(0, (2, 72)), (1, (1, v)), (3, (1, sgV (decide (v < 0)) v.natAbs)), (5, (0, 0))]) (sn_b hv 19 v.natAbs e 0 S (by first | decide | omega) (by first | decide | omega) hn hr h19 (by omega) (by omega) h57 hI (fun Z1 r2 i2 hz => ?_)) ⟨rfl, rfl, (by rw [← hs]; rfl), rfl, trivial⟩
      have hl := dgF_len 20 v.natAbs
      replace hz : shA (dgF 20 v.natAbs) e S Z1 := hz
      obtain ⟨z1, z2, z3, z4, z5⟩ := id hz
      have z57 : Z1 157 (-1) = 64 := (z3 157 (-1) (Or.inr (Or.inl (by omega))) (Or.inl (by first | decide | omega))).trans h57
      refine wa_lload_n (n := 1) rfl ?_
      refine wb_lconst (m := 0) rfl ?_
      refine wa_lcmp (w_rg1 (by omega) (by omega)) (w_rg1 (by omega) (by omega)) ?_
      refine wa_ifge (by have := @wb_lcmp_cases; exact w_lcmp_rg) ⟨_, rfl⟩ (fun c203 => ?_) (fun c203 => ?_)
      · skip
        have c203x := @wb_lcmp_cases v 0
        refine wa_return rfl ?_
        refine ⟨rfl, ?_⟩
        have es : shN v = dgF 20 v.natAbs := by unfold shN; rw [if_neg (by omega)]; rfl
        rw [es]
        exact hz
      · skip
        have c203x := @wb_lcmp_cases v 0
        refine wa_aload_n (n := 0) rfl ?_
        refine wa_dup (by decide) ?_
        refine wb_gfi 72 rfl (wy_pr rfl) wt_72 wf_2_19 (v := (e - ((dgF 20 v.natAbs).length : Int))) (z1) (fun r204 => ?_)
        refine wa_iconst ?_
        refine wa_isub ?_
        refine wb_pfi 72 rfl (wy_pr rfl) wt_72 wf_2_19 (n := 19) rfl ⟨(by omega), (by omega)⟩ ?_
        refine wa_aload_n (n := 0) rfl ?_
        refine wb_gf4 72 rfl (wy_pr rfl) wt_72 wf_2_18 (v := 157) wl_72_18 ?_
        refine wa_aload_n (n := 0) rfl ?_
        refine wb_gfi 72 rfl (wy_pr rfl) wt_72 wf_2_19 (v := ((e - ((dgF 20 v.natAbs).length : Int)) - 1)) (w_up_same _ _ _ _) (fun r205 => ?_)
        refine wa_bipush (w_rg2 (by omega) (by omega)) ?_
        refine wb_bast 157 rfl (wy_pr rfl) wt_157 (n := 64) ((w_up_slot (by decide)).trans (z57)) (by omega) (by omega) ⟨(by omega), (by omega)⟩ ?_
        refine wa_fall ⟨_, rfl⟩ ?_
        refine wa_return rfl ?_
        refine ⟨rfl, ?_⟩
        have es : shN v = [45] ++ dgF 20 v.natAbs := by unfold shN; rw [if_pos (by omega)]
        rw [es]
        exact shA_ap hz (shA_1 z4 (by omega) rfl)
    · skip
      exact absurd c202 (by omega)
end Wfz
