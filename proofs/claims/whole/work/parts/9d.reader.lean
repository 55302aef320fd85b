/-! PART 9d: the class's Reader: signs, blanks, add. -/
section W9d
variable {xs : List (Nat × List Int32)} {M : Nat → Prop} {d : Nat} {A S : wS} {Q : wO → wS → Prop} {T : Int → Int} {n : Int}
/-- the reader stands on the text T of n signs -/
def rd_B (T : Int → Int) (n : Int) (S : wS) : Prop := S 14 5 = 1 ∧ S 14 6 = n ∧ (0 ≤ n ∧ n ≤ 65536) ∧ n ≤ S 1 (-1) ∧ S 1 (-1) ≤ 2147483647 ∧ (∀ i : Int, 0 ≤ i → i < n → S 1 i = T i) ∧ ∀ i : Int, 0 ≤ i → i < n → T i = 10 ∨ (32 ≤ T i ∧ T i ≤ 126)
theorem lx_go_n (T : Int → Int) (n : Int) : lx_go T n n = n := by
  unfold lx_go
  rw [lx_bl_s]
  have : lx_at T n n = 0 := if_neg (by omega)
  rw [this, if_neg (by omega), if_neg (by omega)]
theorem lx_bl_fu (T : Int → Int) (n : Int) : ∀ (f g : Nat) (t : Int), (n - t).toNat < f → (n - t).toNat < g → t ≤ n → lx_bl T n f t = lx_bl T n g t := by
  intro f
  induction f with
  | zero => intro g t h; exact absurd h (Nat.not_lt_zero _)
  | succ f ih =>
    intro g t hf hg ht
    cases g with
    | zero => exact absurd hg (Nat.not_lt_zero _)
    | succ g =>
      rw [lx_bl_s, lx_bl_s]
      by_cases h1 : lx_at T n t = 32 ∨ lx_at T n t = 10
      · have := lx_at_lt (T := T) (n := n) (k := t) (by omega)
        rw [if_pos h1, if_pos h1, ih g (t + 1) (by omega) (by omega) (by omega)]
      · rw [if_neg h1, if_neg h1]
        by_cases h2 : lx_at T n t = 47 ∧ lx_at T n (t + 1) = 47
        · have h3 := lx_at_lt (T := T) (n := n) (k := t) (by omega)
          have h4 := lx_cm_ge T n (n - t).toNat (t + 1) (by omega)
          have h5 : lx_cm T n (n - t + 1).toNat t = lx_cm T n (n - t).toNat (t + 1) := by
            have h6 : T t ≠ 10 := by have := lx_at_in (T := T) h3; omega
            rw [show (n - t + 1).toNat = (n - t).toNat + 1 by omega, lx_cm_s, if_pos ⟨h3, h6⟩]
          rw [if_pos h2, if_pos h2, h5, ih g _ (by omega) (by omega) (by omega)]
        · rw [if_neg h2, if_neg h2]
theorem lx_cm_fu (T : Int → Int) (n : Int) : ∀ (f g : Nat) (t : Int), (n - t).toNat < f → (n - t).toNat < g → lx_cm T n f t = lx_cm T n g t := by
  intro f
  induction f with
  | zero => intro g t h; exact absurd h (Nat.not_lt_zero _)
  | succ f ih =>
    intro g t hf hg
    cases g with
    | zero => exact absurd hg (Nat.not_lt_zero _)
    | succ g =>
      rw [lx_cm_s, lx_cm_s]
      by_cases h1 : t < n ∧ T t ≠ 10
      · rw [if_pos h1, if_pos h1, ih g (t + 1) (by omega) (by omega)]
      · rw [if_neg h1, if_neg h1]
/-- to the end of a comment -/
def lx_ce (T : Int → Int) (n t : Int) : Int := lx_cm T n ((n - t).toNat + 1) t
theorem lx_ce_s {T : Int → Int} {n t : Int} (h : t < n) (h1 : T t ≠ 10) : lx_ce T n t = lx_ce T n (t + 1) := by
  unfold lx_ce
  rw [lx_cm_s, if_pos ⟨h, h1⟩]
  exact lx_cm_fu T n _ _ _ (by omega) (by omega)
theorem lx_ce_10 {T : Int → Int} {n t : Int} (h1 : T t = 10) : lx_ce T n t = t := by
  unfold lx_ce
  rw [lx_cm_s, if_neg (fun q => q.2 h1)]
theorem lx_ce_n {T : Int → Int} {n t : Int} (h1 : n ≤ t) : lx_ce T n t = t := by
  unfold lx_ce
  rw [lx_cm_s, if_neg (fun q => by omega)]
theorem lx_go_b {T : Int → Int} {n t : Int} (h : t < n) (h1 : T t = 32 ∨ T t = 10) : lx_go T n t = lx_go T n (t + 1) := by
  unfold lx_go
  rw [lx_bl_s, lx_at_in h, if_pos h1]
  exact lx_bl_fu T n _ _ _ (by omega) (by omega) (by omega)
theorem lx_go_c {T : Int → Int} {n t : Int} (h : t < n) (h1 : T t = 47) (h2 : lx_at T n (t + 1) = 47) : lx_go T n t = lx_go T n (lx_ce T n (t + 1)) := by
  have h4 := lx_cm_ge T n ((n - (t + 1)).toNat + 1) (t + 1) (by omega)
  unfold lx_go
  rw [lx_bl_s, lx_at_in h, if_neg (by omega), if_pos ⟨h1, h2⟩, show (n - t + 1).toNat = (n - t).toNat + 1 by omega, lx_cm_s, if_pos ⟨h, by omega⟩, lx_cm_fu T n _ ((n - (t + 1)).toNat + 1) (t + 1) (by omega) (by omega)]
  show lx_bl T n (n - t).toNat (lx_ce T n (t + 1)) = _
  have h5 : t + 1 ≤ lx_ce T n (t + 1) ∧ lx_ce T n (t + 1) ≤ n := h4
  exact lx_bl_fu T n _ _ _ (by omega) (by omega) (by omega)
theorem lx_go_e {T : Int → Int} {n t : Int} (h : t < n) (h1 : T t ≠ 32 ∧ T t ≠ 10) (h2 : ¬ (T t = 47 ∧ lx_at T n (t + 1) = 47)) : lx_go T n t = t := by
  unfold lx_go
  rw [lx_bl_s, lx_at_in h, if_neg (by omega), if_neg h2]
theorem xdi_ok {c : Int} (hc : -2147483648 ≤ c ∧ c ≤ 2147483647) : wJ (pe_GA xs) wY0 M d t_X_isDigit ((pe_at t_X_isDigit.bl 0).getD (0, [])).2 [(0, (0, c))] [] S (fun o S2 => S = S2 ∧ ((o = .inl (some (0, 1)) ∧ lx_di c = true) ∨ (o = .inl (some (0, 0)) ∧ lx_di c = false))) := by
  refine wa_iload_n (n := 0) rfl ?_
  refine wa_bipush (w_rg2 (by omega) (by omega)) ?_
  refine wa_icmplt (w_rg0 (by omega) (by omega)) (w_rg0 (by omega) (by omega)) ⟨_, rfl⟩ (fun c1 => ?_) (fun c1 => ?_)
  · skip
    refine wa_iconst ?_
    refine wa_fall ⟨_, rfl⟩ ?_
    refine wa_zreturn rfl (Or.inl rfl) ?_
    exact ⟨rfl, Or.inr ⟨rfl, decide_eq_false (by omega)⟩⟩
  · skip
    refine wa_iload_n (n := 0) rfl ?_
    refine wa_bipush (w_rg2 (by omega) (by omega)) ?_
    refine wa_icmpgt (w_rg0 (by omega) (by omega)) (w_rg0 (by omega) (by omega)) ⟨_, rfl⟩ (fun c2 => ?_) (fun c2 => ?_)
    · skip
      refine wa_iconst ?_
      refine wa_fall ⟨_, rfl⟩ ?_
      refine wa_zreturn rfl (Or.inl rfl) ?_
      exact ⟨rfl, Or.inr ⟨rfl, decide_eq_false (by omega)⟩⟩
    · skip
      refine wa_iconst ?_
      refine wa_goto ⟨_, rfl⟩ ?_
      refine wa_zreturn rfl (Or.inr rfl) ?_
      exact ⟨rfl, Or.inl ⟨rfl, decide_eq_true (by omega)⟩⟩
theorem xle_ok {c : Int} (hc : -2147483648 ≤ c ∧ c ≤ 2147483647) : wJ (pe_GA xs) wY0 M (d + 1) t_X_beginsName ((pe_at t_X_beginsName.bl 0).getD (0, [])).2 [(0, (0, c))] [] S (fun o S2 => S = S2 ∧ ((o = .inl (some (0, 1)) ∧ lx_le c = true) ∨ (o = .inl (some (0, 0)) ∧ lx_le c = false))) := by
  refine wa_iload_n (n := 0) rfl ?_
  refine wa_cs (M2 := fun _ => False) rfl at_X_isCapital ⟨_, rfl⟩ rfl rfl ⟨trivial, trivial⟩ trivial (fun _ _ q => False.elim q) ?_ (fun _ _ _ q => q)
  refine wa_iload_n (n := 0) rfl ?_
  refine wa_bipush (w_rg2 (by omega) (by omega)) ?_
  refine wa_icmplt (w_rg0 (by omega) (by omega)) (w_rg0 (by omega) (by omega)) ⟨_, rfl⟩ (fun c1 => ?_) (fun c1 => ?_)
  · skip
    refine wa_iconst ?_
    refine wa_fall ⟨_, rfl⟩ ?_
    refine wa_zreturn rfl (Or.inl rfl) ?_
    show wJ _ _ _ _ _ _ _ _ _ _
    refine wa_ifne (w_rg0 (by omega) (by omega)) ⟨_, rfl⟩ (fun c2 => ?_) (fun c2 => ?_)
    · skip
      exact absurd c2 (by omega)
    · skip
      refine wa_iload_n (n := 0) rfl ?_
      refine wa_cs (M2 := fun _ => False) rfl at_X_isSmall ⟨_, rfl⟩ rfl rfl ⟨trivial, trivial⟩ trivial (fun _ _ q => False.elim q) ?_ (fun _ _ _ q => q)
      refine wa_iload_n (n := 0) rfl ?_
      refine wa_bipush (w_rg2 (by omega) (by omega)) ?_
      refine wa_icmplt (w_rg0 (by omega) (by omega)) (w_rg0 (by omega) (by omega)) ⟨_, rfl⟩ (fun c3 => ?_) (fun c3 => ?_)
      · skip
        refine wa_iconst ?_
        refine wa_fall ⟨_, rfl⟩ ?_
        refine wa_zreturn rfl (Or.inl rfl) ?_
        show wJ _ _ _ _ _ _ _ _ _ _
        refine wa_ifne (w_rg0 (by omega) (by omega)) ⟨_, rfl⟩ (fun c4 => ?_) (fun c4 => ?_)
        · skip
          exact absurd c4 (by omega)
        · skip
          refine wa_iload_n (n := 0) rfl ?_
          refine wa_bipush (w_rg2 (by omega) (by omega)) ?_
          refine wa_icmpne (w_rg0 (by omega) (by omega)) (w_rg0 (by omega) (by omega)) ⟨_, rfl⟩ (fun c5 => ?_) (fun c5 => ?_)
          · skip
            refine wa_iconst ?_
            refine wa_fall ⟨_, rfl⟩ ?_
            refine wa_zreturn rfl (Or.inl rfl) ?_
            exact ⟨rfl, Or.inr ⟨rfl, decide_eq_false (by omega)⟩⟩
          · skip
            exact absurd c5 (by omega)
      · skip
        exact absurd c3 (by omega)
  · skip
    refine wa_iload_n (n := 0) rfl ?_
    refine wa_bipush (w_rg2 (by omega) (by omega)) ?_
    refine wa_icmpgt (w_rg0 (by omega) (by omega)) (w_rg0 (by omega) (by omega)) ⟨_, rfl⟩ (fun c6 => ?_) (fun c6 => ?_)
    · skip
      refine wa_iconst ?_
      refine wa_fall ⟨_, rfl⟩ ?_
      refine wa_zreturn rfl (Or.inl rfl) ?_
      show wJ _ _ _ _ _ _ _ _ _ _
      refine wa_ifne (w_rg0 (by omega) (by omega)) ⟨_, rfl⟩ (fun c7 => ?_) (fun c7 => ?_)
      · skip
        exact absurd c7 (by omega)
      · skip
        refine wa_iload_n (n := 0) rfl ?_
        refine wa_cs (M2 := fun _ => False) rfl at_X_isSmall ⟨_, rfl⟩ rfl rfl ⟨trivial, trivial⟩ trivial (fun _ _ q => False.elim q) ?_ (fun _ _ _ q => q)
        refine wa_iload_n (n := 0) rfl ?_
        refine wa_bipush (w_rg2 (by omega) (by omega)) ?_
        refine wa_icmplt (w_rg0 (by omega) (by omega)) (w_rg0 (by omega) (by omega)) ⟨_, rfl⟩ (fun c8 => ?_) (fun c8 => ?_)
        · skip
          refine wa_iconst ?_
          refine wa_fall ⟨_, rfl⟩ ?_
          refine wa_zreturn rfl (Or.inl rfl) ?_
          show wJ _ _ _ _ _ _ _ _ _ _
          refine wa_ifne (w_rg0 (by omega) (by omega)) ⟨_, rfl⟩ (fun c9 => ?_) (fun c9 => ?_)
          · skip
            exact absurd c9 (by omega)
          · skip
            refine wa_iload_n (n := 0) rfl ?_
            refine wa_bipush (w_rg2 (by omega) (by omega)) ?_
            refine wa_icmpne (w_rg0 (by omega) (by omega)) (w_rg0 (by omega) (by omega)) ⟨_, rfl⟩ (fun c10 => ?_) (fun c10 => ?_)
            · skip
              refine wa_iconst ?_
              refine wa_fall ⟨_, rfl⟩ ?_
              refine wa_zreturn rfl (Or.inl rfl) ?_
              exact ⟨rfl, Or.inr ⟨rfl, decide_eq_false (by omega)⟩⟩
            · skip
              refine wa_fall ⟨_, rfl⟩ ?_
              refine wa_iconst ?_
              refine wa_goto ⟨_, rfl⟩ ?_
              refine wa_zreturn rfl (Or.inr rfl) ?_
              exact ⟨rfl, Or.inl ⟨rfl, decide_eq_true (by omega)⟩⟩
        · skip
          refine wa_iload_n (n := 0) rfl ?_
          refine wa_bipush (w_rg2 (by omega) (by omega)) ?_
          refine wa_icmpgt (w_rg0 (by omega) (by omega)) (w_rg0 (by omega) (by omega)) ⟨_, rfl⟩ (fun c11 => ?_) (fun c11 => ?_)
          · skip
            refine wa_iconst ?_
            refine wa_fall ⟨_, rfl⟩ ?_
            refine wa_zreturn rfl (Or.inl rfl) ?_
            show wJ _ _ _ _ _ _ _ _ _ _
            refine wa_ifne (w_rg0 (by omega) (by omega)) ⟨_, rfl⟩ (fun c12 => ?_) (fun c12 => ?_)
            · skip
              exact absurd c12 (by omega)
            · skip
              refine wa_iload_n (n := 0) rfl ?_
              refine wa_bipush (w_rg2 (by omega) (by omega)) ?_
              refine wa_icmpne (w_rg0 (by omega) (by omega)) (w_rg0 (by omega) (by omega)) ⟨_, rfl⟩ (fun c13 => ?_) (fun c13 => ?_)
              · skip
                refine wa_iconst ?_
                refine wa_fall ⟨_, rfl⟩ ?_
                refine wa_zreturn rfl (Or.inl rfl) ?_
                exact ⟨rfl, Or.inr ⟨rfl, decide_eq_false (by omega)⟩⟩
              · skip
                exact absurd c13 (by omega)
          · skip
            refine wa_iconst ?_
            refine wa_goto ⟨_, rfl⟩ ?_
            refine wa_zreturn rfl (Or.inr rfl) ?_
            show wJ _ _ _ _ _ _ _ _ _ _
            refine wa_ifne (w_rg0 (by omega) (by omega)) ⟨_, rfl⟩ (fun c14 => ?_) (fun c14 => ?_)
            · skip
              refine wa_iconst ?_
              refine wa_goto ⟨_, rfl⟩ ?_
              refine wa_zreturn rfl (Or.inr rfl) ?_
              exact ⟨rfl, Or.inl ⟨rfl, decide_eq_true (by omega)⟩⟩
            · skip
              exact absurd c14 (by omega)
    · skip
      refine wa_iconst ?_
      refine wa_goto ⟨_, rfl⟩ ?_
      refine wa_zreturn rfl (Or.inr rfl) ?_
      show wJ _ _ _ _ _ _ _ _ _ _
      refine wa_ifne (w_rg0 (by omega) (by omega)) ⟨_, rfl⟩ (fun c15 => ?_) (fun c15 => ?_)
      · skip
        refine wa_iconst ?_
        refine wa_goto ⟨_, rfl⟩ ?_
        refine wa_zreturn rfl (Or.inr rfl) ?_
        exact ⟨rfl, Or.inl ⟨rfl, decide_eq_true (by omega)⟩⟩
      · skip
        exact absurd c15 (by omega)
theorem sa_ok {k : Int} (hB : rd_B T n S) (hk : 0 ≤ k ∧ k ≤ 2147483647) : wJ (pe_GA xs) wY0 M d t_XR_signAt ((pe_at t_XR_signAt.bl 0).getD (0, [])).2 [(0, (2, 14)), (1, (0, k))] [] S (fun o S2 => S = S2 ∧ o = .inl (some (0, lx_at T n k))) := by
  have hn := hB.2.2.1
  have hn1 := hB.2.2.2.1
  refine wa_iload_n (n := 1) rfl ?_
  refine wa_aload_n (n := 0) rfl ?_
  refine wb_gfi 14 rfl (wy_pr rfl) wt_14 wf_6_6 (v := n) (hB.2.1) (fun r1 => ?_)
  refine wa_icmpge (w_rg0 (by omega) (by omega)) (w_rg0 (by omega) (by omega)) ⟨_, rfl⟩ (fun c2 => ?_) (fun c2 => ?_)
  · skip
    refine wa_iconst ?_
    refine wa_fall ⟨_, rfl⟩ ?_
    refine wa_ireturn rfl ?_
    refine ⟨rfl, congrArg (fun z => Sum.inl (some (0, z))) ?_⟩
    exact (if_neg (by omega)).symm
  · skip
    refine wa_aload_n (n := 0) rfl ?_
    refine wb_gf6 14 rfl (wy_pr rfl) wt_14 wf_6_5 (v := 1) (hB.1) (by decide) ?_
    refine wa_iload_n (n := 1) rfl ?_
    refine wb_bald 1 rfl (wy_pr rfl) wt_1 (n := (S 1 (-1))) rfl (by omega) (by omega) (v := (T k)) ((hB.2.2.2.2.2.1 k (by omega) (by omega))) (fun r3 => ?_)
    refine wa_goto ⟨_, rfl⟩ ?_
    refine wa_ireturn rfl ?_
    refine ⟨rfl, congrArg (fun z => Sum.inl (some (0, z))) ?_⟩
    exact (if_pos (by omega)).symm
theorem lx_at_rg {k : Int} (hB : rd_B T n S) (hk : 0 ≤ k) : lx_at T n k = 0 ∨ lx_at T n k = 10 ∨ (32 ≤ lx_at T n k ∧ lx_at T n k ≤ 126) := by
  unfold lx_at
  split
  · rename_i h
    have := hB.2.2.2.2.2.2 k hk h
    omega
  · exact Or.inl rfl
theorem bb_l {p : Int} (hB : rd_B T n S) : ∀ (f : Nat) (i cm : Int), (n - i).toNat < f → 0 ≤ i → i ≤ n → (cm = 0 ∨ cm = 1) → (cm = 0 → lx_go T n i = lx_go T n p) → (cm = 1 → lx_go T n (lx_ce T n i) = lx_go T n p) → wJ (pe_GA xs) wY0 M (d + 1) t_XR_behindBlanks ((pe_at t_XR_behindBlanks.bl 1).getD (0, [])).2 [(0, (2, 14)), (2, (0, cm)), (3, (0, i))] [] S (fun o S2 => S = S2 ∧ o = .inl (some (0, lx_go T n p))) := by
  intro f
  induction f with
  | zero => intro i cm h; exact absurd h (Nat.not_lt_zero _)
  | succ f ih =>
    intro i cm hf hi0 hi1 hcm h0 h1
    have hn := hB.2.2.1
    have hn1 := hB.2.2.2.1
    have hr := hB.2.2.2.2.2.2 i hi0
    have hr2 := lx_at_rg (k := i + 1) hB (by omega)
    refine wa_iload_n (n := 3) rfl ?_
    refine wa_aload_n (n := 0) rfl ?_
    refine wb_gfi 14 rfl (wy_pr rfl) wt_14 wf_6_6 (v := n) (hB.2.1) (fun r1 => ?_)
    refine wa_icmpge (w_rg0 (by omega) (by omega)) (w_rg0 (by omega) (by omega)) ⟨_, rfl⟩ (fun c2 => ?_) (fun c2 => ?_)
    · skip
      refine wa_aload_n (n := 0) rfl ?_
      refine wb_gfi 14 rfl (wy_pr rfl) wt_14 wf_6_6 (v := n) (hB.2.1) (fun r3 => ?_)
      refine wa_ireturn rfl ?_
      refine ⟨rfl, congrArg (fun z => Sum.inl (some (0, z))) ?_⟩
      have hin : i = n := by omega
      subst hin
      rcases hcm with hcm | hcm
      · rw [← h0 hcm, lx_go_n]
      · rw [← h1 hcm, lx_ce_n (Int.le_refl _), lx_go_n]
    · skip
      refine wa_aload_n (n := 0) rfl ?_
      refine wb_gf6 14 rfl (wy_pr rfl) wt_14 wf_6_5 (v := 1) (hB.1) (by decide) ?_
      refine wa_iload_n (n := 3) rfl ?_
      refine wb_bald 1 rfl (wy_pr rfl) wt_1 (n := (S 1 (-1))) rfl (by omega) (by omega) (v := (T i)) ((hB.2.2.2.2.2.1 i (by omega) (by omega))) (fun r4 => ?_)
      refine wa_istore (n := 4) rfl ?_
      refine wa_iload (n := 4) rfl ?_
      refine wa_bipush (w_rg2 (by omega) (by omega)) ?_
      refine wa_icmpne (w_rg0 (by omega) (by omega)) (w_rg0 (by omega) (by omega)) ⟨_, rfl⟩ (fun c5 => ?_) (fun c5 => ?_)
      · skip
        refine wa_iload (n := 4) rfl ?_
        refine wa_bipush (w_rg2 (by omega) (by omega)) ?_
        refine wa_icmpne (w_rg0 (by omega) (by omega)) (w_rg0 (by omega) (by omega)) ⟨_, rfl⟩ (fun c6 => ?_) (fun c6 => ?_)
        · skip
          refine wa_iload (n := 4) rfl ?_
          refine wa_bipush (w_rg2 (by omega) (by omega)) ?_
          refine wa_icmpeq (w_rg0 (by omega) (by omega)) (w_rg0 (by omega) (by omega)) ⟨_, rfl⟩ (fun c7 => ?_) (fun c7 => ?_)
          · skip
            refine wa_iinc rfl rfl ?_
            refine wa_goto ⟨_, rfl⟩ ?_
            refine wJ_S (ih (i + 1) cm (by omega) (by omega) (by omega) hcm (fun q => ?_) (fun q => ?_)) ⟨rfl, rfl, rfl, trivial⟩
            · rw [← h0 q]; exact (lx_go_b (by omega) (by omega)).symm
            · rw [← h1 q, lx_ce_s (t := i) (by omega) (by omega)]
          · skip
            refine wa_iload_n (n := 2) rfl ?_
            refine wa_ifne (w_rg0 (by omega) (by omega)) ⟨_, rfl⟩ (fun c8 => ?_) (fun c8 => ?_)
            · skip
              refine wa_iinc rfl rfl ?_
              refine wa_goto ⟨_, rfl⟩ ?_
              refine wJ_S (ih (i + 1) cm (by omega) (by omega) (by omega) hcm (fun q => ?_) (fun q => ?_)) ⟨rfl, rfl, rfl, trivial⟩
              · rw [← h0 q]; exact (lx_go_b (by omega) (by omega)).symm
              · rw [← h1 q, lx_ce_s (t := i) (by omega) (by omega)]
            · skip
              refine wa_iload_n (n := 3) rfl ?_
              refine wa_ireturn rfl ?_
              refine ⟨rfl, congrArg (fun z => Sum.inl (some (0, z))) ?_⟩
              rw [← h0 (by omega)]
              exact (lx_go_e (by omega) (by omega) (by omega)).symm
        · skip
          refine wa_aload_n (n := 0) rfl ?_
          refine wa_iload_n (n := 3) rfl ?_
          refine wa_iconst ?_
          refine wa_iadd ?_
          refine wa_cv 14 rfl (wy_pr rfl) wt_14 (M2 := fun _ => False) rfl at_XR_signAt ⟨_, rfl⟩ rfl rfl ⟨trivial, (Or.inr ⟨wy_pr rfl, fun q => q⟩), trivial, trivial, trivial⟩ trivial (fun _ _ q => False.elim q) (sa_ok hB ⟨by omega, by omega⟩) (fun oq9 Sq9 hp10 q9 => ?_)
          rcases q9 with ⟨rfl, rfl⟩
          show wJ _ _ _ _ _ _ _ _ _ _
          refine wa_bipush (w_rg2 (by omega) (by omega)) ?_
          refine wa_icmpne (w_rg0 (by omega) (by omega)) (w_rg0 (by omega) (by omega)) ⟨_, rfl⟩ (fun c11 => ?_) (fun c11 => ?_)
          · skip
            refine wa_iload (n := 4) rfl ?_
            refine wa_bipush (w_rg2 (by omega) (by omega)) ?_
            refine wa_icmpeq (w_rg0 (by omega) (by omega)) (w_rg0 (by omega) (by omega)) ⟨_, rfl⟩ (fun c12 => ?_) (fun c12 => ?_)
            · skip
              exact absurd c12 (by omega)
            · skip
              refine wa_iload_n (n := 2) rfl ?_
              refine wa_ifne (w_rg0 (by omega) (by omega)) ⟨_, rfl⟩ (fun c13 => ?_) (fun c13 => ?_)
              · skip
                refine wa_iinc rfl rfl ?_
                refine wa_goto ⟨_, rfl⟩ ?_
                refine wJ_S (ih (i + 1) cm (by omega) (by omega) (by omega) hcm (fun q => ?_) (fun q => ?_)) ⟨rfl, rfl, rfl, trivial⟩
                · rw [← h0 q]; exact (lx_go_b (by omega) (by omega)).symm
                · rw [← h1 q, lx_ce_s (t := i) (by omega) (by omega)]
              · skip
                refine wa_iload_n (n := 3) rfl ?_
                refine wa_ireturn rfl ?_
                refine ⟨rfl, congrArg (fun z => Sum.inl (some (0, z))) ?_⟩
                rw [← h0 (by omega)]
                exact (lx_go_e (by omega) (by omega) (by omega)).symm
          · skip
            refine wa_iconst ?_
            refine wa_istore_n (n := 2) rfl ?_
            refine wa_goto ⟨_, rfl⟩ ?_
            refine wa_iinc rfl rfl ?_
            refine wa_goto ⟨_, rfl⟩ ?_
            refine wJ_S (ih (i + 1) 1 (by omega) (by omega) (by omega) (Or.inr rfl) (fun q => absurd q (by decide)) (fun _ => ?_)) ⟨rfl, rfl, rfl, trivial⟩
            rcases hcm with hcm | hcm
            · rw [← h0 hcm]; exact (lx_go_c (by omega) (by omega) (by omega)).symm
            · rw [← h1 hcm, lx_ce_s (t := i) (by omega) (by omega)]
      · skip
        refine wa_iconst ?_
        refine wa_istore_n (n := 2) rfl ?_
        refine wa_goto ⟨_, rfl⟩ ?_
        refine wa_iinc rfl rfl ?_
        refine wa_goto ⟨_, rfl⟩ ?_
        refine wJ_S (ih (i + 1) 0 (by omega) (by omega) (by omega) (Or.inl rfl) (fun _ => ?_) (fun q => absurd q (by decide))) ⟨rfl, rfl, rfl, trivial⟩
        rcases hcm with hcm | hcm
        · rw [← h0 hcm]; exact (lx_go_b (by omega) (by omega)).symm
        · rw [← h1 hcm, lx_ce_10 (by omega)]; exact (lx_go_b (by omega) (by omega)).symm
theorem bb_ok {p : Int} (hB : rd_B T n S) (hp : 0 ≤ p ∧ p ≤ n) : wJ (pe_GA xs) wY0 M (d + 1) t_XR_behindBlanks ((pe_at t_XR_behindBlanks.bl 0).getD (0, [])).2 [(0, (2, 14)), (1, (0, p))] [] S (fun o S2 => S = S2 ∧ o = .inl (some (0, lx_go T n p))) := by
  refine wa_iconst ?_
  refine wa_istore_n (n := 2) rfl ?_
  refine wa_iload_n (n := 1) rfl ?_
  refine wa_istore_n (n := 3) rfl ?_
  refine wa_fall ⟨_, rfl⟩ ?_
  exact wJ_S (bb_l hB ((n - p).toNat + 1) p 0 (by omega) (by omega) (by omega) (Or.inl rfl) (fun _ => rfl) (fun q => absurd q (by decide))) ⟨rfl, rfl, rfl, trivial⟩
/-- one more token -/
def ad_ag (S Z : wS) (k p v : Int) : Prop := Z 14 3 = S 14 3 + 1 ∧ (Z 15 (S 14 3) = k ∧ Z 16 (S 14 3) = p ∧ Z 17 (S 14 3) = v) ∧ (∀ i : Int, 0 ≤ i → i < S 14 3 → Z 15 i = S 15 i ∧ Z 16 i = S 16 i ∧ Z 17 i = S 17 i) ∧ (∀ (j : Nat) (i : Int), j < 4000000 → j ≠ wG → j ≠ 15 → j ≠ 16 → j ≠ 17 → (j ≠ 14 ∨ i ≠ 3) → Z j i = S j i) ∧ (Z 16 (-1) = Z 15 (-1) ∧ Z 17 (-1) = Z 15 (-1) ∧ S 14 3 + 1 ≤ Z 15 (-1) ∧ (Z 15 (-1) = S 15 (-1) ∨ (S 14 3 = S 15 (-1) ∧ Z 15 (-1) = 2 * S 14 3))) ∧ gI Z ∧ rmR S Z
/-- the rows of tokens -/
def rd_L (S : wS) : Prop := (0 ≤ S 14 3 ∧ S 14 3 ≤ S 15 (-1)) ∧ S 16 (-1) = S 15 (-1) ∧ S 17 (-1) = S 15 (-1) ∧ 64 ≤ S 15 (-1) ∧ S 15 (-1) ≤ 1048576
theorem ad_1 {k p v : Int} (hI : gI S) (hk : -128 ≤ k ∧ k ≤ 127) (hp : -2147483648 ≤ p ∧ p ≤ 2147483647) (hv : -2147483648 ≤ v ∧ v ≤ 2147483647) (h0 : 0 ≤ (S 14 3) ∧ (S 14 3) < S 15 (-1) ∧ S 16 (-1) = S 15 (-1) ∧ S 17 (-1) = S 15 (-1)) (h9 : (S 14 3) ≤ 2147483000) : wJ (pe_GA xs) wY0 (mS [15, 16, 17]) (d + 3) t_XR_add ((pe_at t_XR_add.bl 1).getD (0, [])).2 [(0, (2, 14)), (1, (0, k)), (2, (0, p)), (3, (0, v))] [] S (fun o Z => o = .inl none ∧ ad_ag S Z k p v) := by
  have hR := rmR_rfl S
  have l16 := h0.2.2.1
  have l17 := h0.2.2.2
  refine wa_aload_n (n := 0) rfl ?_
  refine wb_gf4 14 rfl (wy_pr rfl) wt_14 wf_6_0 (v := 15) wl_14_0 ?_
  refine wa_aload_n (n := 0) rfl ?_
  refine wb_gfi 14 rfl (wy_pr rfl) wt_14 wf_6_3 (v := (S 14 3)) rfl (fun r1 => ?_)
  refine wa_iload_n (n := 1) rfl ?_
  refine wb_i2b_r (wb_i2b_id ⟨(by omega), (by omega)⟩) ?_
  refine wb_bast 15 rfl (wy_pr rfl) wt_15 (n := (S 15 (-1))) rfl (by omega) (by omega) ⟨(by omega), (by omega)⟩ ?_
  refine wa_aload_n (n := 0) rfl ?_
  refine wb_gf4 14 rfl (wy_pr rfl) wt_14 wf_6_1 (v := 16) wl_14_1 ?_
  refine wa_aload_n (n := 0) rfl ?_
  refine wb_gfi 14 rfl (wy_pr rfl) wt_14 wf_6_3 (v := (S 14 3)) (w_up_slot (by decide)) (fun r2 => ?_)
  refine wa_iload_n (n := 2) rfl ?_
  refine wb_iast 16 rfl (wy_pr rfl) wt_16 (n := (S 15 (-1))) ((w_up_slot (by decide)).trans (l16)) (by omega) (by omega) ⟨(by omega), (by omega)⟩ ?_
  refine wa_aload_n (n := 0) rfl ?_
  refine wb_gf4 14 rfl (wy_pr rfl) wt_14 wf_6_2 (v := 17) wl_14_2 ?_
  refine wa_aload_n (n := 0) rfl ?_
  refine wb_gfi 14 rfl (wy_pr rfl) wt_14 wf_6_3 (v := (S 14 3)) ((w_up_slot (by decide)).trans (w_up_slot (by decide))) (fun r3 => ?_)
  refine wa_iload_n (n := 3) rfl ?_
  refine wb_iast 17 rfl (wy_pr rfl) wt_17 (n := (S 15 (-1))) ((w_up_slot (by decide)).trans ((w_up_slot (by decide)).trans (l17))) (by omega) (by omega) ⟨(by omega), (by omega)⟩ ?_
  refine wa_aload_n (n := 0) rfl ?_
  refine wa_dup (by decide) ?_
  refine wb_gfi 14 rfl (wy_pr rfl) wt_14 wf_6_3 (v := (S 14 3)) ((w_up_slot (by decide)).trans ((w_up_slot (by decide)).trans (w_up_slot (by decide)))) (fun r4 => ?_)
  refine wa_iconst ?_
  refine wa_iadd ?_
  refine wb_pfi 14 rfl (wy_pr rfl) wt_14 wf_6_3 (n := 3) rfl ⟨(by omega), (by omega)⟩ ?_
  refine wa_return rfl ?_
  refine ⟨rfl, (w_up_same _ _ _ _), ⟨((w_up_slot (by decide)).trans ((w_up_slot (by decide)).trans ((w_up_slot (by decide)).trans (w_up_same _ _ _ _)))), ((w_up_slot (by decide)).trans ((w_up_slot (by decide)).trans (w_up_same _ _ _ _))), ((w_up_slot (by decide)).trans (w_up_same _ _ _ _))⟩, fun i i0 i1 => ⟨((w_up_slot (by decide)).trans ((w_up_slot (by decide)).trans ((w_up_slot (by decide)).trans (w_up_at (by omega))))), ((w_up_slot (by decide)).trans ((w_up_slot (by decide)).trans ((w_up_at (by omega)).trans (w_up_slot (by decide))))), ((w_up_slot (by decide)).trans ((w_up_at (by omega)).trans ((w_up_slot (by decide)).trans (w_up_slot (by decide)))))⟩, fun j i j0 j1 j2 j3 j4 j5 => ?_, ?_, (gI_up (gI_up (gI_up (gI_up hI (by omega) (by omega) (by omega)) (by omega) (by omega) (by omega)) (by omega) (by omega) (by omega)) (by omega) (by omega) (by omega)), (rmR_up (rmR_up (rmR_up (rmR_up hR (by omega) (by decide)) (by omega) (by decide)) (by omega) (by decide)) (by omega) (by decide))⟩
  · exact (w_up_no (by omega)).trans ((w_up_no (by omega)).trans ((w_up_no (by omega)).trans ((w_up_no (by omega)).trans (rfl))))
  · have m15 : (w_up (w_up (w_up (w_up S 15 (S 14 3) k) 16 (S 14 3) p) 17 (S 14 3) v) 14 3 ((S 14 3) + 1)) 15 (-1) = S 15 (-1) := ((w_up_slot (by decide)).trans ((w_up_slot (by decide)).trans ((w_up_slot (by decide)).trans (w_up_at (by omega)))))
    have m16 : (w_up (w_up (w_up (w_up S 15 (S 14 3) k) 16 (S 14 3) p) 17 (S 14 3) v) 14 3 ((S 14 3) + 1)) 16 (-1) = S 15 (-1) := ((w_up_slot (by decide)).trans ((w_up_slot (by decide)).trans ((w_up_at (by omega)).trans ((w_up_slot (by decide)).trans (l16)))))
    have m17 : (w_up (w_up (w_up (w_up S 15 (S 14 3) k) 16 (S 14 3) p) 17 (S 14 3) v) 14 3 ((S 14 3) + 1)) 17 (-1) = S 15 (-1) := ((w_up_slot (by decide)).trans ((w_up_at (by omega)).trans ((w_up_slot (by decide)).trans ((w_up_slot (by decide)).trans (l17)))))
    exact ⟨m16.trans m15.symm, m17.trans m15.symm, by rw [m15]; omega, Or.inl m15⟩
theorem ad_ok {k p v : Int} (hI : gI S) (hk : -128 ≤ k ∧ k ≤ 127) (hp : -2147483648 ≤ p ∧ p ≤ 2147483647) (hv : -2147483648 ≤ v ∧ v ≤ 2147483647) (h0 : rd_L S) : wJ (pe_GA xs) wY0 (mS [15, 16, 17]) (d + 3) t_XR_add ((pe_at t_XR_add.bl 0).getD (0, [])).2 [(0, (2, 14)), (1, (0, k)), (2, (0, p)), (3, (0, v))] [] S (fun o Z => o = .inl none ∧ ad_ag S Z k p v) := by
  have hR := rmR_rfl S
  obtain ⟨h1, l16, l17, h4, h5⟩ := h0
  refine wa_aload_n (n := 0) rfl ?_
  refine wb_gfi 14 rfl (wy_pr rfl) wt_14 wf_6_3 (v := (S 14 3)) rfl (fun r1 => ?_)
  refine wa_aload_n (n := 0) rfl ?_
  refine wb_gf4 14 rfl (wy_pr rfl) wt_14 wf_6_0 (v := 15) wl_14_0 ?_
  refine wb_alen 15 rfl (wy_pr rfl) (by rw [wt_15]; rfl) (v := (S 15 (-1))) rfl (fun r2 => ?_)
  refine wa_icmpne (w_rg0 (by omega) (by omega)) (w_rg0 (by omega) (by omega)) ⟨_, rfl⟩ (fun c3 => ?_) (fun c3 => ?_)
  · skip
    exact ad_1 hI hk hp hv ⟨by omega, by omega, l16, l17⟩ (by omega)
  · skip
    refine wa_aload_n (n := 0) rfl ?_
    refine wa_aload_n (n := 0) rfl ?_
    refine wb_gf4 14 rfl (wy_pr rfl) wt_14 wf_6_0 (v := 15) wl_14_0 ?_
    refine wa_aload_n (n := 0) rfl ?_
    refine wb_gfi 14 rfl (wy_pr rfl) wt_14 wf_6_3 (v := (S 14 3)) rfl (fun r4 => ?_)
    refine wa_iconst ?_
    refine wa_imul ?_
    refine wa_cs (M2 := fun _ => False) rfl at_JA_copyOf ⟨_, rfl⟩ rfl rfl ⟨(Or.inr ⟨wy_pr rfl, fun q => q⟩), trivial, trivial, trivial, trivial⟩ ⟨(Or.inr ⟨wy_pr rfl, fun q => q⟩), trivial⟩ (fun _ _ q => False.elim q) (cp_B (S := S) (a := 15) (n := ((S 14 3) * 2)) (len := (S 15 (-1))) (wy_pr rfl) wt_15 rfl ⟨by omega, by omega, by omega⟩) (fun oq5 Sq5 _ q5 => ?_)
    rcases q5 with ⟨rfl, rfl⟩
    show wJ _ _ _ _ _ _ _ _ _ _
    refine wg_pf (S := S) (len := (S 15 (-1))) 2 14 15 rfl rfl rfl wt_14 wf_6_0 wl_14_0 (by decide +kernel) wt_15 (by decide) (by decide +kernel) hI (fun q => absurd q (by decide)) (by decide) ⟨by omega, by omega⟩ rfl (fun _ => ⟨Or.inr (by decide), Or.inl (nN_ge _)⟩) ⟨(Or.inr ⟨wy_pr rfl, mS_no rfl⟩), trivial, trivial, trivial, trivial⟩ trivial (fun Z6 g7 gi8 => ?_)
    have rm9 := rmR_gr hR g7 (by decide +kernel) (len := (S 15 (-1))) rfl ⟨by omega, by omega⟩ ⟨fun q => by first | omega | exact absurd q (by decide), by show _ ≤ (100000000 : Int); omega⟩
    refine wa_aload_n (n := 0) rfl ?_
    refine wa_aload_n (n := 0) rfl ?_
    refine wb_gf4 14 rfl (wy_pr rfl) wt_14 wf_6_1 (v := 16) wl_14_1 ?_
    refine wa_aload_n (n := 0) rfl ?_
    refine wb_gfi 14 rfl (wy_pr rfl) wt_14 wf_6_3 (v := (S 14 3)) ((congrFun (g7.2.2.1 14 (by decide) (by decide) (by decide)) 3)) (fun r10 => ?_)
    refine wa_iconst ?_
    refine wa_imul ?_
    refine wa_cs (M2 := fun _ => False) rfl at_JA_copyOf_2 ⟨_, rfl⟩ rfl rfl ⟨(Or.inr ⟨wy_pr rfl, fun q => q⟩), trivial, trivial, trivial, trivial⟩ ⟨(Or.inr ⟨wy_pr rfl, fun q => q⟩), trivial⟩ (fun _ _ q => False.elim q) (cp_I (S := Z6) (a := 16) (n := ((S 14 3) * 2)) (len := (S 15 (-1))) (wy_pr rfl) wt_16 (((congrFun (g7.2.2.1 16 (by decide) (by decide) (by decide)) (-1)).trans (l16))) ⟨by omega, by omega, by omega⟩) (fun oq11 Sq11 _ q11 => ?_)
    rcases q11 with ⟨rfl, rfl⟩
    show wJ _ _ _ _ _ _ _ _ _ _
    refine wg_pf (S := Z6) (len := (S 15 (-1))) 0 14 16 rfl rfl rfl wt_14 wf_6_1 wl_14_1 (by decide +kernel) wt_16 (by decide) (by decide +kernel) gi8 (fun q => absurd q (by decide)) (by decide) ⟨by omega, by omega⟩ (((congrFun (g7.2.2.1 16 (by decide) (by decide) (by decide)) (-1)).trans (l16))) (fun _ => ⟨Or.inr (by decide), Or.inl (nN_ge _)⟩) ⟨(Or.inr ⟨wy_pr rfl, mS_no rfl⟩), trivial, trivial, trivial, trivial⟩ trivial (fun Z12 g13 gi14 => ?_)
    have rm15 := rmR_gr rm9 g13 (by decide +kernel) (len := (S 15 (-1))) (((congrFun (g7.2.2.1 16 (by decide) (by decide) (by decide)) (-1)).trans (l16))) ⟨by omega, by omega⟩ ⟨fun q => by first | omega | exact absurd q (by decide), by show _ ≤ (100000000 : Int); omega⟩
    refine wa_aload_n (n := 0) rfl ?_
    refine wa_aload_n (n := 0) rfl ?_
    refine wb_gf4 14 rfl (wy_pr rfl) wt_14 wf_6_2 (v := 17) wl_14_2 ?_
    refine wa_aload_n (n := 0) rfl ?_
    refine wb_gfi 14 rfl (wy_pr rfl) wt_14 wf_6_3 (v := (S 14 3)) (((congrFun (g13.2.2.1 14 (by decide) (by decide) (by decide)) 3).trans ((congrFun (g7.2.2.1 14 (by decide) (by decide) (by decide)) 3)))) (fun r16 => ?_)
    refine wa_iconst ?_
    refine wa_imul ?_
    refine wa_cs (M2 := fun _ => False) rfl at_JA_copyOf_2 ⟨_, rfl⟩ rfl rfl ⟨(Or.inr ⟨wy_pr rfl, fun q => q⟩), trivial, trivial, trivial, trivial⟩ ⟨(Or.inr ⟨wy_pr rfl, fun q => q⟩), trivial⟩ (fun _ _ q => False.elim q) (cp_I (S := Z12) (a := 17) (n := ((S 14 3) * 2)) (len := (S 15 (-1))) (wy_pr rfl) wt_17 (((congrFun (g13.2.2.1 17 (by decide) (by decide) (by decide)) (-1)).trans (((congrFun (g7.2.2.1 17 (by decide) (by decide) (by decide)) (-1)).trans (l17))))) ⟨by omega, by omega, by omega⟩) (fun oq17 Sq17 _ q17 => ?_)
    rcases q17 with ⟨rfl, rfl⟩
    show wJ _ _ _ _ _ _ _ _ _ _
    refine wg_pf (S := Z12) (len := (S 15 (-1))) 0 14 17 rfl rfl rfl wt_14 wf_6_2 wl_14_2 (by decide +kernel) wt_17 (by decide) (by decide +kernel) gi14 (fun q => absurd q (by decide)) (by decide) ⟨by omega, by omega⟩ (((congrFun (g13.2.2.1 17 (by decide) (by decide) (by decide)) (-1)).trans (((congrFun (g7.2.2.1 17 (by decide) (by decide) (by decide)) (-1)).trans (l17))))) (fun _ => ⟨Or.inr (by decide), Or.inl (nN_ge _)⟩) ⟨(Or.inr ⟨wy_pr rfl, mS_no rfl⟩), trivial, trivial, trivial, trivial⟩ trivial (fun Z18 g19 gi20 => ?_)
    have rm21 := rmR_gr rm15 g19 (by decide +kernel) (len := (S 15 (-1))) (((congrFun (g13.2.2.1 17 (by decide) (by decide) (by decide)) (-1)).trans (((congrFun (g7.2.2.1 17 (by decide) (by decide) (by decide)) (-1)).trans (l17))))) ⟨by omega, by omega⟩ ⟨fun q => by first | omega | exact absurd q (by decide), by show _ ≤ (100000000 : Int); omega⟩
    refine wa_fall ⟨_, rfl⟩ ?_
    have zz : ∀ (j : Nat) (i : Int), j < 4000000 → j ≠ wG → j ≠ 15 → j ≠ 16 → j ≠ 17 → Z18 j i = S j i := fun j i j0 j1 j2 j3 j4 => (congrFun (g19.2.2.1 j (by omega) j0 j1) i).trans ((congrFun (g13.2.2.1 j (by omega) j0 j1) i).trans ((congrFun (g7.2.2.1 j (by omega) j0 j1) i).trans (rfl)))
    have y15 : ∀ i : Int, 0 ≤ i → i < (S 14 3) → Z18 15 i = S 15 i := by
      intro i i0 i1
      have f0 : Z18 15 i = Z12 15 i := congrFun (g19.2.2.1 15 (by decide) (by decide) (by decide)) i
      have f1 : Z12 15 i = Z6 15 i := congrFun (g13.2.2.1 15 (by decide) (by decide) (by decide)) i
      have e2 : S 15 (-1) = S 15 (-1) := rfl
      have f2 : Z6 15 i = S 15 i := g7.2.1 i i0 (by rw [e2]; omega)
      rw [f0, f1, f2]
    have n15 : Z18 15 (-1) = (S 14 3) * 2 := (((congrFun (g19.2.2.1 15 (by decide) (by decide) (by decide)) (-1)).trans (((congrFun (g13.2.2.1 15 (by decide) (by decide) (by decide)) (-1)).trans (g7.1)))))
    have y16 : ∀ i : Int, 0 ≤ i → i < (S 14 3) → Z18 16 i = S 16 i := by
      intro i i0 i1
      have f0 : Z18 16 i = Z12 16 i := congrFun (g19.2.2.1 16 (by decide) (by decide) (by decide)) i
      have e1 : Z6 16 (-1) = S 16 (-1) := ((congrFun (g7.2.2.1 16 (by decide) (by decide) (by decide)) (-1)))
      have f1 : Z12 16 i = Z6 16 i := g13.2.1 i i0 (by rw [e1]; omega)
      have f2 : Z6 16 i = S 16 i := congrFun (g7.2.2.1 16 (by decide) (by decide) (by decide)) i
      rw [f0, f1, f2]
    have n16 : Z18 16 (-1) = (S 14 3) * 2 := (((congrFun (g19.2.2.1 16 (by decide) (by decide) (by decide)) (-1)).trans (g13.1)))
    have y17 : ∀ i : Int, 0 ≤ i → i < (S 14 3) → Z18 17 i = S 17 i := by
      intro i i0 i1
      have e0 : Z12 17 (-1) = S 17 (-1) := (((congrFun (g13.2.2.1 17 (by decide) (by decide) (by decide)) (-1))).trans ((congrFun (g7.2.2.1 17 (by decide) (by decide) (by decide)) (-1))))
      have f0 : Z18 17 i = Z12 17 i := g19.2.1 i i0 (by rw [e0]; omega)
      have f1 : Z12 17 i = Z6 17 i := congrFun (g13.2.2.1 17 (by decide) (by decide) (by decide)) i
      have f2 : Z6 17 i = S 17 i := congrFun (g7.2.2.1 17 (by decide) (by decide) (by decide)) i
      rw [f0, f1, f2]
    have n17 : Z18 17 (-1) = (S 14 3) * 2 := (g19.1)
    have e3 : Z18 14 3 = (S 14 3) := zz 14 3 (by decide) (by decide) (by decide) (by decide) (by decide)
    refine wJ_mono (ad_1 (S := Z18) gi20 hk hp hv ⟨by omega, by omega, n16.trans n15.symm, n17.trans n15.symm⟩ (by omega)) (fun o Z hz => ⟨hz.1, ?_⟩)
    obtain ⟨-, a1, a2, a3, a4, ⟨a5, a6, a7, a8⟩, a9, a10⟩ := hz
    rw [e3] at a1 a2 a3 a7 a8
    rw [n15] at a8
    refine ⟨a1, a2, fun i i0 i1 => ?_, fun j i j0 j1 j2 j3 j4 j5 => (a4 j i j0 j1 j2 j3 j4 j5).trans (zz j i j0 j1 j2 j3 j4), ⟨a5, a6, a7, Or.inr ⟨by omega, by omega⟩⟩, a9, rmR_tr rm21 a10⟩
    obtain ⟨b1, b2, b3⟩ := a3 i i0 i1
    exact ⟨b1.trans (y15 i i0 i1), b2.trans (y16 i i0 i1), b3.trans (y17 i i0 i1)⟩
end W9d
