/-! PART 65: the reference's lexer: blanks, names, numbers. -/
section W65
variable {xs : List (Nat × List Int32)} {M : Nat → Prop} {d : Nat} {S : wS} {Q : wO → wS → Prop}
/-- the states are the same but for the lexer's places -/
def lx_ag (S Z : wS) : Prop := ∀ (j : Nat) (i : Int), (j ≠ 240 ∨ i < 0) → (j ≠ 237 ∨ (i ≠ 6 ∧ i ≠ 7 ∧ i ≠ 8 ∧ i ≠ 9 ∧ i ≠ 10 ∧ i ≠ 12)) → Z j i = S j i
theorem lx_ag_rf : lx_ag S S := fun _ _ _ _ => rfl
theorem lx_ag_tr {A B C : wS} (h : lx_ag A B) (h2 : lx_ag B C) : lx_ag A C := fun j i a b => (h2 j i a b).trans (h j i a b)
theorem lx_ag_up {A B : wS} (h : lx_ag A B) {k x : Int} (hk : k = 6 ∨ k = 7 ∨ k = 8 ∨ k = 9 ∨ k = 10 ∨ k = 12) : lx_ag A (w_up B 237 k x) := by
  intro j i a b
  rw [← h j i a b]
  exact if_neg (fun q => by omega)
theorem lx_ag_tx {A B : wS} (h : lx_ag A B) {k x : Int} (hk : 0 ≤ k) : lx_ag A (w_up B 240 k x) := by
  intro j i a b
  rw [← h j i a b]
  exact if_neg (fun q => by omega)
theorem lx_ag_ML {A B : wS} (h : lx_ag A B) (hM : w_ML A) : w_ML B := fun q hq => (h q.1 (-1) (by omega) (by omega)).trans (hM q hq)
def lx_cm (T : Int → Int) (n : Int) : Nat → Int → Int
  | 0, t => t
  | f + 1, t => if t < n ∧ T t ≠ 10 then lx_cm T n f (t + 1) else t
theorem lx_cm_s (T : Int → Int) (n t : Int) (f : Nat) : lx_cm T n (f + 1) t = if t < n ∧ T t ≠ 10 then lx_cm T n f (t + 1) else t := rfl
theorem lx_cm_ge (T : Int → Int) (n : Int) : ∀ (f : Nat) (t : Int), t ≤ n → t ≤ lx_cm T n f t ∧ lx_cm T n f t ≤ n := by
  intro f
  induction f with
  | zero => intro t h; exact ⟨Int.le_refl _, h⟩
  | succ f ih =>
    intro t h
    unfold lx_cm
    split
    · rename_i q
      have := ih (t + 1) (by omega)
      omega
    · omega
def lx_bl (T : Int → Int) (n : Int) : Nat → Int → Int
  | 0, t => t
  | f + 1, t => if lx_at T n t = 32 ∨ lx_at T n t = 10 then lx_bl T n f (t + 1) else if lx_at T n t = 47 ∧ lx_at T n (t + 1) = 47 then lx_bl T n f (lx_cm T n (n - t + 1).toNat t) else t
theorem lx_bl_s (T : Int → Int) (n t : Int) (f : Nat) : lx_bl T n (f + 1) t = if lx_at T n t = 32 ∨ lx_at T n t = 10 then lx_bl T n f (t + 1) else if lx_at T n t = 47 ∧ lx_at T n (t + 1) = 47 then lx_bl T n f (lx_cm T n (n - t + 1).toNat t) else t := rfl
theorem lx_at_lt {T : Int → Int} {n k : Int} (h : lx_at T n k ≠ 0) : k < n := by
  unfold lx_at at h
  split at h
  · assumption
  · exact absurd rfl h
theorem lx_at_in {T : Int → Int} {n k : Int} (h : k < n) : lx_at T n k = T k := if_pos h
def lx_nm (T : Int → Int) (n : Int) : Nat → Int → Int
  | 0, t => t
  | f + 1, t => if (lx_le (lx_at T n t) || lx_di (lx_at T n t)) = true then lx_nm T n f (t + 1) else t
/-- a number's end and value, from its first sign on -/
def lx_nu (T : Int → Int) (n p : Int) : Nat → Int → Int → Int × Int
  | 0, t, v => (t, v)
  | f + 1, t, v => if lx_di (lx_at T n t) = true then lx_nu T n p f (t + 1) (if t - p < 11 then 10 * v + lx_at T n t - 48 else v) else (t, v)
theorem lx_at_ok {Z : wS} {k : Int} (hM0 : w_ML S) (hag : lx_ag S Z) (hk : 0 ≤ k ∧ k ≤ 2147483647) (hn : 0 ≤ S 237 4 ∧ S 237 4 ≤ 65536) : wJ (pe_GA xs) wY0 M d t_M_at ((pe_at t_M_at.bl 0).getD (0, [])).2 [(0, (2, 237)), (1, (0, k))] [] Z (fun o S2 => Z = S2 ∧ o = .inl (some (0, lx_at (S 239) (S 237 4) k)) ∧ -128 ≤ lx_at (S 239) (S 237 4) k ∧ lx_at (S 239) (S 237 4) k ≤ 127) := by
  have e1 : Z 239 = S 239 := funext fun i => hag 239 i (by omega) (by omega)
  have e2 : Z 237 4 = S 237 4 := hag 237 4 (by omega) (by omega)
  have h := at_ok (xs := xs) (M := M) (d := d) (lx_ag_ML hag hM0) hk (by rw [e2]; exact hn.2)
  rw [e1, e2] at h
  exact h
theorem cm_loop {c e : Int} (hM0 : w_ML S) (hn : 0 ≤ S 237 4 ∧ S 237 4 ≤ 65536) (hk : ∀ Z, lx_ag S Z → Z 237 8 = e → wJ (pe_GA xs) wY0 M (d + 2) t_M_next ((pe_at t_M_next.bl 6).getD (0, [])).2 [(0, (2, 237)), (1, (0, 1)), (2, (0, c))] [] Z Q) : ∀ (f : Nat) (t : Int) (Z : wS), (S 237 4 - t).toNat < f → 0 ≤ t → t ≤ S 237 4 → lx_cm (S 239) (S 237 4) f t = e → lx_ag S Z → Z 237 8 = t → wJ (pe_GA xs) wY0 M (d + 2) t_M_next ((pe_at t_M_next.bl 4).getD (0, [])).2 [(0, (2, 237)), (1, (0, 1)), (2, (0, c))] [] Z Q := by
  intro f
  induction f with
  | zero => intros; omega
  | succ f ih =>
    intro t Z hf ht0 ht he hag h8
    rw [lx_cm_s] at he
    refine wa_aload_n (n := 0) rfl ?_
    refine wb_gfi 237 rfl (wy_pr rfl) wt_237 wf_15_8 (v := t) (h8) (fun r1 => ?_)
    refine wa_aload_n (n := 0) rfl ?_
    refine wb_gfi 237 rfl (wy_pr rfl) wt_237 wf_15_4 (v := (S 237 4)) ((hag 237 4 (by omega) (by omega))) (fun r2 => ?_)
    refine wa_icmpge (w_rg0 (by omega) (by omega)) (w_rg0 (by omega) (by omega)) ⟨_, rfl⟩ (fun c3 => ?_) (fun c3 => ?_)
    · skip
      rw [if_neg (by omega)] at he
      exact hk _ hag (h8.trans he)
    · skip
      refine wa_aload_n (n := 0) rfl ?_
      refine wb_gf4 237 rfl (wy_pr rfl) wt_237 wf_15_2 (v := 239) wl_237_2 ?_
      refine wa_aload_n (n := 0) rfl ?_
      refine wb_gfi 237 rfl (wy_pr rfl) wt_237 wf_15_8 (v := t) (h8) (fun r4 => ?_)
      refine wb_bald 239 rfl (wy_pr rfl) wt_239 (n := 65552) ((ml_239 (lx_ag_ML hag hM0))) (by omega) (by omega) (v := (S 239 t)) ((hag 239 t (by omega) (by omega))) (fun r5 => ?_)
      refine wa_bipush (w_rg2 (by omega) (by omega)) ?_
      refine wa_icmpeq (w_rg0 (by omega) (by omega)) (w_rg0 (by omega) (by omega)) ⟨_, rfl⟩ (fun c6 => ?_) (fun c6 => ?_)
      · skip
        rw [if_neg (by omega)] at he
        exact hk _ hag (h8.trans he)
      · skip
        refine wa_aload_n (n := 0) rfl ?_
        refine wa_dup (by decide) ?_
        refine wb_gfi 237 rfl (wy_pr rfl) wt_237 wf_15_8 (v := t) (h8) (fun r7 => ?_)
        refine wa_iconst ?_
        refine wa_iadd ?_
        refine wb_pfi 237 rfl (wy_pr rfl) wt_237 wf_15_8 (n := 8) rfl ⟨(by omega), (by omega)⟩ ?_
        refine wa_goto ⟨_, rfl⟩ ?_
        rw [if_pos ⟨by omega, by omega⟩] at he
        exact wJ_S (ih (t + 1) _ (by omega) (by omega) (by omega) he (lx_ag_up hag (by omega)) (w_up_same _ _ _ _)) ⟨rfl, rfl, rfl, trivial⟩
theorem bl_loop {p : Int} (hM0 : w_ML S) (hn : 0 ≤ S 237 4 ∧ S 237 4 ≤ 65536) (hk : ∀ Z, lx_ag S Z → Z 237 8 = p → (0 ≤ Z 237 8 ∧ Z 237 8 ≤ S 237 4) → wJ (pe_GA xs) wY0 M (d + 2) t_M_next ((pe_at t_M_next.bl 7).getD (0, [])).2 [(0, (2, 237))] [] Z Q) : ∀ (f : Nat) (t : Int) (Z : wS), (S 237 4 - t).toNat < f → 0 ≤ t → t ≤ S 237 4 → lx_bl (S 239) (S 237 4) f t = p → lx_ag S Z → Z 237 8 = t → wJ (pe_GA xs) wY0 M (d + 2) t_M_next ((pe_at t_M_next.bl 1).getD (0, [])).2 [(0, (2, 237)), (1, (0, 1))] [] Z Q := by
  intro f
  induction f with
  | zero => intros; omega
  | succ f ih =>
    intro t Z hf ht0 ht he hag h8
    have hz : ∀ z : Int, lx_at (S 239) (S 237 4) z ≠ 0 → z < S 237 4 := fun z hz => lx_at_lt hz
    have hz1 := hz t
    rw [lx_bl_s] at he
    refine wa_iload_n (n := 1) rfl ?_
    refine wa_ifeq (w_rg0 (by omega) (by omega)) ⟨_, rfl⟩ (fun c1 => ?_) (fun c1 => ?_)
    · skip
      exact absurd c1 (by omega)
    · skip
      refine wa_aload_n (n := 0) rfl ?_
      refine wa_aload_n (n := 0) rfl ?_
      refine wb_gfi 237 rfl (wy_pr rfl) wt_237 wf_15_8 (v := t) (h8) (fun r2 => ?_)
      refine wa_cv 237 rfl (wy_pr rfl) wt_237 (M2 := fun _ => False) rfl at_M_at ⟨_, rfl⟩ rfl rfl ⟨(Or.inr ⟨wy_pr rfl, fun q => q⟩), trivial, trivial⟩ trivial (fun _ _ q => False.elim q) (lx_at_ok hM0 hag ⟨by omega, by omega⟩ hn) (fun oq4 Sq4 hp5 q4 => ?_)
      rcases q4 with ⟨rfl, rfl, ga3⟩
      show wJ _ _ _ _ _ _ _ _ _ _
      refine wa_istore_n (n := 2) rfl ?_
      refine wa_iload_n (n := 2) rfl ?_
      refine wa_bipush (w_rg2 (by omega) (by omega)) ?_
      refine wa_icmpeq (w_rg0 (by omega) (by omega)) (w_rg0 (by omega) (by omega)) ⟨_, rfl⟩ (fun c6 => ?_) (fun c6 => ?_)
      · skip
        refine wa_aload_n (n := 0) rfl ?_
        refine wa_dup (by decide) ?_
        refine wb_gfi 237 rfl (wy_pr rfl) wt_237 wf_15_8 (v := t) (h8) (fun r7 => ?_)
        refine wa_iconst ?_
        refine wa_iadd ?_
        refine wb_pfi 237 rfl (wy_pr rfl) wt_237 wf_15_8 (n := 8) rfl ⟨(by omega), (by omega)⟩ ?_
        refine wa_goto ⟨_, rfl⟩ ?_
        refine wa_goto ⟨_, rfl⟩ ?_
        rw [if_pos (by omega)] at he
        exact wJ_S (ih (t + 1) _ (by omega) (by omega) (by omega) he (lx_ag_up hag (by omega)) (w_up_same _ _ _ _)) ⟨rfl, rfl, trivial⟩
      · skip
        refine wa_iload_n (n := 2) rfl ?_
        refine wa_bipush (w_rg2 (by omega) (by omega)) ?_
        refine wa_icmpne (w_rg0 (by omega) (by omega)) (w_rg0 (by omega) (by omega)) ⟨_, rfl⟩ (fun c8 => ?_) (fun c8 => ?_)
        · skip
          refine wa_iload_n (n := 2) rfl ?_
          refine wa_bipush (w_rg2 (by omega) (by omega)) ?_
          refine wa_icmpne (w_rg0 (by omega) (by omega)) (w_rg0 (by omega) (by omega)) ⟨_, rfl⟩ (fun c9 => ?_) (fun c9 => ?_)
          · skip
            refine wa_iconst ?_
            refine wa_istore_n (n := 1) rfl ?_
            refine wa_fall ⟨_, rfl⟩ ?_
            refine wa_goto ⟨_, rfl⟩ ?_
            refine wa_iload_n (n := 1) rfl ?_
            refine wa_ifeq (w_rg0 (by omega) (by omega)) ⟨_, rfl⟩ (fun c10 => ?_) (fun c10 => ?_)
            · skip
              rw [if_neg (by omega), if_neg (by omega)] at he
              exact wJ_S (hk _ hag (h8.trans he) (by omega)) ⟨rfl, trivial⟩
            · skip
              exact absurd c10 (by omega)
          · skip
            refine wa_aload_n (n := 0) rfl ?_
            refine wa_aload_n (n := 0) rfl ?_
            refine wb_gfi 237 rfl (wy_pr rfl) wt_237 wf_15_8 (v := t) (h8) (fun r11 => ?_)
            refine wa_iconst ?_
            refine wa_iadd ?_
            refine wa_cv 237 rfl (wy_pr rfl) wt_237 (M2 := fun _ => False) rfl at_M_at ⟨_, rfl⟩ rfl rfl ⟨trivial, (Or.inr ⟨wy_pr rfl, fun q => q⟩), trivial, trivial⟩ trivial (fun _ _ q => False.elim q) (lx_at_ok hM0 hag ⟨by omega, by omega⟩ hn) (fun oq13 Sq13 hp14 q13 => ?_)
            rcases q13 with ⟨rfl, rfl, ga12⟩
            show wJ _ _ _ _ _ _ _ _ _ _
            refine wa_bipush (w_rg2 (by omega) (by omega)) ?_
            refine wa_icmpne (w_rg0 (by omega) (by omega)) (w_rg0 (by omega) (by omega)) ⟨_, rfl⟩ (fun c15 => ?_) (fun c15 => ?_)
            · skip
              refine wa_iconst ?_
              refine wa_istore_n (n := 1) rfl ?_
              refine wa_fall ⟨_, rfl⟩ ?_
              refine wa_goto ⟨_, rfl⟩ ?_
              refine wa_iload_n (n := 1) rfl ?_
              refine wa_ifeq (w_rg0 (by omega) (by omega)) ⟨_, rfl⟩ (fun c16 => ?_) (fun c16 => ?_)
              · skip
                rw [if_neg (by omega), if_neg (by omega)] at he
                exact wJ_S (hk _ hag (h8.trans he) (by omega)) ⟨rfl, trivial⟩
              · skip
                exact absurd c16 (by omega)
            · skip
              refine wa_fall ⟨_, rfl⟩ ?_
              have q1 : lx_cm (S 239) (S 237 4) (S 237 4 - t + 1).toNat t = lx_cm (S 239) (S 237 4) (S 237 4 - t + 1).toNat t := rfl
              have q2 := lx_cm_ge (S 239) (S 237 4) (S 237 4 - t + 1).toNat t (by omega)
              have q3 : t + 1 ≤ lx_cm (S 239) (S 237 4) (S 237 4 - t + 1).toNat t := by
                have q5 : (S 237 4 - t + 1).toNat = (S 237 4 - t).toNat + 1 := by omega
                have q6 := lx_at_in (T := S 239) (n := S 237 4) (k := t) (by omega)
                rw [q5, lx_cm_s, if_pos ⟨by omega, by omega⟩]
                exact (lx_cm_ge (S 239) (S 237 4) _ (t + 1) (by omega)).1
              refine wJ_S (cm_loop hM0 hn (fun Z2 hag2 h82 => ?_) _ t _ (by omega) (by omega) (by omega) q1 hag h8) ⟨rfl, rfl, rfl, trivial⟩
              refine wa_goto ⟨_, rfl⟩ ?_
              rw [if_neg (by omega), if_pos ⟨by omega, by omega⟩] at he
              exact wJ_S (ih _ _ (by omega) (by omega) (by omega) he hag2 h82) ⟨rfl, rfl, trivial⟩
        · skip
          refine wa_fall ⟨_, rfl⟩ ?_
          refine wa_aload_n (n := 0) rfl ?_
          refine wa_dup (by decide) ?_
          refine wb_gfi 237 rfl (wy_pr rfl) wt_237 wf_15_8 (v := t) (h8) (fun r17 => ?_)
          refine wa_iconst ?_
          refine wa_iadd ?_
          refine wb_pfi 237 rfl (wy_pr rfl) wt_237 wf_15_8 (n := 8) rfl ⟨(by omega), (by omega)⟩ ?_
          refine wa_goto ⟨_, rfl⟩ ?_
          refine wa_goto ⟨_, rfl⟩ ?_
          rw [if_pos (by omega)] at he
          exact wJ_S (ih (t + 1) _ (by omega) (by omega) (by omega) he (lx_ag_up hag (by omega)) (w_up_same _ _ _ _)) ⟨rfl, rfl, trivial⟩
end W65
