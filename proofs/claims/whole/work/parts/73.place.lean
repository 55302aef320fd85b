/-! PART 73: the reference's place, isOneOf. -/
section W73
variable {xs : List (Nat × List Int32)} {M : Nat → Prop} {d : Nat} {S : wS} {Q : wO → wS → Prop}
/-- the blank from e on -/
def pl_e (tx : List Int32) : Nat → Int → Int
  | 0, e => e
  | f + 1, e => if w_tx tx e = 32 then e else pl_e tx f (e + 1)
theorem pl_e_s (tx : List Int32) (f : Nat) (e : Int) : pl_e tx (f + 1) e = if w_tx tx e = 32 then e else pl_e tx f (e + 1) := rfl
/-- the token is the word that stands from k to e -/
def pl_q (S : wS) (tx : List Int32) (k e : Int) : Bool := decide (S 237 6 = 1 ∧ e - k = S 237 8 - S 237 7 ∧ ∀ i : Nat, i < (e - k).toNat → w_tx tx (k + (i : Int)) = S 239 (S 237 7 + (k + (i : Int)) - k))
def pl_f (S : wS) (tx : List Int32) : Nat → Int → Int → Int
  | 0, _, _ => -1
  | f + 1, n, k => if k < (tx.length : Int) then (if pl_q S tx k (pl_e tx tx.length k) = true then n else pl_f S tx f (n + 1) (pl_e tx tx.length k + 1)) else -1
theorem pl_f_s (S : wS) (tx : List Int32) (f : Nat) (n k : Int) : pl_f S tx (f + 1) n k = if k < (tx.length : Int) then (if pl_q S tx k (pl_e tx tx.length k) = true then n else pl_f S tx f (n + 1) (pl_e tx tx.length k + 1)) else -1 := rfl
def pl_of (S : wS) (tx : List Int32) : Int := pl_f S tx (tx.length + 1) 0 1
theorem pl_f_rg (S : wS) (tx : List Int32) : ∀ (f : Nat) (n k : Int), pl_f S tx f n k = -1 ∨ (n ≤ pl_f S tx f n k ∧ pl_f S tx f n k < n + f) := by
  intro f
  induction f with
  | zero => intro n k; exact Or.inl rfl
  | succ f ih =>
    intro n k
    rw [pl_f_s]
    split
    · split
      · exact Or.inr ⟨Int.le_refl _, by omega⟩
      · have := ih (n + 1) (pl_e tx tx.length k + 1); omega
    · exact Or.inl rfl
theorem pl_2 {j : Nat} {tx : List Int32} {n k e0 : Int} (hM : w_ML S) (ht : pe_at (pe_GA xs).xs j = some (0, tx)) (hl : tx.length ≤ 200) (hz : w_tx tx ((tx.length : Int) - 1) = 32) (hp : 0 ≤ S 237 7 ∧ S 237 7 ≤ 65540 ∧ 0 ≤ S 237 8 ∧ S 237 8 ≤ 65540) (hk : k ≤ e0 → e0 < (tx.length : Int) → wJ (pe_GA xs) wY0 M (d + 4) t_M_place ((pe_at t_M_place.bl 3).getD (0, [])).2 [(0, (2, 237)), (1, (2, -10 - (j : Int))), (2, (0, n)), (3, (0, k)), (4, (0, e0))] [] S Q) (h0 : 0 ≤ k) : ∀ (f : Nat) (e : Int), ((tx.length : Int) - e).toNat ≤ f → k ≤ e → e < (tx.length : Int) → pl_e tx f e = e0 → wJ (pe_GA xs) wY0 M (d + 4) t_M_place ((pe_at t_M_place.bl 2).getD (0, [])).2 [(0, (2, 237)), (1, (2, -10 - (j : Int))), (2, (0, n)), (3, (0, k)), (4, (0, e))] [] S Q := by
  intro f
  induction f with
  | zero => intros; omega
  | succ f ih =>
    intro e hf he1 he2 he
    rw [pl_e_s] at he
    have hwr := w_tx_rg tx e
    have hwr1 : -2147483648 ≤ w_tx tx e := hwr.1
    have hwr2 : w_tx tx e ≤ 2147483647 := hwr.2
    refine wa_aload_n (n := 1) rfl ?_
    refine wa_iload (n := 4) rfl ?_
    refine wa_sc j rfl ht (by omega) rfl rfl (by omega) (by omega) ?_
    refine wa_bipush (w_rg2 (by omega) (by omega)) ?_
    refine wa_icmpeq (w_rg0 (by omega) (by omega)) (w_rg0 (by omega) (by omega)) ⟨_, rfl⟩ (fun c1 => ?_) (fun c1 => ?_)
    · skip
      rw [if_pos (by omega)] at he
      subst he
      exact hk he1 he2
    · skip
      refine wa_iinc rfl rfl ?_
      refine wa_goto ⟨_, rfl⟩ ?_
      rw [if_neg (by omega)] at he
      have hne : e ≠ (tx.length : Int) - 1 := by
        intro z
        rw [← z] at hz
        omega
      exact wJ_S (ih (e + 1) (by omega) (by omega) (by omega) he) ⟨rfl, rfl, rfl, rfl, rfl, trivial⟩
theorem pl_6 {j : Nat} {tx : List Int32} {n k e : Int} (hM : w_ML S) (ht : pe_at (pe_GA xs).xs j = some (0, tx)) (hl : tx.length ≤ 200) (hz : w_tx tx ((tx.length : Int) - 1) = 32) (hp : 0 ≤ S 237 7 ∧ S 237 7 ≤ 65540 ∧ 0 ≤ S 237 8 ∧ S 237 8 ≤ 65540) (hke : 0 ≤ k ∧ k ≤ e ∧ e < (tx.length : Int)) (hk : ∀ b i : Int, ((b = 1 ∧ pl_q S tx k e = true) ∨ (b = 0 ∧ pl_q S tx k e = false)) → wJ (pe_GA xs) wY0 M (d + 4) t_M_place ((pe_at t_M_place.bl 9).getD (0, [])).2 [(0, (2, 237)), (1, (2, -10 - (j : Int))), (2, (0, n)), (3, (0, k)), (4, (0, e)), (5, (0, b))] [] S Q) : ∀ (f i : Nat) (b : Int), (e - k).toNat - i < f → i ≤ (e - k).toNat → ((b = 1 ∧ (S 237 6 = 1 ∧ e - k = S 237 8 - S 237 7) ∧ ∀ q : Nat, q < i → w_tx tx (k + (q : Int)) = S 239 (S 237 7 + (k + (q : Int)) - k)) ∨ (b = 0 ∧ pl_q S tx k e = false)) → wJ (pe_GA xs) wY0 M (d + 4) t_M_place ((pe_at t_M_place.bl 6).getD (0, [])).2 [(0, (2, 237)), (1, (2, -10 - (j : Int))), (2, (0, n)), (3, (0, k)), (4, (0, e)), (5, (0, b)), (6, (0, k + (i : Int)))] [] S Q := by
  intro f
  induction f with
  | zero => intros; omega
  | succ f ih =>
    intro i b hf hi hb
    have hb01 : b = 0 ∨ b = 1 := by rcases hb with q | q <;> omega
    have hwr := w_tx_rg tx (k + (i : Int))
    have hwr1 : -2147483648 ≤ w_tx tx (k + (i : Int)) := hwr.1
    have hwr2 : w_tx tx (k + (i : Int)) ≤ 2147483647 := hwr.2
    refine wa_iload (n := 6) rfl ?_
    refine wa_iload (n := 4) rfl ?_
    refine wa_icmpge (w_rg0 (by omega) (by omega)) (w_rg0 (by omega) (by omega)) ⟨_, rfl⟩ (fun c1 => ?_) (fun c1 => ?_)
    · skip
      refine wJ_S (hk b 0 ?_) ⟨rfl, rfl, rfl, rfl, rfl, rfl, trivial⟩
      rcases hb with ⟨q1, q2, q3⟩ | ⟨q1, q2⟩
      · first | (exact absurd q1 (by omega)) | exact Or.inl ⟨q1, decide_eq_true ⟨q2.1, q2.2, fun q hq => q3 q (by omega)⟩⟩
      · exact Or.inr ⟨q1, q2⟩
    · skip
      refine wa_iload (n := 5) rfl ?_
      refine wa_ifeq (w_rg0 (by omega) (by omega)) ⟨_, rfl⟩ (fun c2 => ?_) (fun c2 => ?_)
      · skip
        refine wJ_S (hk b 0 ?_) ⟨rfl, rfl, rfl, rfl, rfl, rfl, trivial⟩
        rcases hb with ⟨q1, q2, q3⟩ | ⟨q1, q2⟩
        · first | (exact absurd q1 (by omega)) | exact Or.inl ⟨q1, decide_eq_true ⟨q2.1, q2.2, fun q hq => q3 q (by omega)⟩⟩
        · exact Or.inr ⟨q1, q2⟩
      · skip
        have hq2 : S 237 6 = 1 ∧ e - k = S 237 8 - S 237 7 := by
          rcases hb with q | q
          · exact q.2.1
          · exact absurd q.1 (by omega)
        refine wa_aload_n (n := 1) rfl ?_
        refine wa_iload (n := 6) rfl ?_
        refine wa_sc j rfl ht (by omega) rfl rfl (by omega) (by omega) ?_
        refine wa_aload_n (n := 0) rfl ?_
        refine wb_gf4 237 rfl (wy_pr rfl) wt_237 wf_15_2 (v := 239) wl_237_2 ?_
        refine wa_aload_n (n := 0) rfl ?_
        refine wb_gfi 237 rfl (wy_pr rfl) wt_237 wf_15_7 (v := (S 237 7)) rfl (fun r3 => ?_)
        refine wa_iload (n := 6) rfl ?_
        refine wa_iadd ?_
        refine wa_iload_n (n := 3) rfl ?_
        refine wa_isub ?_
        refine wb_bald 239 rfl (wy_pr rfl) wt_239 (n := 65552) ((ml_239 hM)) (by omega) (by omega) (v := (S 239 (((S 237 7) + (k + (i : Int))) - k))) rfl (fun r4 => ?_)
        refine wa_icmpne (w_rg0 (by omega) (by omega)) (w_rg0 (by omega) (by omega)) ⟨_, rfl⟩ (fun c5 => ?_) (fun c5 => ?_)
        · skip
          refine wa_iconst ?_
          refine wa_fall ⟨_, rfl⟩ ?_
          refine wa_istore (n := 5) rfl ?_
          refine wa_iinc rfl rfl ?_
          refine wa_goto ⟨_, rfl⟩ ?_
          rw [show k + (i : Int) + 1 = k + ((i + 1 : Nat) : Int) by omega]
          rcases hb with ⟨q1, q2, q3⟩ | ⟨q1, q2⟩
          · refine wJ_S (ih (i + 1) 0 (by omega) (by omega) (Or.inr ⟨rfl, decide_eq_false (fun h => ?_)⟩)) ⟨rfl, rfl, rfl, rfl, rfl, rfl, rfl, trivial⟩
            have := h.2.2 i (by omega); omega
          · omega
        · skip
          refine wa_iconst ?_
          refine wa_goto ⟨_, rfl⟩ ?_
          refine wa_istore (n := 5) rfl ?_
          refine wa_iinc rfl rfl ?_
          refine wa_goto ⟨_, rfl⟩ ?_
          rw [show k + (i : Int) + 1 = k + ((i + 1 : Nat) : Int) by omega]
          rcases hb with ⟨q1, q2, q3⟩ | ⟨q1, q2⟩
          · refine wJ_S (ih (i + 1) 1 (by omega) (by omega) (Or.inl ⟨rfl, q2, fun q hq => ?_⟩)) ⟨rfl, rfl, rfl, rfl, rfl, rfl, rfl, trivial⟩
            by_cases hqi : q = i
            · subst hqi; omega
            · exact q3 q (by omega)
          · omega
theorem pl_1 {j : Nat} {tx : List Int32} {r : Int} (hM : w_ML S) (ht : pe_at (pe_GA xs).xs j = some (0, tx)) (hl : tx.length ≤ 200) (hz : w_tx tx ((tx.length : Int) - 1) = 32) (hp : 0 ≤ S 237 7 ∧ S 237 7 ≤ 65540 ∧ 0 ≤ S 237 8 ∧ S 237 8 ≤ 65540) : ∀ (f : Nat) (n k : Int), ((tx.length : Int) - k).toNat < f → 0 ≤ n → n ≤ k → k ≤ (tx.length : Int) → pl_f S tx f n k = r → wJ (pe_GA xs) wY0 M (d + 4) t_M_place ((pe_at t_M_place.bl 1).getD (0, [])).2 [(0, (2, 237)), (1, (2, -10 - (j : Int))), (2, (0, n)), (3, (0, k))] [] S (fun o S2 => S = S2 ∧ o = .inl (some (0, r))) := by
  intro f
  induction f with
  | zero => intros; omega
  | succ f ih =>
    intro n k hf hn0 hnk hkl he
    rw [pl_f_s] at he
    refine wa_iload_n (n := 3) rfl ?_
    refine wa_aload_n (n := 1) rfl ?_
    refine wa_sl j rfl ht rfl rfl ?_
    refine wa_icmpge (w_rg0 (by omega) (by omega)) (w_rg0 (by omega) (by omega)) ⟨_, rfl⟩ (fun c1 => ?_) (fun c1 => ?_)
    · skip
      refine wa_iconst ?_
      refine wa_ireturn rfl ?_
      rw [if_neg (by omega)] at he
      exact ⟨rfl, by rw [← he]⟩
    · skip
      refine wa_iload_n (n := 3) rfl ?_
      refine wa_istore (n := 4) rfl ?_
      refine wa_fall ⟨_, rfl⟩ ?_
      rw [if_pos (by omega)] at he
      refine wJ_S (pl_2 (e0 := pl_e tx tx.length k) hM ht hl hz hp (fun g1 g2 => ?_) (by omega) tx.length k (by omega) (by omega) (by omega) rfl) ⟨rfl, rfl, rfl, rfl, rfl, trivial⟩
      generalize pl_e tx tx.length k = e at he g1 g2 ⊢
      refine wa_aload_n (n := 0) rfl ?_
      refine wb_gfi 237 rfl (wy_pr rfl) wt_237 wf_15_6 (v := (S 237 6)) rfl (fun r51 => ?_)
      refine wa_iconst ?_
      refine wa_icmpne (w_rg0 (by omega) (by omega)) (w_rg0 (by omega) (by omega)) ⟨_, rfl⟩ (fun c52 => ?_) (fun c52 => ?_)
      · skip
        refine wa_iconst ?_
        refine wa_fall ⟨_, rfl⟩ ?_
        refine wa_istore (n := 5) rfl ?_
        refine wa_iload_n (n := 3) rfl ?_
        refine wa_istore (n := 6) rfl ?_
        refine wa_fall ⟨_, rfl⟩ ?_
        refine wJ_S (pl_6 hM ht hl hz hp ⟨by omega, by omega, by omega⟩ (fun b i hb => ?_) ((e - k).toNat + 1) 0 0 (by omega) (by omega) (Or.inr ⟨rfl, decide_eq_false (fun h => by omega)⟩)) ⟨rfl, rfl, rfl, rfl, rfl, rfl, congrArg (fun q => some ((0 : Nat), q)) (by omega), trivial⟩
        have hb01 : b = 0 ∨ b = 1 := by rcases hb with q | q <;> omega
        refine wa_iload (n := 5) rfl ?_
        refine wa_ifeq (w_rg0 (by omega) (by omega)) ⟨_, rfl⟩ (fun c81 => ?_) (fun c81 => ?_)
        · skip
          refine wa_iinc rfl rfl ?_
          refine wa_iload (n := 4) rfl ?_
          refine wa_iconst ?_
          refine wa_iadd ?_
          refine wa_istore_n (n := 3) rfl ?_
          refine wa_goto ⟨_, rfl⟩ ?_
          rw [if_neg (by
            rcases hb with q | q
            · exact absurd q.1 (by omega)
            · rw [q.2]; decide)] at he
          exact wJ_S (ih (n + 1) (e + 1) (by omega) (by omega) (by omega) (by omega) he) ⟨rfl, rfl, rfl, rfl, trivial⟩
        · skip
          refine wa_iload_n (n := 2) rfl ?_
          refine wa_ireturn rfl ?_
          rw [if_pos (by
            rcases hb with q | q
            · exact q.2
            · exact absurd q.1 (by omega))] at he
          exact ⟨rfl, by rw [he]⟩
      · skip
        refine wa_iload (n := 4) rfl ?_
        refine wa_iload_n (n := 3) rfl ?_
        refine wa_isub ?_
        refine wa_aload_n (n := 0) rfl ?_
        refine wb_gfi 237 rfl (wy_pr rfl) wt_237 wf_15_8 (v := (S 237 8)) rfl (fun r53 => ?_)
        refine wa_aload_n (n := 0) rfl ?_
        refine wb_gfi 237 rfl (wy_pr rfl) wt_237 wf_15_7 (v := (S 237 7)) rfl (fun r54 => ?_)
        refine wa_isub ?_
        refine wa_icmpne (w_rg0 (by omega) (by omega)) (w_rg0 (by omega) (by omega)) ⟨_, rfl⟩ (fun c55 => ?_) (fun c55 => ?_)
        · skip
          refine wa_iconst ?_
          refine wa_fall ⟨_, rfl⟩ ?_
          refine wa_istore (n := 5) rfl ?_
          refine wa_iload_n (n := 3) rfl ?_
          refine wa_istore (n := 6) rfl ?_
          refine wa_fall ⟨_, rfl⟩ ?_
          refine wJ_S (pl_6 hM ht hl hz hp ⟨by omega, by omega, by omega⟩ (fun b i hb => ?_) ((e - k).toNat + 1) 0 0 (by omega) (by omega) (Or.inr ⟨rfl, decide_eq_false (fun h => by omega)⟩)) ⟨rfl, rfl, rfl, rfl, rfl, rfl, congrArg (fun q => some ((0 : Nat), q)) (by omega), trivial⟩
          have hb01 : b = 0 ∨ b = 1 := by rcases hb with q | q <;> omega
          refine wa_iload (n := 5) rfl ?_
          refine wa_ifeq (w_rg0 (by omega) (by omega)) ⟨_, rfl⟩ (fun c81 => ?_) (fun c81 => ?_)
          · skip
            refine wa_iinc rfl rfl ?_
            refine wa_iload (n := 4) rfl ?_
            refine wa_iconst ?_
            refine wa_iadd ?_
            refine wa_istore_n (n := 3) rfl ?_
            refine wa_goto ⟨_, rfl⟩ ?_
            rw [if_neg (by
              rcases hb with q | q
              · exact absurd q.1 (by omega)
              · rw [q.2]; decide)] at he
            exact wJ_S (ih (n + 1) (e + 1) (by omega) (by omega) (by omega) (by omega) he) ⟨rfl, rfl, rfl, rfl, trivial⟩
          · skip
            refine wa_iload_n (n := 2) rfl ?_
            refine wa_ireturn rfl ?_
            rw [if_pos (by
              rcases hb with q | q
              · exact q.2
              · exact absurd q.1 (by omega))] at he
            exact ⟨rfl, by rw [he]⟩
        · skip
          refine wa_iconst ?_
          refine wa_goto ⟨_, rfl⟩ ?_
          refine wa_istore (n := 5) rfl ?_
          refine wa_iload_n (n := 3) rfl ?_
          refine wa_istore (n := 6) rfl ?_
          refine wa_fall ⟨_, rfl⟩ ?_
          refine wJ_S (pl_6 hM ht hl hz hp ⟨by omega, by omega, by omega⟩ (fun b i hb => ?_) ((e - k).toNat + 1) 0 1 (by omega) (by omega) (Or.inl ⟨rfl, ⟨by omega, by omega⟩, fun q hq => absurd hq (Nat.not_lt_zero q)⟩)) ⟨rfl, rfl, rfl, rfl, rfl, rfl, congrArg (fun q => some ((0 : Nat), q)) (by omega), trivial⟩
          have hb01 : b = 0 ∨ b = 1 := by rcases hb with q | q <;> omega
          refine wa_iload (n := 5) rfl ?_
          refine wa_ifeq (w_rg0 (by omega) (by omega)) ⟨_, rfl⟩ (fun c81 => ?_) (fun c81 => ?_)
          · skip
            refine wa_iinc rfl rfl ?_
            refine wa_iload (n := 4) rfl ?_
            refine wa_iconst ?_
            refine wa_iadd ?_
            refine wa_istore_n (n := 3) rfl ?_
            refine wa_goto ⟨_, rfl⟩ ?_
            rw [if_neg (by
              rcases hb with q | q
              · exact absurd q.1 (by omega)
              · rw [q.2]; decide)] at he
            exact wJ_S (ih (n + 1) (e + 1) (by omega) (by omega) (by omega) (by omega) he) ⟨rfl, rfl, rfl, rfl, trivial⟩
          · skip
            refine wa_iload_n (n := 2) rfl ?_
            refine wa_ireturn rfl ?_
            rw [if_pos (by
              rcases hb with q | q
              · exact q.2
              · exact absurd q.1 (by omega))] at he
            exact ⟨rfl, by rw [he]⟩
theorem place_ok {j : Nat} {tx : List Int32} (hM : w_ML S) (ht : pe_at (pe_GA xs).xs j = some (0, tx)) (hl : tx.length ≤ 200) (hz : w_tx tx ((tx.length : Int) - 1) = 32) (hp : 0 ≤ S 237 7 ∧ S 237 7 ≤ 65540 ∧ 0 ≤ S 237 8 ∧ S 237 8 ≤ 65540) (h1 : 1 ≤ tx.length) : wJ (pe_GA xs) wY0 M (d + 4) t_M_place ((pe_at t_M_place.bl 0).getD (0, [])).2 [(0, (2, 237)), (1, (2, -10 - (j : Int)))] [] S (fun o S2 => S = S2 ∧ o = .inl (some (0, pl_of S tx))) := by
  refine wa_iconst ?_
  refine wa_istore_n (n := 2) rfl ?_
  refine wa_iconst ?_
  refine wa_istore_n (n := 3) rfl ?_
  refine wa_fall ⟨_, rfl⟩ ?_
  exact wJ_S (pl_1 hM ht hl hz hp (tx.length + 1) 0 1 (by omega) (by omega) (by omega) (by omega) rfl) ⟨rfl, rfl, rfl, rfl, trivial⟩
theorem pl_of_rg (S : wS) (tx : List Int32) (hl : tx.length ≤ 200) : -1 ≤ pl_of S tx ∧ pl_of S tx ≤ 201 := by
  have := pl_f_rg S tx (tx.length + 1) 0 1
  unfold pl_of
  omega
def lx_oo (S : wS) (tx : List Int32) : Bool := decide (S 237 6 = 1 ∧ 0 ≤ pl_of S tx)
theorem isOneOf_ok {j : Nat} {tx : List Int32} (hM : w_ML S) (ht : pe_at (pe_GA xs).xs j = some (0, tx)) (hl : tx.length ≤ 200) (hz : w_tx tx ((tx.length : Int) - 1) = 32) (hp : 0 ≤ S 237 7 ∧ S 237 7 ≤ 65540 ∧ 0 ≤ S 237 8 ∧ S 237 8 ≤ 65540) (h1 : 1 ≤ tx.length) : wJ (pe_GA xs) wY0 M (d + 5) t_M_isOneOf ((pe_at t_M_isOneOf.bl 0).getD (0, [])).2 [(0, (2, 237)), (1, (2, -10 - (j : Int)))] [] S (fun o S2 => S = S2 ∧ ((o = .inl (some (0, 1)) ∧ lx_oo S tx = true) ∨ (o = .inl (some (0, 0)) ∧ lx_oo S tx = false))) := by
  refine wa_aload_n (n := 0) rfl ?_
  refine wb_gfi 237 rfl (wy_pr rfl) wt_237 wf_15_6 (v := (S 237 6)) rfl (fun r1 => ?_)
  refine wa_iconst ?_
  refine wa_icmpne (w_rg0 (by omega) (by omega)) (w_rg0 (by omega) (by omega)) ⟨_, rfl⟩ (fun c2 => ?_) (fun c2 => ?_)
  · skip
    refine wa_iconst ?_
    refine wa_fall ⟨_, rfl⟩ ?_
    refine wa_zreturn rfl (Or.inl rfl) ?_
    exact ⟨rfl, Or.inr ⟨rfl, decide_eq_false (by omega)⟩⟩
  · skip
    refine wa_aload_n (n := 0) rfl ?_
    refine wa_aload_n (n := 1) rfl ?_
    refine wa_cv 237 rfl (wy_pr rfl) wt_237 (M2 := fun _ => False) rfl at_M_place ⟨_, rfl⟩ rfl rfl ⟨(Or.inr ⟨wy_pr rfl, fun q => q⟩), (Or.inl (by omega)), trivial⟩ trivial (fun _ _ q => False.elim q) (place_ok hM ht hl hz hp h1) (fun oq3 Sq3 hp4 q3 => ?_)
    rcases q3 with ⟨rfl, rfl⟩
    show wJ _ _ _ _ _ _ _ _ _ _
    have hpl := pl_of_rg S tx hl
    refine wa_iflt (w_rg0 (by omega) (by omega)) ⟨_, rfl⟩ (fun c5 => ?_) (fun c5 => ?_)
    · skip
      refine wa_iconst ?_
      refine wa_fall ⟨_, rfl⟩ ?_
      refine wa_zreturn rfl (Or.inl rfl) ?_
      exact ⟨rfl, Or.inr ⟨rfl, decide_eq_false (by omega)⟩⟩
    · skip
      refine wa_iconst ?_
      refine wa_goto ⟨_, rfl⟩ ?_
      refine wa_zreturn rfl (Or.inr rfl) ?_
      exact ⟨rfl, Or.inl ⟨rfl, decide_eq_true (by omega)⟩⟩
end W73
