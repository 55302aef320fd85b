/-! PART 64: the reference's lexer. -/
section W64
variable {xs : List (Nat × List Int32)} {M : Nat → Prop} {d : Nat} {S : wS}
def lx_at (T : Int → Int) (n k : Int) : Int := if k < n then T k else 0
def lx_le (c : Int) : Bool := decide ((97 ≤ c ∧ c ≤ 122) ∨ (65 ≤ c ∧ c ≤ 90) ∨ c = 95)
def lx_di (c : Int) : Bool := decide (48 ≤ c ∧ c ≤ 57)
theorem lx_le_nz {c : Int} (h : lx_le c = true) : c ≠ 0 := by
  have := of_decide_eq_true h
  omega
theorem lx_di_rg {c : Int} (h : lx_di c = true) : 48 ≤ c ∧ c ≤ 57 := of_decide_eq_true h
theorem in_ok {a lo hi : Int} (ha : -9223372036854775808 ≤ a ∧ a ≤ 9223372036854775807) (hl : -9223372036854775808 ≤ lo ∧ lo ≤ 9223372036854775807) (hh : -9223372036854775808 ≤ hi ∧ hi ≤ 9223372036854775807) : wJ (pe_GA xs) wY0 M d t_M_in ((pe_at t_M_in.bl 0).getD (0, [])).2 [(0, (1, a)), (2, (1, lo)), (4, (1, hi))] [] S (fun o S2 => S = S2 ∧ ((o = .inl (some (0, 1)) ∧ lo ≤ a ∧ a ≤ hi) ∨ (o = .inl (some (0, 0)) ∧ ¬ (lo ≤ a ∧ a ≤ hi)))) := by
  refine wa_lload_n (n := 0) rfl ?_
  refine wa_lload_n (n := 2) rfl ?_
  refine wa_lcmp (w_rg1 (by omega) (by omega)) (w_rg1 (by omega) (by omega)) ?_
  refine wa_iflt (by have := @wb_lcmp_cases; exact w_lcmp_rg) ⟨_, rfl⟩ (fun c1 => ?_) (fun c1 => ?_)
  · skip
    have c1x := @wb_lcmp_cases a lo
    refine wa_iconst ?_
    refine wa_fall ⟨_, rfl⟩ ?_
    refine wa_zreturn rfl (Or.inl rfl) ?_
    exact ⟨rfl, Or.inr ⟨rfl, by omega⟩⟩
  · skip
    have c1x := @wb_lcmp_cases a lo
    refine wa_lload_n (n := 0) rfl ?_
    refine wa_lload (n := 4) rfl ?_
    refine wa_lcmp (w_rg1 (by omega) (by omega)) (w_rg1 (by omega) (by omega)) ?_
    refine wa_ifgt (by have := @wb_lcmp_cases; exact w_lcmp_rg) ⟨_, rfl⟩ (fun c2 => ?_) (fun c2 => ?_)
    · skip
      have c2x := @wb_lcmp_cases a hi
      refine wa_iconst ?_
      refine wa_fall ⟨_, rfl⟩ ?_
      refine wa_zreturn rfl (Or.inl rfl) ?_
      exact ⟨rfl, Or.inr ⟨rfl, by omega⟩⟩
    · skip
      have c2x := @wb_lcmp_cases a hi
      refine wa_iconst ?_
      refine wa_goto ⟨_, rfl⟩ ?_
      refine wa_zreturn rfl (Or.inr rfl) ?_
      exact ⟨rfl, Or.inl ⟨rfl, by omega, by omega⟩⟩
theorem isLetter_ok {c : Int} (hc : -2147483648 ≤ c ∧ c ≤ 2147483647) : wJ (pe_GA xs) wY0 M (d + 1) t_M_isLetter ((pe_at t_M_isLetter.bl 0).getD (0, [])).2 [(0, (0, c))] [] S (fun o S2 => S = S2 ∧ ((o = .inl (some (0, 1)) ∧ lx_le c = true) ∨ (o = .inl (some (0, 0)) ∧ lx_le c = false))) := by
  refine wa_iload_n (n := 0) rfl ?_
  refine wa_i2l (w_rg0 (by omega) (by omega)) ?_
  refine wb_kl (n := 97) rfl ?_
  refine wb_kl (n := 122) rfl ?_
  refine wa_cs (M2 := fun _ => False) rfl at_M_in ⟨_, rfl⟩ rfl rfl ⟨trivial, trivial⟩ trivial (fun _ _ q => False.elim q) (in_ok ⟨by omega, by omega⟩ ⟨by omega, by omega⟩ ⟨by omega, by omega⟩) (fun oq2 Sq2 hp3 q2 => ?_)
  rcases q2 with ⟨rfl, ⟨rfl, g1⟩ | ⟨rfl, g1⟩⟩
  · skip
    show wJ _ _ _ _ _ _ _ _ _ _
    refine wa_ifne (w_rg0 (by omega) (by omega)) ⟨_, rfl⟩ (fun c4 => ?_) (fun c4 => ?_)
    · skip
      refine wa_iconst ?_
      refine wa_goto ⟨_, rfl⟩ ?_
      refine wa_zreturn rfl (Or.inr rfl) ?_
      exact ⟨rfl, Or.inl ⟨rfl, decide_eq_true (by omega)⟩⟩
    · skip
      exact absurd c4 (by omega)
  · skip
    show wJ _ _ _ _ _ _ _ _ _ _
    refine wa_ifne (w_rg0 (by omega) (by omega)) ⟨_, rfl⟩ (fun c5 => ?_) (fun c5 => ?_)
    · skip
      exact absurd c5 (by omega)
    · skip
      refine wa_iload_n (n := 0) rfl ?_
      refine wa_i2l (w_rg0 (by omega) (by omega)) ?_
      refine wb_kl (n := 65) rfl ?_
      refine wb_kl (n := 90) rfl ?_
      refine wa_cs (M2 := fun _ => False) rfl at_M_in ⟨_, rfl⟩ rfl rfl ⟨trivial, trivial⟩ trivial (fun _ _ q => False.elim q) (in_ok ⟨by omega, by omega⟩ ⟨by omega, by omega⟩ ⟨by omega, by omega⟩) (fun oq7 Sq7 hp8 q7 => ?_)
      rcases q7 with ⟨rfl, ⟨rfl, g6⟩ | ⟨rfl, g6⟩⟩
      · skip
        show wJ _ _ _ _ _ _ _ _ _ _
        refine wa_ifne (w_rg0 (by omega) (by omega)) ⟨_, rfl⟩ (fun c9 => ?_) (fun c9 => ?_)
        · skip
          refine wa_iconst ?_
          refine wa_goto ⟨_, rfl⟩ ?_
          refine wa_zreturn rfl (Or.inr rfl) ?_
          exact ⟨rfl, Or.inl ⟨rfl, decide_eq_true (by omega)⟩⟩
        · skip
          exact absurd c9 (by omega)
      · skip
        show wJ _ _ _ _ _ _ _ _ _ _
        refine wa_ifne (w_rg0 (by omega) (by omega)) ⟨_, rfl⟩ (fun c10 => ?_) (fun c10 => ?_)
        · skip
          exact absurd c10 (by omega)
        · skip
          refine wa_iload_n (n := 0) rfl ?_
          refine wa_bipush (w_rg2 (by omega) (by omega)) ?_
          refine wa_icmpne (w_rg0 (by omega) (by omega)) (w_rg0 (by omega) (by omega)) ⟨_, rfl⟩ (fun c11 => ?_) (fun c11 => ?_)
          · skip
            refine wa_iconst ?_
            refine wa_fall ⟨_, rfl⟩ ?_
            refine wa_zreturn rfl (Or.inl rfl) ?_
            exact ⟨rfl, Or.inr ⟨rfl, decide_eq_false (by omega)⟩⟩
          · skip
            refine wa_fall ⟨_, rfl⟩ ?_
            refine wa_iconst ?_
            refine wa_goto ⟨_, rfl⟩ ?_
            refine wa_zreturn rfl (Or.inr rfl) ?_
            exact ⟨rfl, Or.inl ⟨rfl, decide_eq_true (by omega)⟩⟩
theorem isDigit_ok {c : Int} (hc : -2147483648 ≤ c ∧ c ≤ 2147483647) : wJ (pe_GA xs) wY0 M (d + 1) t_M_isDigit ((pe_at t_M_isDigit.bl 0).getD (0, [])).2 [(0, (0, c))] [] S (fun o S2 => S = S2 ∧ ((o = .inl (some (0, 1)) ∧ lx_di c = true) ∨ (o = .inl (some (0, 0)) ∧ lx_di c = false))) := by
  refine wa_iload_n (n := 0) rfl ?_
  refine wa_i2l (w_rg0 (by omega) (by omega)) ?_
  refine wb_kl (n := 48) rfl ?_
  refine wb_kl (n := 57) rfl ?_
  refine wa_cs (M2 := fun _ => False) rfl at_M_in ⟨_, rfl⟩ rfl rfl ⟨trivial, trivial⟩ trivial (fun _ _ q => False.elim q) (in_ok ⟨by omega, by omega⟩ ⟨by omega, by omega⟩ ⟨by omega, by omega⟩) (fun oq2 Sq2 hp3 q2 => ?_)
  rcases q2 with ⟨rfl, ⟨rfl, g1⟩ | ⟨rfl, g1⟩⟩
  · skip
    show wJ _ _ _ _ _ _ _ _ _ _
    refine wa_zreturn rfl (Or.inr rfl) ?_
    exact ⟨rfl, Or.inl ⟨rfl, decide_eq_true (by omega)⟩⟩
  · skip
    show wJ _ _ _ _ _ _ _ _ _ _
    refine wa_zreturn rfl (Or.inl rfl) ?_
    exact ⟨rfl, Or.inr ⟨rfl, decide_eq_false (by omega)⟩⟩
theorem at_ok {k : Int} (hM : w_ML S) (hk : 0 ≤ k ∧ k ≤ 2147483647) (hs : S 237 4 ≤ 65536) : wJ (pe_GA xs) wY0 M d t_M_at ((pe_at t_M_at.bl 0).getD (0, [])).2 [(0, (2, 237)), (1, (0, k))] [] S (fun o S2 => S = S2 ∧ o = .inl (some (0, lx_at (S 239) (S 237 4) k)) ∧ -128 ≤ lx_at (S 239) (S 237 4) k ∧ lx_at (S 239) (S 237 4) k ≤ 127) := by
  refine wa_iload_n (n := 1) rfl ?_
  refine wa_aload_n (n := 0) rfl ?_
  refine wb_gfi 237 rfl (wy_pr rfl) wt_237 wf_15_4 (v := (S 237 4)) rfl (fun r1 => ?_)
  refine wa_icmpge (w_rg0 (by omega) (by omega)) (w_rg0 (by omega) (by omega)) ⟨_, rfl⟩ (fun c2 => ?_) (fun c2 => ?_)
  · skip
    refine wa_iconst ?_
    refine wa_fall ⟨_, rfl⟩ ?_
    refine wa_ireturn rfl ?_
    refine ⟨rfl, ?_⟩
    unfold lx_at
    first | (rw [if_pos (by omega)]; exact ⟨rfl, by omega, by omega⟩) | (rw [if_neg (by omega)]; exact ⟨rfl, by omega, by omega⟩)
  · skip
    refine wa_aload_n (n := 0) rfl ?_
    refine wb_gf4 237 rfl (wy_pr rfl) wt_237 wf_15_2 (v := 239) wl_237_2 ?_
    refine wa_iload_n (n := 1) rfl ?_
    refine wb_bald 239 rfl (wy_pr rfl) wt_239 (n := 65552) ((ml_239 hM)) (by omega) (by omega) (v := (S 239 k)) rfl (fun r3 => ?_)
    refine wa_goto ⟨_, rfl⟩ ?_
    refine wa_ireturn rfl ?_
    refine ⟨rfl, ?_⟩
    unfold lx_at
    first | (rw [if_pos (by omega)]; exact ⟨rfl, by omega, by omega⟩) | (rw [if_neg (by omega)]; exact ⟨rfl, by omega, by omega⟩)
end W64
