/-! PART 72: the parser's primitives of the reference. -/
section W72
variable {xs : List (Nat × List Int32)} {M : Nat → Prop} {d : Nat} {S : wS} {Q : wO → wS → Prop}
/-- the lexer stands at p, within the text -/
def lx_I (S : wS) (p : Int) : Prop := w_ML S ∧ (0 ≤ S 237 4 ∧ S 237 4 ≤ 65536) ∧ (0 ≤ p ∧ p ≤ S 237 4) ∧ lx_St S p
/-- the next token's place -/
def lx_ne (S : wS) (p : Int) : Int := lx_go (S 239) (S 237 4) (lx_en (S 239) (S 237 4) (S 237 5) p)
theorem nx_I {p : Int} (hI : lx_I S p) (h5 : S 237 6 ≠ 5) : wJ (pe_GA xs) wY0 M (d + 2) t_M_next ((pe_at t_M_next.bl 0).getD (0, [])).2 [(0, (2, 237))] [] S (fun o S2 => o = .inl none ∧ lx_ag S S2 ∧ lx_I S2 (lx_ne S p)) := by
  refine wJ_mono (nx_St hI.1 hI.2.1 hI.2.2.1 hI.2.2.2 h5) ?_
  rintro o S2 ⟨q1, q2, q3, q4, q5⟩
  obtain ⟨e1, e2, e3⟩ := lx_ag_T q2
  exact ⟨q1, q2, lx_ag_ML q2 hI.1, by rw [e2]; exact hI.2.1, ⟨q4, by rw [e2]; exact q5⟩, q3⟩
theorem lx_is4 {S : wS} {c : Int} (h : lx_is S c = true) : S 237 6 = 4 ∧ S 237 9 = c := of_decide_eq_true h
theorem accepts_ok {c p : Int} (hI : lx_I S p) (hc : -2147483648 ≤ c ∧ c ≤ 2147483647) : wJ (pe_GA xs) wY0 M (d + 3) t_M_accepts ((pe_at t_M_accepts.bl 0).getD (0, [])).2 [(0, (2, 237)), (1, (0, c))] [] S (fun o S2 => (o = .inl (some (0, 1)) ∧ lx_is S c = true ∧ lx_ag S S2 ∧ lx_I S2 (lx_ne S p)) ∨ (o = .inl (some (0, 0)) ∧ lx_is S c = false ∧ S = S2)) := by
  refine wa_aload_n (n := 0) rfl ?_
  refine wa_iload_n (n := 1) rfl ?_
  refine wa_cv 237 rfl (wy_pr rfl) wt_237 (M2 := fun _ => False) rfl at_M_isSign ⟨_, rfl⟩ rfl rfl ⟨(Or.inr ⟨wy_pr rfl, fun q => q⟩), trivial, trivial⟩ trivial (fun _ _ q => False.elim q) (isSign_ok ⟨by omega, by omega⟩) (fun oq2 Sq2 hp3 q2 => ?_)
  rcases q2 with ⟨rfl, ⟨rfl, g1⟩ | ⟨rfl, g1⟩⟩
  · skip
    show wJ _ _ _ _ _ _ _ _ _ _
    have gi := g1
    refine wa_istore_n (n := 2) rfl ?_
    refine wa_iload_n (n := 2) rfl ?_
    refine wa_ifeq (w_rg0 (by omega) (by omega)) ⟨_, rfl⟩ (fun c4 => ?_) (fun c4 => ?_)
    · skip
      exact absurd c4 (by omega)
    · skip
      refine wa_aload_n (n := 0) rfl ?_
      refine wa_cv 237 rfl (wy_pr rfl) wt_237 (M2 := fun _ => False) rfl at_M_next ⟨_, rfl⟩ rfl rfl ⟨trivial, (Or.inr ⟨wy_pr rfl, fun q => q⟩), trivial, trivial⟩ trivial (fun _ _ q => False.elim q) (nx_I hI (by rw [(lx_is4 gi).1]; decide)) (fun oq5 Sq5 hp6 q5 => ?_)
      rcases q5 with ⟨rfl, a1, a2⟩
      show wJ _ _ _ _ _ _ _ _ _ _
      refine wa_fall ⟨_, rfl⟩ ?_
      refine wa_iload_n (n := 2) rfl ?_
      refine wa_zreturn rfl (Or.inr rfl) ?_
      exact Or.inl ⟨rfl, gi, a1, a2⟩
  · skip
    show wJ _ _ _ _ _ _ _ _ _ _
    have gi := g1
    refine wa_istore_n (n := 2) rfl ?_
    refine wa_iload_n (n := 2) rfl ?_
    refine wa_ifeq (w_rg0 (by omega) (by omega)) ⟨_, rfl⟩ (fun c7 => ?_) (fun c7 => ?_)
    · skip
      refine wa_iload_n (n := 2) rfl ?_
      refine wa_zreturn rfl (Or.inl rfl) ?_
      exact Or.inr ⟨rfl, gi, rfl⟩
    · skip
      exact absurd c7 (by omega)
theorem takes_ok {c p : Int} (hI : lx_I S p) (hc : -2147483648 ≤ c ∧ c ≤ 2147483647) : wJ (pe_GA xs) wY0 M (d + 3) t_M_takes ((pe_at t_M_takes.bl 0).getD (0, [])).2 [(0, (2, 237)), (1, (0, c))] [] S (fun o S2 => (o = .inl none ∧ lx_is S c = true ∧ lx_ag S S2 ∧ lx_I S2 (lx_ne S p)) ∨ (o = .inr 238 ∧ lx_is S c = false ∧ w_hl S 1 p = S2)) := by
  have h7 : S 237 7 = p := hI.2.2.2.1
  refine wa_aload_n (n := 0) rfl ?_
  refine wa_aload_n (n := 0) rfl ?_
  refine wa_iload_n (n := 1) rfl ?_
  refine wa_cv 237 rfl (wy_pr rfl) wt_237 (M2 := fun _ => False) rfl at_M_isSign ⟨_, rfl⟩ rfl rfl ⟨(Or.inr ⟨wy_pr rfl, fun q => q⟩), trivial, trivial⟩ ⟨(Or.inr ⟨wy_pr rfl, fun q => q⟩), trivial⟩ (fun _ _ q => False.elim q) (isSign_ok ⟨by omega, by omega⟩) (fun oq2 Sq2 hp3 q2 => ?_)
  rcases q2 with ⟨rfl, ⟨rfl, g1⟩ | ⟨rfl, g1⟩⟩
  · skip
    show wJ _ _ _ _ _ _ _ _ _ _
    have gi := g1
    refine wa_iconst ?_
    refine wa_cv 237 rfl (wy_pr rfl) wt_237 (M2 := fun _ => False) rfl at_M_must ⟨_, rfl⟩ rfl rfl ⟨(Or.inr ⟨wy_pr rfl, fun q => q⟩), trivial, trivial⟩ trivial (fun _ _ q => False.elim q) (must_ok (g := 1) (n := 1) (Or.inr rfl) ⟨by omega, by omega⟩) (fun oq5 Sq5 hp6 q5 => ?_)
    rcases q5 with ⟨_, rfl, rfl⟩ | ⟨m4, _, _⟩
    · skip
      show wJ _ _ _ _ _ _ _ _ _ _
      refine wa_aload_n (n := 0) rfl ?_
      refine wa_cv 237 rfl (wy_pr rfl) wt_237 (M2 := fun _ => False) rfl at_M_next ⟨_, rfl⟩ rfl rfl ⟨(Or.inr ⟨wy_pr rfl, fun q => q⟩), trivial, trivial⟩ trivial (fun _ _ q => False.elim q) (nx_I hI (by rw [(lx_is4 gi).1]; decide)) (fun oq7 Sq7 hp8 q7 => ?_)
      rcases q7 with ⟨rfl, a1, a2⟩
      show wJ _ _ _ _ _ _ _ _ _ _
      refine wa_return rfl ?_
      exact Or.inl ⟨rfl, gi, a1, a2⟩
    · skip
      exact absurd m4 (by decide)
  · skip
    show wJ _ _ _ _ _ _ _ _ _ _
    have gi := g1
    refine wa_iconst ?_
    refine wa_cv 237 rfl (wy_pr rfl) wt_237 (M2 := fun _ => False) rfl at_M_must ⟨_, rfl⟩ rfl rfl ⟨(Or.inr ⟨wy_pr rfl, fun q => q⟩), trivial, trivial⟩ trivial (fun _ _ q => False.elim q) (must_ok (g := 0) (n := 1) (Or.inl rfl) ⟨by omega, by omega⟩) (fun oq10 Sq10 hp11 q10 => ?_)
    rcases q10 with ⟨m9, _, _⟩ | ⟨_, rfl, rfl⟩
    · skip
      exact absurd m9 (by decide)
    · skip
      refine ⟨rfl, ?_⟩
      exact Or.inr ⟨rfl, gi, by rw [h7]⟩
/-- the text's size, the host's mark, the beginning -/
def lx_b0 (S : wS) (h : Int) : wS := w_up (w_up (w_up S 237 4 (S 237 3)) 237 5 h) 237 8 0
theorem begins_ok {h : Int} (hM : w_ML S) (ht : 0 ≤ S 237 3 ∧ S 237 3 ≤ 65536) (hh : 0 ≤ h ∧ h ≤ 1) : wJ (pe_GA xs) wY0 M (d + 3) t_M_begins ((pe_at t_M_begins.bl 0).getD (0, [])).2 [(0, (2, 237)), (1, (0, h))] [] S (fun o S2 => o = .inl none ∧ lx_ag (lx_b0 S h) S2 ∧ lx_I S2 (lx_go (S 239) (S 237 3) 0)) := by
  refine wa_aload_n (n := 0) rfl ?_
  refine wa_aload_n (n := 0) rfl ?_
  refine wb_gfi 237 rfl (wy_pr rfl) wt_237 wf_15_3 (v := (S 237 3)) rfl (fun r1 => ?_)
  refine wb_pfi 237 rfl (wy_pr rfl) wt_237 wf_15_4 (n := 4) rfl ⟨(by omega), (by omega)⟩ ?_
  refine wa_aload_n (n := 0) rfl ?_
  refine wa_iload_n (n := 1) rfl ?_
  refine wb_pfz 237 rfl (wy_pr rfl) wt_237 wf_15_5 (n := 5) rfl ⟨(by omega), (by omega)⟩ ?_
  refine wa_aload_n (n := 0) rfl ?_
  refine wa_iconst ?_
  refine wb_pfi 237 rfl (wy_pr rfl) wt_237 wf_15_8 (n := 8) rfl ⟨(by omega), (by omega)⟩ ?_
  refine wa_aload_n (n := 0) rfl ?_
  refine wa_cv 237 rfl (wy_pr rfl) wt_237 (M2 := fun _ => False) rfl at_M_next ⟨_, rfl⟩ rfl rfl ⟨(Or.inr ⟨wy_pr rfl, fun q => q⟩), trivial, trivial⟩ trivial (fun _ _ q => False.elim q) (nx_ok (S := lx_b0 S h) (p := lx_go (S 239) (S 237 3) 0) (w_ML_up (w_ML_up (w_ML_up hM (by omega)) (by omega)) (by omega)) (by show 0 ≤ S 237 3 ∧ S 237 3 ≤ 65536; exact ht) (by show 0 ≤ (0 : Int) ∧ 0 ≤ S 237 3; omega) rfl) (fun oq2 Sq2 hp3 q2 => ?_)
  rcases q2 with ⟨rfl, a1, a2, a3⟩
  show wJ _ _ _ _ _ _ _ _ _ _
  refine wa_return rfl ?_
  obtain ⟨e1, e2, e3⟩ := lx_ag_T a1
  have hg := lx_bl_rg (S 239) (S 237 3) ((S 237 3 - 0).toNat + 1) 0 ht.1
  have e2b : lx_b0 S h 237 4 = S 237 3 := rfl
  refine ⟨rfl, a1, lx_ag_ML a1 (w_ML_up (w_ML_up (w_ML_up hM (by omega)) (by omega)) (by omega)), by rw [e2, e2b]; exact ht, ?_, lx_nx_St a2 (by rw [e1, e2, e3]; exact a3)⟩
  rw [e2, e2b]; exact hg
end W72
