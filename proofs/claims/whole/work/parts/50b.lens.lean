/-! PART 50b: arrays that stay where they are stay as long as they are. -/
section W50b
variable {G : pe_G} {Y : wY} {M : Nat → Prop} {d : Nat} {mt : pe_Mt} {is : List pe_I} {L : wL} {st : List wv} {S : wS} {Q : wO → wS → Prop}
theorem wc_len {ad ad2 : Nat → Nat} {S2 : wS} {j : Nat} {x y : pe_E} (h1 : w_c Y ad S j x) (h2 : w_c Y ad2 S2 j y) (ht : Y.ty j < 100) (he : pe_kl y = pe_kl x) : S2 j (-1) = S j (-1) := by
  rcases x with ⟨t, n, c⟩ | ⟨ci, vs⟩ | ⟨t, n, c⟩ | ⟨t, n, c⟩
  · rcases y with ⟨t2, n2, c2⟩ | ⟨ci2, vs2⟩ | ⟨t2, n2, c2⟩ | ⟨t2, n2, c2⟩
    · have e1 : n2 = n := congrArg (fun (z : Nat × Nat × Nat) => z.2.2) he
      have a1 : S j (-1) = n := h1.2.2.1.1
      have a2 : S2 j (-1) = n2 := h2.2.2.1.1
      rw [a1, a2, e1]
    · exfalso
      have e0 : (1 : Nat) = 0 := congrArg (fun (z : Nat × Nat × Nat) => z.1) he
      omega
    · exfalso
      have e0 : (2 : Nat) = 0 := congrArg (fun (z : Nat × Nat × Nat) => z.1) he
      omega
    · exfalso
      have e0 : (3 : Nat) = 0 := congrArg (fun (z : Nat × Nat × Nat) => z.1) he
      omega
  · exfalso
    have a1 : Y.ty j = 100 + ci := h1.1
    omega
  · rcases y with ⟨t2, n2, c2⟩ | ⟨ci2, vs2⟩ | ⟨t2, n2, c2⟩ | ⟨t2, n2, c2⟩
    · exfalso
      have e0 : (0 : Nat) = 2 := congrArg (fun (z : Nat × Nat × Nat) => z.1) he
      omega
    · exfalso
      have e0 : (1 : Nat) = 2 := congrArg (fun (z : Nat × Nat × Nat) => z.1) he
      omega
    · have e1 : n2 = n := congrArg (fun (z : Nat × Nat × Nat) => z.2.2) he
      have a1 : S j (-1) = n := h1.2.2.1.1
      have a2 : S2 j (-1) = n2 := h2.2.2.1.1
      rw [a1, a2, e1]
    · exfalso
      have e0 : (3 : Nat) = 2 := congrArg (fun (z : Nat × Nat × Nat) => z.1) he
      omega
  · rcases y with ⟨t2, n2, c2⟩ | ⟨ci2, vs2⟩ | ⟨t2, n2, c2⟩ | ⟨t2, n2, c2⟩
    · exfalso
      have e0 : (0 : Nat) = 3 := congrArg (fun (z : Nat × Nat × Nat) => z.1) he
      omega
    · exfalso
      have e0 : (1 : Nat) = 3 := congrArg (fun (z : Nat × Nat × Nat) => z.1) he
      omega
    · exfalso
      have e0 : (2 : Nat) = 3 := congrArg (fun (z : Nat × Nat × Nat) => z.1) he
      omega
    · have e1 : n2 = n := congrArg (fun (z : Nat × Nat × Nat) => z.2.2) he
      have a1 : S j (-1) = n := h1.2.2.1.1
      have a2 : S2 j (-1) = n2 := h2.2.2.1.1
      rw [a1, a2, e1]
theorem wJ_len (h : wJ G Y M d mt is L st S Q) : wJ G Y M d mt is L st S (fun o S2 => Q o S2 ∧ ∀ j : Nat, w_pr Y S j → Y.ty j < 100 → ¬ M j → S2 j (-1) = S j (-1)) := by
  intro ad Lc hp hE hL
  obtain ⟨o, ad2, S2, h2, f0, a, b, c, e⟩ := h ad Lc hp hE hL
  refine ⟨o, ad2, S2, h2, f0, a, b, c, e, fun j hj ht hM => ?_⟩
  have hlm := pe_lmo G f0 d mt is Lc _ hp _ h2 (a f0 (Nat.le_refl _))
  obtain ⟨x, x1, x2⟩ := hE.1 j hj
  obtain ⟨y, y1, y2⟩ := b.1 j (c j hj).1
  rw [(c j hj).2 hM] at y1
  obtain ⟨z, z1, z2⟩ := hlm _ _ x1
  rw [y1] at z1
  cases z1
  exact wc_len x2 y2 ht z2
end W50b
