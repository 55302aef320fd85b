/-! PART kv: what holds of the entries of sites (linker 0): first half of WE. -/
section Wkv
variable {S0 : wS}
/-- entries of things say what a lookup would find; they were linked at a change that was -/
def WE0 (S0 : wS) (A : aA) : Prop := ∀ s : Int, 0 ≤ s → s < S0 237 47 → (a_E A s).length ≤ 4 ∧ ∀ e ∈ a_E A s, (0 ≤ e.2.2.2.2.2.2.1 ∧ e.2.2.2.2.2.2.1 ≤ a_c A 11) ∧ eRt (a_T A) (a_H A) (S0 304 s) (S0 305 s) e
theorem WE0_k : WEk (WE0 S0) := fun _ _ _ h => h
theorem WE0_o : WEo (WE0 S0) := fun _ _ _ _ h => h
theorem WE0_w : WEw (WE0 S0) := fun A t K2 T2 L2 G2 H2 c2 k h hw hc ht h7 h20 h11 s s0 s1 => by
  obtain ⟨a1, a2⟩ := h s s0 s1
  refine ⟨a1, fun e he => ?_⟩
  obtain ⟨b1, b2⟩ := a2 e he
  refine ⟨⟨b1.1, ?_⟩, eRt_ch hw hc ⟨b1.1, by omega⟩ b2⟩
  show e.2.2.2.2.2.2.1 ≤ c2 11
  omega
/-- a property of entries that hangs on none of task, world, output may be joined to it -/
theorem WEk_and {W1 W2 : aA → Prop} (h1 : WEk W1) (h2 : WEk W2) : WEk (fun A => W1 A ∧ W2 A) := fun A t K h => ⟨h1 A t K h.1, h2 A t K h.2⟩
theorem WEo_and {W1 W2 : aA → Prop} (h1 : WEo W1) (h2 : WEo W2) : WEo (fun A => W1 A ∧ W2 A) := fun A t K O h => ⟨h1 A t K O h.1, h2 A t K O h.2⟩
theorem WEw_and {W1 W2 : aA → Prop} (h1 : WEw W1) (h2 : WEw W2) : WEw (fun A => W1 A ∧ W2 A) := fun A t K2 T2 L2 G2 H2 c2 k h hw hc ht h7 h20 h11 => ⟨h1 A t K2 T2 L2 G2 H2 c2 k h.1 hw hc ht h7 h20 h11, h2 A t K2 T2 L2 G2 H2 c2 k h.2 hw hc ht h7 h20 h11⟩
end Wkv
