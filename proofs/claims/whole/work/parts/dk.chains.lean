/-! PART dk: chains of shapes; shape of both. -/
section Wdk
variable {S : wS} {L : List aH} {n k wh : Int}
/-- what the list of shapes says, as functions -/
theorem wHs_c (hw : wHs L n) : hcF (fun k => (L.getD k.toNat (0, 0, 0, 0)).2.1) (fun k => (L.getD k.toNat (0, 0, 0, 0)).2.2.2) (L.length : Int) := by
  obtain ⟨h0, h1, h2, -⟩ := hw
  have key : ∀ q : Nat, q < L.length → (0 ≤ (L.getD q (0, 0, 0, 0)).2.2.2 ∧ (L.getD q (0, 0, 0, 0)).2.2.2 ≤ (q : Int)) ∧ (0 < (L.getD q (0, 0, 0, 0)).2.2.2 → 0 ≤ (L.getD q (0, 0, 0, 0)).2.1 ∧ (L.getD q (0, 0, 0, 0)).2.1 < (q : Int) ∧ (L.getD (L.getD q (0, 0, 0, 0)).2.1.toNat (0, 0, 0, 0)).2.2.2 = (L.getD q (0, 0, 0, 0)).2.2.2 - 1) := by
    intro q
    induction q using Nat.strongRecOn with
    | ind q ih =>
      intro hq
      by_cases e : q = 0
      · subst e
        rw [h0]
        exact ⟨by decide, fun r => absurd r (by decide)⟩
      · rcases h2 q (by omega) hq with ⟨a1, a2, a3, a4, a5⟩ | ⟨a1, a2, a3, a4, a5⟩
        · rw [a3]; exact ⟨by omega, fun r => by omega⟩
        · have := (ih (L.getD q (0, 0, 0, 0)).2.1.toNat (by omega) (by omega)).1
          exact ⟨by omega, fun _ => ⟨a1, a2, by omega⟩⟩
  intro k k0 k1
  obtain ⟨⟨a1, a2⟩, a3⟩ := key k.toNat (by omega)
  refine ⟨⟨a1, by show (L.getD k.toNat (0, 0, 0, 0)).2.2.2 ≤ 4001; omega⟩, fun r => ?_⟩
  obtain ⟨b1, b2, b3⟩ := a3 r
  exact ⟨b1, by show (L.getD k.toNat (0, 0, 0, 0)).2.1 < k; omega, b3⟩
theorem hcF_of {B C B2 C2 : Int → Int} {m : Int} (h : hcF B C m) (e : ∀ k : Int, 0 ≤ k → k < m → B2 k = B k ∧ C2 k = C k) : hcF B2 C2 m := fun k k0 k1 => by
  obtain ⟨e1, e2⟩ := e k k0 k1
  obtain ⟨h1, h2⟩ := h k k0 k1
  rw [e1, e2]
  refine ⟨h1, fun q => ?_⟩
  obtain ⟨a1, a2, a3⟩ := h2 q
  exact ⟨a1, a2, by rw [(e _ a1 (by omega)).2]; exact a3⟩
theorem cHs_e (h : cHs S L) (k0 : 0 ≤ k) (k1 : k < (L.length : Int)) : S 144 k = (L.getD k.toNat (0, 0, 0, 0)).1 ∧ S 147 k = (L.getD k.toNat (0, 0, 0, 0)).2.1 ∧ S 146 k = (L.getD k.toNat (0, 0, 0, 0)).2.2.1 ∧ S 145 k = (L.getD k.toNat (0, 0, 0, 0)).2.2.2 := by
  have := h.2.2 k.toNat (by omega)
  rw [show ((k.toNat : Nat) : Int) = k by omega] at this
  exact this
theorem rHs_e (h : rHs S L) (k0 : 0 ≤ k) (k1 : k < (L.length : Int)) : S 329 k = (L.getD k.toNat (0, 0, 0, 0)).1 ∧ S 330 k = (L.getD k.toNat (0, 0, 0, 0)).2.1 ∧ S 331 k = (L.getD k.toNat (0, 0, 0, 0)).2.2.1 ∧ S 332 k = (L.getD k.toNat (0, 0, 0, 0)).2.2.2 := by
  have := h.2 k.toNat (by omega)
  rw [show ((k.toNat : Nat) : Int) = k by omega] at this
  exact this
theorem hc_c (h : cHs S L) (hw : wHs L n) : hcF (S 147) (S 145) (S 72 8) := by
  rw [h.1]
  exact hcF_of (wHs_c hw) (fun k k0 k1 => ⟨(cHs_e h k0 k1).2.1, (cHs_e h k0 k1).2.2.2⟩)
theorem hc_r (h : rHs S L) (hw : wHs L n) : hcF (S 330) (S 332) (S 237 87) := by
  rw [h.1]
  exact hcF_of (wHs_c hw) (fun k k0 k1 => ⟨(rHs_e h k0 k1).2.1, (rHs_e h k0 k1).2.2.2⟩)
/-- shape answers the same -/
theorem sh_b (h : cHs S L) (g : rHs S L) (hw : wHs L n) : sh_f (S 144) (S 145) (S 146) (S 147) (S 72 8) k wh = sh_f (S 329) (S 332) (S 331) (S 330) (S 237 87) k wh := by
  have hr := hc_r g hw
  rw [h.1, ← g.1]
  exact sh_eq hr (fun k k0 k1 => by
    rw [g.1] at k1
    obtain ⟨a1, a2, a3, a4⟩ := cHs_e h k0 k1
    obtain ⟨b1, b2, b3, b4⟩ := rHs_e g k0 k1
    exact ⟨⟨a1.trans b1.symm, a3.trans b3.symm⟩, a2.trans b2.symm, a4.trans b4.symm⟩)
end Wdk
