/-! PART g7: the output of both. -/
section Wg7
variable {S Z A : wS} {l o : List Int}
def cOu (S : wS) (o : List Int) : Prop := S 72 13 = (o.length : Int) ∧ (∀ k : Nat, k < o.length → S 151 (k : Int) = o.getD k 0) ∧ ((o.length : Int) ≤ S 151 (-1) ∧ 16 ≤ S 151 (-1) ∧ S 151 (-1) ≤ 131072) ∧ (o.length : Int) ≤ 65536
def rOu (S : wS) (o : List Int) : Prop := S 237 104 = (o.length : Int) ∧ (∀ k : Nat, k < o.length → S 342 (k : Int) = o.getD k 0) ∧ (o.length : Int) ≤ 65536
theorem ou_get {f : Int → Int} (h1 : ∀ k : Nat, k < o.length → f (k : Int) = o.getD k 0) (h2 : ∀ k : Nat, k < l.length → f ((o.length : Int) + (k : Int)) = l.getD k 0) (h3 : f ((o.length : Int) + (l.length : Int)) = 10) : ∀ k : Nat, k < (o ++ l ++ [10]).length → f (k : Int) = (o ++ l ++ [10]).getD k 0 := fun k hk => by
  have e1 : (o ++ l ++ [10]).length = o.length + l.length + 1 := by rw [List.length_append, List.length_append]; rfl
  have e2 : (o ++ l).length = o.length + l.length := List.length_append
  rw [e1] at hk
  by_cases c : k < o.length
  · rw [h1 k c, List.getD_eq_getElem?_getD, List.getD_eq_getElem?_getD, List.getElem?_append_left (by omega), List.getElem?_append_left c]
  · by_cases c2 : k < o.length + l.length
    · have y := h2 (k - o.length) (by omega)
      rw [show (o.length : Int) + ((k - o.length : Nat) : Int) = (k : Int) by omega] at y
      rw [y, List.getD_eq_getElem?_getD, List.getD_eq_getElem?_getD, List.getElem?_append_left (by omega), List.getElem?_append_right (by omega)]
    · have ek : k = o.length + l.length := by omega
      subst ek
      rw [show ((o.length + l.length : Nat) : Int) = (o.length : Int) + (l.length : Int) by omega, h3, List.getD_eq_getElem?_getD, List.getElem?_append_right (by omega), e2, Nat.sub_self]
      rfl
theorem ou_len : ((o ++ l ++ [10]).length : Int) = (o.length : Int) + (l.length : Int) + 1 := by
  have e1 : (o ++ l ++ [10]).length = o.length + l.length + 1 := by rw [List.length_append, List.length_append]; rfl
  omega
theorem cOu_a (h : cOu S o) (g : coA (o.length : Int) l S Z) (hm : (o.length : Int) + (l.length : Int) + 1 ≤ 65536) : cOu Z (o ++ l ++ [10]) := by
  obtain ⟨h1, h2, ⟨h3, h4, h5⟩, h6⟩ := h
  obtain ⟨g1, g2, g3, g4, -, ⟨g5, g6, g7⟩, -, -⟩ := g
  have e := ou_len (o := o) (l := l)
  refine ⟨by rw [g1, e], ou_get (f := Z 151) (fun k hk => (g4 k (by omega) (by omega)).trans (h2 k hk)) g2 g3, ⟨by rw [e]; exact g5, by omega, g7⟩, by rw [e]; exact hm⟩
theorem rOu_a (h : rOu A o) (g : ouA (o.length : Int) l A Z) (hm : (o.length : Int) + (l.length : Int) + 1 ≤ 65536) : rOu Z (o ++ l ++ [10]) := by
  obtain ⟨h1, h2, h6⟩ := h
  obtain ⟨g1, g2, g3, g4, -⟩ := g
  have e := ou_len (o := o) (l := l)
  exact ⟨by rw [g3, e], ou_get (f := Z 342) (fun k hk => (g4 342 k (Or.inr (Or.inl (by omega))) (Or.inl (by first | decide | omega))).trans (h2 k hk)) g1 g2, by rw [e]; exact hm⟩
theorem cOu_ag (h : cOu S o) (f1 : Z 72 13 = S 72 13) (f : ∀ x : Int, Z 151 x = S 151 x) : cOu Z o := by
  obtain ⟨h1, h2, h3, h4⟩ := h
  exact ⟨f1.trans h1, fun k hk => (f k).trans (h2 k hk), by rw [f (-1)]; exact h3, h4⟩
theorem rOu_ag (h : rOu S o) (f1 : Z 237 104 = S 237 104) (f : ∀ x : Int, Z 342 x = S 342 x) : rOu Z o := ⟨f1.trans h.1, fun k hk => (f k).trans (h.2.1 k hk), h.2.2⟩
end Wg7
