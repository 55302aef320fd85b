/-! PART ex: what typed calls give to the steps. -/
section Wex
variable {fa : Int → Int} {S Z : wS} {K : aK} {k q : Int}
/-- no try lies higher than the newest call's values begin -/
theorem wKt_bs (h : wKt fa S K) {i : Nat} (hi : i < K.2.2.1.length) : (K.2.2.1.getD i (0, 0, 0)).1 < K.2.1.length ∧ (K.2.2.1.getD i (0, 0, 0)).2.2 ≤ (K.2.1.getD (K.2.1.length - 1) (0, 0, 0, (0, 0, []), 0, 0, 0)).2.2.2.2.2.1 := by
  obtain ⟨h1, h2, h3, h4, h5⟩ := h
  have hm := gY_m hi
  have hf := h4 _ hm
  refine ⟨hf, ?_⟩
  obtain ⟨-, H, D, n, -, -, -, t4, t5⟩ := h1 _ hf
  have hin : K.2.2.1.getD i (0, 0, 0) ∈ trs K.2.2.1 (K.2.2.1.getD i (0, 0, 0)).1 := List.mem_filter.mpr ⟨hm, by simp⟩
  obtain ⟨j, hj, ej⟩ := List.getElem_of_mem hin
  have ej2 : (trs K.2.2.1 (K.2.2.1.getD i (0, 0, 0)).1).getD j (0, 0, 0) = K.2.2.1.getD i (0, 0, 0) := by
    rw [List.getD_eq_getElem?_getD, List.getElem?_eq_getElem hj, ej]; rfl
  have hb := (t5 j hj).2.1.1
  rw [ej2] at hb
  rw [hb]
  exact h5 (K.2.2.1.getD i (0, 0, 0)).1 (K.2.1.length - 1) (by omega) (by omega)
theorem wKt_hp (h : wKt fa S K) (hb : (K.2.1.getD (K.2.1.length - 1) (0, 0, 0, (0, 0, []), 0, 0, 0)).2.2.2.2.2.1 + 1 ≤ K.1.length) : wTr (K.1.take (K.1.length - 1), K.2) := fun i hi => by
  have g := wKt_bs h hi
  refine ⟨g.1, ?_⟩
  show (K.2.2.1.getD i (0, 0, 0)).2.2 ≤ (K.1.take (K.1.length - 1)).length
  rw [List.length_take]
  omega
/-- how many tries there are -/
theorem fl_s : ∀ (l : List aY) (i : Nat), (l.filter (fun y => decide (y.1 < i + 1))).length = (l.filter (fun y => decide (y.1 < i))).length + (trs l i).length
  | [], _ => rfl
  | a :: l, i => by
    have ih := fl_s l i
    unfold trs at ih ⊢
    by_cases c1 : a.1 < i
    · rw [List.filter_cons_of_pos (by simpa using (show a.1 < i + 1 by omega)), List.filter_cons_of_pos (by simpa using c1), List.filter_cons_of_neg (by simp; omega), List.length_cons, List.length_cons, ih]
      omega
    · by_cases c2 : a.1 = i
      · rw [List.filter_cons_of_pos (by simpa using (show a.1 < i + 1 by omega)), List.filter_cons_of_neg (by simpa using c1), List.filter_cons_of_pos (by simp [c2]), List.length_cons, List.length_cons, ih]
        omega
      · rw [List.filter_cons_of_neg (by simp; omega), List.filter_cons_of_neg (by simpa using c1), List.filter_cons_of_neg (by simpa using c2), ih]
theorem wKt_fl (h : wKt fa S K) : ∀ i : Nat, i ≤ K.2.1.length → (K.2.2.1.filter (fun y => decide (y.1 < i))).length ≤ 50 * i
  | 0, _ => by
    have : K.2.2.1.filter (fun y => decide (y.1 < 0)) = [] := List.filter_eq_nil_iff.mpr (fun y _ => by simp)
    rw [this]; exact Nat.zero_le _
  | i + 1, hi => by
    have ih := wKt_fl h i (by omega)
    rw [fl_s]
    obtain ⟨-, H, D, n, c1, c2, -, t4, -⟩ := h.1 i (by omega)
    have := (c1.2.2.2.1 (K.2.1.getD i (0, 0, 0, (0, 0, []), 0, 0, 0)).2.1.toNat (by omega)).2.2
    omega
theorem wKt_ln (h : wKt fa S K) (h0 : 0 < K.2.1.length) : K.2.2.1.length ≤ 50 * (K.2.1.length - 1) + (trs K.2.2.1 (K.2.1.length - 1)).length := by
  have a1 := wKt_fl h (K.2.1.length - 1) (by omega)
  have a2 := fl_s K.2.2.1 (K.2.1.length - 1)
  have a3 : K.2.2.1.filter (fun y => decide (y.1 < K.2.1.length - 1 + 1)) = K.2.2.1 := List.filter_eq_self.mpr (fun y hy => by
    have := h.2.2.2.1 y hy
    simp only [decide_eq_true_eq]
    omega)
  rw [a3] at a2
  omega
end Wex
