/-! PART eu: a call comes, in the worlds of both. -/
section Weu
variable {S Z A B : wS} {k v q a b ar vn st u n : Int} {w m : Nat} {L : List aC} {T : List aO} {G : Int → aV} {sl : Nat → List Int} {vs : List aV}
theorem gC_l {l : List aC} {x : aC} {i : Nat} (hi : i < l.length) : (l ++ [x]).getD i (0, []) = l.getD i (0, []) := by
  rw [List.getD_eq_getElem?_getD, List.getElem?_append_left hi, ← List.getD_eq_getElem?_getD]
theorem gC_r {l : List aC} {x : aC} : (l ++ [x]).getD l.length (0, []) = x := by
  rw [List.getD_eq_getElem?_getD, List.getElem?_append_right (Nat.le_refl _), Nat.sub_self]; rfl
theorem cWd_ac (h : cWd S T L G) (r : ac_ag ar vn S A) (hB : ∀ (j : Nat) (x : Int), ((j ≠ 141 ∧ j ≠ 142) ∨ x < S 140 2 ∨ S 140 2 + vn ≤ x) → B j x = A j x) (hl : vn = (vs.length : Int)) (hv : ∀ i : Nat, i < vs.length → cVl S (B 141 (S 140 2 + (i : Int))) (B 142 (S 140 2 + (i : Int))) (vs.getD i (0, 0, []))) (hc : (L.length : Int) ≤ 8000) (hz : S 140 2 + vn ≤ 240200) : cWd B T (L ++ [(ar, vs)]) G := by
  have hg : wG = 1000000 := rfl
  obtain ⟨h1, h2, ⟨p1, p2, p3⟩, ⟨⟨n1, n2, n3, n4⟩, n5, ⟨n6, n7⟩, n8, n9⟩, ⟨t1, t2, t3, t4⟩, h5⟩ := h
  obtain ⟨⟨a1, a2, a3⟩, ⟨b1, b2⟩, c, d1, e1, ⟨f1, f2, f3, f4⟩, ⟨g1, g2, g3, g4⟩, fr, -, -⟩ := r
  have hn : S 72 5 = (L.length : Int) := h2.1
  have z1 : ∀ (j : Nat) (x : Int), j ≠ 141 → j ≠ 142 → B j x = A j x := fun j x j0 j1 => hB j x (Or.inl ⟨j0, j1⟩)
  have e3 : ∀ (j : Nat) (x : Int), j < 4000000 → j ≠ wG → j ≠ 138 → j ≠ 139 → j ≠ 141 → j ≠ 142 → (j ≠ 72 ∨ x ≠ 5) → (j ≠ 140 ∨ x ≠ 2) → (j ≠ 150 ∨ (x ≠ 0 ∧ x ≠ 1)) → B j x = S j x := fun j x j0 j1 j2 j3 j4 j5 j6 j7 j8 => (z1 j x j4 j5).trans (fr j x j0 j1 j2 j3 j4 j5 j6 j7 j8)
  have ec : ∀ x : Int, 0 ≤ x → x < S 140 2 → B 141 x = S 141 x ∧ B 142 x = S 142 x := fun x x0 x1 => ⟨(hB 141 x (Or.inr (Or.inl x1))).trans (e1 x x0 (by omega)).1, (hB 142 x (Or.inr (Or.inl x1))).trans (e1 x x0 (by omega)).2⟩
  have e : cTx S B := cTx_of (e3 2 1 (by decide) (by decide) (by decide) (by decide) (by decide) (by decide) (by decide) (by decide) (by decide)) (fun x => e3 3 x (by decide) (by decide) (by decide) (by decide) (by decide) (by decide) (Or.inl (by decide)) (Or.inl (by decide)) (Or.inl (by decide)))
  have er : ∀ (j : Nat) (x : Int), 127 ≤ j → j ≤ 136 → B j x = S j x := fun j x j0 j1 => e3 j x (by omega) (by omega) (by omega) (by omega) (by omega) (by omega) (by omega) (by omega) (by omega)
  have e8 : ∀ x : Int, 0 ≤ x → x < (L.length : Int) → B 138 x = S 138 x ∧ B 139 x = S 139 x := fun x x0 x1 => ⟨(z1 138 x (by decide) (by decide)).trans (c x x0 (by omega)).1, (z1 139 x (by decide) (by decide)).trans (c x x0 (by omega)).2⟩
  have e0 : B 140 2 = S 140 2 + vn := (z1 140 2 (by decide) (by decide)).trans d1
  have y8 : B 138 (L.length : Int) = S 140 2 := by rw [← hn]; exact (z1 138 _ (by decide) (by decide)).trans b1
  have y9 : B 139 (L.length : Int) = ar := by rw [← hn]; exact (z1 139 _ (by decide) (by decide)).trans b2
  have lt : (L ++ [(ar, vs)]).length = L.length + 1 := by rw [List.length_append]; rfl
  have hb := h1.2
  have hcb := h2.2
  refine ⟨cTh_mo h1 e (e3 72 3 (by decide) (by decide) (by decide) (by decide) (by decide) (by decide) (by decide) (by decide) (by decide)) (fun j x j0 j1 _ _ => er j x j0 j1) (by omega) (fun q i hq i0 i1 => ?_), ⟨?_, fun q hq => ?_⟩, ⟨fun q r hq hr ne => ?_, fun q r hq hr => ?_, fun q r hq hr ne => ?_⟩, ?_, ?_, cGl_mo h5 e (fun j x hj => e3 j x (by omega) (by omega) (by omega) (by omega) (by omega) (by omega) (by omega) (by omega) (by omega))⟩
  · have := (hb q hq).2.1
    exact ec i (by omega) (by omega)
  · rw [z1 72 5 (by decide) (by decide), a1, lt]; omega
  · rw [lt] at hq
    by_cases cq : q < L.length
    · rw [gC_l cq, (e8 q (by omega) (by omega)).1, (e8 q (by omega) (by omega)).2]
      obtain ⟨w1, ⟨w2, w3⟩, w4⟩ := hcb q cq
      exact ⟨w1, ⟨w2, by omega⟩, cR1_mo w4 e (fun i i0 i1 => ec i (by omega) (by omega))⟩
    · have eq : q = L.length := by omega
      subst eq
      rw [gC_r, y8, y9, e0]
      exact ⟨rfl, ⟨n6, by show S 140 2 + (vs.length : Int) ≤ S 140 2 + vn; omega⟩, fun i hi => cVl_mo (hv i hi) e⟩
  · rw [er 133 _ (by decide) (by decide), er 133 _ (by decide) (by decide), er 135 _ (by decide) (by decide), er 135 _ (by decide) (by decide)]; exact p1 q r hq hr ne
  · rw [lt] at hr
    rw [er 133 _ (by decide) (by decide), er 135 _ (by decide) (by decide)]
    by_cases cr : r < L.length
    · rw [gC_l cr, (e8 r (by omega) (by omega)).1]; exact p2 q r hq cr
    · have eq : r = L.length := by omega
      subst eq
      have := (hb q hq).2.1
      rw [y8]
      exact Or.inr (Or.inr (Or.inl (by omega)))
  · rw [lt] at hq hr
    by_cases cq : q < L.length
    · rw [gC_l cq, (e8 q (by omega) (by omega)).1]
      by_cases cr : r < L.length
      · rw [gC_l cr, (e8 r (by omega) (by omega)).1]; exact p3 q r cq cr ne
      · have eq : r = L.length := by omega
        subst eq
        have := (hcb q cq).2.1
        rw [y8]
        exact Or.inr (Or.inr (Or.inl (by omega)))
    · have eq : q = L.length := by omega
      subst eq
      have cr : r < L.length := by omega
      have := (hcb r cr).2.1
      rw [gC_l cr, (e8 r (by omega) (by omega)).1, y8]
      exact Or.inr (Or.inr (Or.inr (by omega)))
  · unfold cLc
    rw [lt, e0, z1 139 _ (by decide) (by decide), z1 138 _ (by decide) (by decide), hB 141 (-1) (by omega), hB 142 (-1) (by omega)]
    exact ⟨⟨g1, by omega, by omega, by omega⟩, f1, ⟨by omega, by omega⟩, by omega, by omega⟩
  · refine ⟨fun x hx => ?_, ?_⟩
    · rw [er (127 + x) _ (by omega) (by omega), er 127 _ (by decide) (by decide)]; exact t1 x hx
    · rw [er 127 _ (by decide) (by decide)]; exact ⟨t2, t3, t4⟩
theorem rWd_nc (h : rWd S sl T L G) (hn : n = (L.length : Int)) (hu : S 237 94 = u) (hu0 : 0 ≤ u) (z69 : Z 237 69 = n + 1) (z33 : Z 333 n = ar) (z34 : Z 334 n = u) (z94 : Z 237 94 = u + vn) (fr : ∀ (j : Nat) (x : Int), (j ≠ 237 ∨ (x ≠ 69 ∧ x ≠ 62 ∧ x ≠ 94 ∧ x ≠ 63)) → ((j ≠ 333 ∧ j ≠ 334) ∨ x ≠ n) → ((j ≠ 335 ∧ j ≠ 336) ∨ x < u ∨ u + vn ≤ x) → j < 345 → Z j x = S j x) (hl : vn = (vs.length : Int)) (hv : ∀ i : Nat, i < vs.length → rVl S (Z 335 (u + (i : Int))) (Z 336 (u + (i : Int))) (vs.getD i (0, 0, []))) (hc : (L.length : Int) < 8000) (hz : u + vn ≤ 60000) : rWd Z sl T (L ++ [(ar, vs)]) G := by
  obtain ⟨h1, h2, h3, h4, h5⟩ := h
  have e : rTx S Z := rTx_of (fr 237 19 (by decide) (Or.inl (by decide)) (Or.inl (by decide)) (by decide)) (fr 237 102 (by decide) (Or.inl (by decide)) (Or.inl (by decide)) (by decide)) (fun j x j0 j1 => fr j x (by omega) (by omega) (by omega) (by omega))
  have lt : (L ++ [(ar, vs)]).length = L.length + 1 := by rw [List.length_append]; rfl
  have e8 : ∀ x : Int, x ≠ n → Z 333 x = S 333 x ∧ Z 334 x = S 334 x := fun x hx => ⟨fr 333 x (Or.inl (by decide)) (Or.inr hx) (Or.inl (by decide)) (by decide), fr 334 x (Or.inl (by decide)) (Or.inr hx) (Or.inl (by decide)) (by decide)⟩
  have hcb := h2.2
  refine ⟨rTh_mo h1 e (fr 237 68 (by decide) (Or.inl (by decide)) (Or.inl (by decide)) (by decide)) (fr 237 82 (by decide) (Or.inl (by decide)) (Or.inl (by decide)) (by decide)) (fun j x j0 j1 => fr j x (by omega) (by omega) (by omega) (by omega)), ⟨?_, fun q hq => ?_⟩, fun q r hq hr => ?_, ⟨by rw [lt]; omega, by rw [z94]; exact hz⟩, rGl_mo h5 e (fun j x j0 j1 => fr j x (by omega) (by omega) (by omega) (by omega))⟩
  · rw [z69, lt]; omega
  · rw [lt] at hq
    by_cases cq : q < L.length
    · rw [gC_l cq, (e8 q (by omega)).1, (e8 q (by omega)).2, z94]
      obtain ⟨w1, ⟨w2, w3⟩, w4⟩ := hcb q cq
      exact ⟨w1, ⟨w2, by omega⟩, rR1_mo w4 e (fun i i0 i1 => ⟨fr 335 i (Or.inl (by decide)) (Or.inl (by decide)) (Or.inr (Or.inl (by omega))) (by decide), fr 336 i (Or.inl (by decide)) (Or.inl (by decide)) (Or.inr (Or.inl (by omega))) (by decide)⟩)⟩
    · have eq : q = L.length := by omega
      subst eq
      rw [gC_r, ← hn, z33, z34, z94]
      exact ⟨rfl, ⟨hu0, by show u + (vs.length : Int) ≤ u + vn; omega⟩, fun i hi => rVl_mo (hv i hi) e⟩
  · rw [lt] at hr
    have cq : q < L.length := by omega
    rw [gC_l cq, (e8 q (by omega)).2]
    by_cases cr : r < L.length
    · rw [(e8 r (by omega)).2]; exact h3 q r hq cr
    · have eq : r = L.length := by omega
      subst eq
      have := (hcb q cq).2.1
      rw [← hn, z34]
      omega
end Weu
