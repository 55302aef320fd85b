/-! PART es: a value comes to a thing of the class. -/
section Wes
variable {S Z A : wS} {k v q a b kd bt nm : Int} {u : aV} {w m n : Nat} {L : List aC} {T : List aO} {G : Int → aV}
theorem gO_set {l : List aO} {i j : Nat} {x : aO} (h : i < l.length) : (l.set i x).getD j (0, 0, 0, 0, 0, 0, []) = if i = j then x else l.getD j (0, 0, 0, 0, 0, 0, []) := by
  by_cases e : i = j
  · subst e
    rw [if_pos rfl, List.getD_eq_getElem?_getD, List.getElem?_set_self h]; rfl
  · rw [if_neg e, List.getD_eq_getElem?_getD, List.getElem?_set_ne e, ← List.getD_eq_getElem?_getD]
theorem cWd_av (h : cWd S T L G) (r : avH_ag (n : Int) kd bt S Z) (hn : n < T.length) (hv : cVl S kd bt u) (hz : Z 140 2 ≤ 240200) : cWd Z (T.set n ((T.getD n (0, 0, 0, 0, 0, 0, [])).1, (T.getD n (0, 0, 0, 0, 0, 0, [])).2.1, (T.getD n (0, 0, 0, 0, 0, 0, [])).2.2.1, (T.getD n (0, 0, 0, 0, 0, 0, [])).2.2.2.1, (T.getD n (0, 0, 0, 0, 0, 0, [])).2.2.2.2.1, (T.getD n (0, 0, 0, 0, 0, 0, [])).2.2.2.2.2.1, (T.getD n (0, 0, 0, 0, 0, 0, [])).2.2.2.2.2.2 ++ [(nm, u)])) L G := by
  have hg : wG = 1000000 := rfl
  obtain ⟨h1, h2, ⟨p1, p2, p3⟩, ⟨⟨n1, n2, n3, n4⟩, n5, ⟨n6, n7⟩, n8, n9⟩, ⟨t1, t2, t3, t4⟩, h5⟩ := h
  obtain ⟨⟨a1, a2⟩, b, c, ⟨d1, d2⟩, e1, ⟨f1, f2, f3, f4⟩, fr, -, -⟩ := r
  have hb := h1.2
  have hcb := h2.2
  obtain ⟨⟨x1, x2, x3, x4, x5, x6⟩, ⟨y1, y2, y3, y4⟩, cc⟩ := hb n hn
  have e : cTx S Z := cTx_of (fr 2 1 (by decide) (by decide) (by decide) (by decide) (Or.inl (by decide)) (by decide) (by decide)) (fun x => fr 3 x (by decide) (by decide) (by decide) (by decide) (Or.inl (by decide)) (Or.inl (by decide)) (Or.inl (by decide)))
  have g0 : S 140 2 ≤ Z 140 2 := by
    rcases b with (⟨-, -, -, z⟩ | ⟨-, -, -, -, z⟩) | ⟨-, -, z1, z⟩
    · omega
    · omega
    · rw [z, z1]; split <;> omega
  have rA : 0 ≤ Z 133 n ∧ Z 134 n ≤ Z 135 n ∧ Z 133 n + Z 135 n ≤ Z 140 2 := by
    rcases b with (⟨z0, z1, z2, z⟩ | ⟨z0, z3, z1, z2, z⟩) | ⟨z0, z1, z2, z⟩
    · omega
    · omega
    · rw [a1, z1, z, z2]; split <;> omega
  have en : ∀ (j : Nat) (x : Int), 127 ≤ j → j ≤ 136 → ((j ≠ 133 ∧ j ≠ 134 ∧ j ≠ 135) ∨ x ≠ (n : Int)) → Z j x = S j x := fun j x j0 j1 j2 => fr j x (by omega) (by omega) (by omega) (by omega) j2 (by omega) (by omega)
  have e8 : ∀ x : Int, Z 138 x = S 138 x ∧ Z 139 x = S 139 x := fun x => ⟨fr 138 x (by decide) (by decide) (by decide) (by decide) (Or.inl (by decide)) (Or.inl (by decide)) (Or.inl (by decide)), fr 139 x (by decide) (by decide) (by decide) (by decide) (Or.inl (by decide)) (Or.inl (by decide)) (Or.inl (by decide))⟩
  have lt : (T.set n ((T.getD n (0, 0, 0, 0, 0, 0, [])).1, (T.getD n (0, 0, 0, 0, 0, 0, [])).2.1, (T.getD n (0, 0, 0, 0, 0, 0, [])).2.2.1, (T.getD n (0, 0, 0, 0, 0, 0, [])).2.2.2.1, (T.getD n (0, 0, 0, 0, 0, 0, [])).2.2.2.2.1, (T.getD n (0, 0, 0, 0, 0, 0, [])).2.2.2.2.2.1, (T.getD n (0, 0, 0, 0, 0, 0, [])).2.2.2.2.2.2 ++ [(nm, u)])).length = T.length := List.length_set
  refine ⟨⟨?_, fun q hq => ?_⟩, cCa_mo h2 e (fr 72 5 (by decide) (by decide) (by decide) (by decide) (Or.inl (by decide)) (by decide) (by decide)) (fun x _ _ => e8 x) g0 (fun q i hq i0 i1 => ?_), ⟨fun q r hq hr ne => ?_, fun q r hq hr => ?_, fun q r hq hr ne => ?_⟩, ?_, ?_, cGl_mo h5 e (fun j x hj => fr j x (by omega) (by omega) (by omega) (by omega) (Or.inl (by omega)) (by omega) (by omega))⟩
  · rw [fr 72 3 (by decide) (by decide) (by decide) (by decide) (Or.inl (by decide)) (by decide) (by decide), lt]; exact h1.1
  · rw [lt] at hq
    rw [gO_set hn]
    by_cases ck : n = q
    · subst ck
      rw [if_pos rfl, en 127 _ (by decide) (by decide) (Or.inl (by decide)), en 128 _ (by decide) (by decide) (Or.inl (by decide)), en 129 _ (by decide) (by decide) (Or.inl (by decide)), en 130 _ (by decide) (by decide) (Or.inl (by decide)), en 131 _ (by decide) (by decide) (Or.inl (by decide)), en 136 _ (by decide) (by decide) (Or.inl (by decide))]
      refine ⟨⟨x1, x2, x3, x4, x5, x6⟩, ⟨?_, rA.2.1, rA.1, rA.2.2⟩, ?_⟩
      · show Z 134 n = ((((T.getD n (0, 0, 0, 0, 0, 0, [])).2.2.2.2.2.2 ++ [(nm, u)]).length : Nat) : Int)
        rw [List.length_append, a1, y1]
        show ((T.getD n (0, 0, 0, 0, 0, 0, [])).2.2.2.2.2.2.length : Int) + 1 = (((T.getD n (0, 0, 0, 0, 0, 0, [])).2.2.2.2.2.2.length + 1 : Nat) : Int)
        omega
      · show cR1 Z 141 142 (Z 133 n) (((T.getD n (0, 0, 0, 0, 0, 0, [])).2.2.2.2.2.2 ++ [(nm, u)]).map (fun x => x.2))
        rw [List.map_append]
        have lm : ((T.getD n (0, 0, 0, 0, 0, 0, [])).2.2.2.2.2.2.map (fun x => x.2)).length = (T.getD n (0, 0, 0, 0, 0, 0, [])).2.2.2.2.2.2.length := List.length_map _
        have c1 : cR1 Z 141 142 (Z 133 n) ((T.getD n (0, 0, 0, 0, 0, 0, [])).2.2.2.2.2.2.map (fun x => x.2)) := fun i hi => by
          have hi2 : (i : Int) < S 134 n := by rw [y1]; rw [lm] at hi; omega
          rw [(c i (by omega) hi2).1, (c i (by omega) hi2).2]
          exact cVl_mo (cc i hi) e
        refine cR1_ap c1 ?_
        rw [lm, ← y1, d1, d2]
        exact cVl_mo hv e
    · rw [if_neg ck]
      have ne : (q : Int) ≠ (n : Int) := fun z => ck (by omega)
      obtain ⟨⟨w1, w2, w3, w4, w5, w6⟩, ⟨v1, v2, v3, v4⟩, cq⟩ := hb q hq
      rw [en 127 _ (by decide) (by decide) (Or.inl (by decide)), en 128 _ (by decide) (by decide) (Or.inl (by decide)), en 129 _ (by decide) (by decide) (Or.inl (by decide)), en 130 _ (by decide) (by decide) (Or.inl (by decide)), en 131 _ (by decide) (by decide) (Or.inl (by decide)), en 136 _ (by decide) (by decide) (Or.inl (by decide)), en 133 _ (by decide) (by decide) (Or.inr ne), en 134 _ (by decide) (by decide) (Or.inr ne), en 135 _ (by decide) (by decide) (Or.inr ne)]
      refine ⟨⟨w1, w2, w3, w4, w5, w6⟩, ⟨v1, v2, v3, by omega⟩, cR1_mo cq e (fun i i0 i1 => e1 i (by omega) ?_ ?_)⟩
      · rw [List.length_map] at i1; omega
      · rw [List.length_map] at i1
        have := p1 n q hn hq (fun z => ck z)
        omega
  · have := hcb q hq
    refine e1 i (by omega) (by omega) ?_
    rcases p2 n q hn hq with z | z | z | z
    · omega
    · rw [z] at i1; have : (([] : List aV).length : Int) = 0 := rfl; omega
    · omega
    · omega
  · rw [lt] at hq hr
    by_cases cq : q = n
    · subst cq
      have ne2 : (r : Int) ≠ (q : Int) := fun z => ne (by omega)
      rw [en 133 r (by decide) (by decide) (Or.inr ne2), en 135 r (by decide) (by decide) (Or.inr ne2)]
      have g1 := p1 q r hq hr ne
      have g2 := (hb r hr).2.1
      rcases b with (⟨z0, z1, z2, z⟩ | ⟨z0, z3, z1, z2, z⟩) | ⟨z0, z1, z2, z⟩
      · omega
      · omega
      · omega
    · by_cases cr : r = n
      · subst cr
        have ne2 : (q : Int) ≠ (r : Int) := fun z => ne (by omega)
        rw [en 133 q (by decide) (by decide) (Or.inr ne2), en 135 q (by decide) (by decide) (Or.inr ne2)]
        have g1 := p1 q r hq hr ne
        have g2 := (hb q hq).2.1
        rcases b with (⟨z0, z1, z2, z⟩ | ⟨z0, z3, z1, z2, z⟩) | ⟨z0, z1, z2, z⟩
        · omega
        · omega
        · omega
      · have ne2 : (q : Int) ≠ (n : Int) := fun z => cq (by omega)
        have ne3 : (r : Int) ≠ (n : Int) := fun z => cr (by omega)
        rw [en 133 q (by decide) (by decide) (Or.inr ne2), en 135 q (by decide) (by decide) (Or.inr ne2), en 133 r (by decide) (by decide) (Or.inr ne3), en 135 r (by decide) (by decide) (Or.inr ne3)]
        exact p1 q r hq hr ne
  · rw [lt] at hq
    rw [(e8 r).1]
    by_cases cq : q = n
    · subst cq
      have g1 := p2 q r hq hr
      have g2 := (hcb r hr).2.1
      by_cases ce : (L.getD r (0, [])).2 = []
      · exact Or.inr (Or.inl ce)
      · have cl : 0 < (L.getD r (0, [])).2.length := List.length_pos_iff.mpr ce
        rcases g1 with g1 | g1 | g1 | g1
        · rcases b with (⟨z0, z1, z2, z⟩ | ⟨z0, z3, z1, z2, z⟩) | ⟨z0, z1, z2, z⟩
          · omega
          · exact Or.inr (Or.inr (by omega))
          · exact Or.inr (Or.inr (by omega))
        · exact absurd g1 ce
        · rcases b with (⟨z0, z1, z2, z⟩ | ⟨z0, z3, z1, z2, z⟩) | ⟨z0, z1, z2, z⟩
          · exact Or.inr (Or.inr (by omega))
          · omega
          · exact Or.inr (Or.inr (by omega))
        · rcases b with (⟨z0, z1, z2, z⟩ | ⟨z0, z3, z1, z2, z⟩) | ⟨z0, z1, z2, z⟩
          · exact Or.inr (Or.inr (by omega))
          · exact Or.inr (Or.inr (by omega))
          · exact Or.inr (Or.inr (by omega))
    · have ne2 : (q : Int) ≠ (n : Int) := fun z => cq (by omega)
      rw [en 133 q (by decide) (by decide) (Or.inr ne2), en 135 q (by decide) (by decide) (Or.inr ne2)]
      exact p2 q r hq hr
  · rw [(e8 q).1, (e8 r).1]; exact p3 q r hq hr ne
  · unfold cLc
    rw [(e8 (-1)).1, (e8 (-1)).2]
    exact ⟨⟨n1, n2, n3, n4⟩, f1, ⟨by omega, by omega⟩, by omega, by omega⟩
  · refine ⟨fun x hx => ?_, ?_⟩
    · rw [en (127 + x) _ (by omega) (by omega) (Or.inr (by omega)), en 127 _ (by decide) (by decide) (Or.inr (by omega))]; exact t1 x hx
    · rw [en 127 _ (by decide) (by decide) (Or.inr (by omega)), lt]; exact ⟨t2, t3, t4⟩
end Wes
