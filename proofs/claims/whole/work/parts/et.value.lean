/-! PART et: a value comes to a thing of the reference. -/
section Wet
variable {S Z A : wS} {k v q a b ty va nm s v0 la th nn : Int} {u : aV} {w m n : Nat} {L : List aC} {T : List aO} {G : Int → aV} {sl : Nat → List Int}
/-- what addSlot of the reference leaves -/
def as_f (th nm ty va s nn la : Int) (S Z : wS) : Prop := (Z 237 82 = s + 1 ∧ Z 237 63 = S 237 63 + 1) ∧ (Z 325 s = ty ∧ Z 326 s = va ∧ Z 327 s = nm) ∧ (Z 317 th = nn + 1 ∧ Z 318 th = s ∧ (nn = 0 → Z 316 th = s) ∧ (nn ≠ 0 → Z 316 th = S 316 th ∧ Z 328 la = s)) ∧ ∀ (j : Nat) (x : Int), (j ≠ 237 ∨ (x ≠ 82 ∧ x ≠ 63)) → ((j < 325 ∨ 328 < j) ∨ x ≠ s) → (j ≠ 328 ∨ nn = 0 ∨ x ≠ la) → ((j ≠ 316 ∧ j ≠ 317 ∧ j ≠ 318) ∨ x ≠ th) → Z j x = S j x
theorem as_fz (hv : S 237 63 = v0) : as_f th nm ty va s nn la S (asZ th nm ty va s v0 nn la S) := by
  unfold asZ
  by_cases c : nn = 0
  · rw [if_pos c]
    refine ⟨⟨?_, ?_⟩, ⟨?_, ?_, ?_⟩, ⟨w_up_same _ _ _ _, ?_, fun _ => ?_, fun z => absurd c z⟩, fun j x j0 j1 j2 j3 => ?_⟩
    · exact (w_up_slot (by decide)).trans ((w_up_slot (by decide)).trans ((w_up_slot (by decide)).trans ((w_up_slot (by decide)).trans ((w_up_slot (by decide)).trans ((w_up_slot (by decide)).trans ((w_up_slot (by decide)).trans ((w_up_at (by decide)).trans (w_up_same _ _ _ _))))))))
    · rw [hv]
      exact (w_up_slot (by decide)).trans ((w_up_slot (by decide)).trans ((w_up_slot (by decide)).trans ((w_up_slot (by decide)).trans ((w_up_slot (by decide)).trans ((w_up_slot (by decide)).trans ((w_up_slot (by decide)).trans (w_up_same _ _ _ _)))))))
    · exact (w_up_slot (by decide)).trans ((w_up_slot (by decide)).trans ((w_up_slot (by decide)).trans ((w_up_slot (by decide)).trans ((w_up_slot (by decide)).trans ((w_up_slot (by decide)).trans (w_up_same _ _ _ _))))))
    · exact (w_up_slot (by decide)).trans ((w_up_slot (by decide)).trans ((w_up_slot (by decide)).trans ((w_up_slot (by decide)).trans ((w_up_slot (by decide)).trans (w_up_same _ _ _ _)))))
    · exact (w_up_slot (by decide)).trans ((w_up_slot (by decide)).trans ((w_up_slot (by decide)).trans ((w_up_slot (by decide)).trans (w_up_same _ _ _ _))))
    · exact (w_up_slot (by decide)).trans (w_up_same _ _ _ _)
    · exact (w_up_slot (by decide)).trans ((w_up_slot (by decide)).trans (w_up_same _ _ _ _))
    · exact (w_up_no (by omega)).trans ((w_up_no (by omega)).trans ((w_up_no (by omega)).trans ((w_up_no (by omega)).trans ((w_up_no (by omega)).trans ((w_up_no (by omega)).trans ((w_up_no (by omega)).trans ((w_up_no (by omega)).trans (w_up_no (by omega)))))))))
  · rw [if_neg c]
    refine ⟨⟨?_, ?_⟩, ⟨?_, ?_, ?_⟩, ⟨w_up_same _ _ _ _, ?_, fun z => absurd z c, fun _ => ⟨?_, ?_⟩⟩, fun j x j0 j1 j2 j3 => ?_⟩
    · exact (w_up_slot (by decide)).trans ((w_up_slot (by decide)).trans ((w_up_slot (by decide)).trans ((w_up_slot (by decide)).trans ((w_up_slot (by decide)).trans ((w_up_slot (by decide)).trans ((w_up_slot (by decide)).trans ((w_up_at (by decide)).trans (w_up_same _ _ _ _))))))))
    · rw [hv]
      exact (w_up_slot (by decide)).trans ((w_up_slot (by decide)).trans ((w_up_slot (by decide)).trans ((w_up_slot (by decide)).trans ((w_up_slot (by decide)).trans ((w_up_slot (by decide)).trans ((w_up_slot (by decide)).trans (w_up_same _ _ _ _)))))))
    · exact (w_up_slot (by decide)).trans ((w_up_slot (by decide)).trans ((w_up_slot (by decide)).trans ((w_up_slot (by decide)).trans ((w_up_slot (by decide)).trans ((w_up_slot (by decide)).trans (w_up_same _ _ _ _))))))
    · exact (w_up_slot (by decide)).trans ((w_up_slot (by decide)).trans ((w_up_slot (by decide)).trans ((w_up_slot (by decide)).trans ((w_up_slot (by decide)).trans (w_up_same _ _ _ _)))))
    · exact (w_up_slot (by decide)).trans ((w_up_slot (by decide)).trans ((w_up_slot (by decide)).trans ((w_up_slot (by decide)).trans (w_up_same _ _ _ _))))
    · exact (w_up_slot (by decide)).trans (w_up_same _ _ _ _)
    · exact (w_up_slot (by decide)).trans ((w_up_slot (by decide)).trans ((w_up_slot (by decide)).trans ((w_up_slot (by decide)).trans ((w_up_slot (by decide)).trans ((w_up_slot (by decide)).trans ((w_up_slot (by decide)).trans ((w_up_slot (by decide)).trans (w_up_slot (by decide)))))))))
    · exact (w_up_slot (by decide)).trans ((w_up_slot (by decide)).trans (w_up_same _ _ _ _))
    · exact (w_up_no (by omega)).trans ((w_up_no (by omega)).trans ((w_up_no (by omega)).trans ((w_up_no (by omega)).trans ((w_up_no (by omega)).trans ((w_up_no (by omega)).trans ((w_up_no (by omega)).trans ((w_up_no (by omega)).trans (w_up_no (by omega)))))))))
/-- slots of a thing with one more -/
def aSa (sl : Nat → List Int) (n : Nat) (s : Int) (k : Nat) : List Int := if k = n then sl n ++ [s] else sl k
theorem aSa_n {k n : Nat} (h : k ≠ n) : aSa sl n s k = sl k := if_neg h
theorem aSa_e {n : Nat} : aSa sl n s n = sl n ++ [s] := if_pos rfl
theorem gI_l {l : List Int} {x : Int} {i : Nat} (hi : i < l.length) : (l ++ [x]).getD i 0 = l.getD i 0 := by
  rw [List.getD_eq_getElem?_getD, List.getElem?_append_left hi, ← List.getD_eq_getElem?_getD]
theorem gI_r {l : List Int} {x : Int} : (l ++ [x]).getD l.length 0 = x := by
  rw [List.getD_eq_getElem?_getD, List.getElem?_append_right (Nat.le_refl _), Nat.sub_self]; rfl
theorem gP_l {l : List (Int × aV)} {x : Int × aV} {i : Nat} (hi : i < l.length) : (l ++ [x]).getD i (0, (0, 0, [])) = l.getD i (0, (0, 0, [])) := by
  rw [List.getD_eq_getElem?_getD, List.getElem?_append_left hi, ← List.getD_eq_getElem?_getD]
theorem gP_r {l : List (Int × aV)} {x : Int × aV} : (l ++ [x]).getD l.length (0, (0, 0, [])) = x := by
  rw [List.getD_eq_getElem?_getD, List.getElem?_append_right (Nat.le_refl _), Nat.sub_self]; rfl
theorem rWd_as (h : rWd S sl T L G) (hn : n < T.length) (hs : S 237 82 = s) (hnn : S 317 (n : Int) = nn) (hla : S 318 (n : Int) = la) (r : as_f (n : Int) nm ty va s nn la S Z) (hs0 : 0 ≤ s) (hv : rVl S ty va u) : rWd Z (aSa sl n s) (T.set n ((T.getD n (0, 0, 0, 0, 0, 0, [])).1, (T.getD n (0, 0, 0, 0, 0, 0, [])).2.1, (T.getD n (0, 0, 0, 0, 0, 0, [])).2.2.1, (T.getD n (0, 0, 0, 0, 0, 0, [])).2.2.2.1, (T.getD n (0, 0, 0, 0, 0, 0, [])).2.2.2.2.1, (T.getD n (0, 0, 0, 0, 0, 0, [])).2.2.2.2.2.1, (T.getD n (0, 0, 0, 0, 0, 0, [])).2.2.2.2.2.2 ++ [(nm, u)])) L G := by
  obtain ⟨h1, h2, h3, h4, h5⟩ := h
  obtain ⟨⟨r1, -⟩, ⟨r2, r3, r4⟩, ⟨r5, r6, r7, r8⟩, fr⟩ := r
  have e : rTx S Z := rTx_of (fr 237 19 (by decide) (Or.inl (by decide)) (Or.inl (by decide)) (Or.inl (by decide))) (fr 237 102 (by decide) (Or.inl (by decide)) (Or.inl (by decide)) (Or.inl (by decide))) (fun j x j0 j1 => fr j x (by omega) (Or.inl (by omega)) (by omega) (by omega))
  have lt : (T.set n ((T.getD n (0, 0, 0, 0, 0, 0, [])).1, (T.getD n (0, 0, 0, 0, 0, 0, [])).2.1, (T.getD n (0, 0, 0, 0, 0, 0, [])).2.2.1, (T.getD n (0, 0, 0, 0, 0, 0, [])).2.2.2.1, (T.getD n (0, 0, 0, 0, 0, 0, [])).2.2.2.2.1, (T.getD n (0, 0, 0, 0, 0, 0, [])).2.2.2.2.2.1, (T.getD n (0, 0, 0, 0, 0, 0, [])).2.2.2.2.2.2 ++ [(nm, u)])).length = T.length := List.length_set
  have hb := h1.2
  obtain ⟨-, ⟨bn1, bn2⟩, cn, dn, gn⟩ := hb n hn
  have hnl : nn = ((sl n).length : Int) := by omega
  have es : ∀ (j : Nat) (x : Int), 314 ≤ j → j ≤ 324 → ((j ≠ 316 ∧ j ≠ 317 ∧ j ≠ 318) ∨ x ≠ (n : Int)) → Z j x = S j x := fun j x j0 j1 j2 => fr j x (by omega) (by omega) (by omega) j2
  refine ⟨⟨?_, fun k hk => ?_⟩, rCa_mo h2 e (fr 237 69 (by decide) (Or.inl (by decide)) (Or.inl (by decide)) (Or.inl (by decide))) (fr 237 94 (by decide) (Or.inl (by decide)) (Or.inl (by decide)) (Or.inl (by decide))) (fun j x j0 j1 => fr j x (by omega) (Or.inl (by omega)) (by omega) (by omega)), fun k q hk hq => ?_, ?_, rGl_mo h5 e (fun j x j0 j1 => fr j x (by omega) (Or.inl (by omega)) (by omega) (by omega))⟩
  · rw [fr 237 68 (by decide) (Or.inl (by decide)) (Or.inl (by decide)) (Or.inl (by decide)), lt]; exact h1.1
  · rw [lt] at hk
    rw [gO_set hn]
    by_cases ck : n = k
    · subst ck
      obtain ⟨a1, -, -, -, -⟩ := hb n hn
      rw [if_pos rfl, aSa_e, es 314 _ (by decide) (by decide) (Or.inl (by decide)), es 315 _ (by decide) (by decide) (Or.inl (by decide)), es 319 _ (by decide) (by decide) (Or.inl (by decide)), es 320 _ (by decide) (by decide) (Or.inl (by decide)), es 321 _ (by decide) (by decide) (Or.inl (by decide)), es 322 _ (by decide) (by decide) (Or.inl (by decide)), es 323 _ (by decide) (by decide) (Or.inl (by decide)), es 324 _ (by decide) (by decide) (Or.inl (by decide))]
      have ls : (sl n ++ [s]).length = (sl n).length + 1 := by rw [List.length_append]; rfl
      have lp : ((T.getD n (0, 0, 0, 0, 0, 0, [])).2.2.2.2.2.2 ++ [(nm, u)]).length = (T.getD n (0, 0, 0, 0, 0, 0, [])).2.2.2.2.2.2.length + 1 := by rw [List.length_append]; rfl
      refine ⟨a1, ⟨?_, ?_⟩, fun _ => ⟨?_, ?_⟩, fun i hi => ?_, fun q i j hq hi hj ee => ?_⟩
      · show Z 317 n = ((((T.getD n (0, 0, 0, 0, 0, 0, [])).2.2.2.2.2.2 ++ [(nm, u)]).length : Nat) : Int)
        rw [r5, lp]; omega
      · show (sl n ++ [s]).length = ((T.getD n (0, 0, 0, 0, 0, 0, [])).2.2.2.2.2.2 ++ [(nm, u)]).length
        rw [ls, lp, bn2]
      · by_cases c0 : nn = 0
        · rw [r7 c0]
          have : (sl n).length = 0 := by omega
          have g := gI_r (l := sl n) (x := s)
          rw [this] at g
          exact g.symm
        · rw [(r8 c0).1, gI_l (by omega)]
          exact (cn (by omega)).1
      · rw [r6, ls, Nat.add_sub_cancel]
        exact gI_r.symm
      · rw [ls] at hi
        show (0 ≤ (sl n ++ [s]).getD i 0 ∧ (sl n ++ [s]).getD i 0 < Z 237 82) ∧ Z 327 ((sl n ++ [s]).getD i 0) = (((T.getD n (0, 0, 0, 0, 0, 0, [])).2.2.2.2.2.2 ++ [(nm, u)]).getD i (0, (0, 0, []))).1 ∧ rVl Z (Z 325 ((sl n ++ [s]).getD i 0)) (Z 326 ((sl n ++ [s]).getD i 0)) (((T.getD n (0, 0, 0, 0, 0, 0, [])).2.2.2.2.2.2 ++ [(nm, u)]).getD i (0, (0, 0, []))).2 ∧ (i + 1 < (sl n ++ [s]).length → Z 328 ((sl n ++ [s]).getD i 0) = (sl n ++ [s]).getD (i + 1) 0)
        by_cases ci : i < (sl n).length
        · obtain ⟨⟨d0, d1⟩, d2, d3, d4⟩ := dn i ci
          have ne : (sl n).getD i 0 ≠ s := by omega
          rw [gI_l ci, gP_l (by omega), r1, fr 327 _ (Or.inl (by decide)) (Or.inr ne) (Or.inl (by decide)) (Or.inl (by decide)), fr 325 _ (Or.inl (by decide)) (Or.inr ne) (Or.inl (by decide)) (Or.inl (by decide)), fr 326 _ (Or.inl (by decide)) (Or.inr ne) (Or.inl (by decide)) (Or.inl (by decide))]
          refine ⟨⟨d0, by omega⟩, d2, rVl_mo d3 e, fun hl => ?_⟩
          by_cases cl : i + 1 < (sl n).length
          · rw [gI_l cl, fr 328 _ (Or.inl (by decide)) (Or.inr ne) (Or.inr (Or.inr ?_)) (Or.inl (by decide))]
            · exact d4 cl
            · intro z
              rw [← hla, (cn (by omega)).2] at z
              have := (gn n i ((sl n).length - 1) hn ci (by omega) z).2
              omega
          · have e1 : i + 1 = (sl n).length := by omega
            have e2 : (sl n).getD i 0 = la := by
              rw [← hla, (cn (by omega)).2, ← e1, Nat.add_sub_cancel]
            rw [e2, (r8 (by omega)).2, e1, gI_r]
        · have e1 : i = (sl n).length := by omega
          rw [e1, gI_r]
          rw [bn2, gP_r, r1, r2, r3, r4]
          refine ⟨⟨hs0, by omega⟩, rfl, rVl_mo hv e, fun hl => ?_⟩
          rw [← bn2, ls] at hl
          omega
      · rw [lt] at hq
        rw [ls] at hi
        by_cases cq : q = n
        · subst cq
          rw [aSa_e] at hj ee
          rw [ls] at hj
          refine ⟨rfl, ?_⟩
          by_cases ci : i < (sl q).length
          · have gi := (dn i ci).1
            by_cases cj : j < (sl q).length
            · rw [gI_l ci, gI_l cj] at ee
              exact (gn q i j hn ci cj ee).2
            · rw [gI_l ci, show j = (sl q).length by omega, gI_r] at ee
              omega
          · by_cases cj : j < (sl q).length
            · have gj := (dn j cj).1
              rw [gI_l cj, show i = (sl q).length by omega, gI_r] at ee
              omega
            · omega
        · rw [aSa_n cq] at hj ee
          have gq := ((hb q hq).2.2.2.1 j hj).1
          by_cases ci : i < (sl n).length
          · rw [gI_l ci] at ee
            exact gn q i j hq ci hj ee
          · rw [show i = (sl n).length by omega, gI_r] at ee
            omega
    · rw [if_neg ck, aSa_n (fun z => ck z.symm)]
      have ne : (k : Int) ≠ (n : Int) := fun z => ck (by omega)
      obtain ⟨a1, b1, c1, d1, g1⟩ := hb k hk
      rw [es 314 _ (by decide) (by decide) (Or.inr ne), es 315 _ (by decide) (by decide) (Or.inr ne), es 316 _ (by decide) (by decide) (Or.inr ne), es 317 _ (by decide) (by decide) (Or.inr ne), es 318 _ (by decide) (by decide) (Or.inr ne), es 319 _ (by decide) (by decide) (Or.inr ne), es 320 _ (by decide) (by decide) (Or.inr ne), es 321 _ (by decide) (by decide) (Or.inr ne), es 322 _ (by decide) (by decide) (Or.inr ne), es 323 _ (by decide) (by decide) (Or.inr ne), es 324 _ (by decide) (by decide) (Or.inr ne)]
      refine ⟨a1, b1, c1, fun i hi => ?_, fun q i j hq hi hj ee => ?_⟩
      · obtain ⟨⟨d0, d1⟩, d2, d3, d4⟩ := d1 i hi
        have n2 : (sl k).getD i 0 ≠ s := by omega
        have n3 : nn = 0 ∨ (sl k).getD i 0 ≠ la := by
          by_cases c0 : nn = 0
          · exact Or.inl c0
          · refine Or.inr (fun z => ?_)
            rw [← hla, (cn (by omega)).2] at z
            exact ck (g1 n i ((sl n).length - 1) hn hi (by omega) z).1.symm
        rw [r1, fr 327 _ (Or.inl (by decide)) (Or.inr n2) (Or.inl (by decide)) (Or.inl (by decide)), fr 325 _ (Or.inl (by decide)) (Or.inr n2) (Or.inl (by decide)) (Or.inl (by decide)), fr 326 _ (Or.inl (by decide)) (Or.inr n2) (Or.inl (by decide)) (Or.inl (by decide)), fr 328 _ (Or.inl (by decide)) (Or.inr n2) (Or.inr n3) (Or.inl (by decide))]
        exact ⟨⟨d0, by omega⟩, d2, rVl_mo d3 e, d4⟩
      · rw [lt] at hq
        by_cases cq : q = n
        · subst cq
          rw [aSa_e] at hj ee
          rw [List.length_append] at hj
          by_cases cj : j < (sl q).length
          · rw [gI_l cj] at ee
            exact g1 q i j hq hi cj ee
          · have gi := (d1 i hi).1
            have : j = (sl q).length := by
              have : ([s] : List Int).length = 1 := rfl
              omega
            rw [this, gI_r] at ee
            omega
        · rw [aSa_n cq] at hj ee
          exact g1 q i j hq hi hj ee
  · rw [fr 334 _ (Or.inl (by decide)) (Or.inl (by decide)) (Or.inl (by decide)) (Or.inl (by decide)), fr 334 _ (Or.inl (by decide)) (Or.inl (by decide)) (Or.inl (by decide)) (Or.inl (by decide))]; exact h3 k q hk hq
  · rw [fr 237 94 (by decide) (Or.inl (by decide)) (Or.inl (by decide)) (Or.inl (by decide))]; exact h4
end Wet
