/-! PART ip: a property's value is written, in both worlds. -/
section Wip
variable {S Z A : wS} {k v kd : Int} {u : aV} {i : Nat} {L : List aC} {T : List aO} {H : List aH} {G : Int → aV} {sl : Nat → List Int}
/-- the i-th property of thing k is u -/
def tSp (T : List aO) (k : Int) (i : Nat) (u : aV) : List aO := T.set k.toNat ((tO T k).1, (tO T k).2.1, (tO T k).2.2.1, (tO T k).2.2.2.1, (tO T k).2.2.2.2.1, (tO T k).2.2.2.2.2.1, (tO T k).2.2.2.2.2.2.set i (((tO T k).2.2.2.2.2.2.getD i (0, (0, 0, []))).1, u))
theorem tSp_l : (tSp T k i u).length = T.length := List.length_set
theorem tSp_g {q : Nat} (k1 : k.toNat < T.length) : (tSp T k i u).getD q (0, 0, 0, 0, 0, 0, []) = if k.toNat = q then ((tO T k).1, (tO T k).2.1, (tO T k).2.2.1, (tO T k).2.2.2.1, (tO T k).2.2.2.2.1, (tO T k).2.2.2.2.2.1, (tO T k).2.2.2.2.2.2.set i (((tO T k).2.2.2.2.2.2.getD i (0, (0, 0, []))).1, u)) else T.getD q (0, 0, 0, 0, 0, 0, []) := by
  unfold tSp
  by_cases e : k.toNat = q
  · subst e
    rw [if_pos rfl, List.getD_eq_getElem?_getD, List.getElem?_set_self k1]; rfl
  · rw [if_neg e, List.getD_eq_getElem?_getD, List.getElem?_set_ne e, ← List.getD_eq_getElem?_getD]
theorem cWd_sp (h : cWd S T L G) (k0 : 0 ≤ k) (k1 : k < (T.length : Int)) (hi : i < (tO T k).2.2.2.2.2.2.length) (hv : cVl S kd v u) : cWd (w_up (w_up S 141 (S 133 k + (i : Int)) kd) 142 (S 133 k + (i : Int)) v) (tSp T k i u) L G := by
  obtain ⟨⟨ga, gb⟩, g2, ⟨p1, p2, p3⟩, ⟨⟨n1, n2, n3, n4⟩, n5, ⟨n6, n7⟩, n8, n9⟩, t1, g5⟩ := h
  have es : ∀ (j : Nat) (x : Int), j ≠ 141 → j ≠ 142 → (w_up (w_up S 141 (S 133 k + (i : Int)) kd) 142 (S 133 k + (i : Int)) v) j x = S j x := fun j x j0 j1 => (w_up_slot j1).trans (w_up_slot j0)
  have e1 : ∀ (x : Int), x ≠ S 133 k + (i : Int) → (w_up (w_up S 141 (S 133 k + (i : Int)) kd) 142 (S 133 k + (i : Int)) v) 141 x = S 141 x ∧ (w_up (w_up S 141 (S 133 k + (i : Int)) kd) 142 (S 133 k + (i : Int)) v) 142 x = S 142 x := fun x hx => ⟨(w_up_at hx).trans (w_up_at hx), (w_up_at hx).trans (w_up_at hx)⟩
  have e : cTx S (w_up (w_up S 141 (S 133 k + (i : Int)) kd) 142 (S 133 k + (i : Int)) v) := cTx_of (es 2 1 (by first | decide | omega) (by first | decide | omega)) (fun x => es 3 x (by first | decide | omega) (by first | decide | omega))
  have ey : ((k.toNat : Nat) : Int) = k := by omega
  have kn : k.toNat < T.length := by omega
  obtain ⟨-, ⟨b1, b2, b3, b4⟩, -⟩ := gb k.toNat kn
  rw [ey] at b1 b2 b3 b4
  replace b1 : S 134 k = ((tO T k).2.2.2.2.2.2.length : Int) := b1
  refine ⟨⟨?_, fun q hq => ?_⟩, cCa_mo g2 e (es 72 5 (by first | decide | omega) (by first | decide | omega)) (fun x _ _ => ⟨es 138 x (by first | decide | omega) (by first | decide | omega), es 139 x (by first | decide | omega) (by first | decide | omega)⟩) (Int.le_of_eq (es 140 2 (by first | decide | omega) (by first | decide | omega)).symm) (fun q x hq x0 x1 => e1 x ?_), ?_, ?_, ?_, cGl_mo g5 e (fun j x hj => es j x (by omega) (by omega))⟩
  · rw [tSp_l, es 72 3 (by first | decide | omega) (by first | decide | omega)]; exact ga
  · rw [tSp_l] at hq
    obtain ⟨⟨a1, a2, a3, a4, a5, a6⟩, ⟨c1, c2, c3, c4⟩, c5⟩ := gb q hq
    rw [es 127 _ (by first | decide | omega) (by first | decide | omega), es 128 _ (by first | decide | omega) (by first | decide | omega), es 129 _ (by first | decide | omega) (by first | decide | omega), es 136 _ (by first | decide | omega) (by first | decide | omega), es 130 _ (by first | decide | omega) (by first | decide | omega), es 131 _ (by first | decide | omega) (by first | decide | omega), es 134 _ (by first | decide | omega) (by first | decide | omega), es 135 _ (by first | decide | omega) (by first | decide | omega), es 133 _ (by first | decide | omega) (by first | decide | omega), es 140 _ (by first | decide | omega) (by first | decide | omega), tSp_g kn]
    by_cases c : k.toNat = q
    · subst c
      rw [if_pos rfl]
      refine ⟨⟨a1, a2, a3, a4, a5, a6⟩, ⟨by rw [List.length_set]; exact c1, c2, c3, c4⟩, ?_⟩
      show cR1 (w_up (w_up S 141 (S 133 k + (i : Int)) kd) 142 (S 133 k + (i : Int)) v) 141 142 (S 133 ((k.toNat : Nat) : Int)) (((tO T k).2.2.2.2.2.2.set i _).map (fun x => x.2))
      rw [List.map_set, ey]
      rw [ey] at c5
      exact cR1_st c5 (by first | decide | omega) (by rw [List.length_map]; exact hi) hv
    · rw [if_neg c]
      refine ⟨⟨a1, a2, a3, a4, a5, a6⟩, ⟨c1, c2, c3, c4⟩, cR1_mo c5 e (fun x x0 x1 => e1 x ?_)⟩
      rw [List.length_map] at x1
      have z := p1 q k.toNat hq kn (fun z => c z.symm)
      rw [ey] at z
      omega
  · have z := p2 k.toNat q kn hq
    rw [ey] at z
    rcases z with z | z | z | z
    · omega
    · rw [z] at x1; have : (([] : List aV).length : Int) = 0 := rfl; omega
    · omega
    · omega
  · rw [tSp_l]
    exact cAp_mo ⟨p1, p2, p3⟩ (fun x _ _ => ⟨es 133 x (by first | decide | omega) (by first | decide | omega), es 135 x (by first | decide | omega) (by first | decide | omega)⟩) (fun x _ _ => es 138 x (by first | decide | omega) (by first | decide | omega))
  · unfold cLc
    rw [es 139 _ (by first | decide | omega) (by first | decide | omega), es 138 _ (by first | decide | omega) (by first | decide | omega), es 140 _ (by first | decide | omega) (by first | decide | omega), (e1 (-1) (by omega)).1, (e1 (-1) (by omega)).2]
    exact ⟨⟨n1, n2, n3, n4⟩, n5, ⟨n6, n7⟩, n8, n9⟩
  · obtain ⟨t1, t2⟩ := t1
    refine ⟨fun x hx => ?_, ?_⟩
    · rw [es (127 + x) _ (by omega) (by omega), es 127 _ (by first | decide | omega) (by first | decide | omega)]; exact t1 x hx
    · rw [tSp_l, es 127 _ (by first | decide | omega) (by first | decide | omega)]; exact t2
theorem rWd_sp (h : rWd S sl T L G) (k0 : 0 ≤ k) (k1 : k < (T.length : Int)) (hi : i < (sl k.toNat).length) (hv : rVl S kd v u) : rWd (w_up (w_up S 325 ((sl k.toNat).getD i 0) kd) 326 ((sl k.toNat).getD i 0) v) sl (tSp T k i u) L G := by
  obtain ⟨⟨ga, gb⟩, g2, p3, n1, g5⟩ := h
  have es : ∀ (j : Nat) (x : Int), j ≠ 325 → j ≠ 326 → (w_up (w_up S 325 ((sl k.toNat).getD i 0) kd) 326 ((sl k.toNat).getD i 0) v) j x = S j x := fun j x j0 j1 => (w_up_slot j1).trans (w_up_slot j0)
  have e1 : ∀ (x : Int), x ≠ (sl k.toNat).getD i 0 → (w_up (w_up S 325 ((sl k.toNat).getD i 0) kd) 326 ((sl k.toNat).getD i 0) v) 325 x = S 325 x ∧ (w_up (w_up S 325 ((sl k.toNat).getD i 0) kd) 326 ((sl k.toNat).getD i 0) v) 326 x = S 326 x := fun x hx => ⟨(w_up_at hx).trans (w_up_at hx), (w_up_at hx).trans (w_up_at hx)⟩
  have e : rTx S (w_up (w_up S 325 ((sl k.toNat).getD i 0) kd) 326 ((sl k.toNat).getD i 0) v) := rTx_of (es 237 19 (by first | decide | omega) (by first | decide | omega)) (es 237 102 (by first | decide | omega) (by first | decide | omega)) (fun j x j0 j1 => es j x (by omega) (by omega))
  have kn : k.toNat < T.length := by omega
  refine ⟨⟨?_, fun q hq => ?_⟩, rCa_mo g2 e (es 237 69 (by first | decide | omega) (by first | decide | omega)) (es 237 94 (by first | decide | omega) (by first | decide | omega)) (fun j x j0 j1 => es j x (by omega) (by omega)), fun q r hq hr => ?_, ?_, rGl_mo g5 e (fun j x j0 j1 => es j x (by omega) (by omega))⟩
  · rw [tSp_l, es 237 68 (by first | decide | omega) (by first | decide | omega)]; exact ga
  · rw [tSp_l] at hq
    obtain ⟨a, ⟨b1, b2⟩, c, d, g⟩ := gb q hq
    have dk := (gb k.toNat kn).2.1.2
    replace dk : (sl k.toNat).length = (tO T k).2.2.2.2.2.2.length := dk
    have gk := (gb k.toNat kn).2.2.2.2
    rw [es 314 _ (by first | decide | omega) (by first | decide | omega), es 315 _ (by first | decide | omega) (by first | decide | omega), es 316 _ (by first | decide | omega) (by first | decide | omega), es 317 _ (by first | decide | omega) (by first | decide | omega), es 318 _ (by first | decide | omega) (by first | decide | omega), es 319 _ (by first | decide | omega) (by first | decide | omega), es 320 _ (by first | decide | omega) (by first | decide | omega), es 321 _ (by first | decide | omega) (by first | decide | omega), es 322 _ (by first | decide | omega) (by first | decide | omega), es 323 _ (by first | decide | omega) (by first | decide | omega), es 324 _ (by first | decide | omega) (by first | decide | omega), es 237 82 (by first | decide | omega) (by first | decide | omega), tSp_g kn, tSp_l]
    by_cases cq : k.toNat = q
    · subst cq
      rw [if_pos rfl]
      refine ⟨a, ⟨by rw [List.length_set]; exact b1, by rw [List.length_set]; exact b2⟩, c, fun y hy => ?_, g⟩
      obtain ⟨d1, d2, d3, d4⟩ := d y hy
      rw [es 327 _ (by first | decide | omega) (by first | decide | omega), es 328 _ (by first | decide | omega) (by first | decide | omega)]
      by_cases cy : y = i
      · subst cy
        have hg : ((tO T k).2.2.2.2.2.2.set y (((tO T k).2.2.2.2.2.2.getD y (0, (0, 0, []))).1, u)).getD y (0, (0, 0, [])) = (((tO T k).2.2.2.2.2.2.getD y (0, (0, 0, []))).1, u) := by
          rw [List.getD_eq_getElem?_getD, List.getElem?_set_self (by omega)]; rfl
        rw [hg]
        refine ⟨d1, d2, ?_, d4⟩
        rw [w_up_slot (show (325 : Nat) ≠ 326 by decide), w_up_same, w_up_same]
        exact rVl_mo hv e
      · have hg : ((tO T k).2.2.2.2.2.2.set i (((tO T k).2.2.2.2.2.2.getD i (0, (0, 0, []))).1, u)).getD y (0, (0, 0, [])) = (tO T k).2.2.2.2.2.2.getD y (0, (0, 0, [])) := by
          rw [List.getD_eq_getElem?_getD, List.getElem?_set_ne (fun z => cy z.symm), ← List.getD_eq_getElem?_getD]
        have hne : (sl k.toNat).getD y 0 ≠ (sl k.toNat).getD i 0 := fun z => cy (gk k.toNat y i kn hy hi z).2
        rw [hg, (e1 _ hne).1, (e1 _ hne).2]
        exact ⟨d1, d2, rVl_mo d3 e, d4⟩
    · rw [if_neg cq]
      refine ⟨a, ⟨b1, b2⟩, c, fun y hy => ?_, g⟩
      obtain ⟨d1, d2, d3, d4⟩ := d y hy
      have hne : (sl q).getD y 0 ≠ (sl k.toNat).getD i 0 := fun z => cq (g k.toNat y i kn hy hi z).1.symm
      rw [es 327 _ (by first | decide | omega) (by first | decide | omega), es 328 _ (by first | decide | omega) (by first | decide | omega), (e1 _ hne).1, (e1 _ hne).2]
      exact ⟨d1, d2, rVl_mo d3 e, d4⟩
  · rw [es 334 _ (by first | decide | omega) (by first | decide | omega), es 334 _ (by first | decide | omega) (by first | decide | omega)]
    exact p3 q r hq hr
  · rw [es 237 _ (by first | decide | omega) (by first | decide | omega)]; exact n1
end Wip
