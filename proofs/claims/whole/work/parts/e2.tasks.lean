/-! PART e2: what becomes of a task: its next instruction, values, tries. -/
section We2
variable {S Z A : wS} {K : aK} {k v q t : Int} {a : aV} {w m : Nat}
/-- another next instruction -/
def kNx (K : aK) (q : Int) : aK := (K.1, K.2.1.set (K.2.1.length - 1) ((K.2.1.getD (K.2.1.length - 1) (0, 0, 0, (0, 0, []), 0, 0, 0)).1, q, (K.2.1.getD (K.2.1.length - 1) (0, 0, 0, (0, 0, []), 0, 0, 0)).2.2), K.2.2)
theorem gF_set {l : List aF} {i j : Nat} {x : aF} (h : i < l.length) : (l.set i x).getD j (0, 0, 0, (0, 0, []), 0, 0, 0) = if i = j then x else l.getD j (0, 0, 0, (0, 0, []), 0, 0, 0) := by
  by_cases e : i = j
  · subst e
    rw [if_pos rfl, List.getD_eq_getElem?_getD, List.getElem?_set_self h]; rfl
  · rw [if_neg e, List.getD_eq_getElem?_getD, List.getElem?_set_ne e, ← List.getD_eq_getElem?_getD]
theorem cTx_of (h2 : Z 2 1 = S 2 1) (h3 : ∀ x : Int, Z 3 x = S 3 x) : cTx S Z := ⟨by rw [h2]; exact Int.le_refl _, fun x _ _ => h3 x⟩
theorem rTx_of (h19 : Z 237 19 = S 237 19) (h102 : Z 237 102 = S 237 102) (h : ∀ (j : Nat) (x : Int), 283 ≤ j → j ≤ 285 → Z j x = S j x) : rTx S Z := ⟨by rw [h19]; exact Int.le_refl _, by rw [h102]; exact Int.le_refl _, fun y _ => ⟨h 284 y (by decide) (by decide), h 285 y (by decide) (by decide), fun i _ _ => h 283 _ (by decide) (by decide)⟩⟩
theorem cTk_nx (h : cTk w S K) (hw : w = 215 ∨ w = 226) (h0 : 0 < K.2.1.length) : cTk w (w_up S (w + 5) ((K.2.1.length : Int) - 1) q) (kNx K q) := by
  obtain ⟨⟨p1, p2, p3, p4, p5, p6⟩, ⟨b1, b2, b3⟩, ⟨c1, c2, c3, c4, c5⟩, d1, d2⟩ := h
  have es : ∀ (j : Nat) (x : Int), j ≠ w + 5 → (w_up S (w + 5) ((K.2.1.length : Int) - 1) q) j x = S j x := fun j x hj => w_up_slot hj
  have e : cTx S (w_up S (w + 5) ((K.2.1.length : Int) - 1) q) := cTx_of (es 2 1 (by omega)) (fun x => es 3 x (by omega))
  have hl : (kNx K q).2.1.length = K.2.1.length := List.length_set
  refine ⟨⟨(es (w + 1) 2 (by omega)).trans p1, cR1_mo p2 e (fun i _ _ => ⟨es (w + 2) i (by omega), es (w + 3) i (by omega)⟩), by rw [es (w + 2) _ (by omega)]; exact p3, by rw [es (w + 2) _ (by omega), es (w + 3) _ (by omega)]; exact p4, by rw [es (w + 2) _ (by omega)]; exact p5, by rw [es (w + 2) _ (by omega)]; exact p6⟩, ⟨by rw [es w 4 (by omega), hl]; exact b1, by rw [hl]; exact b2, fun i hi => ?_⟩, ⟨(es w 12 (by omega)).trans c1, by rw [es (w + 10) _ (by omega)]; exact c2, by rw [es (w + 10) _ (by omega)]; exact c3, by rw [es (w + 10) _ (by omega)]; exact c4, fun i hi => by rw [es (w + 10) _ (by omega), es (w + 10) _ (by omega), es (w + 10) _ (by omega)]; exact c5 i hi⟩, (es w 13 (by omega)).trans d1, fun z => by rw [es w 14 (by omega), es w 15 (by omega)]; exact cVl_mo (d2 z) e⟩
  rw [hl] at hi
  obtain ⟨⟨g1, g2, g3⟩, g4, g5⟩ := b3 i hi
  rw [es (w + 4) _ (by omega), es (w + 6) _ (by omega), es (w + 7) _ (by omega), es (w + 8) _ (by omega), es (w + 9) _ (by omega)]
  have hx : (kNx K q).2.1.getD i (0, 0, 0, (0, 0, []), 0, 0, 0) = if K.2.1.length - 1 = i then ((K.2.1.getD (K.2.1.length - 1) (0, 0, 0, (0, 0, []), 0, 0, 0)).1, q, (K.2.1.getD (K.2.1.length - 1) (0, 0, 0, (0, 0, []), 0, 0, 0)).2.2) else K.2.1.getD i (0, 0, 0, (0, 0, []), 0, 0, 0) := gF_set (by omega)
  rw [hx]
  by_cases c : K.2.1.length - 1 = i
  · rw [if_pos c]
    subst c
    exact ⟨⟨g1, by rw [show ((K.2.1.length - 1 : Nat) : Int) = (K.2.1.length : Int) - 1 by omega, w_up_same], g3⟩, cVl_mo g4 e, g5⟩
  · rw [if_neg c, w_up_at (by omega)]
    exact ⟨⟨g1, g2, g3⟩, cVl_mo g4 e, g5⟩
theorem rTk_nx (h : rTk t S K) (h0 : 0 < K.2.1.length) : rTk t (w_up S 366 (200 * t + (K.2.1.length : Int) - 1) q) (kNx K q) := by
  obtain ⟨⟨p1, p2⟩, ⟨b1, b3⟩, ⟨c1, c2, c3⟩, d1, d2⟩ := h
  have es : ∀ (j : Nat) (x : Int), j ≠ 366 → (w_up S 366 (200 * t + (K.2.1.length : Int) - 1) q) j x = S j x := fun j x hj => w_up_slot hj
  have e : rTx S (w_up S 366 (200 * t + (K.2.1.length : Int) - 1) q) := rTx_of (es 237 19 (by decide)) (es 237 102 (by decide)) (fun j x j0 j1 => es j x (by omega))
  have hl : (kNx K q).2.1.length = K.2.1.length := List.length_set
  refine ⟨⟨(es 359 t (by decide)).trans p1, rR1_mo p2 e (fun i _ _ => ⟨es 363 i (by decide), es 364 i (by decide)⟩)⟩, ⟨by rw [es 358 t (by decide), hl]; exact b1, fun i hi => ?_⟩, ⟨(es 360 t (by decide)).trans c1, c2, fun i hi => by rw [es 373 _ (by decide), es 374 _ (by decide), es 375 _ (by decide)]; exact c3 i hi⟩, (es 357 t (by decide)).trans d1, fun z => by rw [es 361 t (by decide), es 362 t (by decide)]; exact rVl_mo (d2 z) e⟩
  rw [hl] at hi
  obtain ⟨⟨g1, g2, g3⟩, g4, g5, g6, g7⟩ := b3 i hi
  rw [es 365 _ (by decide), es 367 _ (by decide), es 368 _ (by decide), es 369 _ (by decide), es 370 _ (by decide), es 371 _ (by decide), es 372 _ (by decide)]
  have hx : (kNx K q).2.1.getD i (0, 0, 0, (0, 0, []), 0, 0, 0) = if K.2.1.length - 1 = i then ((K.2.1.getD (K.2.1.length - 1) (0, 0, 0, (0, 0, []), 0, 0, 0)).1, q, (K.2.1.getD (K.2.1.length - 1) (0, 0, 0, (0, 0, []), 0, 0, 0)).2.2) else K.2.1.getD i (0, 0, 0, (0, 0, []), 0, 0, 0) := gF_set (by omega)
  rw [hx]
  by_cases c : K.2.1.length - 1 = i
  · rw [if_pos c]
    subst c
    exact ⟨⟨g1, by rw [show 200 * t + ((K.2.1.length - 1 : Nat) : Int) = 200 * t + (K.2.1.length : Int) - 1 by omega, w_up_same], g3⟩, rVl_mo g4 e, g5, g6, g7⟩
  · rw [if_neg c, w_up_at (by omega)]
    exact ⟨⟨g1, g2, g3⟩, rVl_mo g4 e, g5, g6, g7⟩
/-- the class: values go, one comes, the next instruction -/
theorem cTk_sO {h c p n : Int} (hK : cTk w S K) (hw : w = 215 ∨ w = 226) (hS : sO w h c p n k v S Z) (hh : h = (K.1.length : Int)) (hc : c = (K.2.1.length : Int)) (h0 : 0 < K.2.1.length) (hn : n = (m : Int)) (hm : m ≤ K.1.length) (hl : K.1.length ≤ 2047) (hv : cVl S k v a) : cTk w Z (kNx (K.1.take (K.1.length - m) ++ [a], K.2) (p + 1)) := by
  obtain ⟨A, ra, rfl⟩ := hS
  subst hh
  subst hc
  rw [show (K.1.length : Int) - n = ((K.1.length - m : Nat) : Int) by omega] at ra
  have h1 := cTk_tk (m := K.1.length - m) hK hw (by omega)
  have e : cTx S (w_up S (w + 1) 2 ((K.1.length - m : Nat) : Int)) := cTx_of (w_up_slot (by omega)) (fun x => w_up_slot (by omega))
  have h2 := cTk_pu h1 hw ra (cVl_mo hv e) (by show (K.1.take (K.1.length - m)).length ≤ 2047; rw [List.length_take]; omega)
  exact cTk_nx (K := (K.1.take (K.1.length - m) ++ [a], K.2)) h2 hw h0
/-- the reference: a pile that ends with one value -/
theorem rTk_l1 (h : rTk t S K) (e : rTx S Z) (f : rTr t S Z K) (hm : m ≤ K.1.length) (hz : Z 359 t = (m : Int) + 1) (hs : ∀ x : Int, 2100 * t ≤ x → x < 2100 * t + (m : Int) → Z 363 x = S 363 x ∧ Z 364 x = S 364 x) (hv : rVl Z (Z 363 (2100 * t + (m : Int))) (Z 364 (2100 * t + (m : Int))) a) : rTk t Z (K.1.take m ++ [a], K.2) := by
  have hl : (K.1.take m).length = m := by rw [List.length_take]; omega
  refine rTk_p h e f ⟨by rw [hz, List.length_append, hl]; rfl, ?_⟩
  refine rR1_ap (rR1_mo (rR1_tk h.1.2 hm) e (fun i i0 i1 => hs i i0 (by rw [hl] at i1; exact i1))) ?_
  rw [hl]
  exact hv
end We2
