/-! PART e3: tasks: fewer calls and tries; a task ends; a value is thrown. -/
section We3
variable {S Z A : wS} {K : aK} {k v q t how : Int} {a : aV} {w m m1 m2 : Nat}
theorem gF_tk {l : List aF} {i m : Nat} (h : i < m) : (l.take m).getD i (0, 0, 0, (0, 0, []), 0, 0, 0) = l.getD i (0, 0, 0, (0, 0, []), 0, 0, 0) := by
  rw [List.getD_eq_getElem?_getD, List.getElem?_take_of_lt h, ← List.getD_eq_getElem?_getD]
theorem gY_tk {l : List aY} {i m : Nat} (h : i < m) : (l.take m).getD i (0, 0, 0) = l.getD i (0, 0, 0) := by
  rw [List.getD_eq_getElem?_getD, List.getElem?_take_of_lt h, ← List.getD_eq_getElem?_getD]
/-- fewer calls, fewer tries -/
def kCu (K : aK) (m1 m2 : Nat) : aK := (K.1, K.2.1.take m1, K.2.2.1.take m2, K.2.2.2)
theorem cTk_cu (h : cTk w S K) (hw : w = 215 ∨ w = 226) (h1 : m1 ≤ K.2.1.length) (h2 : m2 ≤ K.2.2.1.length) (es : ∀ (j : Nat) (x : Int), (j ≠ w ∨ (x ≠ 4 ∧ x ≠ 12)) → Z j x = S j x) (z4 : Z w 4 = (m1 : Int)) (z12 : Z w 12 = 3 * (m2 : Int)) : cTk w Z (kCu K m1 m2) := by
  obtain ⟨⟨p1, p2, p3, p4, p5, p6⟩, ⟨b1, b2, b3⟩, ⟨c1, c2, c3, c4, c5⟩, d1, d2⟩ := h
  have e : cTx S Z := cTx_of (es 2 1 (by omega)) (fun x => es 3 x (by omega))
  have l1 : (K.2.1.take m1).length = m1 := by rw [List.length_take]; omega
  have l2 : (K.2.2.1.take m2).length = m2 := by rw [List.length_take]; omega
  refine ⟨⟨(es (w + 1) 2 (by omega)).trans p1, cR1_mo p2 e (fun i _ _ => ⟨es (w + 2) i (by omega), es (w + 3) i (by omega)⟩), by rw [es (w + 2) _ (by omega)]; exact p3, by rw [es (w + 2) _ (by omega), es (w + 3) _ (by omega)]; exact p4, by rw [es (w + 2) _ (by omega)]; exact p5, by rw [es (w + 2) _ (by omega)]; exact p6⟩, ⟨by rw [z4]; show (m1 : Int) = ((K.2.1.take m1).length : Int); rw [l1], by show (K.2.1.take m1).length ≤ 200; omega, fun i hi => ?_⟩, ⟨by rw [z12]; show 3 * (m2 : Int) = 3 * ((K.2.2.1.take m2).length : Int); rw [l2], by rw [es (w + 10) _ (by omega)]; show 3 * ((K.2.2.1.take m2).length : Int) ≤ _; omega, by rw [es (w + 10) _ (by omega)]; exact c3, by rw [es (w + 10) _ (by omega)]; exact c4, fun i hi => ?_⟩, (es w 13 (by omega)).trans d1, fun z => by rw [es w 14 (by omega), es w 15 (by omega)]; exact cVl_mo (d2 z) e⟩
  · have hi2 : i < m1 := by have : i < (K.2.1.take m1).length := hi; omega
    obtain ⟨g1, g2, g3⟩ := b3 i (by omega)
    have hx : (kCu K m1 m2).2.1.getD i (0, 0, 0, (0, 0, []), 0, 0, 0) = K.2.1.getD i (0, 0, 0, (0, 0, []), 0, 0, 0) := gF_tk hi2
    rw [hx, es (w + 4) _ (by omega), es (w + 5) _ (by omega), es (w + 6) _ (by omega), es (w + 7) _ (by omega), es (w + 8) _ (by omega), es (w + 9) _ (by omega)]
    exact ⟨g1, cVl_mo g2 e, g3⟩
  · have hi2 : i < m2 := by have : i < (K.2.2.1.take m2).length := hi; omega
    have hx : (kCu K m1 m2).2.2.1.getD i (0, 0, 0) = K.2.2.1.getD i (0, 0, 0) := gY_tk hi2
    rw [hx, es (w + 10) _ (by omega), es (w + 10) _ (by omega), es (w + 10) _ (by omega)]
    exact c5 i (by omega)
theorem rTk_cu (h : rTk t S K) (h1 : m1 ≤ K.2.1.length) (h2 : m2 ≤ K.2.2.1.length) (es : ∀ (j : Nat) (x : Int), (j ≠ 358 ∨ x ≠ t) → (j ≠ 360 ∨ x ≠ t) → Z j x = S j x) (z4 : Z 358 t = (m1 : Int)) (z12 : Z 360 t = (m2 : Int)) : rTk t Z (kCu K m1 m2) := by
  obtain ⟨⟨p1, p2⟩, ⟨b1, b3⟩, ⟨c1, c2, c3⟩, d1, d2⟩ := h
  have e : rTx S Z := rTx_of (es 237 19 (by omega) (by omega)) (es 237 102 (by omega) (by omega)) (fun j x j0 j1 => es j x (by omega) (by omega))
  have l1 : (K.2.1.take m1).length = m1 := by rw [List.length_take]; omega
  have l2 : (K.2.2.1.take m2).length = m2 := by rw [List.length_take]; omega
  refine ⟨⟨(es 359 t (by omega) (by omega)).trans p1, rR1_mo p2 e (fun i _ _ => ⟨es 363 i (by omega) (by omega), es 364 i (by omega) (by omega)⟩)⟩, ⟨by rw [z4]; show (m1 : Int) = ((K.2.1.take m1).length : Int); rw [l1], fun i hi => ?_⟩, ⟨by rw [z12]; show (m2 : Int) = ((K.2.2.1.take m2).length : Int); rw [l2], by show (K.2.2.1.take m2).length ≤ 10000; omega, fun i hi => ?_⟩, (es 357 t (by omega) (by omega)).trans d1, fun z => by rw [es 361 t (by omega) (by omega), es 362 t (by omega) (by omega)]; exact rVl_mo (d2 z) e⟩
  · have hi2 : i < m1 := by have : i < (K.2.1.take m1).length := hi; omega
    obtain ⟨g1, g2, g3⟩ := b3 i (by omega)
    have hx : (kCu K m1 m2).2.1.getD i (0, 0, 0, (0, 0, []), 0, 0, 0) = K.2.1.getD i (0, 0, 0, (0, 0, []), 0, 0, 0) := gF_tk hi2
    rw [hx, es 365 _ (by omega) (by omega), es 366 _ (by omega) (by omega), es 367 _ (by omega) (by omega), es 368 _ (by omega) (by omega), es 369 _ (by omega) (by omega), es 370 _ (by omega) (by omega), es 371 _ (by omega) (by omega), es 372 _ (by omega) (by omega)]
    exact ⟨g1, rVl_mo g2 e, g3⟩
  · have hi2 : i < m2 := by have : i < (K.2.2.1.take m2).length := hi; omega
    have hx : (kCu K m1 m2).2.2.1.getD i (0, 0, 0) = K.2.2.1.getD i (0, 0, 0) := gY_tk hi2
    rw [hx, es 373 _ (by omega) (by omega), es 374 _ (by omega) (by omega), es 375 _ (by omega) (by omega)]
    exact c3 i (by omega)
/-- a field of the reference's object -/
theorem rTk_37 {x y : Int} (h : rTk t S K) (h1 : x ≠ 19) (h2 : x ≠ 102) : rTk t (w_up S 237 x y) K := by
  have es : ∀ (j : Nat) (i : Int), j ≠ 237 → (w_up S 237 x y) j i = S j i := fun j i hj => w_up_slot hj
  exact rTk_ag h (rTx_of (w_up_at (by omega)) (w_up_at (by omega)) (fun j i j0 j1 => es j i (by omega))) ⟨fun j hj => es j t (by omega), fun j i j0 j1 _ _ => es j i (by omega), fun j i j0 j1 _ _ => es j i (by omega)⟩ (es 359 t (by decide)) (fun i _ _ => ⟨es 363 i (by decide), es 364 i (by decide)⟩)
/-- a task ends, whatever its calls were -/
theorem cTk_fi2 (h : cTk w S K) (hw : w = 215 ∨ w = 226) (es0 : ∀ (j : Nat) (x : Int), j ≠ w → (j ≠ w + 1 ∨ x ≠ 2) → Z j x = S j x) (hv : cVl Z k v a) : cTk w (w_up (w_up (w_up (w_up (w_up (w_up (w_up Z w 13 0) w 4 0) (w + 1) 2 0) w 12 0) w 13 how) w 14 k) w 15 v) ([], [], [], how, a) := by
  obtain ⟨⟨p1, p2, p3, p4, p5, p6⟩, -, ⟨c1, c2, c3, c4, c5⟩, -, -⟩ := h
  have ez : ∀ (j : Nat) (x : Int), j ≠ w → (j ≠ w + 1 ∨ x ≠ 2) → (w_up (w_up (w_up (w_up (w_up (w_up (w_up Z w 13 0) w 4 0) (w + 1) 2 0) w 12 0) w 13 how) w 14 k) w 15 v) j x = Z j x := fun j x h1 h2 => (w_up_no (by omega)).trans ((w_up_no (by omega)).trans ((w_up_no (by omega)).trans ((w_up_no (by omega)).trans ((w_up_no (by omega)).trans ((w_up_no (by omega)).trans (w_up_no (by omega)))))))
  have es : ∀ (j : Nat) (x : Int), j ≠ w → (j ≠ w + 1 ∨ x ≠ 2) → (w_up (w_up (w_up (w_up (w_up (w_up (w_up Z w 13 0) w 4 0) (w + 1) 2 0) w 12 0) w 13 how) w 14 k) w 15 v) j x = S j x := fun j x h1 h2 => (ez j x h1 h2).trans (es0 j x h1 h2)
  have e : cTx Z (w_up (w_up (w_up (w_up (w_up (w_up (w_up Z w 13 0) w 4 0) (w + 1) 2 0) w 12 0) w 13 how) w 14 k) w 15 v) := cTx_of (ez 2 1 (by omega) (by omega)) (fun x => ez 3 x (by omega) (by omega))
  refine ⟨⟨?_, fun i hi => absurd hi (Nat.not_lt_zero _), ?_, ?_, ?_, ?_⟩, ⟨?_, Nat.zero_le _, fun i hi => absurd hi (Nat.not_lt_zero _)⟩, ⟨?_, ?_, ?_, ?_, fun i hi => absurd hi (Nat.not_lt_zero _)⟩, ?_, fun _ => ?_⟩
  · rw [w_up_slot (by omega), w_up_slot (by omega), w_up_slot (by omega), w_up_slot (by omega), w_up_same]; rfl
  · rw [es (w + 2) _ (by omega) (by omega)]; show (0 : Int) ≤ _; omega
  · rw [es (w + 2) _ (by omega) (by omega), es (w + 3) _ (by omega) (by omega)]; exact p4
  · rw [es (w + 2) _ (by omega) (by omega)]; exact p5
  · rw [es (w + 2) _ (by omega) (by omega)]; exact p6
  · rw [w_up_at (by decide), w_up_at (by decide), w_up_at (by decide), w_up_at (by decide), w_up_slot (by omega), w_up_same]; rfl
  · rw [w_up_at (by decide), w_up_at (by decide), w_up_at (by decide), w_up_same]; rfl
  · rw [es (w + 10) _ (by omega) (by omega)]; show 3 * (0 : Int) ≤ _; omega
  · rw [es (w + 10) _ (by omega) (by omega)]; exact c3
  · rw [es (w + 10) _ (by omega) (by omega)]; exact c4
  · rw [w_up_at (by decide), w_up_at (by decide), w_up_same]
  · rw [w_up_at (by decide), w_up_same, w_up_same]
    exact cVl_mo hv e
theorem cTk_fi (h : cTk w S K) (hw : w = 215 ∨ w = 226) (hv : cVl S k v a) : cTk w (w_up (w_up (w_up (w_up (w_up (w_up (w_up S w 13 0) w 4 0) (w + 1) 2 0) w 12 0) w 13 how) w 14 k) w 15 v) ([], [], [], how, a) := cTk_fi2 h hw (fun _ _ _ _ => rfl) hv
theorem rTk_fi (ht : 0 ≤ t ∧ t ≤ 1) (hv : rVl S k v a) : rTk t (fiZ t how k v S) ([], [], [], how, a) := by
  have es : ∀ (j : Nat) (x : Int), (j < 357 ∨ 362 < j) → (fiZ t how k v S) j x = S j x := fun j x h1 => (w_up_no (by omega)).trans ((w_up_no (by omega)).trans ((w_up_no (by omega)).trans ((w_up_no (by omega)).trans ((w_up_no (by omega)).trans (w_up_no (by omega))))))
  have e : rTx S (fiZ t how k v S) := rTx_of (es 237 19 (by omega)) (es 237 102 (by omega)) (fun j x j0 j1 => es j x (by omega))
  refine ⟨⟨?_, fun i hi => absurd hi (Nat.not_lt_zero _)⟩, ⟨?_, fun i hi => absurd hi (Nat.not_lt_zero _)⟩, ⟨?_, Nat.zero_le _, fun i hi => absurd hi (Nat.not_lt_zero _)⟩, ?_, fun _ => ?_⟩
  · show w_up (w_up _ 359 t 0) 360 t 0 359 t = _
    rw [w_up_slot (by decide), w_up_same]; rfl
  · show w_up (w_up (w_up _ 358 t 0) 359 t 0) 360 t 0 358 t = _
    rw [w_up_slot (by decide), w_up_slot (by decide), w_up_same]; rfl
  · show w_up _ 360 t 0 360 t = _
    rw [w_up_same]; rfl
  · show w_up (w_up (w_up (w_up (w_up (w_up S 357 t how) 361 t k) 362 t v) 358 t 0) 359 t 0) 360 t 0 357 t = _
    rw [w_up_slot (by decide), w_up_slot (by decide), w_up_slot (by decide), w_up_slot (by decide), w_up_slot (by decide), w_up_same]
  · have h1 : (fiZ t how k v S) 361 t = k := by
      show w_up (w_up (w_up (w_up (w_up (w_up S 357 t how) 361 t k) 362 t v) 358 t 0) 359 t 0) 360 t 0 361 t = _
      rw [w_up_slot (by decide), w_up_slot (by decide), w_up_slot (by decide), w_up_slot (by decide), w_up_same]
    have h2 : (fiZ t how k v S) 362 t = v := by
      show w_up (w_up (w_up (w_up (w_up (w_up S 357 t how) 361 t k) 362 t v) 358 t 0) 359 t 0) 360 t 0 362 t = _
      rw [w_up_slot (by decide), w_up_slot (by decide), w_up_slot (by decide), w_up_same]
    rw [h1, h2]
    exact rVl_mo hv e
theorem rTk_pU {n : Int} (h : rTk t S K) (ht : 0 ≤ t ∧ t ≤ 1) (hn : n = (K.1.length : Int)) (hv : rVl S k v a) : rTk t (pUZ t n k v S) (K.1 ++ [a], K.2) := by
  subst hn
  exact rTk_pu h ht hv
/-- a value is thrown -/
def kTh (K : aK) (a : aV) : aK := if K.2.2.1.length = 0 then ([], [], [], 3, a) else kNx (K.1.take (K.2.2.1.getD (K.2.2.1.length - 1) (0, 0, 0)).2.2 ++ [a], K.2.1.take ((K.2.2.1.getD (K.2.2.1.length - 1) (0, 0, 0)).1 + 1), K.2.2.1.take (K.2.2.1.length - 1), K.2.2.2) (K.2.2.1.getD (K.2.2.1.length - 1) (0, 0, 0)).2.1
/-- tries as such: their calls are there, their heights are on the pile -/
def wTr (K : aK) : Prop := ∀ i : Nat, i < K.2.2.1.length → (K.2.2.1.getD i (0, 0, 0)).1 < K.2.1.length ∧ (K.2.2.1.getD i (0, 0, 0)).2.2 ≤ K.1.length
theorem cTk_rs (h : cTk w S K) (hw : w = 215 ∨ w = 226) (hr : rsQ w k v S Z) (hv : cVl S k v a) (hK : wTr K) (hl : K.1.length ≤ 2047) : cTk w Z (kTh K a) := by
  obtain ⟨-, -, ⟨c1, c2, c3, c4, c5⟩, -, -⟩ := id h
  unfold kTh
  rcases hr with ⟨hz, rfl⟩ | ⟨hz, ra⟩
  · rw [if_pos (by omega)]
    exact cTk_fi h hw hv
  · have hn : K.2.2.1.length ≠ 0 := by omega
    rw [if_neg hn]
    obtain ⟨y1, y2, y3⟩ := c5 (K.2.2.1.length - 1) (by omega)
    obtain ⟨x1, x2⟩ := hK (K.2.2.1.length - 1) (by omega)
    rw [show 3 * ((K.2.2.1.length - 1 : Nat) : Int) = S w 12 - 3 by omega] at y1 y2 y3
    rw [y1, y2, y3] at ra
    have hlf : (K.2.1.take ((K.2.2.1.getD (K.2.2.1.length - 1) (0, 0, 0)).1 + 1)).length = (K.2.2.1.getD (K.2.2.1.length - 1) (0, 0, 0)).1 + 1 := by rw [List.length_take]; omega
    have s1 : cTk w (w_up (w_up S w 12 (S w 12 - 3)) w 4 (((K.2.2.1.getD (K.2.2.1.length - 1) (0, 0, 0)).1 : Int) + 1)) (kCu K ((K.2.2.1.getD (K.2.2.1.length - 1) (0, 0, 0)).1 + 1) (K.2.2.1.length - 1)) := cTk_cu h hw (by omega) (by omega) (fun j x hj => (w_up_no (by omega)).trans (w_up_no (by omega))) (by rw [w_up_same]; omega) (by rw [w_up_at (by decide), w_up_same]; omega)
    have s2 := cTk_nx (q := (K.2.2.1.getD (K.2.2.1.length - 1) (0, 0, 0)).2.1) s1 hw (by show 0 < (K.2.1.take ((K.2.2.1.getD (K.2.2.1.length - 1) (0, 0, 0)).1 + 1)).length; omega)
    rw [show (((kCu K ((K.2.2.1.getD (K.2.2.1.length - 1) (0, 0, 0)).1 + 1) (K.2.2.1.length - 1)).2.1.length : Nat) : Int) - 1 = ((K.2.2.1.getD (K.2.2.1.length - 1) (0, 0, 0)).1 : Int) + 1 - 1 by (show (((K.2.1.take ((K.2.2.1.getD (K.2.2.1.length - 1) (0, 0, 0)).1 + 1)).length : Nat) : Int) - 1 = _; rw [hlf]; omega)] at s2
    have s3 := cTk_tk (m := (K.2.2.1.getD (K.2.2.1.length - 1) (0, 0, 0)).2.2) s2 hw (by exact x2)
    have e : ∀ (j : Nat) (x : Int), j < w → (w_up (w_up (w_up (w_up S w 12 (S w 12 - 3)) w 4 (((K.2.2.1.getD (K.2.2.1.length - 1) (0, 0, 0)).1 : Int) + 1)) (w + 5) (((K.2.2.1.getD (K.2.2.1.length - 1) (0, 0, 0)).1 : Int) + 1 - 1) (K.2.2.1.getD (K.2.2.1.length - 1) (0, 0, 0)).2.1) (w + 1) 2 ((K.2.2.1.getD (K.2.2.1.length - 1) (0, 0, 0)).2.2 : Int)) j x = S j x := fun j x hj => (w_up_slot (by omega)).trans ((w_up_slot (by omega)).trans ((w_up_slot (by omega)).trans (w_up_slot (by omega))))
    have s4 := cTk_pu s3 hw ra (cVl_mo hv (cTx_of (e 2 1 (by omega)) (fun x => e 3 x (by omega)))) (by show (K.1.take (K.2.2.1.getD (K.2.2.1.length - 1) (0, 0, 0)).2.2).length ≤ 2047; rw [List.length_take]; omega)
    exact s4
theorem rTk_ts (h : rTk t S K) (ht : 0 ≤ t ∧ t ≤ 1) (hr : tsQ t k v S Z) (hv : rVl S k v a) (hK : wTr K) : rTk t Z (kTh K a) := by
  obtain ⟨-, -, ⟨c1, c2, c3⟩, -, -⟩ := id h
  unfold kTh
  rcases hr with ⟨hz, rfl⟩ | ⟨hz, rfl⟩
  · rw [if_pos (by omega)]
    exact rTk_fi ht hv
  · have hn : K.2.2.1.length ≠ 0 := by omega
    rw [if_neg hn]
    obtain ⟨y2, y3, y1⟩ := c3 (K.2.2.1.length - 1) (by omega)
    obtain ⟨x1, x2⟩ := hK (K.2.2.1.length - 1) (by omega)
    rw [show 10000 * t + ((K.2.2.1.length - 1 : Nat) : Int) = 10000 * t + (S 360 t - 1) by omega] at y1 y2 y3
    rw [y1, y2, y3]
    have hlf : (K.2.1.take ((K.2.2.1.getD (K.2.2.1.length - 1) (0, 0, 0)).1 + 1)).length = (K.2.2.1.getD (K.2.2.1.length - 1) (0, 0, 0)).1 + 1 := by rw [List.length_take]; omega
    have s1 : rTk t (w_up (w_up S 360 t (S 360 t - 1)) 358 t (((K.2.2.1.getD (K.2.2.1.length - 1) (0, 0, 0)).1 : Int) + 1)) (kCu K ((K.2.2.1.getD (K.2.2.1.length - 1) (0, 0, 0)).1 + 1) (K.2.2.1.length - 1)) := rTk_cu h (by omega) (by omega) (fun j x h1 h2 => (w_up_no (by omega)).trans (w_up_no (by omega))) (by rw [w_up_same]; omega) (by rw [w_up_slot (by decide), w_up_same]; omega)
    have s2 := rTk_37 (x := 154) (y := 200 * t + ((K.2.2.1.getD (K.2.2.1.length - 1) (0, 0, 0)).1 : Int)) s1 (by decide) (by decide)
    have s3 := rTk_nx (q := (K.2.2.1.getD (K.2.2.1.length - 1) (0, 0, 0)).2.1) s2 (by show 0 < (K.2.1.take ((K.2.2.1.getD (K.2.2.1.length - 1) (0, 0, 0)).1 + 1)).length; omega)
    rw [show 200 * t + (((kCu K ((K.2.2.1.getD (K.2.2.1.length - 1) (0, 0, 0)).1 + 1) (K.2.2.1.length - 1)).2.1.length : Nat) : Int) - 1 = 200 * t + ((K.2.2.1.getD (K.2.2.1.length - 1) (0, 0, 0)).1 : Int) by (show 200 * t + (((K.2.1.take ((K.2.2.1.getD (K.2.2.1.length - 1) (0, 0, 0)).1 + 1)).length : Nat) : Int) - 1 = _; rw [hlf]; omega)] at s3
    have s4 := rTk_tk (m := (K.2.2.1.getD (K.2.2.1.length - 1) (0, 0, 0)).2.2) s3 (by exact x2)
    have hlp : (K.1.take (K.2.2.1.getD (K.2.2.1.length - 1) (0, 0, 0)).2.2).length = (K.2.2.1.getD (K.2.2.1.length - 1) (0, 0, 0)).2.2 := by rw [List.length_take]; omega
    have e : ∀ (j : Nat) (x : Int), j < 358 → (j ≠ 237 ∨ x ≠ 154) → (w_up (w_up (w_up (w_up (w_up S 360 t (S 360 t - 1)) 358 t (((K.2.2.1.getD (K.2.2.1.length - 1) (0, 0, 0)).1 : Int) + 1)) 237 154 (200 * t + ((K.2.2.1.getD (K.2.2.1.length - 1) (0, 0, 0)).1 : Int))) 366 (200 * t + ((K.2.2.1.getD (K.2.2.1.length - 1) (0, 0, 0)).1 : Int)) (K.2.2.1.getD (K.2.2.1.length - 1) (0, 0, 0)).2.1) 359 t ((K.2.2.1.getD (K.2.2.1.length - 1) (0, 0, 0)).2.2 : Int)) j x = S j x := fun j x hj h2 => (w_up_slot (by omega)).trans ((w_up_slot (by omega)).trans ((w_up_no (by omega)).trans ((w_up_slot (by omega)).trans (w_up_slot (by omega)))))
    exact rTk_pU s4 ht (by show ((K.2.2.1.getD (K.2.2.1.length - 1) (0, 0, 0)).2.2 : Int) = ((K.1.take (K.2.2.1.getD (K.2.2.1.length - 1) (0, 0, 0)).2.2).length : Int); rw [hlp]) (rVl_mo hv (rTx_of (e 237 19 (by decide) (by decide)) (e 237 102 (by decide) (by decide)) (fun j x j0 j1 => e j x (by omega) (by omega))))
end We3
