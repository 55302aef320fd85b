/-! PART eh: a turn of the reference, by tasks. -/
section Weh
variable {xs : List (Nat × List Int32)} {d : Nat} {S Z A T : wS} {K Kr : aK} {k v q t e : Int} {a : aV} {w m : Nat} {R P Rn Rt : wS → Prop} {PQ : wS → Int → Prop}
/-- what a step of a task of the reference leaves alone, if it changes its task alone -/
def rOut (t : Int) (j : Nat) (x : Int) : Prop := (j = 237 → x ≠ 110 ∧ x ≠ 111 ∧ x ≠ 113 ∧ x ≠ 122 ∧ x ≠ 124 ∧ x ≠ 126 ∧ x ≠ 128 ∧ x ≠ 130 ∧ (x < 154 ∨ 155 < x) ∧ (x < 166 ∨ 177 < x)) ∧ (j = 238 → x ≠ 5 ∧ x ≠ 6) ∧ j ≠ 345 ∧ (j < 352 ∨ 356 < j) ∧ j ≠ 386 ∧ (357 ≤ j → j ≤ 362 → x ≠ t) ∧ (j = 363 ∨ j = 364 → x < 2100 * t ∨ 2100 * t + 2100 ≤ x) ∧ (365 ≤ j → j ≤ 372 → x < 200 * t ∨ 200 * t + 200 ≤ x) ∧ (373 ≤ j → j ≤ 375 → x < 10000 * t ∨ 10000 * t + 10000 ≤ x)
def rTf (t : Int) (S Z : wS) : Prop := ∀ (j : Nat) (x : Int), rOut t j x → Z j x = S j x
theorem rTf_rfl : rTf t S S := fun _ _ _ => rfl
theorem rTf_tr (h : rTf t S A) (g : rTf t A Z) : rTf t S Z := fun j x o => (g j x o).trans (h j x o)
theorem rTf_up {j : Nat} {i x : Int} (h : rTf t S Z) (hn : ¬ rOut t j i) : rTf t S (w_up Z j i x) := fun y z o => (w_up_no (fun q => hn (by rw [← q.1, ← q.2]; exact o))).trans (h y z o)
theorem no_37 {x : Int} (h : x = 110 ∨ x = 111 ∨ x = 113 ∨ x = 122 ∨ x = 124 ∨ x = 126 ∨ x = 128 ∨ x = 130 ∨ (154 ≤ x ∧ x ≤ 155) ∨ (166 ≤ x ∧ x ≤ 177)) : ¬ rOut t 237 x := fun o => by have := o.1 rfl; omega
theorem no_38 {x : Int} (h : x = 5 ∨ x = 6) : ¬ rOut t 238 x := fun o => by have := o.2.1 rfl; omega
theorem no_t {j : Nat} (h : 357 ≤ j ∧ j ≤ 362) : ¬ rOut t j t := fun o => o.2.2.2.2.2.1 h.1 h.2 rfl
theorem no_p {j : Nat} {x : Int} (h : j = 363 ∨ j = 364) (hx : 2100 * t ≤ x ∧ x < 2100 * t + 2100) : ¬ rOut t j x := fun o => by have := o.2.2.2.2.2.2.1 h; omega
theorem no_f {j : Nat} {x : Int} (h : 365 ≤ j ∧ j ≤ 372) (hx : 200 * t ≤ x ∧ x < 200 * t + 200) : ¬ rOut t j x := fun o => by have := o.2.2.2.2.2.2.2.1 h.1 h.2; omega
theorem no_y {j : Nat} {x : Int} (h : 373 ≤ j ∧ j ≤ 375) (hx : 10000 * t ≤ x ∧ x < 10000 * t + 10000) : ¬ rOut t j x := fun o => by have := o.2.2.2.2.2.2.2.2 h.1 h.2; omega
theorem ou_l {j : Nat} {x : Int} (h : j < 237 ∨ (238 < j ∧ j < 345) ∨ (345 < j ∧ j < 352) ∨ (375 < j ∧ j ≠ 386)) : rOut t j x := ⟨fun q => by omega, fun q => by omega, by omega, by omega, by omega, fun q _ => by omega, fun q => by omega, fun q _ => by omega, fun q _ => by omega⟩
theorem ou_37 {x : Int} (h : (x < 110 ∨ (113 < x ∧ x < 122) ∨ (130 < x ∧ x < 154) ∨ 177 < x) ∨ x = 112 ∨ x = 123 ∨ x = 125 ∨ x = 127 ∨ x = 129) : rOut t 237 x := ⟨fun _ => by omega, fun q => by omega, by decide, by decide, by decide, fun q _ => by omega, fun q => by omega, fun q _ => by omega, fun q _ => by omega⟩
/-- a pushed value -/
theorem rTf_pU {n : Int} (h : rTf t S Z) (hn : 0 ≤ n ∧ n < 2100) : rTf t S (pUZ t n k v Z) := rTf_up (rTf_up (rTf_up h (no_p (Or.inl rfl) (by omega))) (no_p (Or.inr rfl) (by omega))) (no_t (by first | decide | omega))
theorem rTf_pX {n : Int} (h : rTf t S Z) (hn : 2 ≤ n ∧ n < 2100) : rTf t S (pXZ t n k v Z) := rTf_up (rTf_up (rTf_up (rTf_up (rTf_up h (no_37 (by first | decide | omega))) (no_37 (by first | decide | omega))) (no_t (by first | decide | omega))) (no_p (Or.inl rfl) (by omega))) (no_p (Or.inr rfl) (by omega))
theorem rTf_fi {how : Int} (h : rTf t S Z) : rTf t S (fiZ t how k v Z) := rTf_up (rTf_up (rTf_up (rTf_up (rTf_up (rTf_up h (no_t (by first | decide | omega))) (no_t (by first | decide | omega))) (no_t (by first | decide | omega))) (no_t (by first | decide | omega))) (no_t (by first | decide | omega))) (no_t (by first | decide | omega))
theorem rTf_ts (h : rTf t S T) (hR : mR t T) (r : tsQ t k v T Z) : rTf t S Z := by
  obtain ⟨-, -, -, -, hz, hT⟩ := hR
  rcases r with ⟨-, rfl⟩ | ⟨h0, rfl⟩
  · exact rTf_fi h
  · have := hT h0
    exact rTf_pU (rTf_up (rTf_up (rTf_up (rTf_up (rTf_up h (no_t (by first | decide | omega))) (no_t (by first | decide | omega))) (no_37 (by first | decide | omega))) (no_f (by first | decide | omega) (by omega))) (no_t (by first | decide | omega))) (by omega)
/-- what a turn of the reference wants of its task -/
def stR (t : Int) (S : wS) (K : aK) : Prop := rTk t S K ∧ w_ML S ∧ (0 ≤ t ∧ t ≤ 1) ∧ (S 237 151 = t ∧ S 237 152 = 2100 * t ∧ S 237 153 = 200 * t) ∧ (0 < K.2.1.length ∧ K.2.1.length ≤ 200 ∧ K.1.length ≤ 2001 ∧ wTr K) ∧ (0 ≤ (K.2.1.getD (K.2.1.length - 1) (0, 0, 0, (0, 0, []), 0, 0, 0)).1 ∧ (K.2.1.getD (K.2.1.length - 1) (0, 0, 0, (0, 0, []), 0, 0, 0)).1 < 400 ∧ 0 ≤ (K.2.1.getD (K.2.1.length - 1) (0, 0, 0, (0, 0, []), 0, 0, 0)).2.1 ∧ (K.2.1.getD (K.2.1.length - 1) (0, 0, 0, (0, 0, []), 0, 0, 0)).2.1 ≤ 20000) ∧ 0 ≤ S 297 (K.2.1.getD (K.2.1.length - 1) (0, 0, 0, (0, 0, []), 0, 0, 0)).1 ∧ S 297 (K.2.1.getD (K.2.1.length - 1) (0, 0, 0, (0, 0, []), 0, 0, 0)).1 + (K.2.1.getD (K.2.1.length - 1) (0, 0, 0, (0, 0, []), 0, 0, 0)).2.1 < 20000
theorem sr_row (h : rTk t S K) (h0 : 0 < K.2.1.length) : S 365 (200 * t + (K.2.1.length : Int) - 1) = (K.2.1.getD (K.2.1.length - 1) (0, 0, 0, (0, 0, []), 0, 0, 0)).1 ∧ S 366 (200 * t + (K.2.1.length : Int) - 1) = (K.2.1.getD (K.2.1.length - 1) (0, 0, 0, (0, 0, []), 0, 0, 0)).2.1 ∧ S 367 (200 * t + (K.2.1.length : Int) - 1) = (K.2.1.getD (K.2.1.length - 1) (0, 0, 0, (0, 0, []), 0, 0, 0)).2.2.1 := by
  have := (h.2.1.2 (K.2.1.length - 1) (by omega)).1
  rw [show 200 * t + ((K.2.1.length - 1 : Nat) : Int) = (200 * t + (K.2.1.length : Int) - 1) by omega] at this
  exact this
theorem mP_of (h : stR t S K) : mP t (K.2.1.length : Int) (K.2.1.getD (K.2.1.length - 1) (0, 0, 0, (0, 0, []), 0, 0, 0)).2.1 (K.1.length : Int) (200 * t + (K.2.1.length : Int) - 1) (w_up (w_up S 237 154 (200 * t + (K.2.1.length : Int) - 1)) 237 155 ((K.2.1.getD (K.2.1.length - 1) (0, 0, 0, (0, 0, []), 0, 0, 0)).2.1 + 1)) := by
  obtain ⟨h1, h2, h3, ⟨h4, h5, h6⟩, ⟨h7, h8, h9, -⟩, ⟨-, -, h10, h11⟩, -⟩ := h
  have es : ∀ (j : Nat) (x : Int), (j ≠ 237 ∨ (x ≠ 154 ∧ x ≠ 155)) → (w_up (w_up S 237 154 (200 * t + (K.2.1.length : Int) - 1)) 237 155 ((K.2.1.getD (K.2.1.length - 1) (0, 0, 0, (0, 0, []), 0, 0, 0)).2.1 + 1)) j x = S j x := fun j x hj => (w_up_no (by omega)).trans (w_up_no (by omega))
  exact ⟨w_ML_up (w_ML_up h2 (by first | decide | omega)) (by first | decide | omega), ⟨(es 237 151 (by first | decide | omega)).trans h4, h3⟩, (es 237 152 (by first | decide | omega)).trans h5, (es 237 153 (by first | decide | omega)).trans h6, ⟨(es 358 t (by omega)).trans h1.2.1.1, by omega, by omega⟩, ⟨(w_up_at (by first | decide | omega)).trans (w_up_same _ _ _ _), rfl⟩, ⟨w_up_same _ _ _ _, h10, h11⟩, (es 359 t (by omega)).trans h1.1.1, by omega, by omega⟩
theorem T0_k (h : rTk t S K) {x y : Int} : rTk t (w_up (w_up S 237 154 x) 237 155 y) K := rTk_37 (rTk_37 h (by first | decide | omega) (by first | decide | omega)) (by first | decide | omega) (by first | decide | omega)
theorem T0_f {x y : Int} : rTf t S (w_up (w_up S 237 154 x) 237 155 y) := rTf_up (rTf_up rTf_rfl (no_37 (by first | decide | omega))) (no_37 (by first | decide | omega))
/-- a turn of the reference comes to what PQ says of state and steps done -/
def rTurn (xs : List (Nat × List Int32)) (d : Nat) (t : Int) (S : wS) (PQ : wS → Int → Prop) : Prop := ∀ (M : Nat → Prop) (Q : wO → wS → Prop) (n k x1 : Int), (k < n ∧ n ≤ 1000 ∧ 0 ≤ k) → (-2147483648 ≤ x1 ∧ x1 ≤ 2147483647) → (∀ (Z2 : wS) (dn : Int), PQ Z2 dn → (dn = 0 ∨ dn = 1) → w_ML Z2 → wJ (pe_GA xs) wY0 M (d + 13) t_M_steps ((pe_at t_M_steps.bl 4).getD (0, [])).2 [(0, (2, 237)), (1, (0, x1)), (2, (0, n)), (3, (0, k + dn))] [] Z2 Q) → wJ (pe_GA xs) wY0 M (d + 13) t_M_steps ((pe_at t_M_steps.bl 4).getD (0, [])).2 [(0, (2, 237)), (1, (0, x1)), (2, (0, n)), (3, (0, k))] [] S Q
set_option maxRecDepth 100000 in
theorem ML_t : ∀ q ∈ wy_n, wY0.ty q.1 < 100 ∧ q.1 < 388 := by decide +kernel
theorem ML_len {S Z : wS} (hM : w_ML S) (hl : ∀ j : Nat, w_pr wY0 S j → wY0.ty j < 100 → ¬ (fun (_ : Nat) => False) j → Z j (-1) = S j (-1)) : w_ML Z := fun q hq => (hl q.1 ⟨Or.inl (ML_t q hq).2, by have := (ML_t q hq).2; unfold wG; omega⟩ (ML_t q hq).1 (fun z => z)).trans (hM q hq)
theorem ms_mlR (hRt : ∀ Z : wS, Rt Z → w_ML Z ∧ Z 237 151 = t ∧ (Z 238 5 ≠ 99 → mR t Z)) {dn : Int} {Z2 : wS} (h : msR t (fun Z => Rn Z ∧ w_ML Z) (fun Z => Rt Z ∧ w_ML Z) dn Z2) (ht : 0 ≤ t) : msR t Rn Rt dn Z2 ∧ w_ML Z2 := by
  rcases h with ⟨h1, h2, h3⟩ | ⟨Z, ⟨h1, h2⟩, h3, h4, h5⟩ | ⟨Z, ⟨h1, h2⟩, h3, h4, h5⟩
  · exact ⟨Or.inl ⟨h1, h2⟩, h3⟩
  · refine ⟨Or.inr (Or.inl ⟨Z, h1, h3, h4, h5⟩), ?_⟩
    rw [← h5]
    exact w_ML_up h2 ht
  · refine ⟨Or.inr (Or.inr ⟨Z, h1, h3, h4, h5⟩), ?_⟩
    obtain ⟨-, -, -, -, -, hm⟩ := (hRt Z h1).2.2 h3
    rcases h5 with ⟨c, e⟩ | ⟨c, e⟩
    · rw [← e]
      unfold fiZ
      exact w_ML_up (w_ML_up (w_ML_up (w_ML_up (w_ML_up (w_ML_up h2 ht) ht) ht) ht) ht) ht
    · obtain ⟨q1, q2⟩ := hm c
      rw [← e]
      unfold thZ pUZ
      exact w_ML_up (w_ML_up (w_ML_up (w_ML_up (w_ML_up (w_ML_up (w_ML_up (w_ML_up h2 ht) ht) (by first | decide | omega)) (by omega)) ht) (by omega)) (by omega)) ht
theorem rt_g (h : stR t S K) (hs : S 357 t = 1) (hdo : wJ (pe_GA xs) wY0 (fun _ => False) (d + 12) t_M_does ((pe_at t_M_does.bl 0).getD (0, [])).2 [(0, (2, 237))] [] (w_up (w_up S 237 154 (200 * t + (K.2.1.length : Int) - 1)) 237 155 ((K.2.1.getD (K.2.1.length - 1) (0, 0, 0, (0, 0, []), 0, 0, 0)).2.1 + 1)) (fun o Z => (o = .inl none ∧ Rn Z) ∨ (o = .inr 238 ∧ Rt Z))) (hRt : ∀ Z : wS, Rt Z → w_ML Z ∧ Z 237 151 = t ∧ (Z 238 5 ≠ 99 → mR t Z)) (hP : ∀ (Z2 : wS) (dn : Int), msR t Rn Rt dn Z2 → PQ Z2 dn) : rTurn xs d t S PQ := by
  intro M Q n k x1 hk hx hc
  obtain ⟨h1, h2, h3, ⟨h4, h5, h6⟩, ⟨h7, h8, h9, -⟩, ⟨-, -, h10, h11⟩, -⟩ := id h
  have hdo2 := wJ_mono (wJ_len hdo) (Q2 := fun o Z => (o = .inl none ∧ (Rn Z ∧ w_ML Z)) ∨ (o = .inr 238 ∧ (Rt Z ∧ w_ML Z))) (fun o Z hz => by
    have hml : w_ML Z := ML_len (w_ML_up (w_ML_up h2 (by first | decide | omega)) (by first | decide | omega)) hz.2
    exact hz.1.imp (fun z => ⟨z.1, z.2, hml⟩) (fun z => ⟨z.1, z.2, hml⟩))
  exact ms_b h2 ⟨h4, h3⟩ h6 hs h1.2.1.1 ⟨by omega, by omega⟩ (sr_row h1 h7).2.1 ⟨h10, h11⟩ ⟨hk.1, hk.2.1, hk.2.2⟩ hx hdo2 (fun Z hz => hRt Z hz.1) (fun Z2 dn hz hd => hc Z2 dn (hP Z2 dn (ms_mlR hRt hz h3.1).1) hd (ms_mlR hRt hz h3.1).2)
theorem mR_of (hK : rTk t Z K) (hM : w_ML Z) (ht : 0 ≤ t ∧ t ≤ 1) (h1 : Z 237 151 = t ∧ Z 237 152 = 2100 * t ∧ Z 237 153 = 200 * t) (hw : wTr K) (hf : K.2.1.length ≤ 200 ∧ K.1.length ≤ 2001) : mR t Z := by
  obtain ⟨-, -, ⟨c1, c2, c3⟩, -, -⟩ := hK
  refine ⟨hM, ⟨h1.1, ht⟩, h1.2.1, h1.2.2, ⟨by omega, by omega⟩, fun hz => ?_⟩
  obtain ⟨y2, y3, y1⟩ := c3 (K.2.2.1.length - 1) (by omega)
  obtain ⟨x1, x2⟩ := hw (K.2.2.1.length - 1) (by omega)
  rw [show 10000 * t + ((K.2.2.1.length - 1 : Nat) : Int) = 10000 * t + (Z 360 t - 1) by omega] at y1 y2 y3
  rw [y1, y3]
  omega
/-- a task is stopped -/
def kSt (K : aK) : aK := (K.1, K.2.1, K.2.2.1, 4, K.2.2.2.2)
theorem cTk_st (h : cTk w S K) (hw : w = 215 ∨ w = 226) : cTk w (w_up S w 13 4) (kSt K) := by
  obtain ⟨⟨p1, p2, p3, p4, p5, p6⟩, ⟨b1, b2, b3⟩, ⟨c1, c2, c3, c4, c5⟩, d1, d2⟩ := h
  have es : ∀ (j : Nat) (x : Int), (j ≠ w ∨ x ≠ 13) → (w_up S w 13 4) j x = S j x := fun j x hj => w_up_no (by omega)
  have e : cTx S (w_up S w 13 4) := cTx_of (es 2 1 (by omega)) (fun x => es 3 x (by omega))
  refine ⟨⟨(es (w + 1) 2 (by omega)).trans p1, cR1_mo p2 e (fun i _ _ => ⟨es (w + 2) i (by omega), es (w + 3) i (by omega)⟩), by rw [es (w + 2) _ (by omega)]; exact p3, by rw [es (w + 2) _ (by omega), es (w + 3) _ (by omega)]; exact p4, by rw [es (w + 2) _ (by omega)]; exact p5, by rw [es (w + 2) _ (by omega)]; exact p6⟩, ⟨(es w 4 (by omega)).trans b1, b2, fun i hi => ?_⟩, ⟨(es w 12 (by omega)).trans c1, by rw [es (w + 10) _ (by omega)]; exact c2, by rw [es (w + 10) _ (by omega)]; exact c3, by rw [es (w + 10) _ (by omega)]; exact c4, fun i hi => by rw [es (w + 10) _ (by omega), es (w + 10) _ (by omega), es (w + 10) _ (by omega)]; exact c5 i hi⟩, w_up_same _ _ _ _, fun z => ?_⟩
  · rw [es (w + 4) _ (by omega), es (w + 5) _ (by omega), es (w + 6) _ (by omega), es (w + 7) _ (by omega), es (w + 8) _ (by omega), es (w + 9) _ (by omega)]
    obtain ⟨g1, g2, g3⟩ := b3 i hi
    exact ⟨g1, cVl_mo g2 e, g3⟩
  · rcases z with z | z
    · exact absurd (show (4 : Int) = 2 from z) (by first | decide | omega)
    · exact absurd (show (4 : Int) = 3 from z) (by first | decide | omega)
theorem rTk_st (h : rTk t S K) : rTk t (w_up S 357 t 4) (kSt K) := by
  obtain ⟨⟨p1, p2⟩, ⟨b1, b3⟩, ⟨c1, c2, c3⟩, d1, d2⟩ := h
  have es : ∀ (j : Nat) (x : Int), j ≠ 357 → (w_up S 357 t 4) j x = S j x := fun j x hj => w_up_slot hj
  have e : rTx S (w_up S 357 t 4) := rTx_of (es 237 19 (by first | decide | omega)) (es 237 102 (by first | decide | omega)) (fun j x j0 j1 => es j x (by omega))
  refine ⟨⟨(es 359 t (by first | decide | omega)).trans p1, rR1_mo p2 e (fun i _ _ => ⟨es 363 i (by first | decide | omega), es 364 i (by first | decide | omega)⟩)⟩, ⟨(es 358 t (by first | decide | omega)).trans b1, fun i hi => ?_⟩, ⟨(es 360 t (by first | decide | omega)).trans c1, c2, fun i hi => by rw [es 373 _ (by first | decide | omega), es 374 _ (by first | decide | omega), es 375 _ (by first | decide | omega)]; exact c3 i hi⟩, w_up_same _ _ _ _, fun z => ?_⟩
  · rw [es 365 _ (by first | decide | omega), es 366 _ (by first | decide | omega), es 367 _ (by first | decide | omega), es 368 _ (by first | decide | omega), es 369 _ (by first | decide | omega), es 370 _ (by first | decide | omega), es 371 _ (by first | decide | omega), es 372 _ (by first | decide | omega)]
    obtain ⟨g1, g2, g3⟩ := b3 i hi
    exact ⟨g1, rVl_mo g2 e, g3⟩
  · rcases z with z | z
    · exact absurd (show (4 : Int) = 2 from z) (by first | decide | omega)
    · exact absurd (show (4 : Int) = 3 from z) (by first | decide | omega)
/-- a field of the halt -/
theorem rTk_38 {x y : Int} (h : rTk t S K) : rTk t (w_up S 238 x y) K := by
  have es : ∀ (j : Nat) (i : Int), j ≠ 238 → (w_up S 238 x y) j i = S j i := fun j i hj => w_up_slot hj
  exact rTk_ag h (rTx_of (es 237 19 (by first | decide | omega)) (es 237 102 (by first | decide | omega)) (fun j i j0 j1 => es j i (by omega))) ⟨fun j hj => es j t (by omega), fun j i j0 j1 _ _ => es j i (by omega), fun j i j0 j1 _ _ => es j i (by omega)⟩ (es 359 t (by first | decide | omega)) (fun i _ _ => ⟨es 363 i (by first | decide | omega), es 364 i (by first | decide | omega)⟩)
/-- a turn that ends with an ERROR, or without memory, T being what lies when it is thrown -/
theorem rt_e (h : stR t S K) (hs : S 357 t = 1) (hdo : wJ (pe_GA xs) wY0 (fun _ => False) (d + 12) t_M_does ((pe_at t_M_does.bl 0).getD (0, [])).2 [(0, (2, 237))] [] (w_up (w_up S 237 154 (200 * t + (K.2.1.length : Int) - 1)) 237 155 ((K.2.1.getD (K.2.1.length - 1) (0, 0, 0, (0, 0, []), 0, 0, 0)).2.1 + 1)) (fun o Z => o = .inr 238 ∧ hZ e (w_up (w_up S 237 154 (200 * t + (K.2.1.length : Int) - 1)) 237 155 ((K.2.1.getD (K.2.1.length - 1) (0, 0, 0, (0, 0, []), 0, 0, 0)).2.1 + 1)) = Z)) (he : 1 ≤ e ∧ e ≤ 12) : rTurn xs d t S (fun Z dn => dn = 1 ∧ rTk t Z (kTh K (2, e, [])) ∧ rTf t S Z) := by
  obtain ⟨h1, h2, h3, ⟨h4, h5, h6⟩, ⟨h7, h8, h9, h9b⟩, -⟩ := id h
  have hk : rTk t (hZ e (w_up (w_up S 237 154 (200 * t + (K.2.1.length : Int) - 1)) 237 155 ((K.2.1.getD (K.2.1.length - 1) (0, 0, 0, (0, 0, []), 0, 0, 0)).2.1 + 1))) K := rTk_38 (rTk_38 (T0_k h1))
  have hf : rTf t S (hZ e (w_up (w_up S 237 154 (200 * t + (K.2.1.length : Int) - 1)) 237 155 ((K.2.1.getD (K.2.1.length - 1) (0, 0, 0, (0, 0, []), 0, 0, 0)).2.1 + 1))) := rTf_up (rTf_up T0_f (no_38 (by first | decide | omega))) (no_38 (by first | decide | omega))
  have hM : w_ML (hZ e (w_up (w_up S 237 154 (200 * t + (K.2.1.length : Int) - 1)) 237 155 ((K.2.1.getD (K.2.1.length - 1) (0, 0, 0, (0, 0, []), 0, 0, 0)).2.1 + 1))) := w_ML_up (w_ML_up (w_ML_up (w_ML_up h2 (by first | decide | omega)) (by first | decide | omega)) (by first | decide | omega)) (by first | decide | omega)
  have e5 : (hZ e (w_up (w_up S 237 154 (200 * t + (K.2.1.length : Int) - 1)) 237 155 ((K.2.1.getD (K.2.1.length - 1) (0, 0, 0, (0, 0, []), 0, 0, 0)).2.1 + 1))) 238 5 = e := (w_up_at (by first | decide | omega)).trans (w_up_same _ _ _ _)
  have hR : mR t (hZ e (w_up (w_up S 237 154 (200 * t + (K.2.1.length : Int) - 1)) 237 155 ((K.2.1.getD (K.2.1.length - 1) (0, 0, 0, (0, 0, []), 0, 0, 0)).2.1 + 1))) := mR_of hk hM h3 ⟨(hf 237 151 (ou_37 (by first | decide | omega))).trans h4, (hf 237 152 (ou_37 (by first | decide | omega))).trans h5, (hf 237 153 (ou_37 (by first | decide | omega))).trans h6⟩ h9b ⟨h8, h9⟩
  refine rt_g (Rn := fun _ => False) (Rt := fun Z => hZ e (w_up (w_up S 237 154 (200 * t + (K.2.1.length : Int) - 1)) 237 155 ((K.2.1.getD (K.2.1.length - 1) (0, 0, 0, (0, 0, []), 0, 0, 0)).2.1 + 1)) = Z) h hs (wJ_mono hdo (fun o Z hz => Or.inr hz)) (fun Z hz => by subst hz; exact ⟨hM, (hf 237 151 (ou_37 (by first | decide | omega))).trans h4, fun _ => hR⟩) (fun Z2 dn hz => ?_)
  rcases hz with ⟨-, hz⟩ | ⟨Z, rfl, q, -, -⟩ | ⟨Z, rfl, q, rfl, hr⟩
  · exact hz.elim
  · omega
  · rw [e5] at hr
    exact ⟨rfl, rTk_ts hk h3 hr ⟨rfl, fun _ => ⟨rfl, rfl⟩, fun q => absurd (show (2 : Int) = 3 from q) (by first | decide | omega)⟩ h9b, rTf_ts hf hR hr⟩
theorem rt_m (h : stR t S K) (hs : S 357 t = 1) (hdo : wJ (pe_GA xs) wY0 (fun _ => False) (d + 12) t_M_does ((pe_at t_M_does.bl 0).getD (0, [])).2 [(0, (2, 237))] [] (w_up (w_up S 237 154 (200 * t + (K.2.1.length : Int) - 1)) 237 155 ((K.2.1.getD (K.2.1.length - 1) (0, 0, 0, (0, 0, []), 0, 0, 0)).2.1 + 1)) (fun o Z => o = .inr 238 ∧ hZ 99 (w_up (w_up S 237 154 (200 * t + (K.2.1.length : Int) - 1)) 237 155 ((K.2.1.getD (K.2.1.length - 1) (0, 0, 0, (0, 0, []), 0, 0, 0)).2.1 + 1)) = Z)) : rTurn xs d t S (fun Z dn => dn = 0 ∧ rTk t Z (kSt K) ∧ rTf t S Z) := by
  obtain ⟨h1, h2, h3, ⟨h4, h5, h6⟩, ⟨h7, h8, h9, h9b⟩, -⟩ := id h
  have hk : rTk t (hZ 99 (w_up (w_up S 237 154 (200 * t + (K.2.1.length : Int) - 1)) 237 155 ((K.2.1.getD (K.2.1.length - 1) (0, 0, 0, (0, 0, []), 0, 0, 0)).2.1 + 1))) K := rTk_38 (rTk_38 (T0_k h1))
  have hf : rTf t S (hZ 99 (w_up (w_up S 237 154 (200 * t + (K.2.1.length : Int) - 1)) 237 155 ((K.2.1.getD (K.2.1.length - 1) (0, 0, 0, (0, 0, []), 0, 0, 0)).2.1 + 1))) := rTf_up (rTf_up T0_f (no_38 (by first | decide | omega))) (no_38 (by first | decide | omega))
  have hM : w_ML (hZ 99 (w_up (w_up S 237 154 (200 * t + (K.2.1.length : Int) - 1)) 237 155 ((K.2.1.getD (K.2.1.length - 1) (0, 0, 0, (0, 0, []), 0, 0, 0)).2.1 + 1))) := w_ML_up (w_ML_up (w_ML_up (w_ML_up h2 (by first | decide | omega)) (by first | decide | omega)) (by first | decide | omega)) (by first | decide | omega)
  have e5 : (hZ 99 (w_up (w_up S 237 154 (200 * t + (K.2.1.length : Int) - 1)) 237 155 ((K.2.1.getD (K.2.1.length - 1) (0, 0, 0, (0, 0, []), 0, 0, 0)).2.1 + 1))) 238 5 = 99 := (w_up_at (by first | decide | omega)).trans (w_up_same _ _ _ _)
  refine rt_g (Rn := fun _ => False) (Rt := fun Z => hZ 99 (w_up (w_up S 237 154 (200 * t + (K.2.1.length : Int) - 1)) 237 155 ((K.2.1.getD (K.2.1.length - 1) (0, 0, 0, (0, 0, []), 0, 0, 0)).2.1 + 1)) = Z) h hs (wJ_mono hdo (fun o Z hz => Or.inr hz)) (fun Z hz => by subst hz; exact ⟨hM, (hf 237 151 (ou_37 (by first | decide | omega))).trans h4, fun q => absurd e5 q⟩) (fun Z2 dn hz => ?_)
  rcases hz with ⟨-, hz⟩ | ⟨Z, rfl, q, rfl, rfl⟩ | ⟨Z, rfl, q, -, -⟩
  · exact hz.elim
  · exact ⟨rfl, rTk_st hk, rTf_up hf (no_t (by first | decide | omega))⟩
  · exact absurd e5 q
/-- a turn that goes well -/
theorem rt_n (h : stR t S K) (hs : S 357 t = 1) (hdo : wJ (pe_GA xs) wY0 (fun _ => False) (d + 12) t_M_does ((pe_at t_M_does.bl 0).getD (0, [])).2 [(0, (2, 237))] [] (w_up (w_up S 237 154 (200 * t + (K.2.1.length : Int) - 1)) 237 155 ((K.2.1.getD (K.2.1.length - 1) (0, 0, 0, (0, 0, []), 0, 0, 0)).2.1 + 1)) (fun o Z => o = .inl none ∧ P Z)) : rTurn xs d t S (fun Z dn => dn = 1 ∧ P Z) := by
  refine rt_g (Rn := P) (Rt := fun _ => False) h hs (wJ_mono hdo (fun o Z hz => Or.inl hz)) (fun Z hz => hz.elim) (fun Z2 dn hz => ?_)
  rcases hz with hz | ⟨Z, hz, -⟩ | ⟨Z, hz, -⟩
  · exact hz
  · exact hz.elim
  · exact hz.elim
/-- an instruction of the reference that goes well -/
theorem rg_v {a b oq : Int} (h : stR t S K) (hs : S 357 t = 1) (ho : S 301 (S 297 (K.2.1.getD (K.2.1.length - 1) (0, 0, 0, (0, 0, []), 0, 0, 0)).1 + (K.2.1.getD (K.2.1.length - 1) (0, 0, 0, (0, 0, []), 0, 0, 0)).2.1) = oq) (ha : S 302 (S 297 (K.2.1.getD (K.2.1.length - 1) (0, 0, 0, (0, 0, []), 0, 0, 0)).1 + (K.2.1.getD (K.2.1.length - 1) (0, 0, 0, (0, 0, []), 0, 0, 0)).2.1) = a) (hb : S 303 (S 297 (K.2.1.getD (K.2.1.length - 1) (0, 0, 0, (0, 0, []), 0, 0, 0)).1 + (K.2.1.getD (K.2.1.length - 1) (0, 0, 0, (0, 0, []), 0, 0, 0)).2.1) = b) (ho1 : 0 ≤ oq ∧ oq ≤ 4) (hcal : wJ (pe_GA xs) wY0 (fun _ => False) (d + 11) t_M_variables ((pe_at t_M_variables.bl 0).getD (0, [])).2 [(0, (2, 237)), (1, (0, oq)), (2, (0, a)), (3, (0, b))] [] (w_up (w_up S 237 154 (200 * t + (K.2.1.length : Int) - 1)) 237 155 ((K.2.1.getD (K.2.1.length - 1) (0, 0, 0, (0, 0, []), 0, 0, 0)).2.1 + 1)) (fun o Z => o = .inl none ∧ R Z)) (hR : ∀ Z : wS, R Z → (w_ML Z ∧ Z 237 154 = (200 * t + (K.2.1.length : Int) - 1)) ∧ P (w_up Z 366 (200 * t + (K.2.1.length : Int) - 1) (Z 237 155))) : rTurn xs d t S (fun Z dn => dn = 1 ∧ P Z) := by
  obtain ⟨h1, h2, h3, ⟨h4, h5, h6⟩, ⟨h7, h8, h9, h9b⟩, ⟨g0, g1, g2, g3⟩, e0, e1⟩ := id h
  obtain ⟨r1, r2, r3⟩ := sr_row h1 h7
  have es : ∀ (j : Nat) (x : Int), (j ≠ 237 ∨ (x ≠ 154 ∧ x ≠ 155)) → (w_up (w_up S 237 154 (200 * t + (K.2.1.length : Int) - 1)) 237 155 ((K.2.1.getD (K.2.1.length - 1) (0, 0, 0, (0, 0, []), 0, 0, 0)).2.1 + 1)) j x = S j x := fun j x hj => (w_up_no (by omega)).trans (w_up_no (by omega))
  refine rt_n h hs (wJ_mono (dv_d (Rn := R) (Rt := fun _ => False) (mP_of h) ((es 365 _ (Or.inl (by first | decide | omega))).trans r1) ⟨g0, g1⟩ ((es 366 _ (Or.inl (by first | decide | omega))).trans r2) (es 297 _ (Or.inl (by first | decide | omega))) ⟨e0, e1⟩ ((es 301 _ (Or.inl (by first | decide | omega))).trans ho) ((es 302 _ (Or.inl (by first | decide | omega))).trans ha) ((es 303 _ (Or.inl (by first | decide | omega))).trans hb) ho1 (wJ_mono hcal (fun o Z hz => Or.inl hz)) (fun Z hz => (hR Z hz).1)) (fun o Z hz => ?_))
  rcases hz with ⟨rfl, Z1, hz, rfl⟩ | ⟨-, hz⟩
  · exact ⟨rfl, (hR Z1 hz).2⟩
  · exact hz.elim
theorem rx_v {a b oq : Int} (h : stR t S K) (hs : S 357 t = 1) (ho : S 301 (S 297 (K.2.1.getD (K.2.1.length - 1) (0, 0, 0, (0, 0, []), 0, 0, 0)).1 + (K.2.1.getD (K.2.1.length - 1) (0, 0, 0, (0, 0, []), 0, 0, 0)).2.1) = oq) (ha : S 302 (S 297 (K.2.1.getD (K.2.1.length - 1) (0, 0, 0, (0, 0, []), 0, 0, 0)).1 + (K.2.1.getD (K.2.1.length - 1) (0, 0, 0, (0, 0, []), 0, 0, 0)).2.1) = a) (hb : S 303 (S 297 (K.2.1.getD (K.2.1.length - 1) (0, 0, 0, (0, 0, []), 0, 0, 0)).1 + (K.2.1.getD (K.2.1.length - 1) (0, 0, 0, (0, 0, []), 0, 0, 0)).2.1) = b) (ho1 : 0 ≤ oq ∧ oq ≤ 4) (he : 1 ≤ e ∧ e ≤ 12) (hcal : wJ (pe_GA xs) wY0 (fun _ => False) (d + 11) t_M_variables ((pe_at t_M_variables.bl 0).getD (0, [])).2 [(0, (2, 237)), (1, (0, oq)), (2, (0, a)), (3, (0, b))] [] (w_up (w_up S 237 154 (200 * t + (K.2.1.length : Int) - 1)) 237 155 ((K.2.1.getD (K.2.1.length - 1) (0, 0, 0, (0, 0, []), 0, 0, 0)).2.1 + 1)) (fun o Z => o = .inr 238 ∧ hZ e (w_up (w_up S 237 154 (200 * t + (K.2.1.length : Int) - 1)) 237 155 ((K.2.1.getD (K.2.1.length - 1) (0, 0, 0, (0, 0, []), 0, 0, 0)).2.1 + 1)) = Z)) : rTurn xs d t S (fun Z dn => dn = 1 ∧ rTk t Z (kTh K (2, e, [])) ∧ rTf t S Z) := by
  obtain ⟨h1, h2, h3, ⟨h4, h5, h6⟩, ⟨h7, h8, h9, h9b⟩, ⟨g0, g1, g2, g3⟩, e0, e1⟩ := id h
  obtain ⟨r1, r2, r3⟩ := sr_row h1 h7
  have es : ∀ (j : Nat) (x : Int), (j ≠ 237 ∨ (x ≠ 154 ∧ x ≠ 155)) → (w_up (w_up S 237 154 (200 * t + (K.2.1.length : Int) - 1)) 237 155 ((K.2.1.getD (K.2.1.length - 1) (0, 0, 0, (0, 0, []), 0, 0, 0)).2.1 + 1)) j x = S j x := fun j x hj => (w_up_no (by omega)).trans (w_up_no (by omega))
  refine rt_e h hs (wJ_mono (dv_d (Rn := fun _ => False) (Rt := fun Z => hZ e (w_up (w_up S 237 154 (200 * t + (K.2.1.length : Int) - 1)) 237 155 ((K.2.1.getD (K.2.1.length - 1) (0, 0, 0, (0, 0, []), 0, 0, 0)).2.1 + 1)) = Z) (mP_of h) ((es 365 _ (Or.inl (by first | decide | omega))).trans r1) ⟨g0, g1⟩ ((es 366 _ (Or.inl (by first | decide | omega))).trans r2) (es 297 _ (Or.inl (by first | decide | omega))) ⟨e0, e1⟩ ((es 301 _ (Or.inl (by first | decide | omega))).trans ho) ((es 302 _ (Or.inl (by first | decide | omega))).trans ha) ((es 303 _ (Or.inl (by first | decide | omega))).trans hb) ho1 (wJ_mono hcal (fun o Z hz => Or.inr hz)) (fun Z hz => hz.elim)) (fun o Z hz => ?_)) he
  rcases hz with ⟨rfl, Z1, hz, rfl⟩ | hz
  · exact hz.elim
  · exact hz
theorem rm_v {a b oq : Int} (h : stR t S K) (hs : S 357 t = 1) (ho : S 301 (S 297 (K.2.1.getD (K.2.1.length - 1) (0, 0, 0, (0, 0, []), 0, 0, 0)).1 + (K.2.1.getD (K.2.1.length - 1) (0, 0, 0, (0, 0, []), 0, 0, 0)).2.1) = oq) (ha : S 302 (S 297 (K.2.1.getD (K.2.1.length - 1) (0, 0, 0, (0, 0, []), 0, 0, 0)).1 + (K.2.1.getD (K.2.1.length - 1) (0, 0, 0, (0, 0, []), 0, 0, 0)).2.1) = a) (hb : S 303 (S 297 (K.2.1.getD (K.2.1.length - 1) (0, 0, 0, (0, 0, []), 0, 0, 0)).1 + (K.2.1.getD (K.2.1.length - 1) (0, 0, 0, (0, 0, []), 0, 0, 0)).2.1) = b) (ho1 : 0 ≤ oq ∧ oq ≤ 4) (hcal : wJ (pe_GA xs) wY0 (fun _ => False) (d + 11) t_M_variables ((pe_at t_M_variables.bl 0).getD (0, [])).2 [(0, (2, 237)), (1, (0, oq)), (2, (0, a)), (3, (0, b))] [] (w_up (w_up S 237 154 (200 * t + (K.2.1.length : Int) - 1)) 237 155 ((K.2.1.getD (K.2.1.length - 1) (0, 0, 0, (0, 0, []), 0, 0, 0)).2.1 + 1)) (fun o Z => o = .inr 238 ∧ hZ 99 (w_up (w_up S 237 154 (200 * t + (K.2.1.length : Int) - 1)) 237 155 ((K.2.1.getD (K.2.1.length - 1) (0, 0, 0, (0, 0, []), 0, 0, 0)).2.1 + 1)) = Z)) : rTurn xs d t S (fun Z dn => dn = 0 ∧ rTk t Z (kSt K) ∧ rTf t S Z) := by
  obtain ⟨h1, h2, h3, ⟨h4, h5, h6⟩, ⟨h7, h8, h9, h9b⟩, ⟨g0, g1, g2, g3⟩, e0, e1⟩ := id h
  obtain ⟨r1, r2, r3⟩ := sr_row h1 h7
  have es : ∀ (j : Nat) (x : Int), (j ≠ 237 ∨ (x ≠ 154 ∧ x ≠ 155)) → (w_up (w_up S 237 154 (200 * t + (K.2.1.length : Int) - 1)) 237 155 ((K.2.1.getD (K.2.1.length - 1) (0, 0, 0, (0, 0, []), 0, 0, 0)).2.1 + 1)) j x = S j x := fun j x hj => (w_up_no (by omega)).trans (w_up_no (by omega))
  refine rt_m h hs (wJ_mono (dv_d (Rn := fun _ => False) (Rt := fun Z => hZ 99 (w_up (w_up S 237 154 (200 * t + (K.2.1.length : Int) - 1)) 237 155 ((K.2.1.getD (K.2.1.length - 1) (0, 0, 0, (0, 0, []), 0, 0, 0)).2.1 + 1)) = Z) (mP_of h) ((es 365 _ (Or.inl (by first | decide | omega))).trans r1) ⟨g0, g1⟩ ((es 366 _ (Or.inl (by first | decide | omega))).trans r2) (es 297 _ (Or.inl (by first | decide | omega))) ⟨e0, e1⟩ ((es 301 _ (Or.inl (by first | decide | omega))).trans ho) ((es 302 _ (Or.inl (by first | decide | omega))).trans ha) ((es 303 _ (Or.inl (by first | decide | omega))).trans hb) ho1 (wJ_mono hcal (fun o Z hz => Or.inr hz)) (fun Z hz => hz.elim)) (fun o Z hz => ?_))
  rcases hz with ⟨rfl, Z1, hz, rfl⟩ | hz
  · exact hz.elim
  · exact hz
/-- an instruction of the reference that goes well -/
theorem rg_p {a b oq : Int} (h : stR t S K) (hs : S 357 t = 1) (ho : S 301 (S 297 (K.2.1.getD (K.2.1.length - 1) (0, 0, 0, (0, 0, []), 0, 0, 0)).1 + (K.2.1.getD (K.2.1.length - 1) (0, 0, 0, (0, 0, []), 0, 0, 0)).2.1) = oq) (ha : S 302 (S 297 (K.2.1.getD (K.2.1.length - 1) (0, 0, 0, (0, 0, []), 0, 0, 0)).1 + (K.2.1.getD (K.2.1.length - 1) (0, 0, 0, (0, 0, []), 0, 0, 0)).2.1) = a) (hb : S 303 (S 297 (K.2.1.getD (K.2.1.length - 1) (0, 0, 0, (0, 0, []), 0, 0, 0)).1 + (K.2.1.getD (K.2.1.length - 1) (0, 0, 0, (0, 0, []), 0, 0, 0)).2.1) = b) (ho1 : 5 ≤ oq ∧ oq ≤ 19) (hcal : wJ (pe_GA xs) wY0 (fun _ => False) (d + 11) t_M_operators ((pe_at t_M_operators.bl 0).getD (0, [])).2 [(0, (2, 237)), (1, (0, oq))] [] (w_up (w_up S 237 154 (200 * t + (K.2.1.length : Int) - 1)) 237 155 ((K.2.1.getD (K.2.1.length - 1) (0, 0, 0, (0, 0, []), 0, 0, 0)).2.1 + 1)) (fun o Z => o = .inl none ∧ R Z)) (hR : ∀ Z : wS, R Z → (w_ML Z ∧ Z 237 154 = (200 * t + (K.2.1.length : Int) - 1)) ∧ P (w_up Z 366 (200 * t + (K.2.1.length : Int) - 1) (Z 237 155))) : rTurn xs d t S (fun Z dn => dn = 1 ∧ P Z) := by
  obtain ⟨h1, h2, h3, ⟨h4, h5, h6⟩, ⟨h7, h8, h9, h9b⟩, ⟨g0, g1, g2, g3⟩, e0, e1⟩ := id h
  obtain ⟨r1, r2, r3⟩ := sr_row h1 h7
  have es : ∀ (j : Nat) (x : Int), (j ≠ 237 ∨ (x ≠ 154 ∧ x ≠ 155)) → (w_up (w_up S 237 154 (200 * t + (K.2.1.length : Int) - 1)) 237 155 ((K.2.1.getD (K.2.1.length - 1) (0, 0, 0, (0, 0, []), 0, 0, 0)).2.1 + 1)) j x = S j x := fun j x hj => (w_up_no (by omega)).trans (w_up_no (by omega))
  refine rt_n h hs (wJ_mono (dp_d (Rn := R) (Rt := fun _ => False) (mP_of h) ((es 365 _ (Or.inl (by first | decide | omega))).trans r1) ⟨g0, g1⟩ ((es 366 _ (Or.inl (by first | decide | omega))).trans r2) (es 297 _ (Or.inl (by first | decide | omega))) ⟨e0, e1⟩ ((es 301 _ (Or.inl (by first | decide | omega))).trans ho) ((es 302 _ (Or.inl (by first | decide | omega))).trans ha) ((es 303 _ (Or.inl (by first | decide | omega))).trans hb) ho1 (wJ_mono hcal (fun o Z hz => Or.inl hz)) (fun Z hz => (hR Z hz).1)) (fun o Z hz => ?_))
  rcases hz with ⟨rfl, Z1, hz, rfl⟩ | ⟨-, hz⟩
  · exact ⟨rfl, (hR Z1 hz).2⟩
  · exact hz.elim
theorem rx_p {a b oq : Int} (h : stR t S K) (hs : S 357 t = 1) (ho : S 301 (S 297 (K.2.1.getD (K.2.1.length - 1) (0, 0, 0, (0, 0, []), 0, 0, 0)).1 + (K.2.1.getD (K.2.1.length - 1) (0, 0, 0, (0, 0, []), 0, 0, 0)).2.1) = oq) (ha : S 302 (S 297 (K.2.1.getD (K.2.1.length - 1) (0, 0, 0, (0, 0, []), 0, 0, 0)).1 + (K.2.1.getD (K.2.1.length - 1) (0, 0, 0, (0, 0, []), 0, 0, 0)).2.1) = a) (hb : S 303 (S 297 (K.2.1.getD (K.2.1.length - 1) (0, 0, 0, (0, 0, []), 0, 0, 0)).1 + (K.2.1.getD (K.2.1.length - 1) (0, 0, 0, (0, 0, []), 0, 0, 0)).2.1) = b) (ho1 : 5 ≤ oq ∧ oq ≤ 19) (he : 1 ≤ e ∧ e ≤ 12) (hcal : wJ (pe_GA xs) wY0 (fun _ => False) (d + 11) t_M_operators ((pe_at t_M_operators.bl 0).getD (0, [])).2 [(0, (2, 237)), (1, (0, oq))] [] (w_up (w_up S 237 154 (200 * t + (K.2.1.length : Int) - 1)) 237 155 ((K.2.1.getD (K.2.1.length - 1) (0, 0, 0, (0, 0, []), 0, 0, 0)).2.1 + 1)) (fun o Z => o = .inr 238 ∧ hZ e (w_up (w_up S 237 154 (200 * t + (K.2.1.length : Int) - 1)) 237 155 ((K.2.1.getD (K.2.1.length - 1) (0, 0, 0, (0, 0, []), 0, 0, 0)).2.1 + 1)) = Z)) : rTurn xs d t S (fun Z dn => dn = 1 ∧ rTk t Z (kTh K (2, e, [])) ∧ rTf t S Z) := by
  obtain ⟨h1, h2, h3, ⟨h4, h5, h6⟩, ⟨h7, h8, h9, h9b⟩, ⟨g0, g1, g2, g3⟩, e0, e1⟩ := id h
  obtain ⟨r1, r2, r3⟩ := sr_row h1 h7
  have es : ∀ (j : Nat) (x : Int), (j ≠ 237 ∨ (x ≠ 154 ∧ x ≠ 155)) → (w_up (w_up S 237 154 (200 * t + (K.2.1.length : Int) - 1)) 237 155 ((K.2.1.getD (K.2.1.length - 1) (0, 0, 0, (0, 0, []), 0, 0, 0)).2.1 + 1)) j x = S j x := fun j x hj => (w_up_no (by omega)).trans (w_up_no (by omega))
  refine rt_e h hs (wJ_mono (dp_d (Rn := fun _ => False) (Rt := fun Z => hZ e (w_up (w_up S 237 154 (200 * t + (K.2.1.length : Int) - 1)) 237 155 ((K.2.1.getD (K.2.1.length - 1) (0, 0, 0, (0, 0, []), 0, 0, 0)).2.1 + 1)) = Z) (mP_of h) ((es 365 _ (Or.inl (by first | decide | omega))).trans r1) ⟨g0, g1⟩ ((es 366 _ (Or.inl (by first | decide | omega))).trans r2) (es 297 _ (Or.inl (by first | decide | omega))) ⟨e0, e1⟩ ((es 301 _ (Or.inl (by first | decide | omega))).trans ho) ((es 302 _ (Or.inl (by first | decide | omega))).trans ha) ((es 303 _ (Or.inl (by first | decide | omega))).trans hb) ho1 (wJ_mono hcal (fun o Z hz => Or.inr hz)) (fun Z hz => hz.elim)) (fun o Z hz => ?_)) he
  rcases hz with ⟨rfl, Z1, hz, rfl⟩ | hz
  · exact hz.elim
  · exact hz
theorem rm_p {a b oq : Int} (h : stR t S K) (hs : S 357 t = 1) (ho : S 301 (S 297 (K.2.1.getD (K.2.1.length - 1) (0, 0, 0, (0, 0, []), 0, 0, 0)).1 + (K.2.1.getD (K.2.1.length - 1) (0, 0, 0, (0, 0, []), 0, 0, 0)).2.1) = oq) (ha : S 302 (S 297 (K.2.1.getD (K.2.1.length - 1) (0, 0, 0, (0, 0, []), 0, 0, 0)).1 + (K.2.1.getD (K.2.1.length - 1) (0, 0, 0, (0, 0, []), 0, 0, 0)).2.1) = a) (hb : S 303 (S 297 (K.2.1.getD (K.2.1.length - 1) (0, 0, 0, (0, 0, []), 0, 0, 0)).1 + (K.2.1.getD (K.2.1.length - 1) (0, 0, 0, (0, 0, []), 0, 0, 0)).2.1) = b) (ho1 : 5 ≤ oq ∧ oq ≤ 19) (hcal : wJ (pe_GA xs) wY0 (fun _ => False) (d + 11) t_M_operators ((pe_at t_M_operators.bl 0).getD (0, [])).2 [(0, (2, 237)), (1, (0, oq))] [] (w_up (w_up S 237 154 (200 * t + (K.2.1.length : Int) - 1)) 237 155 ((K.2.1.getD (K.2.1.length - 1) (0, 0, 0, (0, 0, []), 0, 0, 0)).2.1 + 1)) (fun o Z => o = .inr 238 ∧ hZ 99 (w_up (w_up S 237 154 (200 * t + (K.2.1.length : Int) - 1)) 237 155 ((K.2.1.getD (K.2.1.length - 1) (0, 0, 0, (0, 0, []), 0, 0, 0)).2.1 + 1)) = Z)) : rTurn xs d t S (fun Z dn => dn = 0 ∧ rTk t Z (kSt K) ∧ rTf t S Z) := by
  obtain ⟨h1, h2, h3, ⟨h4, h5, h6⟩, ⟨h7, h8, h9, h9b⟩, ⟨g0, g1, g2, g3⟩, e0, e1⟩ := id h
  obtain ⟨r1, r2, r3⟩ := sr_row h1 h7
  have es : ∀ (j : Nat) (x : Int), (j ≠ 237 ∨ (x ≠ 154 ∧ x ≠ 155)) → (w_up (w_up S 237 154 (200 * t + (K.2.1.length : Int) - 1)) 237 155 ((K.2.1.getD (K.2.1.length - 1) (0, 0, 0, (0, 0, []), 0, 0, 0)).2.1 + 1)) j x = S j x := fun j x hj => (w_up_no (by omega)).trans (w_up_no (by omega))
  refine rt_m h hs (wJ_mono (dp_d (Rn := fun _ => False) (Rt := fun Z => hZ 99 (w_up (w_up S 237 154 (200 * t + (K.2.1.length : Int) - 1)) 237 155 ((K.2.1.getD (K.2.1.length - 1) (0, 0, 0, (0, 0, []), 0, 0, 0)).2.1 + 1)) = Z) (mP_of h) ((es 365 _ (Or.inl (by first | decide | omega))).trans r1) ⟨g0, g1⟩ ((es 366 _ (Or.inl (by first | decide | omega))).trans r2) (es 297 _ (Or.inl (by first | decide | omega))) ⟨e0, e1⟩ ((es 301 _ (Or.inl (by first | decide | omega))).trans ho) ((es 302 _ (Or.inl (by first | decide | omega))).trans ha) ((es 303 _ (Or.inl (by first | decide | omega))).trans hb) ho1 (wJ_mono hcal (fun o Z hz => Or.inr hz)) (fun Z hz => hz.elim)) (fun o Z hz => ?_))
  rcases hz with ⟨rfl, Z1, hz, rfl⟩ | hz
  · exact hz.elim
  · exact hz
/-- an instruction of the reference that goes well -/
theorem rg_t {a b oq : Int} (h : stR t S K) (hs : S 357 t = 1) (ho : S 301 (S 297 (K.2.1.getD (K.2.1.length - 1) (0, 0, 0, (0, 0, []), 0, 0, 0)).1 + (K.2.1.getD (K.2.1.length - 1) (0, 0, 0, (0, 0, []), 0, 0, 0)).2.1) = oq) (ha : S 302 (S 297 (K.2.1.getD (K.2.1.length - 1) (0, 0, 0, (0, 0, []), 0, 0, 0)).1 + (K.2.1.getD (K.2.1.length - 1) (0, 0, 0, (0, 0, []), 0, 0, 0)).2.1) = a) (hb : S 303 (S 297 (K.2.1.getD (K.2.1.length - 1) (0, 0, 0, (0, 0, []), 0, 0, 0)).1 + (K.2.1.getD (K.2.1.length - 1) (0, 0, 0, (0, 0, []), 0, 0, 0)).2.1) = b) (ho1 : 20 ≤ oq ∧ oq ≤ 33 ∧ oq ≠ 27 ∧ oq ≠ 29 ∧ oq ≠ 30) (hcal : wJ (pe_GA xs) wY0 (fun _ => False) (d + 11) t_M_others ((pe_at t_M_others.bl 0).getD (0, [])).2 [(0, (2, 237)), (1, (0, oq)), (2, (0, a))] [] (w_up (w_up S 237 154 (200 * t + (K.2.1.length : Int) - 1)) 237 155 ((K.2.1.getD (K.2.1.length - 1) (0, 0, 0, (0, 0, []), 0, 0, 0)).2.1 + 1)) (fun o Z => o = .inl none ∧ R Z)) (hR : ∀ Z : wS, R Z → (w_ML Z ∧ Z 237 154 = (200 * t + (K.2.1.length : Int) - 1)) ∧ P (w_up Z 366 (200 * t + (K.2.1.length : Int) - 1) (Z 237 155))) : rTurn xs d t S (fun Z dn => dn = 1 ∧ P Z) := by
  obtain ⟨h1, h2, h3, ⟨h4, h5, h6⟩, ⟨h7, h8, h9, h9b⟩, ⟨g0, g1, g2, g3⟩, e0, e1⟩ := id h
  obtain ⟨r1, r2, r3⟩ := sr_row h1 h7
  have es : ∀ (j : Nat) (x : Int), (j ≠ 237 ∨ (x ≠ 154 ∧ x ≠ 155)) → (w_up (w_up S 237 154 (200 * t + (K.2.1.length : Int) - 1)) 237 155 ((K.2.1.getD (K.2.1.length - 1) (0, 0, 0, (0, 0, []), 0, 0, 0)).2.1 + 1)) j x = S j x := fun j x hj => (w_up_no (by omega)).trans (w_up_no (by omega))
  refine rt_n h hs (wJ_mono (dt_d (Rn := R) (Rt := fun _ => False) (mP_of h) ((es 365 _ (Or.inl (by first | decide | omega))).trans r1) ⟨g0, g1⟩ ((es 366 _ (Or.inl (by first | decide | omega))).trans r2) (es 297 _ (Or.inl (by first | decide | omega))) ⟨e0, e1⟩ ((es 301 _ (Or.inl (by first | decide | omega))).trans ho) ((es 302 _ (Or.inl (by first | decide | omega))).trans ha) ((es 303 _ (Or.inl (by first | decide | omega))).trans hb) ho1 (wJ_mono hcal (fun o Z hz => Or.inl hz)) (fun Z hz => (hR Z hz).1)) (fun o Z hz => ?_))
  rcases hz with ⟨rfl, Z1, hz, rfl⟩ | ⟨-, hz⟩
  · exact ⟨rfl, (hR Z1 hz).2⟩
  · exact hz.elim
theorem rx_t {a b oq : Int} (h : stR t S K) (hs : S 357 t = 1) (ho : S 301 (S 297 (K.2.1.getD (K.2.1.length - 1) (0, 0, 0, (0, 0, []), 0, 0, 0)).1 + (K.2.1.getD (K.2.1.length - 1) (0, 0, 0, (0, 0, []), 0, 0, 0)).2.1) = oq) (ha : S 302 (S 297 (K.2.1.getD (K.2.1.length - 1) (0, 0, 0, (0, 0, []), 0, 0, 0)).1 + (K.2.1.getD (K.2.1.length - 1) (0, 0, 0, (0, 0, []), 0, 0, 0)).2.1) = a) (hb : S 303 (S 297 (K.2.1.getD (K.2.1.length - 1) (0, 0, 0, (0, 0, []), 0, 0, 0)).1 + (K.2.1.getD (K.2.1.length - 1) (0, 0, 0, (0, 0, []), 0, 0, 0)).2.1) = b) (ho1 : 20 ≤ oq ∧ oq ≤ 33 ∧ oq ≠ 27 ∧ oq ≠ 29 ∧ oq ≠ 30) (he : 1 ≤ e ∧ e ≤ 12) (hcal : wJ (pe_GA xs) wY0 (fun _ => False) (d + 11) t_M_others ((pe_at t_M_others.bl 0).getD (0, [])).2 [(0, (2, 237)), (1, (0, oq)), (2, (0, a))] [] (w_up (w_up S 237 154 (200 * t + (K.2.1.length : Int) - 1)) 237 155 ((K.2.1.getD (K.2.1.length - 1) (0, 0, 0, (0, 0, []), 0, 0, 0)).2.1 + 1)) (fun o Z => o = .inr 238 ∧ hZ e (w_up (w_up S 237 154 (200 * t + (K.2.1.length : Int) - 1)) 237 155 ((K.2.1.getD (K.2.1.length - 1) (0, 0, 0, (0, 0, []), 0, 0, 0)).2.1 + 1)) = Z)) : rTurn xs d t S (fun Z dn => dn = 1 ∧ rTk t Z (kTh K (2, e, [])) ∧ rTf t S Z) := by
  obtain ⟨h1, h2, h3, ⟨h4, h5, h6⟩, ⟨h7, h8, h9, h9b⟩, ⟨g0, g1, g2, g3⟩, e0, e1⟩ := id h
  obtain ⟨r1, r2, r3⟩ := sr_row h1 h7
  have es : ∀ (j : Nat) (x : Int), (j ≠ 237 ∨ (x ≠ 154 ∧ x ≠ 155)) → (w_up (w_up S 237 154 (200 * t + (K.2.1.length : Int) - 1)) 237 155 ((K.2.1.getD (K.2.1.length - 1) (0, 0, 0, (0, 0, []), 0, 0, 0)).2.1 + 1)) j x = S j x := fun j x hj => (w_up_no (by omega)).trans (w_up_no (by omega))
  refine rt_e h hs (wJ_mono (dt_d (Rn := fun _ => False) (Rt := fun Z => hZ e (w_up (w_up S 237 154 (200 * t + (K.2.1.length : Int) - 1)) 237 155 ((K.2.1.getD (K.2.1.length - 1) (0, 0, 0, (0, 0, []), 0, 0, 0)).2.1 + 1)) = Z) (mP_of h) ((es 365 _ (Or.inl (by first | decide | omega))).trans r1) ⟨g0, g1⟩ ((es 366 _ (Or.inl (by first | decide | omega))).trans r2) (es 297 _ (Or.inl (by first | decide | omega))) ⟨e0, e1⟩ ((es 301 _ (Or.inl (by first | decide | omega))).trans ho) ((es 302 _ (Or.inl (by first | decide | omega))).trans ha) ((es 303 _ (Or.inl (by first | decide | omega))).trans hb) ho1 (wJ_mono hcal (fun o Z hz => Or.inr hz)) (fun Z hz => hz.elim)) (fun o Z hz => ?_)) he
  rcases hz with ⟨rfl, Z1, hz, rfl⟩ | hz
  · exact hz.elim
  · exact hz
theorem rm_t {a b oq : Int} (h : stR t S K) (hs : S 357 t = 1) (ho : S 301 (S 297 (K.2.1.getD (K.2.1.length - 1) (0, 0, 0, (0, 0, []), 0, 0, 0)).1 + (K.2.1.getD (K.2.1.length - 1) (0, 0, 0, (0, 0, []), 0, 0, 0)).2.1) = oq) (ha : S 302 (S 297 (K.2.1.getD (K.2.1.length - 1) (0, 0, 0, (0, 0, []), 0, 0, 0)).1 + (K.2.1.getD (K.2.1.length - 1) (0, 0, 0, (0, 0, []), 0, 0, 0)).2.1) = a) (hb : S 303 (S 297 (K.2.1.getD (K.2.1.length - 1) (0, 0, 0, (0, 0, []), 0, 0, 0)).1 + (K.2.1.getD (K.2.1.length - 1) (0, 0, 0, (0, 0, []), 0, 0, 0)).2.1) = b) (ho1 : 20 ≤ oq ∧ oq ≤ 33 ∧ oq ≠ 27 ∧ oq ≠ 29 ∧ oq ≠ 30) (hcal : wJ (pe_GA xs) wY0 (fun _ => False) (d + 11) t_M_others ((pe_at t_M_others.bl 0).getD (0, [])).2 [(0, (2, 237)), (1, (0, oq)), (2, (0, a))] [] (w_up (w_up S 237 154 (200 * t + (K.2.1.length : Int) - 1)) 237 155 ((K.2.1.getD (K.2.1.length - 1) (0, 0, 0, (0, 0, []), 0, 0, 0)).2.1 + 1)) (fun o Z => o = .inr 238 ∧ hZ 99 (w_up (w_up S 237 154 (200 * t + (K.2.1.length : Int) - 1)) 237 155 ((K.2.1.getD (K.2.1.length - 1) (0, 0, 0, (0, 0, []), 0, 0, 0)).2.1 + 1)) = Z)) : rTurn xs d t S (fun Z dn => dn = 0 ∧ rTk t Z (kSt K) ∧ rTf t S Z) := by
  obtain ⟨h1, h2, h3, ⟨h4, h5, h6⟩, ⟨h7, h8, h9, h9b⟩, ⟨g0, g1, g2, g3⟩, e0, e1⟩ := id h
  obtain ⟨r1, r2, r3⟩ := sr_row h1 h7
  have es : ∀ (j : Nat) (x : Int), (j ≠ 237 ∨ (x ≠ 154 ∧ x ≠ 155)) → (w_up (w_up S 237 154 (200 * t + (K.2.1.length : Int) - 1)) 237 155 ((K.2.1.getD (K.2.1.length - 1) (0, 0, 0, (0, 0, []), 0, 0, 0)).2.1 + 1)) j x = S j x := fun j x hj => (w_up_no (by omega)).trans (w_up_no (by omega))
  refine rt_m h hs (wJ_mono (dt_d (Rn := fun _ => False) (Rt := fun Z => hZ 99 (w_up (w_up S 237 154 (200 * t + (K.2.1.length : Int) - 1)) 237 155 ((K.2.1.getD (K.2.1.length - 1) (0, 0, 0, (0, 0, []), 0, 0, 0)).2.1 + 1)) = Z) (mP_of h) ((es 365 _ (Or.inl (by first | decide | omega))).trans r1) ⟨g0, g1⟩ ((es 366 _ (Or.inl (by first | decide | omega))).trans r2) (es 297 _ (Or.inl (by first | decide | omega))) ⟨e0, e1⟩ ((es 301 _ (Or.inl (by first | decide | omega))).trans ho) ((es 302 _ (Or.inl (by first | decide | omega))).trans ha) ((es 303 _ (Or.inl (by first | decide | omega))).trans hb) ho1 (wJ_mono hcal (fun o Z hz => Or.inr hz)) (fun Z hz => hz.elim)) (fun o Z hz => ?_))
  rcases hz with ⟨rfl, Z1, hz, rfl⟩ | hz
  · exact hz.elim
  · exact hz
end Weh
