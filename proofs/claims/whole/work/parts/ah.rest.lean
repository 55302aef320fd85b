/-! PART ah: the class at rest behind host(). -/
section Wah
variable {xs : List (Nat × List Int32)} {M : Nat → Prop} {d c : Nat} {A B C S Z : wS} {Q : wO → wS → Prop} {T : Int → Int} {n : Int}
/-- what no clear touches -/
def cl_fr (q j : Nat) (i : Int) : Prop := i < 0 ∨ ((j ≠ 0 ∨ (i ≠ 1 ∧ i ≠ 10)) ∧ ((j ≠ 7 ∧ j ≠ 8 ∧ j ≠ 11 ∧ j ≠ 12) ∧ (j ≠ 2 ∨ (i ≠ 1 ∧ i ≠ 7 ∧ i ≠ 10 ∧ i ≠ 12))) ∧ (j ≠ 19 ∨ (i ≠ 1 ∧ i ≠ 3 ∧ i ≠ 7 ∧ i ≠ 9 ∧ i ≠ 11 ∧ i ≠ 12 ∧ i ≠ 16)) ∧ j ≠ 60 ∧ ((j ≠ 150 ∨ i ≠ 5) ∧ (j ≠ q ∨ i ≠ 17) ∧ (j ≠ 72 ∨ (i ≠ 1 ∧ i ≠ 3 ∧ i ≠ 5 ∧ i ≠ 8 ∧ i ≠ 11 ∧ i ≠ 13 ∧ i ≠ 15)) ∧ (j ≠ 140 ∨ i ≠ 2) ∧ (j ≠ 153 ∨ i ≠ 2) ∧ ((j ≠ 144 ∧ j ≠ 145 ∧ j ≠ 146 ∧ j ≠ 147) ∨ i ≠ 0) ∧ j ≠ 149) ∧ (j ≠ 158 ∨ (i ≠ 19 ∧ i ≠ 14)) ∧ (j ≠ 19 ∨ i ≠ 11) ∧ j ≠ 160 ∧ ((j ≠ 215 ∨ (i ≠ 13 ∧ i ≠ 4 ∧ i ≠ 12)) ∧ (j ≠ 216 ∨ i ≠ 2) ∧ (j ≠ 226 ∨ (i ≠ 13 ∧ i ≠ 4 ∧ i ≠ 12)) ∧ (j ≠ 227 ∨ i ≠ 2)))
theorem cl_fr_lo {q j : Nat} {i : Int} (h : j < 2000 → ((j = 1 ∨ j = 3 ∨ j = 4 ∨ j = 5 ∨ j = 6 ∨ j = 9 ∨ j = 10 ∨ (13 ≤ j ∧ j ≤ 18) ∨ (61 ≤ j ∧ j ≤ 71) ∨ (73 ≤ j ∧ j ≤ 125) ∨ (161 ≤ j ∧ j ≤ 214) ∨ 228 ≤ j) ∧ (j ≠ q ∨ i ≠ 17))) (hq : q < 2000) : cl_fr q j i := by
  refine Or.inr ⟨?_, ⟨?_, ?_⟩, ?_, ?_, ⟨?_, ?_, ?_, ?_, ?_, ?_, ?_⟩, ?_, ?_, ?_, ?_, ?_, ?_, ?_⟩ <;> omega
theorem tc_fr {Z5 : wS} {j : Nat} {i : Int} (h : i < 0 ∨ ((j ≠ 215 ∨ (i ≠ 13 ∧ i ≠ 4 ∧ i ≠ 12)) ∧ (j ≠ 216 ∨ i ≠ 2) ∧ (j ≠ 226 ∨ (i ≠ 13 ∧ i ≠ 4 ∧ i ≠ 12)) ∧ (j ≠ 227 ∨ i ≠ 2))) : (w_up (w_up (w_up (w_up (w_up (w_up (w_up (w_up Z5 215 13 0) 215 4 0) 216 2 0) 215 12 0) 226 13 0) 226 4 0) 227 2 0) 226 12 0) j i = Z5 j i := by
  rw [w_up_no (by omega), w_up_no (by omega), w_up_no (by omega), w_up_no (by omega), w_up_no (by omega), w_up_no (by omega), w_up_no (by omega), w_up_no (by omega)]
/-- all that is told of a cleared class -/
def cl_V (p q : Nat) (S Z : wS) : Prop :=
  (Z 0 1 = 0 ∧ Z 0 10 = p ∧ Z 72 1 = q) ∧
  ((Z 2 1 = 133 ∧ Z 2 7 = 33 ∧ Z 2 10 = 0 ∧ Z 2 12 = 0) ∧ ∀ k : Int, 0 ≤ k → k < 33 → Z 7 k = -1 ∧ Z 8 k = -1) ∧
  ((Z 19 1 = 0 ∧ Z 19 3 = 0 ∧ Z 19 7 = 0 ∧ Z 19 9 = 0 ∧ Z 19 11 = 1 ∧ Z 19 12 = -1 ∧ Z 19 16 = 0) ∧ ∀ k : Int, 0 ≤ k → k < S 60 (-1) → Z 60 k = 0) ∧
  ((Z 150 5 = S 150 5 + S p 16 ∧ Z q 17 = 2000 - (S 150 5 + S p 16)) ∧ (Z 72 3 = 0 ∧ Z 72 5 = 0 ∧ Z 72 8 = 1 ∧ Z 72 11 = 0 ∧ Z 72 13 = 0 ∧ Z 72 15 = 0) ∧ (Z 140 2 = 0 ∧ Z 153 2 = 0 ∧ Z 144 0 = -1 ∧ Z 145 0 = 0 ∧ Z 146 0 = -1 ∧ Z 147 0 = -1) ∧ ∀ k : Int, 0 ≤ k → k < 1024 → Z 149 k = 0) ∧
  ((Z 158 19 = 0 ∧ Z 158 14 = 0) ∧ ∀ k : Int, 0 ≤ k → k < S 160 (-1) → Z 160 k = 0) ∧
  (Z 215 13 = 0 ∧ Z 215 4 = 0 ∧ Z 215 12 = 0 ∧ Z 216 2 = 0) ∧ (Z 226 13 = 0 ∧ Z 226 4 = 0 ∧ Z 226 12 = 0 ∧ Z 227 2 = 0)
theorem cl_all_73 (h : cl_ch 162 73 S Z) : w2_I Z ∧ cl_V 162 73 S Z ∧ ∀ (j : Nat) (i : Int), cl_fr 73 j i → Z j i = S j i := by
  obtain ⟨Z2, Z3, Z4, Z5, w2, wc, cc, hc, lc, rfl⟩ := h
  refine ⟨?_, ⟨?_, ?_, ?_, ?_, ?_, ?_, ?_⟩, ?_⟩
  · refine w2_ag w2 (fun x hx => funext fun y => ?_)
    exact ((tc_fr (j := (2 + x)) (i := y) (by omega))).trans (((lc.2.2 (2 + x) y (by omega) (by omega) (by omega))).trans (((hc.2.2 (2 + x) y (by omega))).trans ((cc.2.2 (2 + x) y (by omega) (by omega)))))
  · exact ⟨((tc_fr (j := 0) (i := 1) (by omega))).trans (((lc.2.2 0 1 (by omega) (by omega) (by omega))).trans (((hc.2.2 0 1 (by omega))).trans (((cc.2.2 0 1 (by omega) (by omega))).trans (((wc.2.2 0 1 (by omega))).trans ((w_up_no (by omega)).trans (w_up_same _ _ _ _)))))), ((tc_fr (j := 0) (i := 10) (by omega))).trans (((lc.2.2 0 10 (by omega) (by omega) (by omega))).trans (((hc.2.2 0 10 (by omega))).trans (((cc.2.2 0 10 (by omega) (by omega))).trans (((wc.2.2 0 10 (by omega))).trans (w_up_same _ _ _ _))))), ((tc_fr (j := 72) (i := 1) (by omega))).trans (((lc.2.2 72 1 (by omega) (by omega) (by omega))).trans (hc.1.2.2.1))⟩
  · exact ⟨⟨((tc_fr (j := 2) (i := 1) (by omega))).trans (((lc.2.2 2 1 (by omega) (by omega) (by omega))).trans (((hc.2.2 2 1 (by omega))).trans (((cc.2.2 2 1 (by omega) (by omega))).trans (wc.1.1)))), ((tc_fr (j := 2) (i := 7) (by omega))).trans (((lc.2.2 2 7 (by omega) (by omega) (by omega))).trans (((hc.2.2 2 7 (by omega))).trans (((cc.2.2 2 7 (by omega) (by omega))).trans (wc.1.2.1)))), ((tc_fr (j := 2) (i := 10) (by omega))).trans (((lc.2.2 2 10 (by omega) (by omega) (by omega))).trans (((hc.2.2 2 10 (by omega))).trans (((cc.2.2 2 10 (by omega) (by omega))).trans (wc.1.2.2.1)))), ((tc_fr (j := 2) (i := 12) (by omega))).trans (((lc.2.2 2 12 (by omega) (by omega) (by omega))).trans (((hc.2.2 2 12 (by omega))).trans (((cc.2.2 2 12 (by omega) (by omega))).trans (wc.1.2.2.2))))⟩, fun k k0 k1 => ⟨((tc_fr (j := 7) (i := k) (by omega))).trans (((lc.2.2 7 k (by omega) (by omega) (by omega))).trans (((hc.2.2 7 k (by omega))).trans (((cc.2.2 7 k (by omega) (by omega))).trans ((wc.2.1 k k0 k1).1)))), ((tc_fr (j := 8) (i := k) (by omega))).trans (((lc.2.2 8 k (by omega) (by omega) (by omega))).trans (((hc.2.2 8 k (by omega))).trans (((cc.2.2 8 k (by omega) (by omega))).trans ((wc.2.1 k k0 k1).2))))⟩⟩
  · refine ⟨⟨((tc_fr (j := 19) (i := 1) (by omega))).trans (((lc.2.2 19 1 (by omega) (by omega) (by omega))).trans (((hc.2.2 19 1 (by omega))).trans (cc.1.1))), ((tc_fr (j := 19) (i := 3) (by omega))).trans (((lc.2.2 19 3 (by omega) (by omega) (by omega))).trans (((hc.2.2 19 3 (by omega))).trans (cc.1.2.1))), ((tc_fr (j := 19) (i := 7) (by omega))).trans (((lc.2.2 19 7 (by omega) (by omega) (by omega))).trans (((hc.2.2 19 7 (by omega))).trans (cc.1.2.2.1))), ((tc_fr (j := 19) (i := 9) (by omega))).trans (((lc.2.2 19 9 (by omega) (by omega) (by omega))).trans (((hc.2.2 19 9 (by omega))).trans (cc.1.2.2.2.1))), ((tc_fr (j := 19) (i := 11) (by omega))).trans (lc.1.2.2), ((tc_fr (j := 19) (i := 12) (by omega))).trans (((lc.2.2 19 12 (by omega) (by omega) (by omega))).trans (((hc.2.2 19 12 (by omega))).trans (cc.1.2.2.2.2.2.1))), ((tc_fr (j := 19) (i := 16) (by omega))).trans (((lc.2.2 19 16 (by omega) (by omega) (by omega))).trans (((hc.2.2 19 16 (by omega))).trans (cc.1.2.2.2.2.2.2)))⟩, fun k k0 k1 => ((tc_fr (j := 60) (i := k) (by omega))).trans (((lc.2.2 60 k (by omega) (by omega) (by omega))).trans (((hc.2.2 60 k (by omega))).trans (cc.2.1 k k0 ?_)))⟩
    rw [show Z2 60 (-1) = S 60 (-1) from ((wc.2.2 60 (-1) (by omega))).trans (((w_up_no (by omega)).trans (w_up_no (by omega))))]; exact k1
  · have e1 : Z3 150 5 = S 150 5 := ((cc.2.2 150 5 (by omega) (by omega))).trans (((wc.2.2 150 5 (by omega))).trans (((w_up_no (by omega)).trans (w_up_no (by omega)))))
    have e2 : Z3 162 16 = S 162 16 := ((cc.2.2 162 16 (by omega) (by omega))).trans (((wc.2.2 162 16 (by omega))).trans (((w_up_no (by omega)).trans (w_up_no (by omega)))))
    obtain ⟨x1, x2, x3, x4, x5, x6, x7, x8, x9, x10, x11, x12, x13, x14, x15⟩ := hc.1
    rw [e1, e2] at x1 x2
    exact ⟨⟨((tc_fr (j := 150) (i := 5) (by omega))).trans (((lc.2.2 150 5 (by omega) (by omega) (by omega))).trans (x1)), ((tc_fr (j := 73) (i := 17) (by omega))).trans (((lc.2.2 73 17 (by omega) (by omega) (by omega))).trans (x2))⟩, ⟨((tc_fr (j := 72) (i := 3) (by omega))).trans (((lc.2.2 72 3 (by omega) (by omega) (by omega))).trans (x4)), ((tc_fr (j := 72) (i := 5) (by omega))).trans (((lc.2.2 72 5 (by omega) (by omega) (by omega))).trans (x5)), ((tc_fr (j := 72) (i := 8) (by omega))).trans (((lc.2.2 72 8 (by omega) (by omega) (by omega))).trans (x6)), ((tc_fr (j := 72) (i := 11) (by omega))).trans (((lc.2.2 72 11 (by omega) (by omega) (by omega))).trans (x7)), ((tc_fr (j := 72) (i := 13) (by omega))).trans (((lc.2.2 72 13 (by omega) (by omega) (by omega))).trans (x8)), ((tc_fr (j := 72) (i := 15) (by omega))).trans (((lc.2.2 72 15 (by omega) (by omega) (by omega))).trans (x9))⟩, ⟨((tc_fr (j := 140) (i := 2) (by omega))).trans (((lc.2.2 140 2 (by omega) (by omega) (by omega))).trans (x10)), ((tc_fr (j := 153) (i := 2) (by omega))).trans (((lc.2.2 153 2 (by omega) (by omega) (by omega))).trans (x11)), ((tc_fr (j := 144) (i := 0) (by omega))).trans (((lc.2.2 144 0 (by omega) (by omega) (by omega))).trans (x12)), ((tc_fr (j := 145) (i := 0) (by omega))).trans (((lc.2.2 145 0 (by omega) (by omega) (by omega))).trans (x13)), ((tc_fr (j := 146) (i := 0) (by omega))).trans (((lc.2.2 146 0 (by omega) (by omega) (by omega))).trans (x14)), ((tc_fr (j := 147) (i := 0) (by omega))).trans (((lc.2.2 147 0 (by omega) (by omega) (by omega))).trans (x15))⟩, fun k k0 k1 => ((tc_fr (j := 149) (i := k) (by omega))).trans (((lc.2.2 149 k (by omega) (by omega) (by omega))).trans (hc.2.1 k k0 k1))⟩
  · refine ⟨⟨((tc_fr (j := 158) (i := 19) (by omega))).trans (lc.1.1), ((tc_fr (j := 158) (i := 14) (by omega))).trans (lc.1.2.1)⟩, fun k k0 k1 => ((tc_fr (j := 160) (i := k) (by omega))).trans (lc.2.1 k k0 ?_)⟩
    rw [show Z4 160 (-1) = S 160 (-1) from ((hc.2.2 160 (-1) (by omega))).trans (((cc.2.2 160 (-1) (by omega) (by omega))).trans (((wc.2.2 160 (-1) (by omega))).trans (((w_up_no (by omega)).trans (w_up_no (by omega))))))]; exact k1
  · exact ⟨rfl, rfl, rfl, rfl⟩
  · exact ⟨rfl, rfl, rfl, rfl⟩
  · intro j i hf
    rcases hf with hf | ⟨f1, f2, f3, f4, f5, f6, f7, f8, f9⟩
    · exact (tc_fr (Or.inl hf)).trans ((lc.2.2 j i (by omega) (by omega) (by omega)).trans ((hc.2.2 j i (Or.inl hf)).trans ((cc.2.2 j i (by omega) (by omega)).trans ((wc.2.2 j i (Or.inl hf)).trans ((w_up_no (by omega)).trans (w_up_no (by omega)))))))
    · exact (tc_fr (Or.inr f9)).trans ((lc.2.2 j i f6 f7 (Or.inl f8)).trans ((hc.2.2 j i (Or.inr f5)).trans ((cc.2.2 j i f3 (Or.inl f4)).trans ((wc.2.2 j i (Or.inr f2)).trans ((w_up_no (fun z => f1.elim (fun y => y z.1) (fun y => y.2 z.2))).trans (w_up_no (fun z => f1.elim (fun y => y z.1) (fun y => y.1 z.2))))))))
theorem cl_W_73 {Zr : wS} (hW : cW S) (hH : cH 162 73 S) (hP : hs_P 73 74 117 118 125 S Zr) (hr : rmR S Zr) (hc : cl_ch 162 73 Zr Z) : cW Z ∧ cH 73 162 Z ∧ rmR S Z := by
  obtain ⟨c1, c2, c3⟩ := cl_all_73 hc
  obtain ⟨k1, k2, k3, k4, k5, k6, ⟨k7, k7a, k7b⟩, k8, k9, k10, k11⟩ := hW
  obtain ⟨u1, u2, u3, u4, u5, u6⟩ := hH
  obtain ⟨p1, p2, p3, p4, p5, p6, p7, p8, -⟩ := hP
  obtain ⟨⟨v1, v2, v3⟩, -, -, ⟨⟨v4, v5⟩, -⟩, -⟩ := c2
  have hl : ∀ j : Nat, Z j (-1) = Zr j (-1) := fun j => c3 j (-1) (Or.inl (by decide))
  have e150 : Zr 150 5 = S 150 5 := p1 150 5 (by decide) (by decide) (by decide) (by decide) (by decide) (by decide)
  have e16 : Zr 162 16 = S 162 16 := p1 162 16 (by decide) (by decide) (by decide) (by decide) (by decide) (by decide)
  have ew : ∀ (y x : Nat), (y = 74 ∨ y = 163) → x ≤ 10 → Z (y + x) = Zr (y + x) := fun y x hy hx => funext fun i => c3 (y + x) i (cl_fr_lo (fun _ => by omega) (by decide))
  have ef : ∀ j : Nat, j < 4000000 → j ≠ wG → (j < 14 ∨ 18 < j) → j ≠ 61 → j ≠ 62 → (j < 73 ∨ 125 < j) → Z j (-1) = S j (-1) := fun j e1 e2 e3 e4 e5 e6 => (hl j).trans (p1 j (-1) e1 e2 e3 e4 e5 e6)
  have hp2 : hi_I 163 206 207 Zr := hi_ag k5 (fun x hx => funext fun y => p1 (163 + x) y (by omega) (by unfold wG; omega) (by omega) (by omega) (by omega) (by omega)) (p1 206 (-1) (by decide) (by decide) (by decide) (by decide) (by decide) (by decide)) (p1 207 (-1) (by decide) (by decide) (by decide) (by decide) (by decide) (by decide))
  have hq1 : hi_I 74 117 118 Z := hi_ag p2 (fun x hx => ew 74 x (by omega) hx) (hl 117) (hl 118)
  have hq2 : hi_I 163 206 207 Z := hi_ag hp2 (fun x hx => ew 163 x (by omega) hx) (hl 206) (hl 207)
  refine ⟨⟨fun y hy => (hl y.1).trans (p3 y hy), gI_ag2 p4 (fun j _ => hl j) (fun x hx => c3 238 (x : Int) (cl_fr_lo (fun _ => by omega) (by decide))) (c3 14 5 (cl_fr_lo (fun _ => by omega) (by decide))), c1, hq1, hq2, ?_, ⟨(ef 161 (by decide) (by decide) (by decide) (by decide) (by decide) (by decide)).trans k7, (c3 161 0 (cl_fr_lo (fun _ => by omega) (by decide))).trans ((p1 161 0 (by decide) (by decide) (by decide) (by decide) (by decide) (by decide)).trans k7a), (c3 161 1 (cl_fr_lo (fun _ => by omega) (by decide))).trans ((p1 161 1 (by decide) (by decide) (by decide) (by decide) (by decide) (by decide)).trans k7b)⟩, ?_, fun i i0 i1 => by omega, ?_, ?_⟩, ⟨v3, v2, ?_, ?_, ?_, ?_⟩, ?_⟩
  · unfold hs_R; rw [hl 15, hl 16, hl 17]; exact p5
  · rw [v1, ef 1 (by decide) (by decide) (by decide) (by decide) (by decide) (by decide)]; omega
  · rw [ef 48 (by decide) (by decide) (by decide) (by decide) (by decide) (by decide)]; exact k10
  · rw [ef 144 (by decide) (by decide) (by decide) (by decide) (by decide) (by decide), ef 145 (by decide) (by decide) (by decide) (by decide) (by decide) (by decide), ef 146 (by decide) (by decide) (by decide) (by decide) (by decide) (by decide), ef 147 (by decide) (by decide) (by decide) (by decide) (by decide) (by decide), ef 148 (by decide) (by decide) (by decide) (by decide) (by decide) (by decide)]; exact k11
  · rw [v4, e150, e16]; omega
  · rw [c3 73 16 (cl_fr_lo (fun _ => by omega) (by decide)), p6.1]; omega
  · rw [c3 73 16 (cl_fr_lo (fun _ => by omega) (by decide)), p6.1, v4, e150, e16]; omega
  · rw [v5, v4]
  · exact rmR_ag hr (fun k _ => hl k) (c3 wG 0 (cl_fr_lo (fun h => absurd h (by decide)) (by decide))) (c3 wG 1 (cl_fr_lo (fun h => absurd h (by decide)) (by decide)))
theorem no_W_73 {Zr : wS} (hW : cW S) (hH : cH 162 73 S) (hP : hs_P 73 74 117 118 125 S Zr) : cW (w_up Zr 0 1 0) ∧ cH 162 73 (w_up Zr 0 1 0) := by
  obtain ⟨k1, k2, k3, k4, k5, k6, ⟨k7, k7a, k7b⟩, k8, k9, k10, k11⟩ := hW
  obtain ⟨u1, u2, u3, u4, u5, u6⟩ := hH
  obtain ⟨p1, p2, p3, p4, p5, p6, p7, p8, -⟩ := hP
  have hl : ∀ j : Nat, w_up Zr 0 1 0 j (-1) = Zr j (-1) := fun j => w_up_at (by decide)
  have hs : ∀ j : Nat, 0 < j → w_up Zr 0 1 0 j = Zr j := fun j hj => funext fun i => w_up_slot (by omega)
  have ef : ∀ j : Nat, j < 4000000 → j ≠ wG → (j < 14 ∨ 18 < j) → j ≠ 61 → j ≠ 62 → (j < 73 ∨ 125 < j) → w_up Zr 0 1 0 j (-1) = S j (-1) := fun j e1 e2 e3 e4 e5 e6 => (hl j).trans (p1 j (-1) e1 e2 e3 e4 e5 e6)
  have eg : ∀ (j : Nat) (i : Int), 0 < j → j < 4000000 → j ≠ wG → (j < 14 ∨ 18 < j) → j ≠ 61 → j ≠ 62 → (j < 73 ∨ 125 < j) → w_up Zr 0 1 0 j i = S j i := fun j i e0 e1 e2 e3 e4 e5 e6 => (w_up_slot (by omega)).trans (p1 j i e1 e2 e3 e4 e5 e6)
  have hp2 : hi_I 163 206 207 (w_up Zr 0 1 0) := hi_ag k5 (fun x hx => funext fun y => eg (163 + x) y (by omega) (by omega) (by unfold wG; omega) (by omega) (by omega) (by omega) (by omega)) (ef 206 (by decide) (by decide) (by decide) (by decide) (by decide) (by decide)) (ef 207 (by decide) (by decide) (by decide) (by decide) (by decide) (by decide))
  have hp1 : hi_I 74 117 118 (w_up Zr 0 1 0) := hi_ag p2 (fun x hx => hs (74 + x) (by omega)) (hl 117) (hl 118)
  have g6 : ∀ (j : Nat) (i : Int), 0 < j → (j = 72 ∨ j = 150 ∨ j = 161 ∨ j = 162) → w_up Zr 0 1 0 j i = S j i := fun j i e0 e1 => eg j i e0 (by omega) (by unfold wG; omega) (by omega) (by omega) (by omega) (by omega)
  refine ⟨⟨fun y hy => (hl y.1).trans (p3 y hy), gI_up p4 (by decide) (Or.inl (by decide)) (Or.inl (Or.inl (by decide))), ?_, hp1, hp2, ?_, ⟨(ef 161 (by decide) (by decide) (by decide) (by decide) (by decide) (by decide)).trans k7, (g6 161 0 (by decide) (by omega)).trans k7a, (g6 161 1 (by decide) (by omega)).trans k7b⟩, ?_, fun i i0 i1 => by rw [w_up_same] at i1; omega, ?_, ?_⟩, ⟨(g6 72 1 (by decide) (by omega)).trans u1, ?_, ?_, ?_, ?_, ?_⟩⟩
  · exact w2_ag k3 (fun x hx => funext fun y => eg (2 + x) y (by omega) (by omega) (by unfold wG; omega) (by omega) (by omega) (by omega) (by omega))
  · unfold hs_R; rw [hl 15, hl 16, hl 17]; exact p5
  · rw [w_up_same, ef 1 (by decide) (by decide) (by decide) (by decide) (by decide) (by decide)]; omega
  · rw [ef 48 (by decide) (by decide) (by decide) (by decide) (by decide) (by decide)]; exact k10
  · rw [ef 144 (by decide) (by decide) (by decide) (by decide) (by decide) (by decide), ef 145 (by decide) (by decide) (by decide) (by decide) (by decide) (by decide), ef 146 (by decide) (by decide) (by decide) (by decide) (by decide) (by decide), ef 147 (by decide) (by decide) (by decide) (by decide) (by decide) (by decide), ef 148 (by decide) (by decide) (by decide) (by decide) (by decide) (by decide)]; exact k11
  · exact (w_up_at (by decide)).trans ((p1 0 10 (by decide) (by decide) (by decide) (by decide) (by decide) (by decide)).trans u2)
  · rw [g6 150 5 (by decide) (by omega)]; exact u3
  · rw [g6 162 16 (by decide) (by omega)]; exact u4
  · rw [g6 150 5 (by decide) (by omega), g6 162 16 (by decide) (by omega)]; exact u5
  · rw [g6 150 5 (by decide) (by omega), g6 162 17 (by decide) (by omega)]; exact u6
theorem cl_all_162 (h : cl_ch 73 162 S Z) : w2_I Z ∧ cl_V 73 162 S Z ∧ ∀ (j : Nat) (i : Int), cl_fr 162 j i → Z j i = S j i := by
  obtain ⟨Z2, Z3, Z4, Z5, w2, wc, cc, hc, lc, rfl⟩ := h
  refine ⟨?_, ⟨?_, ?_, ?_, ?_, ?_, ?_, ?_⟩, ?_⟩
  · refine w2_ag w2 (fun x hx => funext fun y => ?_)
    exact ((tc_fr (j := (2 + x)) (i := y) (by omega))).trans (((lc.2.2 (2 + x) y (by omega) (by omega) (by omega))).trans (((hc.2.2 (2 + x) y (by omega))).trans ((cc.2.2 (2 + x) y (by omega) (by omega)))))
  · exact ⟨((tc_fr (j := 0) (i := 1) (by omega))).trans (((lc.2.2 0 1 (by omega) (by omega) (by omega))).trans (((hc.2.2 0 1 (by omega))).trans (((cc.2.2 0 1 (by omega) (by omega))).trans (((wc.2.2 0 1 (by omega))).trans ((w_up_no (by omega)).trans (w_up_same _ _ _ _)))))), ((tc_fr (j := 0) (i := 10) (by omega))).trans (((lc.2.2 0 10 (by omega) (by omega) (by omega))).trans (((hc.2.2 0 10 (by omega))).trans (((cc.2.2 0 10 (by omega) (by omega))).trans (((wc.2.2 0 10 (by omega))).trans (w_up_same _ _ _ _))))), ((tc_fr (j := 72) (i := 1) (by omega))).trans (((lc.2.2 72 1 (by omega) (by omega) (by omega))).trans (hc.1.2.2.1))⟩
  · exact ⟨⟨((tc_fr (j := 2) (i := 1) (by omega))).trans (((lc.2.2 2 1 (by omega) (by omega) (by omega))).trans (((hc.2.2 2 1 (by omega))).trans (((cc.2.2 2 1 (by omega) (by omega))).trans (wc.1.1)))), ((tc_fr (j := 2) (i := 7) (by omega))).trans (((lc.2.2 2 7 (by omega) (by omega) (by omega))).trans (((hc.2.2 2 7 (by omega))).trans (((cc.2.2 2 7 (by omega) (by omega))).trans (wc.1.2.1)))), ((tc_fr (j := 2) (i := 10) (by omega))).trans (((lc.2.2 2 10 (by omega) (by omega) (by omega))).trans (((hc.2.2 2 10 (by omega))).trans (((cc.2.2 2 10 (by omega) (by omega))).trans (wc.1.2.2.1)))), ((tc_fr (j := 2) (i := 12) (by omega))).trans (((lc.2.2 2 12 (by omega) (by omega) (by omega))).trans (((hc.2.2 2 12 (by omega))).trans (((cc.2.2 2 12 (by omega) (by omega))).trans (wc.1.2.2.2))))⟩, fun k k0 k1 => ⟨((tc_fr (j := 7) (i := k) (by omega))).trans (((lc.2.2 7 k (by omega) (by omega) (by omega))).trans (((hc.2.2 7 k (by omega))).trans (((cc.2.2 7 k (by omega) (by omega))).trans ((wc.2.1 k k0 k1).1)))), ((tc_fr (j := 8) (i := k) (by omega))).trans (((lc.2.2 8 k (by omega) (by omega) (by omega))).trans (((hc.2.2 8 k (by omega))).trans (((cc.2.2 8 k (by omega) (by omega))).trans ((wc.2.1 k k0 k1).2))))⟩⟩
  · refine ⟨⟨((tc_fr (j := 19) (i := 1) (by omega))).trans (((lc.2.2 19 1 (by omega) (by omega) (by omega))).trans (((hc.2.2 19 1 (by omega))).trans (cc.1.1))), ((tc_fr (j := 19) (i := 3) (by omega))).trans (((lc.2.2 19 3 (by omega) (by omega) (by omega))).trans (((hc.2.2 19 3 (by omega))).trans (cc.1.2.1))), ((tc_fr (j := 19) (i := 7) (by omega))).trans (((lc.2.2 19 7 (by omega) (by omega) (by omega))).trans (((hc.2.2 19 7 (by omega))).trans (cc.1.2.2.1))), ((tc_fr (j := 19) (i := 9) (by omega))).trans (((lc.2.2 19 9 (by omega) (by omega) (by omega))).trans (((hc.2.2 19 9 (by omega))).trans (cc.1.2.2.2.1))), ((tc_fr (j := 19) (i := 11) (by omega))).trans (lc.1.2.2), ((tc_fr (j := 19) (i := 12) (by omega))).trans (((lc.2.2 19 12 (by omega) (by omega) (by omega))).trans (((hc.2.2 19 12 (by omega))).trans (cc.1.2.2.2.2.2.1))), ((tc_fr (j := 19) (i := 16) (by omega))).trans (((lc.2.2 19 16 (by omega) (by omega) (by omega))).trans (((hc.2.2 19 16 (by omega))).trans (cc.1.2.2.2.2.2.2)))⟩, fun k k0 k1 => ((tc_fr (j := 60) (i := k) (by omega))).trans (((lc.2.2 60 k (by omega) (by omega) (by omega))).trans (((hc.2.2 60 k (by omega))).trans (cc.2.1 k k0 ?_)))⟩
    rw [show Z2 60 (-1) = S 60 (-1) from ((wc.2.2 60 (-1) (by omega))).trans (((w_up_no (by omega)).trans (w_up_no (by omega))))]; exact k1
  · have e1 : Z3 150 5 = S 150 5 := ((cc.2.2 150 5 (by omega) (by omega))).trans (((wc.2.2 150 5 (by omega))).trans (((w_up_no (by omega)).trans (w_up_no (by omega)))))
    have e2 : Z3 73 16 = S 73 16 := ((cc.2.2 73 16 (by omega) (by omega))).trans (((wc.2.2 73 16 (by omega))).trans (((w_up_no (by omega)).trans (w_up_no (by omega)))))
    obtain ⟨x1, x2, x3, x4, x5, x6, x7, x8, x9, x10, x11, x12, x13, x14, x15⟩ := hc.1
    rw [e1, e2] at x1 x2
    exact ⟨⟨((tc_fr (j := 150) (i := 5) (by omega))).trans (((lc.2.2 150 5 (by omega) (by omega) (by omega))).trans (x1)), ((tc_fr (j := 162) (i := 17) (by omega))).trans (((lc.2.2 162 17 (by omega) (by omega) (by omega))).trans (x2))⟩, ⟨((tc_fr (j := 72) (i := 3) (by omega))).trans (((lc.2.2 72 3 (by omega) (by omega) (by omega))).trans (x4)), ((tc_fr (j := 72) (i := 5) (by omega))).trans (((lc.2.2 72 5 (by omega) (by omega) (by omega))).trans (x5)), ((tc_fr (j := 72) (i := 8) (by omega))).trans (((lc.2.2 72 8 (by omega) (by omega) (by omega))).trans (x6)), ((tc_fr (j := 72) (i := 11) (by omega))).trans (((lc.2.2 72 11 (by omega) (by omega) (by omega))).trans (x7)), ((tc_fr (j := 72) (i := 13) (by omega))).trans (((lc.2.2 72 13 (by omega) (by omega) (by omega))).trans (x8)), ((tc_fr (j := 72) (i := 15) (by omega))).trans (((lc.2.2 72 15 (by omega) (by omega) (by omega))).trans (x9))⟩, ⟨((tc_fr (j := 140) (i := 2) (by omega))).trans (((lc.2.2 140 2 (by omega) (by omega) (by omega))).trans (x10)), ((tc_fr (j := 153) (i := 2) (by omega))).trans (((lc.2.2 153 2 (by omega) (by omega) (by omega))).trans (x11)), ((tc_fr (j := 144) (i := 0) (by omega))).trans (((lc.2.2 144 0 (by omega) (by omega) (by omega))).trans (x12)), ((tc_fr (j := 145) (i := 0) (by omega))).trans (((lc.2.2 145 0 (by omega) (by omega) (by omega))).trans (x13)), ((tc_fr (j := 146) (i := 0) (by omega))).trans (((lc.2.2 146 0 (by omega) (by omega) (by omega))).trans (x14)), ((tc_fr (j := 147) (i := 0) (by omega))).trans (((lc.2.2 147 0 (by omega) (by omega) (by omega))).trans (x15))⟩, fun k k0 k1 => ((tc_fr (j := 149) (i := k) (by omega))).trans (((lc.2.2 149 k (by omega) (by omega) (by omega))).trans (hc.2.1 k k0 k1))⟩
  · refine ⟨⟨((tc_fr (j := 158) (i := 19) (by omega))).trans (lc.1.1), ((tc_fr (j := 158) (i := 14) (by omega))).trans (lc.1.2.1)⟩, fun k k0 k1 => ((tc_fr (j := 160) (i := k) (by omega))).trans (lc.2.1 k k0 ?_)⟩
    rw [show Z4 160 (-1) = S 160 (-1) from ((hc.2.2 160 (-1) (by omega))).trans (((cc.2.2 160 (-1) (by omega) (by omega))).trans (((wc.2.2 160 (-1) (by omega))).trans (((w_up_no (by omega)).trans (w_up_no (by omega))))))]; exact k1
  · exact ⟨rfl, rfl, rfl, rfl⟩
  · exact ⟨rfl, rfl, rfl, rfl⟩
  · intro j i hf
    rcases hf with hf | ⟨f1, f2, f3, f4, f5, f6, f7, f8, f9⟩
    · exact (tc_fr (Or.inl hf)).trans ((lc.2.2 j i (by omega) (by omega) (by omega)).trans ((hc.2.2 j i (Or.inl hf)).trans ((cc.2.2 j i (by omega) (by omega)).trans ((wc.2.2 j i (Or.inl hf)).trans ((w_up_no (by omega)).trans (w_up_no (by omega)))))))
    · exact (tc_fr (Or.inr f9)).trans ((lc.2.2 j i f6 f7 (Or.inl f8)).trans ((hc.2.2 j i (Or.inr f5)).trans ((cc.2.2 j i f3 (Or.inl f4)).trans ((wc.2.2 j i (Or.inr f2)).trans ((w_up_no (fun z => f1.elim (fun y => y z.1) (fun y => y.2 z.2))).trans (w_up_no (fun z => f1.elim (fun y => y z.1) (fun y => y.1 z.2))))))))
theorem cl_W_162 {Zr : wS} (hW : cW S) (hH : cH 73 162 S) (hP : hs_P 162 163 206 207 214 S Zr) (hr : rmR S Zr) (hc : cl_ch 73 162 Zr Z) : cW Z ∧ cH 162 73 Z ∧ rmR S Z := by
  obtain ⟨c1, c2, c3⟩ := cl_all_162 hc
  obtain ⟨k1, k2, k3, k4, k5, k6, ⟨k7, k7a, k7b⟩, k8, k9, k10, k11⟩ := hW
  obtain ⟨u1, u2, u3, u4, u5, u6⟩ := hH
  obtain ⟨p1, p2, p3, p4, p5, p6, p7, p8, -⟩ := hP
  obtain ⟨⟨v1, v2, v3⟩, -, -, ⟨⟨v4, v5⟩, -⟩, -⟩ := c2
  have hl : ∀ j : Nat, Z j (-1) = Zr j (-1) := fun j => c3 j (-1) (Or.inl (by decide))
  have e150 : Zr 150 5 = S 150 5 := p1 150 5 (by decide) (by decide) (by decide) (by decide) (by decide) (by decide)
  have e16 : Zr 73 16 = S 73 16 := p1 73 16 (by decide) (by decide) (by decide) (by decide) (by decide) (by decide)
  have ew : ∀ (y x : Nat), (y = 74 ∨ y = 163) → x ≤ 10 → Z (y + x) = Zr (y + x) := fun y x hy hx => funext fun i => c3 (y + x) i (cl_fr_lo (fun _ => by omega) (by decide))
  have ef : ∀ j : Nat, j < 4000000 → j ≠ wG → (j < 14 ∨ 18 < j) → j ≠ 61 → j ≠ 62 → (j < 162 ∨ 214 < j) → Z j (-1) = S j (-1) := fun j e1 e2 e3 e4 e5 e6 => (hl j).trans (p1 j (-1) e1 e2 e3 e4 e5 e6)
  have hp2 : hi_I 74 117 118 Zr := hi_ag k4 (fun x hx => funext fun y => p1 (74 + x) y (by omega) (by unfold wG; omega) (by omega) (by omega) (by omega) (by omega)) (p1 117 (-1) (by decide) (by decide) (by decide) (by decide) (by decide) (by decide)) (p1 118 (-1) (by decide) (by decide) (by decide) (by decide) (by decide) (by decide))
  have hq1 : hi_I 163 206 207 Z := hi_ag p2 (fun x hx => ew 163 x (by omega) hx) (hl 206) (hl 207)
  have hq2 : hi_I 74 117 118 Z := hi_ag hp2 (fun x hx => ew 74 x (by omega) hx) (hl 117) (hl 118)
  refine ⟨⟨fun y hy => (hl y.1).trans (p3 y hy), gI_ag2 p4 (fun j _ => hl j) (fun x hx => c3 238 (x : Int) (cl_fr_lo (fun _ => by omega) (by decide))) (c3 14 5 (cl_fr_lo (fun _ => by omega) (by decide))), c1, hq2, hq1, ?_, ⟨(ef 161 (by decide) (by decide) (by decide) (by decide) (by decide) (by decide)).trans k7, (c3 161 0 (cl_fr_lo (fun _ => by omega) (by decide))).trans ((p1 161 0 (by decide) (by decide) (by decide) (by decide) (by decide) (by decide)).trans k7a), (c3 161 1 (cl_fr_lo (fun _ => by omega) (by decide))).trans ((p1 161 1 (by decide) (by decide) (by decide) (by decide) (by decide) (by decide)).trans k7b)⟩, ?_, fun i i0 i1 => by omega, ?_, ?_⟩, ⟨v3, v2, ?_, ?_, ?_, ?_⟩, ?_⟩
  · unfold hs_R; rw [hl 15, hl 16, hl 17]; exact p5
  · rw [v1, ef 1 (by decide) (by decide) (by decide) (by decide) (by decide) (by decide)]; omega
  · rw [ef 48 (by decide) (by decide) (by decide) (by decide) (by decide) (by decide)]; exact k10
  · rw [ef 144 (by decide) (by decide) (by decide) (by decide) (by decide) (by decide), ef 145 (by decide) (by decide) (by decide) (by decide) (by decide) (by decide), ef 146 (by decide) (by decide) (by decide) (by decide) (by decide) (by decide), ef 147 (by decide) (by decide) (by decide) (by decide) (by decide) (by decide), ef 148 (by decide) (by decide) (by decide) (by decide) (by decide) (by decide)]; exact k11
  · rw [v4, e150, e16]; omega
  · rw [c3 162 16 (cl_fr_lo (fun _ => by omega) (by decide)), p6.1]; omega
  · rw [c3 162 16 (cl_fr_lo (fun _ => by omega) (by decide)), p6.1, v4, e150, e16]; omega
  · rw [v5, v4]
  · exact rmR_ag hr (fun k _ => hl k) (c3 wG 0 (cl_fr_lo (fun h => absurd h (by decide)) (by decide))) (c3 wG 1 (cl_fr_lo (fun h => absurd h (by decide)) (by decide)))
theorem no_W_162 {Zr : wS} (hW : cW S) (hH : cH 73 162 S) (hP : hs_P 162 163 206 207 214 S Zr) : cW (w_up Zr 0 1 0) ∧ cH 73 162 (w_up Zr 0 1 0) := by
  obtain ⟨k1, k2, k3, k4, k5, k6, ⟨k7, k7a, k7b⟩, k8, k9, k10, k11⟩ := hW
  obtain ⟨u1, u2, u3, u4, u5, u6⟩ := hH
  obtain ⟨p1, p2, p3, p4, p5, p6, p7, p8, -⟩ := hP
  have hl : ∀ j : Nat, w_up Zr 0 1 0 j (-1) = Zr j (-1) := fun j => w_up_at (by decide)
  have hs : ∀ j : Nat, 0 < j → w_up Zr 0 1 0 j = Zr j := fun j hj => funext fun i => w_up_slot (by omega)
  have ef : ∀ j : Nat, j < 4000000 → j ≠ wG → (j < 14 ∨ 18 < j) → j ≠ 61 → j ≠ 62 → (j < 162 ∨ 214 < j) → w_up Zr 0 1 0 j (-1) = S j (-1) := fun j e1 e2 e3 e4 e5 e6 => (hl j).trans (p1 j (-1) e1 e2 e3 e4 e5 e6)
  have eg : ∀ (j : Nat) (i : Int), 0 < j → j < 4000000 → j ≠ wG → (j < 14 ∨ 18 < j) → j ≠ 61 → j ≠ 62 → (j < 162 ∨ 214 < j) → w_up Zr 0 1 0 j i = S j i := fun j i e0 e1 e2 e3 e4 e5 e6 => (w_up_slot (by omega)).trans (p1 j i e1 e2 e3 e4 e5 e6)
  have hp2 : hi_I 74 117 118 (w_up Zr 0 1 0) := hi_ag k4 (fun x hx => funext fun y => eg (74 + x) y (by omega) (by omega) (by unfold wG; omega) (by omega) (by omega) (by omega) (by omega)) (ef 117 (by decide) (by decide) (by decide) (by decide) (by decide) (by decide)) (ef 118 (by decide) (by decide) (by decide) (by decide) (by decide) (by decide))
  have hp1 : hi_I 163 206 207 (w_up Zr 0 1 0) := hi_ag p2 (fun x hx => hs (163 + x) (by omega)) (hl 206) (hl 207)
  have g6 : ∀ (j : Nat) (i : Int), 0 < j → (j = 72 ∨ j = 150 ∨ j = 161 ∨ j = 73) → w_up Zr 0 1 0 j i = S j i := fun j i e0 e1 => eg j i e0 (by omega) (by unfold wG; omega) (by omega) (by omega) (by omega) (by omega)
  refine ⟨⟨fun y hy => (hl y.1).trans (p3 y hy), gI_up p4 (by decide) (Or.inl (by decide)) (Or.inl (Or.inl (by decide))), ?_, hp2, hp1, ?_, ⟨(ef 161 (by decide) (by decide) (by decide) (by decide) (by decide) (by decide)).trans k7, (g6 161 0 (by decide) (by omega)).trans k7a, (g6 161 1 (by decide) (by omega)).trans k7b⟩, ?_, fun i i0 i1 => by rw [w_up_same] at i1; omega, ?_, ?_⟩, ⟨(g6 72 1 (by decide) (by omega)).trans u1, ?_, ?_, ?_, ?_, ?_⟩⟩
  · exact w2_ag k3 (fun x hx => funext fun y => eg (2 + x) y (by omega) (by omega) (by unfold wG; omega) (by omega) (by omega) (by omega) (by omega))
  · unfold hs_R; rw [hl 15, hl 16, hl 17]; exact p5
  · rw [w_up_same, ef 1 (by decide) (by decide) (by decide) (by decide) (by decide) (by decide)]; omega
  · rw [ef 48 (by decide) (by decide) (by decide) (by decide) (by decide) (by decide)]; exact k10
  · rw [ef 144 (by decide) (by decide) (by decide) (by decide) (by decide) (by decide), ef 145 (by decide) (by decide) (by decide) (by decide) (by decide) (by decide), ef 146 (by decide) (by decide) (by decide) (by decide) (by decide) (by decide), ef 147 (by decide) (by decide) (by decide) (by decide) (by decide) (by decide), ef 148 (by decide) (by decide) (by decide) (by decide) (by decide) (by decide)]; exact k11
  · exact (w_up_at (by decide)).trans ((p1 0 10 (by decide) (by decide) (by decide) (by decide) (by decide) (by decide)).trans u2)
  · rw [g6 150 5 (by decide) (by omega)]; exact u3
  · rw [g6 73 16 (by decide) (by omega)]; exact u4
  · rw [g6 150 5 (by decide) (by omega), g6 73 16 (by decide) (by omega)]; exact u5
  · rw [g6 150 5 (by decide) (by omega), g6 73 17 (by decide) (by omega)]; exact u6
end Wah
