/-! PART d0: the class's words behind a compile. -/
section Wd0
variable {xs : List (Nat × List Int32)} {M : Nat → Prop} {d : Nat} {A B C S Z : wS} {Q : wO → wS → Prop}
variable {f0 u a b op : Int} {I : List pz_I} {F : List pz_F} {x : pz_I} {k r : Nat}
variable {n : Int} {T : Int → Int} {N X : List (List Int)} {c : Nat} {Z1 : wS}
theorem cB_o {j : Nat} {y : Int} (h : j ≠ 63 ∧ j ≠ 11 ∧ j ≠ 14) : cB n S j y = S j y := by
  unfold cB
  repeat (rw [w_up_slot (by omega)])
theorem cB_11 {y : Int} (h : y < 0) : cB n S 11 y = S 11 y := by
  unfold cB
  repeat (rw [w_up_no (by omega)])
theorem cB_m : cB n S 11 0 = S 2 1 ∧ cB n S 11 1 = S 2 7 ∧ cB n S 11 2 = S 2 10 ∧ cB n S 11 3 = S 2 12 := ⟨rfl, rfl, rfl, rfl⟩
/-- the words of the language and the lists of names and texts, as they rest -/
def cN (N X : List (List Int)) (S : wS) : Prop := w2_I S ∧ r2_I S ∧ cL 9 10 N S ∧ cL 10 12 X S
theorem wqL_eq {x : List Int} {k : Int} (h : wqL S x k) (e : Z 3 = S 3 ∧ Z 4 = S 4 ∧ Z 5 = S 5) : wqL Z x k := by
  unfold wqL at h ⊢
  rw [e.1, e.2.1, e.2.2]
  exact h
theorem cL_eq {nm : Nat} {f : Int} {L : List (List Int)} (h : cL nm f L S) (e : ∀ x : Nat, x ≤ 10 → Z (2 + x) = S (2 + x)) (hnm : nm = 9 ∨ nm = 10) : cL nm f L Z := by
  have e0 : Z 2 = S 2 := e 0 (by decide)
  have en : Z nm = S nm := by
    have := e (nm - 2) (by omega)
    rw [show 2 + (nm - 2) = nm by omega] at this
    exact this
  refine ⟨by rw [e0]; exact h.1, fun k hk => ?_⟩
  obtain ⟨a1, a2⟩ := h.2 k hk
  rw [en, e0]
  exact ⟨a1, wqL_eq a2 ⟨e 1 (by decide), e 2 (by decide), e 3 (by decide)⟩⟩
/-- behind a program that was read -/
theorem cN_s (h : cN N X S) (hrq : rq_I T n N X (cB n S) A c) (e : ∀ x : Nat, x ≤ 10 → Z (2 + x) = A (2 + x)) : cN (NL T n N c) (XL T n X c) Z := by
  obtain ⟨⟨h1, h2, h3, ⟨h4, h5⟩, ⟨h6, h7⟩, h8, h9⟩, h10, h11, h12⟩ := h
  obtain ⟨g, q1, q2, q3, q4, q5, q6, q7, q8, q9⟩ := hrq
  have er : ∀ j : Nat, (j < 11 ∨ j = 12) → cB n S j = S j := fun j hj => funext fun y => cB_o (by omega)
  have hWB : wd_at (cB n S) 2 1024 := by
    unfold wd_at
    rw [er (2 + 1) (by omega), er (2 + 2) (by omega), er (2 + 3) (by omega), er (2 + 4) (by omega), er (2 + 10) (by omega), er 2 (by omega)]
    exact h1
  have e0 : Z 2 = A 2 := e 0 (by decide)
  have e4 : Z 4 = A 4 := e 2 (by decide)
  have e5 : Z 5 = A 5 := e 3 (by decide)
  have e11 : Z 11 = A 11 := e 9 (by decide)
  have hg := g
  obtain ⟨⟨b1, b2, b3, b4, b5⟩, b6, b7, b8, b9, b10, b11, b12, b13, b14, b15, b16, b17, b18⟩ := hg
  have a2 : ∀ y : Int, y ≠ 1 → y ≠ 7 → y ≠ 10 → y ≠ 12 → A 2 y = S 2 y := fun y y1 y2 y3 y4 => (b12 2 y (by decide) (by decide) (by omega)).trans (congrFun (er 2 (by omega)) y)
  rw [er 2 (by omega)] at b1 b2 b6
  refine ⟨⟨wd_at_ag b13 e, wdL_ag b14 e, wvL_ag b15 e, ⟨by rw [e0, a2 14 (by decide) (by decide) (by decide) (by decide)]; exact h4, by rw [e0, a2 15 (by decide) (by decide) (by decide) (by decide)]; exact h5⟩, ⟨by rw [e0]; omega, by rw [e0]; omega⟩, ?_, fun k k0 k1 => ?_⟩, fun k hk => ?_, cL_eq q8 e (Or.inl rfl), cL_eq q9 e (Or.inr rfl)⟩
  · rw [e11, b12 11 (-1) (by decide) (by decide) (by omega), cB_11 (by decide)]; exact h8
  · rw [e4, e5, (b6 k k0 (by omega)).1, (b6 k k0 (by omega)).2, er 4 (by omega), er 5 (by omega)]
    exact h9 k k0 k1
  · have h2r : r2_I (cB n S) := fun k hk => wqL_eq (h10 k hk) ⟨er 3 (by omega), er 4 (by omega), er 5 (by omega)⟩
    exact wqL_eq (r2_ag hWB (by rw [er 2 (by omega)]; exact h6) h2r g k hk) ⟨e 1 (by decide), e 2 (by decide), e 3 (by decide)⟩
/-- behind a refused one -/
theorem cN_f (h : cN N X S) (hrq : rq_I T n N X (cB n S) A c) (e : ∀ x : Nat, x ≤ 10 → Z1 (2 + x) = A (2 + x)) (ht : tb_ag 2 1024 Z1 Z) : cN N X Z ∧ (Z 2 7 = S 2 7 ∧ Z 2 1 = S 2 1) := by
  obtain ⟨⟨h1, h2, h3, ⟨h4, h5⟩, ⟨h6, h7⟩, h8, h9⟩, h10, h11, h12⟩ := h
  obtain ⟨g, q1, q2, q3, q4, q5, q6, q7, q8, q9⟩ := hrq
  have er : ∀ j : Nat, (j < 11 ∨ j = 12) → cB n S j = S j := fun j hj => funext fun y => cB_o (by omega)
  have hWB : wd_at (cB n S) 2 1024 := by
    unfold wd_at
    rw [er (2 + 1) (by omega), er (2 + 2) (by omega), er (2 + 3) (by omega), er (2 + 4) (by omega), er (2 + 10) (by omega), er 2 (by omega)]
    exact h1
  have e0 : Z1 2 = A 2 := e 0 (by decide)
  have e3 : Z1 3 = A 3 := e 1 (by decide)
  have e4 : Z1 4 = A 4 := e 2 (by decide)
  have e5 : Z1 5 = A 5 := e 3 (by decide)
  have e9 : Z1 9 = A 9 := e 7 (by decide)
  have e10 : Z1 10 = A 10 := e 8 (by decide)
  have e11 : Z1 11 = A 11 := e 9 (by decide)
  have hg := g
  obtain ⟨⟨b1, b2, b3, b4, b5⟩, b6, b7, b8, b9, b10, b11, b12, b13, b14, b15, b16, b17, b18⟩ := hg
  have a2 : ∀ y : Int, y ≠ 1 → y ≠ 7 → y ≠ 10 → y ≠ 12 → A 2 y = S 2 y := fun y y1 y2 y3 y4 => (b12 2 y (by decide) (by decide) (by omega)).trans (congrFun (er 2 (by omega)) y)
  have a11 : ∀ y : Int, A 11 y = cB n S 11 y := fun y => b12 11 y (by decide) (by decide) (by omega)
  rw [er 2 (by omega)] at b1 b2 b4 b5 b6 b7 b8 b9
  rw [er 3 (by omega)] at b7
  rw [er 4 (by omega), er 5 (by omega)] at b6
  rw [er 9 (by omega)] at b8
  rw [er 10 (by omega)] at b9
  have m0 : Z1 11 0 = S 2 1 := by rw [e11, a11]; exact cB_m.1
  have m1 : Z1 11 1 = S 2 7 := by rw [e11, a11]; exact cB_m.2.1
  have m2 : Z1 11 2 = S 2 10 := by rw [e11, a11]; exact cB_m.2.2.1
  have m3 : Z1 11 3 = S 2 12 := by rw [e11, a11]; exact cB_m.2.2.2
  have ml : Z1 11 (-1) = 4 := by rw [e11, a11, cB_11 (by decide)]; exact h8
  have n1 := h3.1.1
  have n2 := h3.2.1.1
  have z1 : Z1 2 1 = A 2 1 := by rw [e0]
  have z7 : Z1 2 7 = A 2 7 := by rw [e0]
  have z10 : Z1 2 10 = A 2 10 := by rw [e0]
  have z12 : Z1 2 12 = A 2 12 := by rw [e0]
  have w1 := h1.2.1.1
  have w7 := h1.1.1
  have hmk : mk_I Z1 2 := ⟨ml, ⟨by show 0 ≤ Z1 11 0; rw [m0]; exact w1, by show Z1 11 0 ≤ Z1 2 1; omega⟩, ⟨by show 0 ≤ Z1 11 1; rw [m1]; exact w7, by show Z1 11 1 ≤ Z1 2 7; omega⟩, ⟨by show 0 ≤ Z1 11 2; omega, by show Z1 11 2 ≤ Z1 2 10; omega⟩, ⟨by show 0 ≤ Z1 11 3; omega, by show Z1 11 3 ≤ Z1 2 12; omega⟩⟩
  have hW1 := wd_at_ag b13 e
  have hL1 := wdL_ag b14 e
  have hV1 := wvL_ag b15 e
  have hW := tb_W hW1 ht hmk (fun k k0 k1 => by
    have k2 : k < S 2 7 := by rw [show Z1 (2 + 9) 1 = S 2 7 from m1] at k1; exact k1
    show Z1 4 k + Z1 5 k ≤ Z1 11 0
    rw [e4, e5, (b6 k k0 k2).1, (b6 k k0 k2).2, m0]
    exact (h1.2.2.1 k k0 k2).2.2.2)
  have hL := tb_L hL1 ht
  obtain ⟨⟨t1, t2, t3, t4⟩, t5, t6, -, t7⟩ := ht
  have t1 : Z 2 1 = S 2 1 := t1.trans m0
  have t2 : Z 2 7 = S 2 7 := t2.trans m1
  have t3 : Z 2 10 = S 2 10 := t3.trans m2
  have t4 : Z 2 12 = S 2 12 := t4.trans m3
  rw [show Z1 (2 + 9) 2 = S 2 10 from m2] at t5
  rw [show Z1 (2 + 9) 3 = S 2 12 from m3] at t6
  have zr : ∀ j : Nat, (j = 3 ∨ j = 4 ∨ j = 5 ∨ j = 6 ∨ j = 9 ∨ j = 10 ∨ j = 11) → Z j = Z1 j := fun j hj => funext fun y => t7 j y (by omega)
  have k9 : ∀ y : Int, 0 ≤ y → y < S 2 10 → Z 9 y = S 9 y := fun y y0 y1 => by rw [zr 9 (by omega), e9]; exact b8 y y0 y1
  have k10 : ∀ y : Int, 0 ≤ y → y < S 2 12 → Z 10 y = S 10 y := fun y y0 y1 => by rw [zr 10 (by omega), e10]; exact b9 y y0 y1
  have v1 : wv_I (Z 7) (Z 9) (S 2 10) (S 2 7) := by
    rw [zr 9 (by omega)]
    exact tb_V hV1.1 t5 ⟨n1, by omega⟩ (by show S 2 7 ≤ Z1 2 7; omega) (fun y y0 y1 => by
      show Z1 9 y < S 2 7
      rw [e9, b8 y y0 y1]
      exact (h3.1.2.1 y y0 y1).2.1)
  have v2 : wv_I (Z 8) (Z 10) (S 2 12) (S 2 7) := by
    rw [zr 10 (by omega)]
    exact tb_V hV1.2.1 t6 ⟨n2, by omega⟩ (by show S 2 7 ≤ Z1 2 7; omega) (fun y y0 y1 => by
      show Z1 10 y < S 2 7
      rw [e10, b9 y y0 y1]
      exact (h3.2.1.2.1 y y0 y1).2.1)
  obtain ⟨-, -, u1, u2, u3, u4, -, -⟩ := hV1
  have l9 : Z 9 (-1) = Z1 9 (-1) := by rw [zr 9 (by omega)]
  have l10 : Z 10 (-1) = Z1 10 (-1) := by rw [zr 10 (by omega)]
  have hV : wv_L Z 2 := by
    refine ⟨by show wv_I (Z 7) (Z 9) (Z 2 10) (Z 2 7); rw [t3, t2]; exact v1, by show wv_I (Z 8) (Z 10) (Z 2 12) (Z 2 7); rw [t4, t2]; exact v2, ?_, ?_, ?_, ?_, ?_, ?_⟩
    · show Z 2 10 ≤ Z 9 (-1); have : Z1 2 10 ≤ Z1 9 (-1) := u1; omega
    · show Z 2 12 ≤ Z 10 (-1); have : Z1 2 12 ≤ Z1 10 (-1) := u2; omega
    · show 64 ≤ Z 9 (-1) ∧ Z 9 (-1) ≤ 8192; rw [l9]; exact u3
    · show 64 ≤ Z 10 (-1) ∧ Z 10 (-1) ≤ 8192; rw [l10]; exact u4
    · rw [t3]; exact h3.2.2.2.2.2.2.1
    · rw [t4]; exact h3.2.2.2.2.2.2.2
  have hq : ∀ (x : List Int) (k : Int), 0 ≤ k → k < S 2 7 → wqL S x k → wqL Z x k := fun x k k0 k1 hx => by
    have hxB : wqL (cB n S) x k := wqL_eq hx ⟨er 3 (by omega), er 4 (by omega), er 5 (by omega)⟩
    have hxA : wqL A x k := wqL_rp hWB g ⟨k0, by rw [er 2 (by omega)]; exact k1⟩ hxB
    exact wqL_eq (wqL_eq (Z := Z1) hxA ⟨e3, e4, e5⟩) ⟨zr 3 (by omega), zr 4 (by omega), zr 5 (by omega)⟩
  refine ⟨⟨⟨hW, hL, hV, ⟨?_, ?_⟩, ⟨by rw [t2]; exact h6, by rw [t1]; exact h7⟩, ?_, fun k k0 k1 => ?_⟩, fun k hk => hq _ _ (by omega) (by omega) (h10 k hk), ⟨t3.trans h11.1, fun k hk => ?_⟩, ⟨t4.trans h12.1, fun k hk => ?_⟩⟩, t2, t1⟩
  · rw [t7 2 14 (by omega), e0, a2 14 (by decide) (by decide) (by decide) (by decide)]; exact h4
  · rw [t7 2 15 (by omega), e0, a2 15 (by decide) (by decide) (by decide) (by decide)]; exact h5
  · rw [zr 11 (by omega)]; exact ml
  · rw [zr 4 (by omega), zr 5 (by omega), e4, e5, (b6 k k0 (by omega)).1, (b6 k k0 (by omega)).2]
    exact h9 k k0 k1
  · obtain ⟨a1, a3⟩ := h11.2 k hk
    have hk2 : (k : Int) < S 2 10 := by rw [h11.1]; omega
    rw [k9 _ (by omega) hk2, t2]
    exact ⟨a1, hq _ _ a1.1 a1.2 a3⟩
  · obtain ⟨a1, a3⟩ := h12.2 k hk
    have hk2 : (k : Int) < S 2 12 := by rw [h12.1]; omega
    rw [k10 _ (by omega) hk2, t2]
    exact ⟨a1, hq _ _ a1.1 a1.2 a3⟩
end Wd0
