/-! PART dn: a task of the class; its pile. -/
section Wdn
variable {S Z : wS} {K : aK} {k v : Int} {a : aV} {w : Nat}
/-- a task with another pile -/
theorem cTk_p {l : List aV} (h : cTk w S K) (e : cTx S Z) (f : ∀ (j : Nat) (x : Int), ((j = w ∧ (x = 4 ∨ x = 12 ∨ x = 13 ∨ x = 14 ∨ x = 15)) ∨ (w + 4 ≤ j ∧ j ≤ w + 10)) → Z j x = S j x) (hp : Z (w + 1) 2 = (l.length : Int) ∧ cR1 Z (w + 2) (w + 3) 0 l ∧ ((l.length : Int) ≤ Z (w + 2) (-1) ∧ Z (w + 3) (-1) = Z (w + 2) (-1) ∧ 64 ≤ Z (w + 2) (-1) ∧ Z (w + 2) (-1) ≤ 4095)) : cTk w Z (l, K.2) := by
  obtain ⟨-, ⟨b1, b2, b3⟩, ⟨c1, c2, c3, c4, c5⟩, d1, d2⟩ := h
  have f4 := f w 4 (by omega)
  have f12 := f w 12 (by omega)
  have f13 := f w 13 (by omega)
  have f14 := f w 14 (by omega)
  have f15 := f w 15 (by omega)
  have r : ∀ (j : Nat) (x : Int), w + 4 ≤ j → j ≤ w + 10 → Z j x = S j x := fun j x j0 j1 => f j x (Or.inr ⟨j0, j1⟩)
  refine ⟨hp, ⟨f4.trans b1, b2, fun i hi => ?_⟩, ⟨f12.trans c1, ?_, ?_, ?_, fun i hi => ?_⟩, f13.trans d1, fun q => ?_⟩
  · rw [r (w + 4) _ (by omega) (by omega), r (w + 5) _ (by omega) (by omega), r (w + 6) _ (by omega) (by omega), r (w + 7) _ (by omega) (by omega), r (w + 8) _ (by omega) (by omega), r (w + 9) _ (by omega) (by omega)]
    obtain ⟨g1, g2, g3⟩ := b3 i hi
    exact ⟨g1, cVl_mo g2 e, g3⟩
  · rw [r (w + 10) _ (by omega) (by omega)]; exact c2
  · rw [r (w + 10) _ (by omega) (by omega)]; exact c3
  · rw [r (w + 10) _ (by omega) (by omega)]; exact c4
  · rw [r (w + 10) _ (by omega) (by omega), r (w + 10) _ (by omega) (by omega), r (w + 10) _ (by omega) (by omega)]; exact c5 i hi
  · rw [f14, f15]; exact cVl_mo (d2 q) e
/-- a value is added -/
theorem cTk_pu (h : cTk w S K) (hw : w = 215 ∨ w = 226) (hr : ra_ag (w + 1) (w + 2) (w + 3) S Z k v) (hv : cVl S k v a) (hl : K.1.length ≤ 2047) : cTk w Z (K.1 ++ [a], K.2) := by
  obtain ⟨⟨p1, p2, p3, p4, p5, p6⟩, -⟩ := id h
  obtain ⟨r1, ⟨r2, r3⟩, r4, r5, ⟨r6, r7, r8⟩, -, -⟩ := hr
  have hg : wG = 1000000 := rfl
  have e : cTx S Z := ⟨by rw [r5 2 1 (by decide) (by decide) (by omega) (by omega) (by omega)]; exact Int.le_refl _, fun x _ _ => r5 3 x (by decide) (by decide) (by omega) (by omega) (by omega)⟩
  have hlen : ((K.1 ++ [a]).length : Int) = (K.1.length : Int) + 1 := by rw [List.length_append]; rfl
  rw [p1] at r1 r2 r3 r4 r7 r8
  refine cTk_p h e (fun j x hj => r5 j x (by omega) (by omega) (by omega) (by omega) (by omega)) ⟨by rw [hlen]; exact r1, ?_, by rw [hlen]; exact r7, r6, by omega, by omega⟩
  refine cR1_ap (cR1_mo p2 e (fun i i0 i1 => r4 i (by omega) (by omega))) ?_
  rw [show (0 : Int) + (K.1.length : Int) = (K.1.length : Int) by omega, r2, r3]
  exact cVl_mo hv e
end Wdn
