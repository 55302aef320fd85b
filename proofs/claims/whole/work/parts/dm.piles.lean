/-! PART dm: a task of the reference stays; its pile. -/
section Wdm
variable {S Z : wS} {K : aK} {t s k v : Int} {a : aV} {m : Nat}
/-- what a task's pile doesn't touch -/
def rTr (t : Int) (S Z : wS) (K : aK) : Prop := (∀ j : Nat, (j = 357 ∨ j = 358 ∨ j = 360 ∨ j = 361 ∨ j = 362) → Z j t = S j t) ∧ (∀ (j : Nat) (x : Int), 365 ≤ j → j ≤ 372 → 200 * t ≤ x → x < 200 * t + (K.2.1.length : Int) → Z j x = S j x) ∧ ∀ (j : Nat) (x : Int), 373 ≤ j → j ≤ 375 → 10000 * t ≤ x → x < 10000 * t + (K.2.2.1.length : Int) → Z j x = S j x
/-- a task with another pile -/
theorem rTk_p {l : List aV} (h : rTk t S K) (e : rTx S Z) (f : rTr t S Z K) (hp : Z 359 t = (l.length : Int) ∧ rR1 Z 363 364 (2100 * t) l) : rTk t Z (l, K.2) := by
  obtain ⟨-, ⟨b1, b2⟩, ⟨c1, c2, c3⟩, d1, d2⟩ := h
  obtain ⟨f1, f2, f3⟩ := f
  refine ⟨hp, ⟨(f1 358 (by omega)).trans b1, fun i hi => ?_⟩, ⟨(f1 360 (by omega)).trans c1, c2, fun i hi => ?_⟩, (f1 357 (by omega)).trans d1, fun q => ?_⟩
  · have hi2 : i < K.2.1.length := hi
    obtain ⟨⟨g1, g2, g3⟩, g4, g5, g6, g7⟩ := b2 i hi
    have r : ∀ j : Nat, 365 ≤ j → j ≤ 372 → Z j (200 * t + (i : Int)) = S j (200 * t + (i : Int)) := fun j j0 j1 => f2 j _ j0 j1 (by omega) (by omega)
    rw [r 365 (by decide) (by decide), r 366 (by decide) (by decide), r 367 (by decide) (by decide), r 368 (by decide) (by decide), r 369 (by decide) (by decide), r 370 (by decide) (by decide), r 371 (by decide) (by decide), r 372 (by decide) (by decide)]
    exact ⟨⟨g1, g2, g3⟩, rVl_mo g4 e, g5, g6, g7⟩
  · have hi2 : i < K.2.2.1.length := hi
    rw [f3 373 _ (by decide) (by decide) (by omega) (by omega), f3 374 _ (by decide) (by decide) (by omega) (by omega), f3 375 _ (by decide) (by decide) (by omega) (by omega)]
    exact c3 i hi
  · rw [f1 361 (by omega), f1 362 (by omega)]
    exact rVl_mo (d2 q) e
/-- it stays -/
theorem rTk_ag (h : rTk t S K) (e : rTx S Z) (f : rTr t S Z K) (e9 : Z 359 t = S 359 t) (ep : ∀ x : Int, 2100 * t ≤ x → x < 2100 * t + (K.1.length : Int) → Z 363 x = S 363 x ∧ Z 364 x = S 364 x) : rTk t Z K :=
  rTk_p (l := K.1) h e f ⟨e9.trans h.1.1, rR1_mo h.1.2 e (fun i i0 i1 => ep i i0 i1)⟩
/-- a value is pushed -/
theorem rTk_pu (h : rTk t S K) (ht : 0 ≤ t ∧ t ≤ 1) (hv : rVl S k v a) : rTk t (w_up (w_up (w_up S 363 (2100 * t + (K.1.length : Int)) k) 364 (2100 * t + (K.1.length : Int)) v) 359 t ((K.1.length : Int) + 1)) (K.1 ++ [a], K.2) := by
  have es : ∀ (j : Nat) (x : Int), (j ≠ 363 ∨ x ≠ 2100 * t + (K.1.length : Int)) → (j ≠ 364 ∨ x ≠ 2100 * t + (K.1.length : Int)) → (j ≠ 359 ∨ x ≠ t) → (w_up (w_up (w_up S 363 (2100 * t + (K.1.length : Int)) k) 364 (2100 * t + (K.1.length : Int)) v) 359 t ((K.1.length : Int) + 1)) j x = S j x := fun j x q1 q2 q3 => (w_up_no (by omega)).trans ((w_up_no (by omega)).trans (w_up_no (by omega)))
  have e : rTx S (w_up (w_up (w_up S 363 (2100 * t + (K.1.length : Int)) k) 364 (2100 * t + (K.1.length : Int)) v) 359 t ((K.1.length : Int) + 1)) := ⟨by rw [es 237 19 (by omega) (by omega) (by omega)]; exact Int.le_refl _, by rw [es 237 102 (by omega) (by omega) (by omega)]; exact Int.le_refl _, fun y _ => ⟨es 284 y (by omega) (by omega) (by omega), es 285 y (by omega) (by omega) (by omega), fun i2 _ _ => es 283 _ (by omega) (by omega) (by omega)⟩⟩
  refine rTk_p h e ⟨fun j hj => es j t (by omega) (by omega) (by omega), fun j x j0 j1 _ _ => es j x (by omega) (by omega) (by omega), fun j x j0 j1 _ _ => es j x (by omega) (by omega) (by omega)⟩ ⟨?_, ?_⟩
  · rw [w_up_same, List.length_append]; rfl
  · refine rR1_ap (rR1_mo h.1.2 e (fun i i0 i1 => ⟨es 363 i (by omega) (by omega) (by omega), es 364 i (by omega) (by omega) (by omega)⟩)) ?_
    rw [w_up_slot (by decide), w_up_slot (by decide), w_up_same, w_up_slot (by decide), w_up_same]
    exact rVl_mo hv e
end Wdm
