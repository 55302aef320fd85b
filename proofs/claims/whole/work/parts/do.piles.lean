/-! PART do: tasks stay; piles lose values. -/
section Wdo
variable {S Z : wS} {K : aK} {t : Int} {w m : Nat}
theorem cTk_ag (h : cTk w S K) (e : cTx S Z) (f : ∀ (j : Nat) (x : Int), ((j = w ∧ (x = 4 ∨ x = 12 ∨ x = 13 ∨ x = 14 ∨ x = 15)) ∨ (j = w + 1 ∧ x = 2) ∨ (w + 2 ≤ j ∧ j ≤ w + 10)) → Z j x = S j x) : cTk w Z K := by
  obtain ⟨⟨p1, p2, p3, p4, p5, p6⟩, -⟩ := id h
  have l2 := f (w + 2) (-1) (by omega)
  have l3 := f (w + 3) (-1) (by omega)
  exact cTk_p (l := K.1) h e (fun j x hj => f j x (by omega)) ⟨(f (w + 1) 2 (by omega)).trans p1, cR1_mo p2 e (fun i _ _ => ⟨f (w + 2) i (by omega), f (w + 3) i (by omega)⟩), by rw [l2]; exact p3, by rw [l2, l3]; exact p4, by rw [l2]; exact p5, by rw [l2]; exact p6⟩
/-- the pile of a task of the class gets shorter -/
theorem cTk_tk (h : cTk w S K) (hw : w = 215 ∨ w = 226) (hm : m ≤ K.1.length) : cTk w (w_up S (w + 1) 2 (m : Int)) (K.1.take m, K.2) := by
  obtain ⟨⟨p1, p2, p3, p4, p5, p6⟩, -⟩ := id h
  have e : cTx S (w_up S (w + 1) 2 (m : Int)) := ⟨by rw [w_up_slot (by omega)]; exact Int.le_refl _, fun x _ _ => w_up_slot (by omega)⟩
  have hl : (K.1.take m).length = m := by rw [List.length_take]; omega
  have l2 : (w_up S (w + 1) 2 (m : Int)) (w + 2) (-1) = S (w + 2) (-1) := w_up_slot (by omega)
  have l3 : (w_up S (w + 1) 2 (m : Int)) (w + 3) (-1) = S (w + 3) (-1) := w_up_slot (by omega)
  refine cTk_p h e (fun j x hj => w_up_slot (by omega)) ⟨by rw [w_up_same, hl], ?_, by rw [l2, hl]; omega, by rw [l2, l3]; exact p4, by rw [l2]; exact p5, by rw [l2]; exact p6⟩
  exact cR1_mo (cR1_tk p2 hm) e (fun i _ _ => ⟨w_up_slot (by omega), w_up_slot (by omega)⟩)
/-- .. of the reference -/
theorem rTk_tk (h : rTk t S K) (hm : m ≤ K.1.length) : rTk t (w_up S 359 t (m : Int)) (K.1.take m, K.2) := by
  obtain ⟨⟨p1, p2⟩, -⟩ := id h
  have es : ∀ (j : Nat) (x : Int), j ≠ 359 → (w_up S 359 t (m : Int)) j x = S j x := fun j x hj => w_up_slot hj
  have e : rTx S (w_up S 359 t (m : Int)) := ⟨by rw [es 237 19 (by decide)]; exact Int.le_refl _, by rw [es 237 102 (by decide)]; exact Int.le_refl _, fun y _ => ⟨es 284 y (by decide), es 285 y (by decide), fun i2 _ _ => es 283 _ (by decide)⟩⟩
  have hl : (K.1.take m).length = m := by rw [List.length_take]; omega
  refine rTk_p h e ⟨fun j hj => es j t (by omega), fun j x j0 j1 _ _ => es j x (by omega), fun j x j0 j1 _ _ => es j x (by omega)⟩ ⟨by rw [w_up_same, hl], ?_⟩
  exact rR1_mo (rR1_tk p2 hm) e (fun i _ _ => ⟨es 363 i (by decide), es 364 i (by decide)⟩)
end Wdo
