/-! PART de: values of the machine; rows of values. -/
section Wde
variable {S Z : wS} {k b n : Int} {i j m : Nat}
/-- a value: its kind, its number, a text's signs -/
abbrev aV : Type := Int × Int × List Int
/-- a value as the class has it -/
def cVl (S : wS) (k b : Int) (v : aV) : Prop := k = v.1 ∧ (v.1 ≠ 3 → b = v.2.1 ∧ v.2.2 = []) ∧ (v.1 = 3 → v.2.1 = 0 ∧ ∃ s : Int, b = s * 4294967296 + (v.2.2.length : Int) ∧ 0 ≤ s ∧ s + (v.2.2.length : Int) ≤ S 2 1 ∧ ∀ i : Nat, i < v.2.2.length → S 3 (s + (i : Int)) = v.2.2.getD i 0)
/-- .. and as the reference has it -/
def rVl (S : wS) (k b : Int) (v : aV) : Prop := k = v.1 ∧ (v.1 ≠ 3 → b = v.2.1 ∧ v.2.2 = []) ∧ (v.1 = 3 → v.2.1 = 0 ∧ ((0 ≤ b ∧ b < S 237 19) ∨ (4000 ≤ b ∧ b < 4000 + S 237 102)) ∧ S 285 b = (v.2.2.length : Int) ∧ ∀ i : Nat, i < v.2.2.length → S 283 (S 284 b + (i : Int)) = v.2.2.getD i 0)
/-- texts of the class stay -/
def cTx (S Z : wS) : Prop := S 2 1 ≤ Z 2 1 ∧ ∀ x : Int, 0 ≤ x → x < S 2 1 → Z 3 x = S 3 x
/-- texts of the reference stay -/
def rTx (S Z : wS) : Prop := S 237 19 ≤ Z 237 19 ∧ S 237 102 ≤ Z 237 102 ∧ ∀ x : Int, ((0 ≤ x ∧ x < S 237 19) ∨ (4000 ≤ x ∧ x < 4000 + S 237 102)) → Z 284 x = S 284 x ∧ Z 285 x = S 285 x ∧ ∀ i : Int, 0 ≤ i → i < S 285 x → Z 283 (S 284 x + i) = S 283 (S 284 x + i)
theorem cTx_rfl : cTx S S := ⟨Int.le_refl _, fun _ _ _ => rfl⟩
theorem rTx_rfl : rTx S S := ⟨Int.le_refl _, Int.le_refl _, fun _ _ => ⟨rfl, rfl, fun _ _ _ => rfl⟩⟩
theorem cTx_tr {A : wS} (h : cTx S A) (g : cTx A Z) : cTx S Z := ⟨Int.le_trans h.1 g.1, fun x x0 x1 => (g.2 x x0 (by have := h.1; omega)).trans (h.2 x x0 x1)⟩
theorem rTx_tr {A : wS} (h : rTx S A) (g : rTx A Z) : rTx S Z := by
  obtain ⟨h1, h2, h3⟩ := h
  obtain ⟨g1, g2, g3⟩ := g
  refine ⟨Int.le_trans h1 g1, Int.le_trans h2 g2, fun x hx => ?_⟩
  obtain ⟨a1, a2, a3⟩ := h3 x hx
  obtain ⟨b1, b2, b3⟩ := g3 x (by omega)
  refine ⟨b1.trans a1, b2.trans a2, fun i i0 i1 => ?_⟩
  have := b3 i i0 (by omega)
  rw [a1] at this
  exact this.trans (a3 i i0 i1)
theorem cVl_mo {v : aV} (h : cVl S k b v) (e : cTx S Z) : cVl Z k b v := by
  refine ⟨h.1, h.2.1, fun q => ?_⟩
  obtain ⟨a, s, b1, b2, b3, b4⟩ := h.2.2 q
  have := e.1
  exact ⟨a, s, b1, b2, by omega, fun i hi => (e.2 _ (by omega) (by omega)).trans (b4 i hi)⟩
theorem rVl_mo {v : aV} (h : rVl S k b v) (e : rTx S Z) : rVl Z k b v := by
  refine ⟨h.1, h.2.1, fun q => ?_⟩
  obtain ⟨a, b1, b2, b3⟩ := h.2.2 q
  obtain ⟨e1, e2, e3⟩ := e
  obtain ⟨c1, c2, c3⟩ := e3 b b1
  exact ⟨a, by omega, c2.trans b2, fun i hi => by rw [c1, c3 i (by omega) (by omega)]; exact b3 i hi⟩
/-- a row of values, as the class has it (kinds in jk, numbers in jb), from a place on -/
def cR1 (S : wS) (jk jb : Nat) (at0 : Int) (l : List aV) : Prop := ∀ i : Nat, i < l.length → cVl S (S jk (at0 + (i : Int))) (S jb (at0 + (i : Int))) (l.getD i (0, 0, []))
def rR1 (S : wS) (jk jb : Nat) (at0 : Int) (l : List aV) : Prop := ∀ i : Nat, i < l.length → rVl S (S jk (at0 + (i : Int))) (S jb (at0 + (i : Int))) (l.getD i (0, 0, []))
theorem gV_l {l : List aV} {v : aV} (hi : i < l.length) : (l ++ [v]).getD i (0, 0, []) = l.getD i (0, 0, []) := by
  rw [List.getD_eq_getElem?_getD, List.getElem?_append_left hi, ← List.getD_eq_getElem?_getD]
theorem gV_r {l : List aV} {v : aV} : (l ++ [v]).getD l.length (0, 0, []) = v := by
  rw [List.getD_eq_getElem?_getD, List.getElem?_append_right (Nat.le_refl _), Nat.sub_self]; rfl
/-- the row stays, its texts stay -/
theorem cR1_mo {jk jb : Nat} {l : List aV} (h : cR1 S jk jb n l) (e : cTx S Z) (ek : ∀ i : Int, n ≤ i → i < n + (l.length : Int) → Z jk i = S jk i ∧ Z jb i = S jb i) : cR1 Z jk jb n l := fun i hi => by
  obtain ⟨a, b⟩ := ek (n + (i : Int)) (by omega) (by omega)
  rw [a, b]
  exact cVl_mo (h i hi) e
theorem rR1_mo {jk jb : Nat} {l : List aV} (h : rR1 S jk jb n l) (e : rTx S Z) (ek : ∀ i : Int, n ≤ i → i < n + (l.length : Int) → Z jk i = S jk i ∧ Z jb i = S jb i) : rR1 Z jk jb n l := fun i hi => by
  obtain ⟨a, b⟩ := ek (n + (i : Int)) (by omega) (by omega)
  rw [a, b]
  exact rVl_mo (h i hi) e
/-- one more value -/
theorem cR1_ap {jk jb : Nat} {l : List aV} {v : aV} (h : cR1 S jk jb n l) (hv : cVl S (S jk (n + (l.length : Int))) (S jb (n + (l.length : Int))) v) : cR1 S jk jb n (l ++ [v]) := fun i hi => by
  rw [List.length_append] at hi
  by_cases e : i = l.length
  · subst e; rw [gV_r]; exact hv
  · have : i < l.length := by have : ([v] : List aV).length = 1 := rfl; omega
    rw [gV_l this]; exact h i this
theorem rR1_ap {jk jb : Nat} {l : List aV} {v : aV} (h : rR1 S jk jb n l) (hv : rVl S (S jk (n + (l.length : Int))) (S jb (n + (l.length : Int))) v) : rR1 S jk jb n (l ++ [v]) := fun i hi => by
  rw [List.length_append] at hi
  by_cases e : i = l.length
  · subst e; rw [gV_r]; exact hv
  · have : i < l.length := by have : ([v] : List aV).length = 1 := rfl; omega
    rw [gV_l this]; exact h i this
/-- fewer -/
theorem cR1_tk {jk jb : Nat} {l : List aV} (h : cR1 S jk jb n l) (hm : m ≤ l.length) : cR1 S jk jb n (l.take m) := fun i hi => by
  rw [List.length_take] at hi
  have : (l.take m).getD i (0, 0, []) = l.getD i (0, 0, []) := by rw [List.getD_eq_getElem?_getD, List.getElem?_take_of_lt (by omega), ← List.getD_eq_getElem?_getD]
  rw [this]; exact h i (by omega)
theorem rR1_tk {jk jb : Nat} {l : List aV} (h : rR1 S jk jb n l) (hm : m ≤ l.length) : rR1 S jk jb n (l.take m) := fun i hi => by
  rw [List.length_take] at hi
  have : (l.take m).getD i (0, 0, []) = l.getD i (0, 0, []) := by rw [List.getD_eq_getElem?_getD, List.getElem?_take_of_lt (by omega), ← List.getD_eq_getElem?_getD]
  rw [this]; exact h i (by omega)
/-- another value at a place -/
theorem cR1_st {jk jb : Nat} {l : List aV} {v : aV} (h : cR1 S jk jb n l) (hj : jk ≠ jb ∧ jk ≠ 2 ∧ jk ≠ 3 ∧ jb ≠ 2 ∧ jb ≠ 3) (hi : i < l.length) (hv : cVl S k b v) : cR1 (w_up (w_up S jk (n + (i : Int)) k) jb (n + (i : Int)) b) jk jb n (l.set i v) := fun x hx => by
  rw [List.length_set] at hx
  have e : cTx S (w_up (w_up S jk (n + (i : Int)) k) jb (n + (i : Int)) b) := ⟨by rw [w_up_slot (by omega), w_up_slot (by omega)]; exact Int.le_refl _, fun y _ _ => by rw [w_up_slot (by omega), w_up_slot (by omega)]⟩
  by_cases q : i = x
  · subst q
    have g1 : (l.set i v).getD i (0, 0, []) = v := by rw [List.getD_eq_getElem?_getD, List.getElem?_set_self hi]; rfl
    rw [g1, w_up_slot (by omega), w_up_same, w_up_same]
    exact cVl_mo hv e
  · have g1 : (l.set i v).getD x (0, 0, []) = l.getD x (0, 0, []) := by rw [List.getD_eq_getElem?_getD, List.getElem?_set_ne q, ← List.getD_eq_getElem?_getD]
    rw [g1, w_up_slot (by omega), w_up_at (by omega), w_up_at (by omega), w_up_slot (by omega)]
    exact cVl_mo (h x hx) e
theorem rR1_st {jk jb : Nat} {l : List aV} {v : aV} (h : rR1 S jk jb n l) (hj : jk ≠ jb ∧ 285 < jk ∧ 285 < jb) (hi : i < l.length) (hv : rVl S k b v) : rR1 (w_up (w_up S jk (n + (i : Int)) k) jb (n + (i : Int)) b) jk jb n (l.set i v) := fun x hx => by
  rw [List.length_set] at hx
  have es : ∀ (j : Nat) (y : Int), j ≤ 285 → (w_up (w_up S jk (n + (i : Int)) k) jb (n + (i : Int)) b) j y = S j y := fun j y hj2 => by rw [w_up_slot (by omega), w_up_slot (by omega)]
  have e : rTx S (w_up (w_up S jk (n + (i : Int)) k) jb (n + (i : Int)) b) := ⟨by rw [es 237 19 (by decide)]; exact Int.le_refl _, by rw [es 237 102 (by decide)]; exact Int.le_refl _, fun y _ => ⟨es 284 y (by decide), es 285 y (by decide), fun i2 _ _ => es 283 _ (by decide)⟩⟩
  by_cases q : i = x
  · subst q
    have g1 : (l.set i v).getD i (0, 0, []) = v := by rw [List.getD_eq_getElem?_getD, List.getElem?_set_self hi]; rfl
    rw [g1, w_up_slot (by omega), w_up_same, w_up_same]
    exact rVl_mo hv e
  · have g1 : (l.set i v).getD x (0, 0, []) = l.getD x (0, 0, []) := by rw [List.getD_eq_getElem?_getD, List.getElem?_set_ne q, ← List.getD_eq_getElem?_getD]
    rw [g1, w_up_slot (by omega), w_up_at (by omega), w_up_at (by omega), w_up_slot (by omega)]
    exact rVl_mo (h x hx) e
end Wde
