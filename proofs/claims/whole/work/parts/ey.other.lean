/-! PART ey: the other task and the other side stay. -/
section Wey
variable {S Z : wS} {K : aK} {t t2 : Int} {w w2 : Nat} {mk : Nat → Int → Prop}
theorem cTk_ot (hw : (w = 215 ∧ w2 = 226) ∨ (w = 226 ∧ w2 = 215)) (h : cTk w2 S K) (f : cFm w mk S Z) (hm : ∀ (j : Nat) (x : Int), mk j x → 46 ≤ j ∧ j ≤ 160) : cTk w2 Z K := by
  have hg : wG = 1000000 := rfl
  have e : ∀ (j : Nat) (x : Int), j < 237 → (j < 46 ∨ 160 < j) → (j < w ∨ w + 10 < j) → Z j x = S j x := fun j x j0 j1 j2 => f.1 j x (by omega) (by omega) j2 (fun z => by have := hm j x z; omega)
  exact cTk_ag h (cTx_of (e 2 1 (by decide) (by decide) (by omega)) (fun x => e 3 x (by decide) (by decide) (by omega))) (fun j y hj => e j y (by omega) (by omega) (by omega))
/-- the reference stays where the class steps, the class where the reference does -/
theorem cFm_r9 (hw : w = 215 ∨ w = 226) (f : cFm w mk S Z) (hm : ∀ (j : Nat) (x : Int), mk j x → j < 237) (j : Nat) (x : Int) (h1 : 237 ≤ j) (h2 : j < 4000000) (h3 : j ≠ wG) : Z j x = S j x := f.1 j x h2 h3 (by omega) (fun z => by have := hm j x z; omega)
theorem rTm_c9 (f : rTm t mk S Z) (hm : ∀ (j : Nat) (x : Int), mk j x → 237 ≤ j) (j : Nat) (x : Int) (h : j < 237) : Z j x = S j x := f j x (ou_l (Or.inl h)) (fun z => by have := hm j x z; omega)
theorem rTk_ot (ht : (t = 0 ∧ t2 = 1) ∨ (t = 1 ∧ t2 = 0)) (h : rTk t2 S K) (hl : K.1.length ≤ 2100 ∧ K.2.1.length ≤ 200) (f : rTm t mk S Z) (hm : ∀ (j : Nat) (x : Int), mk j x → (293 ≤ j ∧ j ≤ 356) ∨ (j = 237 ∧ x ≠ 19 ∧ x ≠ 102)) : rTk t2 Z K := by
  have hy := h.2.2.1.2.1
  have e : ∀ (j : Nat) (x : Int), rOut t j x → (j < 293 ∨ 356 < j) → (j ≠ 237 ∨ x = 19 ∨ x = 102) → Z j x = S j x := fun j x o j0 j1 => f j x o (fun z => by have := hm j x z; omega)
  have o1 : ∀ j : Nat, 357 ≤ j → j ≤ 362 → rOut t j t2 := fun j j0 j1 => ⟨fun q => by omega, fun q => by omega, by omega, by omega, by omega, fun _ _ => by omega, fun q => by omega, fun q _ => by omega, fun q _ => by omega⟩
  have o2 : ∀ (j : Nat) (x : Int), (j = 363 ∨ j = 364) → 2100 * t2 ≤ x → x < 2100 * t2 + 2100 → rOut t j x := fun j x j0 x0 x1 => ⟨fun q => by omega, fun q => by omega, by omega, by omega, by omega, fun _ _ => by omega, fun _ => by omega, fun q _ => by omega, fun q _ => by omega⟩
  have o3 : ∀ (j : Nat) (x : Int), 365 ≤ j → j ≤ 372 → 200 * t2 ≤ x → x < 200 * t2 + 200 → rOut t j x := fun j x j0 j1 x0 x1 => ⟨fun q => by omega, fun q => by omega, by omega, by omega, by omega, fun _ _ => by omega, fun q => by omega, fun _ _ => by omega, fun q _ => by omega⟩
  have o4 : ∀ (j : Nat) (x : Int), 373 ≤ j → j ≤ 375 → 10000 * t2 ≤ x → x < 10000 * t2 + 10000 → rOut t j x := fun j x j0 j1 x0 x1 => ⟨fun q => by omega, fun q => by omega, by omega, by omega, by omega, fun _ _ => by omega, fun q => by omega, fun _ _ => by omega, fun _ _ => by omega⟩
  refine rTk_ag h (rTx_of (e 237 19 (ou_37 (by decide)) (by decide) (by decide)) (e 237 102 (ou_37 (by decide)) (by decide) (by decide)) (fun j x j0 j1 => e j x (ou_l (by omega)) (by omega) (by omega))) ⟨fun j hj => e j t2 (o1 j (by omega) (by omega)) (by omega) (by omega), fun j i j0 j1 i0 i1 => e j i (o3 j i (by omega) (by omega) (by omega) (by omega)) (by omega) (by omega), fun j i j0 j1 i0 i1 => e j i (o4 j i (by omega) (by omega) (by omega) (by omega)) (by omega) (by omega)⟩ (e 359 t2 (o1 359 (by decide) (by decide)) (by decide) (Or.inl (by decide))) (fun i i0 i1 => ⟨e 363 i (o2 363 i (by decide) (by omega) (by omega)) (by decide) (Or.inl (by decide)), e 364 i (o2 364 i (by decide) (by omega) (by omega)) (by decide) (Or.inl (by decide))⟩)
end Wey
