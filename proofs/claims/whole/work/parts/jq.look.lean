/-! PART jq: looking and linking at a site, generally: of the class. -/
section Wjq
variable {xs : List (Nat × List Int32)} {d : Nat} {Y Z X : wS} {s kd nms fo l : Int} {E : Int → List aE} {ix : Int → List Int} {fl : List Int} {ow : Int → Int} {e : aE} {ml : List Nat} {mk : Nat → Int → Prop} {RZ : wS → Prop}
/-- the entries behind a link; nothing is linked where the site is megamorphic -/
def lnE (mg lk : Int) (e : aE) (l : List aE) : List aE := if mg = 1 then l else if lk = 8 then [] else e :: l.take 3
theorem fUp_id {α : Type} {f : Int → α} {s : Int} : fUp f s (f s) = f := by
  funext x
  unfold fUp
  split
  · rename_i h; rw [h]
  · rfl
/-- what a lookup leaves beside the entry that it fills -/
def lkF (w : Nat) (fo : Int) (mk : Nat → Int → Prop) (S Z : wS) : Prop := (∀ (j : Nat) (x : Int), j < 4000000 → j ≠ wG → ¬ (48 ≤ j ∧ j ≤ 56 ∧ x = fo) → (j ≠ w ∨ x ≠ 16) → ¬ mk j x → Z j x = S j x) ∧ gI Z ∧ rmR S Z
/-- masks of lookups: shapes, choices -/
def mkL (mk : Nat → Int → Prop) : Prop := ∀ (j : Nat) (x : Int), mk j x → ((j = 72 ∧ x = 8) ∨ (73 ≤ j ∧ j ≤ 214 ∧ j ≠ 158 ∧ j ≠ 160)) ∧ ¬ (127 ≤ j ∧ j ≤ 142)
/-- what was found is ready to be done -/
def lnO (w : Nat) (s kd nms : Int) (E : Int → List aE) (e : aE) (Z X : wS) (y : Int) : Prop := X w 16 = 0 ∧ (cEc X kd nms e y ∧ 0 ≤ y ∧ y < X 48 (-1)) ∧ (∃ (ix2 : Int → List Int) (fl2 : List Int) (ow2 : Int → Int), cSe X (fUp E s (lnE (Z 45 s) (Z 41 s) e (E s))) ix2 fl2 ow2) ∧ (X 41 s = (if Z 45 s = 1 then Z 41 s else Z 41 s + 1) ∧ X 45 s = (if Z 45 s = 1 then 1 else if Z 41 s = 8 then 1 else 0)) ∧ (∀ (j : Nat) (x : Int), j < 4000000 → j ≠ wG → ¬ lkM s j x → X j x = Z j x) ∧ gI X ∧ rmR Z X
theorem lkF_se (h : cSe Y E ix fl ow) (hf : Y 158 14 = fo) {w : Nat} (hw : w = 215 ∨ w = 226) (hmk : mkL mk) (hl : 0 ≤ l ∧ l ≤ 3) (h0 : 0 ≤ fo) (hF : lkF w fo mk (bkZ fo l (w_up Y 160 l (Y 160 l + 1))) Z) : cSe Z E ix fl ow ∧ (∀ (j : Nat) (x : Int), j < 4000000 → j ≠ wG → ¬ (48 ≤ j ∧ j ≤ 57 ∧ x = fo) → (j ≠ w ∨ x ≠ 16) → (j ≠ 160 ∨ x ≠ l) → ¬ mk j x → Z j x = Y j x) := by
  have f1 : ∀ (j : Nat) (x : Int), j < 4000000 → j ≠ wG → ¬ (48 ≤ j ∧ j ≤ 57 ∧ x = fo) → (j ≠ w ∨ x ≠ 16) → (j ≠ 160 ∨ x ≠ l) → ¬ mk j x → Z j x = Y j x := fun j x j0 j1 j2 j3 j4 j5 => (hF.1 j x j0 j1 (by omega) j3 j5).trans ((bkZ_e j x (by omega)).trans (w_up_no (by omega)))
  exact ⟨cSe_fo h (fun j x hj hx => f1 j x (by unfold cEo at hj; omega) (by unfold cEo at hj; unfold wG; omega) (by rw [hf] at hx; omega) (by unfold cEo at hj; omega) (by unfold cEo at hj; omega) (fun z => by have := hmk j x z; unfold cEo at hj; omega)), f1⟩
theorem lkG_215 (hse : cSe Y E ix fl ow) (hs : 0 ≤ s ∧ s < Y 19 9) (l4 : Y 158 4 = 215) (l6 : Y 158 6 = s) (l14 : Y 158 14 = fo) (h35 : Y 35 s = kd) (h36 : Y 36 s = nms) (hmg : Y 45 s = 0 ∨ Y 45 s = 1) (h41 : Y 45 s = 0 → 0 ≤ Y 41 s ∧ Y 41 s ≤ 8) (h34 : Y 34 (-1) = 12) (hl : 0 ≤ l ∧ l ≤ 3) (hmk : mkL mk) (hml : ∀ x ∈ [48, 49, 50, 51, 52, 53, 54, 55, 56, 57], x ∈ ml) (hlook : ∀ Q : wO → wS → Prop, (∀ Z : wS, RZ Z → ((Z 158 4 = 215 ∧ Z 158 6 = s ∧ Z 158 14 = fo) ∧ (Z 34 (-1) = 12 ∧ 0 ≤ s ∧ s < Z 45 (-1)) ∧ (Z 45 s = 0 ∨ Z 45 s = 1)) ∧ (Z 215 16 ≠ 0 ∨ Z 45 s = 1 → Q (.inl (some (0, fo))) Z) ∧ (Z 215 16 = 0 → Z 45 s = 0 → wJ (pe_GA xs) wY0 (mS ml) (d + 5) t_XL_link ((pe_at t_XL_link.bl 0).getD (0, [])).2 [(0, (2, 158))] [] Z (fun o Z2 => ∃ v : Int, o = .inl (some (0, v)) ∧ Q (.inl (some (0, v))) Z2))) → wJ (pe_GA xs) wY0 (mS ml) (d + 6) t_XL_look ((pe_at t_XL_look.bl 0).getD (0, [])).2 [(0, (2, 158))] [] Y Q) (hRZ : ∀ Z : wS, RZ Z → lkF 215 fo mk (bkZ fo l (w_up Y 160 l (Y 160 l + 1))) Z ∧ w_CL Z ∧ (Z 215 16 = 0 → cEc Z kd nms e fo)) : wJ (pe_GA xs) wY0 (mS ml) (d + 6) t_XL_look ((pe_at t_XL_look.bl 0).getD (0, [])).2 [(0, (2, 158))] [] Y (fun o X => ∃ y : Int, o = .inl (some (0, y)) ∧ ∃ Z : wS, RZ Z ∧ ((Z 215 16 ≠ 0 ∧ Z = X) ∨ (Z 215 16 = 0 ∧ lnO 215 s kd nms E e Z X y))) := by
  have hfo : 0 ≤ fo ∧ fo < Y 19 11 := by have := hse.2.2.2.1; omega
  have hsl := hse.1
  refine hlook _ (fun Z hZ => ?_)
  obtain ⟨z1, z4, z2⟩ := hRZ Z hZ
  obtain ⟨z3, z5⟩ := lkF_se hse l14 (by omega) hmk hl hfo.1 z1
  have zn : ∀ (j : Nat) (x : Int), (j < 48 ∨ j = 158) → Z j x = Y j x := fun j x hj => z5 j x (by omega) (by unfold wG; omega) (by omega) (by omega) (by omega) (fun z => by have := hmk j x z; omega)
  have zl := hsl.1 10 (by first | decide | omega)
  replace zl : Y 45 (-1) = Y 35 (-1) := zl
  have e48 : Z 48 (-1) = Y 48 (-1) := z5 48 (-1) (by first | decide | omega) (by first | decide | omega) (by omega) (by omega) (by omega) (fun z => by have := hmk 48 (-1) z; omega)
  refine ⟨⟨⟨(zn 158 4 (by omega)).trans l4, (zn 158 6 (by omega)).trans l6, (zn 158 14 (by omega)).trans l14⟩, ⟨(zn 34 (-1) (by omega)).trans h34, hs.1, by rw [zn 45 (-1) (by omega), zl]; have := hsl.2.1; omega⟩, by rw [zn 45 s (by omega)]; exact hmg⟩, fun hz => ?_, fun h0 h45 => ?_⟩
  · refine ⟨fo, rfl, Z, hZ, ?_⟩
    by_cases c : Z 215 16 = 0
    · have h1 : Z 45 s = 1 := hz.resolve_left (fun z => z c)
      refine Or.inr ⟨c, c, ⟨z2 c, hfo.1, by rw [e48]; have := hsl.2.2.2; omega⟩, ⟨ix, fl, ow, ?_⟩, ⟨by rw [if_pos h1], by rw [if_pos h1]; exact h1⟩, fun _ _ _ _ _ => rfl, z1.2.1, rmR_rfl Z⟩
      have e1 : fUp E s (lnE (Z 45 s) (Z 41 s) e (E s)) = E := by
        unfold lnE
        rw [if_pos h1]
        exact fUp_id
      rw [e1]
      exact z3
    · exact Or.inl ⟨c, rfl⟩
  · have e35 : Z 35 s = kd := (zn 35 s (by omega)).trans h35
    have e36 : Z 36 s = nms := (zn 36 s (by omega)).trans h36
    have y45 : Y 45 s = 0 := (zn 45 s (by omega)).symm.trans h45
    refine wJ_M (wJ_mono (lnk_ok (d := d + 1) (fo := fo) (e := e) z3 ⟨hs.1, by rw [zn 19 9 (by omega)]; exact hs.2⟩ ((zn 158 6 (by omega)).trans l6) ((zn 158 14 (by omega)).trans l14) z4 z1.2.1 (by rw [zn 41 s (by omega)]; exact h41 y45) (by rw [e35, e36]; exact z2 h0)) (fun o X hq => ?_)) (mS_s hml)
    obtain ⟨q1, q2, q3, q4, q5, q6, q7, q8, q9⟩ := hq
    rw [e35, e36] at q3
    refine ⟨fo, q1, fo, rfl, Z, hZ, Or.inr ⟨h0, (q7 215 16 (by first | decide | omega) (by first | decide | omega) (by unfold lkM; omega)).trans h0, ⟨q3, q4⟩, ?_, ⟨by rw [if_neg (by omega)]; exact q5, ?_⟩, q7, q8, q9⟩⟩
    · have e1 : lnE (Z 45 s) (Z 41 s) e (E s) = (if Z 41 s = 8 then [] else e :: (E s).take 3) := by
        unfold lnE
        rw [if_neg (by omega)]
      rw [e1]
      exact q2
    · rw [if_neg (by omega), q6, h45]
theorem lkG_226 (hse : cSe Y E ix fl ow) (hs : 0 ≤ s ∧ s < Y 19 9) (l4 : Y 158 4 = 226) (l6 : Y 158 6 = s) (l14 : Y 158 14 = fo) (h35 : Y 35 s = kd) (h36 : Y 36 s = nms) (hmg : Y 45 s = 0 ∨ Y 45 s = 1) (h41 : Y 45 s = 0 → 0 ≤ Y 41 s ∧ Y 41 s ≤ 8) (h34 : Y 34 (-1) = 12) (hl : 0 ≤ l ∧ l ≤ 3) (hmk : mkL mk) (hml : ∀ x ∈ [48, 49, 50, 51, 52, 53, 54, 55, 56, 57], x ∈ ml) (hlook : ∀ Q : wO → wS → Prop, (∀ Z : wS, RZ Z → ((Z 158 4 = 226 ∧ Z 158 6 = s ∧ Z 158 14 = fo) ∧ (Z 34 (-1) = 12 ∧ 0 ≤ s ∧ s < Z 45 (-1)) ∧ (Z 45 s = 0 ∨ Z 45 s = 1)) ∧ (Z 226 16 ≠ 0 ∨ Z 45 s = 1 → Q (.inl (some (0, fo))) Z) ∧ (Z 226 16 = 0 → Z 45 s = 0 → wJ (pe_GA xs) wY0 (mS ml) (d + 5) t_XL_link ((pe_at t_XL_link.bl 0).getD (0, [])).2 [(0, (2, 158))] [] Z (fun o Z2 => ∃ v : Int, o = .inl (some (0, v)) ∧ Q (.inl (some (0, v))) Z2))) → wJ (pe_GA xs) wY0 (mS ml) (d + 6) t_XL_look ((pe_at t_XL_look.bl 0).getD (0, [])).2 [(0, (2, 158))] [] Y Q) (hRZ : ∀ Z : wS, RZ Z → lkF 226 fo mk (bkZ fo l (w_up Y 160 l (Y 160 l + 1))) Z ∧ w_CL Z ∧ (Z 226 16 = 0 → cEc Z kd nms e fo)) : wJ (pe_GA xs) wY0 (mS ml) (d + 6) t_XL_look ((pe_at t_XL_look.bl 0).getD (0, [])).2 [(0, (2, 158))] [] Y (fun o X => ∃ y : Int, o = .inl (some (0, y)) ∧ ∃ Z : wS, RZ Z ∧ ((Z 226 16 ≠ 0 ∧ Z = X) ∨ (Z 226 16 = 0 ∧ lnO 226 s kd nms E e Z X y))) := by
  have hfo : 0 ≤ fo ∧ fo < Y 19 11 := by have := hse.2.2.2.1; omega
  have hsl := hse.1
  refine hlook _ (fun Z hZ => ?_)
  obtain ⟨z1, z4, z2⟩ := hRZ Z hZ
  obtain ⟨z3, z5⟩ := lkF_se hse l14 (by omega) hmk hl hfo.1 z1
  have zn : ∀ (j : Nat) (x : Int), (j < 48 ∨ j = 158) → Z j x = Y j x := fun j x hj => z5 j x (by omega) (by unfold wG; omega) (by omega) (by omega) (by omega) (fun z => by have := hmk j x z; omega)
  have zl := hsl.1 10 (by first | decide | omega)
  replace zl : Y 45 (-1) = Y 35 (-1) := zl
  have e48 : Z 48 (-1) = Y 48 (-1) := z5 48 (-1) (by first | decide | omega) (by first | decide | omega) (by omega) (by omega) (by omega) (fun z => by have := hmk 48 (-1) z; omega)
  refine ⟨⟨⟨(zn 158 4 (by omega)).trans l4, (zn 158 6 (by omega)).trans l6, (zn 158 14 (by omega)).trans l14⟩, ⟨(zn 34 (-1) (by omega)).trans h34, hs.1, by rw [zn 45 (-1) (by omega), zl]; have := hsl.2.1; omega⟩, by rw [zn 45 s (by omega)]; exact hmg⟩, fun hz => ?_, fun h0 h45 => ?_⟩
  · refine ⟨fo, rfl, Z, hZ, ?_⟩
    by_cases c : Z 226 16 = 0
    · have h1 : Z 45 s = 1 := hz.resolve_left (fun z => z c)
      refine Or.inr ⟨c, c, ⟨z2 c, hfo.1, by rw [e48]; have := hsl.2.2.2; omega⟩, ⟨ix, fl, ow, ?_⟩, ⟨by rw [if_pos h1], by rw [if_pos h1]; exact h1⟩, fun _ _ _ _ _ => rfl, z1.2.1, rmR_rfl Z⟩
      have e1 : fUp E s (lnE (Z 45 s) (Z 41 s) e (E s)) = E := by
        unfold lnE
        rw [if_pos h1]
        exact fUp_id
      rw [e1]
      exact z3
    · exact Or.inl ⟨c, rfl⟩
  · have e35 : Z 35 s = kd := (zn 35 s (by omega)).trans h35
    have e36 : Z 36 s = nms := (zn 36 s (by omega)).trans h36
    have y45 : Y 45 s = 0 := (zn 45 s (by omega)).symm.trans h45
    refine wJ_M (wJ_mono (lnk_ok (d := d + 1) (fo := fo) (e := e) z3 ⟨hs.1, by rw [zn 19 9 (by omega)]; exact hs.2⟩ ((zn 158 6 (by omega)).trans l6) ((zn 158 14 (by omega)).trans l14) z4 z1.2.1 (by rw [zn 41 s (by omega)]; exact h41 y45) (by rw [e35, e36]; exact z2 h0)) (fun o X hq => ?_)) (mS_s hml)
    obtain ⟨q1, q2, q3, q4, q5, q6, q7, q8, q9⟩ := hq
    rw [e35, e36] at q3
    refine ⟨fo, q1, fo, rfl, Z, hZ, Or.inr ⟨h0, (q7 226 16 (by first | decide | omega) (by first | decide | omega) (by unfold lkM; omega)).trans h0, ⟨q3, q4⟩, ?_, ⟨by rw [if_neg (by omega)]; exact q5, ?_⟩, q7, q8, q9⟩⟩
    · have e1 : lnE (Z 45 s) (Z 41 s) e (E s) = (if Z 41 s = 8 then [] else e :: (E s).take 3) := by
        unfold lnE
        rw [if_neg (by omega)]
      rw [e1]
      exact q2
    · rw [if_neg (by omega), q6, h45]
end Wjq
