/-! PART jr: looking and linking at a site, generally: of the reference. -/
section Wjr
variable {xs : List (Nat × List Int32)} {M : Nat → Prop} {d : Nat} {Y Z X : wS} {s kd el hit kk r : Int} {E : Int → List aE} {e : aE} {RE RF : wS → Prop} {Q : wO → wS → Prop} {cl : List Int} {n : Nat}
/-- what a lookup has found -/
def rkF (s : Int) (E : Int → List aE) (e : aE) (n : Nat) (cl : List Int) (r : Int) (Y Z : wS) : Prop := (Z 237 166 = e.1 ∧ Z 237 167 = e.2.1 ∧ Z 237 177 = e.2.2.1 ∧ Z 237 169 = e.2.2.2.1 ∧ Z 237 170 = e.2.2.2.2.1 ∧ Z 237 171 = e.2.2.2.2.2.1 ∧ Z 237 81 = e.2.2.2.2.2.2.1) ∧ Z 237 172 = (n : Int) ∧ rSe Z E ∧ (Z 310 s = Y 310 s ∧ Z 313 s = Y 313 s ∧ Z 237 47 = Y 237 47) ∧ Z 237 173 = r ∧ rCl Z r cl
def rlO (s : Int) (E : Int → List aE) (e : aE) (Z X : wS) : Prop := w_ML X ∧ rSe X (fUp E s (lnE (Z 313 s) (Z 310 s) e (E s))) ∧ (X 310 s = (if Z 313 s = 1 then Z 310 s else Z 310 s + 1) ∧ X 313 s = (if Z 313 s = 1 then 1 else if Z 310 s = 8 then 1 else 0)) ∧ ∀ (j : Nat) (x : Int), (j < 376 ∨ 385 < j) → (j ≠ 310 ∨ x ≠ s) → (j ≠ 313 ∨ x ≠ s) → X j x = Z j x
theorem rlkG (hM : w_ML Y) (hs : 0 ≤ s ∧ s < 4000) (hs2 : s < Y 237 47) (hh : hit = -1) (hQ : ∀ (o : wO) (Z : wS), Q o Z → o = .inl none ∨ o = .inr 238) (hmg : Y 313 s = 0 ∨ Y 313 s = 1) (h10 : Y 313 s = 0 → 0 ≤ Y 310 s ∧ Y 310 s ≤ 8) (he8 : e.2.2.2.2.2.2.2.1 = (n : Int) ∧ e.2.2.2.2.2.2.2.2 = esV (cl.take n)) (hn : n ≤ cl.length) (hl8 : cl.length ≤ 8) (hok : esOk cl) (hr : 0 ≤ r ∧ r + 1 + (cl.length : Int) ≤ 4200) (hlook : wJ (pe_GA xs) wY0 (fun _ => False) (d + 9) t_M_looks ((pe_at t_M_looks.bl 0).getD (0, [])).2 [(0, (2, 237)), (1, (0, s)), (2, (0, 1))] [] Y (fun o Z => (o = .inr 238 ∧ RE Z) ∨ (o = .inl none ∧ RF Z))) (hRE : ∀ Z : wS, RE Z → Q (.inr 238) Z) (hRF : ∀ Z : wS, RF Z → w_ML Z ∧ rkF s E e n cl r Y Z) (hact : ∀ Z X : wS, RF Z → rlO s E e Z X → wJ (pe_GA xs) wY0 (fun _ => False) (d + 9) t_M_acts ((pe_at t_M_acts.bl 0).getD (0, [])).2 [(0, (2, 237)), (1, (0, s))] [] X Q) : wJ (pe_GA xs) wY0 M (d + 10) t_M_invokes ((pe_at t_M_invokes.bl 15).getD (0, [])).2 [(0, (2, 237)), (1, (0, s)), (2, (0, kd)), (3, (0, el)), (4, (0, hit)), (5, (0, kk))] [] Y Q := by
  refine ivn_ok (d := d) hM hs hh hQ hlook (fun o Z hz => ?_)
  rcases hz with ⟨rfl, z⟩ | ⟨rfl, z⟩
  · exact Or.inl ⟨rfl, hRE Z z⟩
  · obtain ⟨z1, z2, z3, z4, ⟨z5, z6, z7⟩, z8, z9⟩ := hRF Z z
    refine Or.inr ⟨rfl, z1, by rw [z6]; exact hmg, fun h1 => ?_, fun h0 => ?_⟩
    · refine hact Z Z z ⟨z1, ?_, ⟨by rw [if_pos h1], by rw [if_pos h1]; exact h1⟩, fun _ _ _ _ _ => rfl⟩
      have e1 : fUp E s (lnE (Z 313 s) (Z 310 s) e (E s)) = E := by
        unfold lnE
        rw [if_pos h1]
        exact fUp_id
      rw [e1]
      exact z4
    · refine wJ_mono (lks_ok (d := d + 5) (e := e) (n := n) (cl := cl) (r := r) z1 z4 ⟨hs.1, by rw [z7]; exact hs2⟩ rfl (by rw [z5]; exact h10 (z6.symm.trans h0)) z2 z3 he8 hn hl8 hok z8 hr z9) (fun o X hq => ?_)
      obtain ⟨q1, q2, q3, q4, q5⟩ := hq
      refine ⟨q1, hact Z X z ⟨q2, ?_, ⟨by rw [if_neg (by omega)]; exact q3, ?_⟩, q5⟩⟩
      · unfold lnE
        rw [if_neg (by omega)]
        rcases q4 with ⟨c1, c2, c3⟩ | ⟨c1, c2, c3⟩
        · rw [if_pos c1]; exact c3
        · rw [if_neg c1]; exact c3
      · rw [if_neg (by omega)]
        rcases q4 with ⟨c1, c2, c3⟩ | ⟨c1, c2, c3⟩
        · rw [if_pos c1]; exact c2
        · rw [if_neg c1, c2]; exact h0
end Wjr
