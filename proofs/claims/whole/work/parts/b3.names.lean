/-! PART b3: the reference's addName. -/
section Wb3
variable {xs : List (Nat × List Int32)} {M : Nat → Prop} {d : Nat} {A B C S Z : wS} {Q : wO → wS → Prop} {L : List (List Int)}
/-- x signs have been copied behind the names -/
def nc_ag (S Z : wS) (b p : Int) (x : Nat) : Prop := (∀ y : Nat, y < x → Z 281 (b + (y : Int)) = S 239 (p + (y : Int))) ∧ ∀ (j : Nat) (i : Int), (j ≠ 281 ∨ i < b ∨ b + (x : Int) ≤ i) → Z j i = S j i
theorem nc_s {b p : Int} {x : Nat} (h : nc_ag S Z b p x) : nc_ag S (w_up Z 281 (b + (x : Int)) (S 239 (p + (x : Int)))) b p (x + 1) := by
  obtain ⟨h1, h2⟩ := h
  refine ⟨fun y hy => ?_, fun j i hj => ?_⟩
  · by_cases hx : y = x
    · subst hx; exact w_up_same _ _ _ _
    · rw [w_up_at (by omega)]; exact h1 y (by omega)
  · rw [w_up_no (by omega)]; exact h2 j i (by omega)
/-- one more name -/
def na_ag (L : List (List Int)) (x : List Int) (S Z : wS) : Prop := mN (L ++ [x]) Z ∧ ∀ (j : Nat) (i : Int), (j ≠ 281 ∨ i < 60 * (L.length : Int) ∨ 60 * (L.length : Int) + 60 ≤ i) → (j ≠ 282 ∨ i ≠ (L.length : Int)) → (j ≠ 237 ∨ i ≠ 16) → Z j i = S j i
theorem na_mk {p m : Int} {Z1 : wS} (hm : 0 ≤ m ∧ m ≤ 60) (hN : mN L S) (hl : L.length < 4000) (h : nc_ag S Z1 (60 * (L.length : Int)) p m.toNat) : na_ag L (sl_ (S 239) p m) S (w_up (w_up Z1 282 (L.length : Int) m) 237 16 ((L.length : Int) + 1)) := by
  obtain ⟨n1, n2, n3⟩ := hN
  obtain ⟨h1, h2⟩ := h
  have hl1 : (L ++ [sl_ (S 239) p m]).length = L.length + 1 := by rw [List.length_append]; rfl
  refine ⟨⟨by rw [w_up_same, hl1]; omega, by omega, fun k hk => ?_⟩, fun j i e1 e2 e3 => ?_⟩
  · rw [hl1] at hk
    by_cases hkl : k < L.length
    · have eg : (L ++ [sl_ (S 239) p m]).getD k [] = L.getD k [] := by
        rw [List.getD_eq_getElem?_getD, List.getElem?_append_left hkl, ← List.getD_eq_getElem?_getD]
      obtain ⟨g1, g2, g3⟩ := n3 k hkl
      rw [eg]
      refine ⟨?_, g2, fun x hx => ?_⟩
      · rw [w_up_slot (by decide), w_up_at (by omega), h2 282 _ (by omega)]; exact g1
      · rw [w_up_slot (by decide), w_up_slot (by decide), h2 281 _ (by omega)]; exact g3 x hx
    · have ek : k = L.length := by omega
      have eg : (L ++ [sl_ (S 239) p m]).getD k [] = sl_ (S 239) p m := by
        rw [List.getD_eq_getElem?_getD, List.getElem?_append_right (by omega), show k - L.length = 0 by omega]
        rfl
      rw [eg, sl_len]
      refine ⟨?_, by omega, fun x hx => ?_⟩
      · rw [w_up_slot (by decide), ek, w_up_same]; omega
      · rw [w_up_slot (by decide), w_up_slot (by decide), ek, h1 x hx, sl_get (S 239) p m hx]
  · rw [w_up_no (by omega), w_up_no (by omega)]
    exact h2 j i (by omega)
theorem nad_l {p m : Int} (hM : w_ML S) (hN : mN L S) (hl : L.length < 4000) (hp : 0 ≤ p ∧ p ≤ 65540) (hm : 0 ≤ m ∧ m ≤ 60 ∧ p + m ≤ 65540) : ∀ (f x : Nat) (Z : wS), (m - (x : Int)).toNat < f → (x : Int) ≤ m → nc_ag S Z (60 * (L.length : Int)) p x → wJ (pe_GA xs) wY0 M d t_M_addName ((pe_at t_M_addName.bl 1).getD (0, [])).2 [(0, (2, 237)), (1, (2, 239)), (2, (0, p)), (3, (0, m)), (4, (0, (x : Int)))] [] Z (fun o Z => o = .inl (some (0, (L.length : Int))) ∧ na_ag L (sl_ (S 239) p m) S Z) := by
  intro f
  induction f with
  | zero => intro x Z h; exact absurd h (Nat.not_lt_zero _)
  | succ f ih =>
    intro x Z hf hx hz
    have z16 : Z 237 16 = (L.length : Int) := (hz.2 237 16 (Or.inl (by decide))).trans hN.1
    have zM : w_ML Z := fun y hy => (hz.2 y.1 (-1) (by omega)).trans (hM y hy)
    refine wa_iload (n := 4) rfl ?_
    refine wa_iload_n (n := 3) rfl ?_
    refine wa_icmpge (w_rg0 (by omega) (by omega)) (w_rg0 (by omega) (by omega)) ⟨_, rfl⟩ (fun c101 => ?_) (fun c101 => ?_)
    · skip
      refine wa_aload_n (n := 0) rfl ?_
      refine wb_gf4 237 rfl (wy_pr rfl) wt_237 wf_15_18 (v := 282) wl_237_18 ?_
      refine wa_aload_n (n := 0) rfl ?_
      refine wb_gfi 237 rfl (wy_pr rfl) wt_237 wf_15_16 (v := (L.length : Int)) (z16) (fun r102 => ?_)
      refine wa_iload_n (n := 3) rfl ?_
      refine wb_iast 282 rfl (wy_pr rfl) wt_282 (n := 4000) ((ml_282 zM)) (by omega) (by omega) ⟨(by omega), (by omega)⟩ ?_
      refine wa_aload_n (n := 0) rfl ?_
      refine wa_dup (by decide) ?_
      refine wb_gfi 237 rfl (wy_pr rfl) wt_237 wf_15_16 (v := (L.length : Int)) ((w_up_slot (by decide)).trans (z16)) (fun r103 => ?_)
      refine wa_iconst ?_
      refine wa_iadd ?_
      refine wb_pfi 237 rfl (wy_pr rfl) wt_237 wf_15_16 (n := 16) rfl ⟨(by omega), (by omega)⟩ ?_
      refine wa_aload_n (n := 0) rfl ?_
      refine wb_gfi 237 rfl (wy_pr rfl) wt_237 wf_15_16 (v := ((L.length : Int) + 1)) (w_up_same _ _ _ _) (fun r104 => ?_)
      refine wa_iconst ?_
      refine wa_isub ?_
      refine wa_ireturn rfl ?_
      have hxm : x = m.toNat := by omega
      subst hxm
      exact ⟨congrArg (fun z => Sum.inl (some (0, z))) (by omega), na_mk ⟨hm.1, hm.2.1⟩ hN hl hz⟩
    · skip
      refine wa_aload_n (n := 0) rfl ?_
      refine wb_gf4 237 rfl (wy_pr rfl) wt_237 wf_15_17 (v := 281) wl_237_17 ?_
      refine wa_bipush (w_rg2 (by omega) (by omega)) ?_
      refine wa_aload_n (n := 0) rfl ?_
      refine wb_gfi 237 rfl (wy_pr rfl) wt_237 wf_15_16 (v := (L.length : Int)) (z16) (fun r105 => ?_)
      refine wa_imul ?_
      refine wa_iload (n := 4) rfl ?_
      refine wa_iadd ?_
      refine wa_aload_n (n := 1) rfl ?_
      refine wa_iload_n (n := 2) rfl ?_
      refine wa_iload (n := 4) rfl ?_
      refine wa_iadd ?_
      refine wb_bald 239 rfl (wy_pr rfl) wt_239 (n := 65552) ((ml_239 zM)) (by omega) (by omega) (v := (S 239 (p + (x : Int)))) ((hz.2 239 (p + (x : Int)) (Or.inl (by decide)))) (fun r106 => ?_)
      refine wb_bast 281 rfl (wy_pr rfl) wt_281 (n := 240000) ((ml_281 zM)) (by omega) (by omega) ⟨(by omega), (by omega)⟩ ?_
      refine wa_iinc rfl rfl ?_
      refine wa_goto ⟨_, rfl⟩ ?_
      rw [show ((x : Nat) : Int) + 1 = ((x + 1 : Nat) : Int) from rfl]
      exact wJ_S (ih (x + 1) _ (by omega) (by omega) (nc_s hz)) ⟨rfl, rfl, rfl, rfl, rfl, trivial⟩
theorem nad {p m : Int} (hM : w_ML S) (hN : mN L S) (hl : L.length < 4000) (hp : 0 ≤ p ∧ p ≤ 65540) (hm : 0 ≤ m ∧ m ≤ 60 ∧ p + m ≤ 65540) : wJ (pe_GA xs) wY0 M d t_M_addName ((pe_at t_M_addName.bl 0).getD (0, [])).2 [(0, (2, 237)), (1, (2, 239)), (2, (0, p)), (3, (0, m))] [] S (fun o Z => o = .inl (some (0, (L.length : Int))) ∧ na_ag L (sl_ (S 239) p m) S Z) := by
  refine wa_iconst ?_
  refine wa_istore (n := 4) rfl ?_
  refine wa_fall ⟨_, rfl⟩ ?_
  exact wJ_S (nad_l hM hN hl hp hm (m.toNat + 1) 0 S (by omega) (by omega) ⟨fun y hy => absurd hy (Nat.not_lt_zero _), fun _ _ _ => rfl⟩) ⟨rfl, rfl, rfl, rfl, rfl, trivial⟩
end Wb3
