/-! PART fd: the reference's findName on its texts. -/
section Wfd
variable {xs : List (Nat × List Int32)} {M : Nat → Prop} {d : Nat} {A B C S Z : wS} {Q : wO → wS → Prop} {L : List (List Int)}
theorem fn3_i {p m : Int} {k : Nat} (hM : w_ML S) (hN : mN L S) (hp : 0 ≤ p ∧ p ≤ 269632) (hm : 0 ≤ m ∧ m ≤ 269632 ∧ p + m ≤ 269632) (hk : k < L.length) (h1 : L.getD k [] = sl_ (S 283) p m → wJ (pe_GA xs) wY0 M d t_M_findName ((pe_at t_M_findName.bl 7).getD (0, [])).2 [(0, (2, 237)), (1, (2, 283)), (2, (0, p)), (3, (0, m)), (4, (0, (k : Int))), (5, (0, 1))] [] S Q) (h0 : L.getD k [] ≠ sl_ (S 283) p m → wJ (pe_GA xs) wY0 M d t_M_findName ((pe_at t_M_findName.bl 7).getD (0, [])).2 [(0, (2, 237)), (1, (2, 283)), (2, (0, p)), (3, (0, m)), (4, (0, (k : Int))), (5, (0, 0))] [] S Q) : ∀ (f x : Nat) (sm : Int), (m - (x : Int)).toNat < f → (x : Int) ≤ m → ((sm = 1 ∧ ((L.getD k []).length : Int) = m ∧ ∀ y : Nat, y < x → (L.getD k []).getD y 0 = S 283 (p + (y : Int))) ∨ (sm = 0 ∧ L.getD k [] ≠ sl_ (S 283) p m)) → wJ (pe_GA xs) wY0 M d t_M_findName ((pe_at t_M_findName.bl 4).getD (0, [])).2 [(0, (2, 237)), (1, (2, 283)), (2, (0, p)), (3, (0, m)), (4, (0, (k : Int))), (5, (0, sm)), (6, (0, (x : Int)))] [] S Q := by
  obtain ⟨n1, n2, n3⟩ := hN
  obtain ⟨k1, k2, k3⟩ := n3 k hk
  intro f
  induction f with
  | zero => intro x sm h; exact absurd h (Nat.not_lt_zero _)
  | succ f ih =>
    intro x sm hf hx hs
    have hsr : sm = 0 ∨ sm = 1 := hs.elim (fun q => Or.inr q.1) (fun q => Or.inl q.1)
    refine wa_iload (n := 6) rfl ?_
    refine wa_iload_n (n := 3) rfl ?_
    refine wa_icmpge (w_rg0 (by omega) (by omega)) (w_rg0 (by omega) (by omega)) ⟨_, rfl⟩ (fun c101 => ?_) (fun c101 => ?_)
    · skip
      rcases hs with ⟨rfl, hs1, hs2⟩ | ⟨rfl, hs1⟩
      · first | omega | exact wJ_S (h1 ((sl_eq (by omega)).mpr ⟨hs1, fun y hy => hs2 y (by omega)⟩)) ⟨rfl, rfl, rfl, rfl, rfl, rfl, trivial⟩
      · exact wJ_S (h0 hs1) ⟨rfl, rfl, rfl, rfl, rfl, rfl, trivial⟩
    · skip
      refine wa_iload (n := 5) rfl ?_
      refine wa_ifeq (w_rg0 (by omega) (by omega)) ⟨_, rfl⟩ (fun c102 => ?_) (fun c102 => ?_)
      · skip
        rcases hs with ⟨rfl, hs1, hs2⟩ | ⟨rfl, hs1⟩
        · first | omega | exact wJ_S (h1 ((sl_eq (by omega)).mpr ⟨hs1, fun y hy => hs2 y (by omega)⟩)) ⟨rfl, rfl, rfl, rfl, rfl, rfl, trivial⟩
        · exact wJ_S (h0 hs1) ⟨rfl, rfl, rfl, rfl, rfl, rfl, trivial⟩
      · skip
        have hs1 : sm = 1 ∧ ((L.getD k []).length : Int) = m ∧ ∀ y : Nat, y < x → (L.getD k []).getD y 0 = S 283 (p + (y : Int)) := hs.elim id (fun q => by omega)
        have hkx := k3 x (by omega)
        refine wa_aload_n (n := 0) rfl ?_
        refine wb_gf4 237 rfl (wy_pr rfl) wt_237 wf_15_17 (v := 281) wl_237_17 ?_
        refine wa_bipush (w_rg2 (by omega) (by omega)) ?_
        refine wa_iload (n := 4) rfl ?_
        refine wa_imul ?_
        refine wa_iload (n := 6) rfl ?_
        refine wa_iadd ?_
        refine wb_bald 281 rfl (wy_pr rfl) wt_281 (n := 240000) ((ml_281 hM)) (by omega) (by omega) (v := (S 281 ((60 * (k : Int)) + (x : Int)))) rfl (fun r103 => ?_)
        refine wa_aload_n (n := 1) rfl ?_
        refine wa_iload_n (n := 2) rfl ?_
        refine wa_iload (n := 6) rfl ?_
        refine wa_iadd ?_
        refine wb_bald 283 rfl (wy_pr rfl) wt_283 (n := 269632) ((ml_283 hM)) (by omega) (by omega) (v := (S 283 (p + (x : Int)))) rfl (fun r104 => ?_)
        refine wa_icmpne (w_rg0 (by omega) (by omega)) (w_rg0 (by omega) (by omega)) ⟨_, rfl⟩ (fun c105 => ?_) (fun c105 => ?_)
        · skip
          refine wa_iconst ?_
          refine wa_fall ⟨_, rfl⟩ ?_
          refine wa_istore (n := 5) rfl ?_
          refine wa_iinc rfl rfl ?_
          refine wa_goto ⟨_, rfl⟩ ?_
          rw [show ((x : Nat) : Int) + 1 = ((x + 1 : Nat) : Int) from rfl]
          refine wJ_S (ih (x + 1) 0 (by omega) (by omega) (Or.inr ⟨rfl, fun q => ?_⟩)) ⟨rfl, rfl, rfl, rfl, rfl, rfl, rfl, trivial⟩
          have := ((sl_eq (by omega)).mp q).2 x (by omega)
          rw [← hkx] at this
          first | exact absurd this (by assumption) | omega
        · skip
          refine wa_iconst ?_
          refine wa_goto ⟨_, rfl⟩ ?_
          refine wa_istore (n := 5) rfl ?_
          refine wa_iinc rfl rfl ?_
          refine wa_goto ⟨_, rfl⟩ ?_
          rw [show ((x : Nat) : Int) + 1 = ((x + 1 : Nat) : Int) from rfl]
          refine wJ_S (ih (x + 1) 1 (by omega) (by omega) (Or.inl ⟨rfl, hs1.2.1, fun y hy => ?_⟩)) ⟨rfl, rfl, rfl, rfl, rfl, rfl, rfl, trivial⟩
          by_cases hyx : y = x
          · subst hyx; rw [← hkx]; omega
          · exact hs1.2.2 y (by omega)
theorem fn3_o {p m : Int} (hM : w_ML S) (hN : mN L S) (hp : 0 ≤ p ∧ p ≤ 269632) (hm : 0 ≤ m ∧ m ≤ 269632 ∧ p + m ≤ 269632) : ∀ (f k : Nat), L.length - k < f → k ≤ L.length → (∀ y : Nat, y < k → L.getD y [] ≠ sl_ (S 283) p m) → wJ (pe_GA xs) wY0 M d t_M_findName ((pe_at t_M_findName.bl 1).getD (0, [])).2 [(0, (2, 237)), (1, (2, 283)), (2, (0, p)), (3, (0, m)), (4, (0, (k : Int)))] [] S (fun o Z => S = Z ∧ o = .inl (some (0, ixL L (sl_ (S 283) p m)))) := by
  have hN0 := hN
  obtain ⟨n1, n2, n3⟩ := hN
  intro f
  induction f with
  | zero => intro k h; exact absurd h (Nat.not_lt_zero _)
  | succ f ih =>
    intro k hf hkl hbe
    refine wa_iload (n := 4) rfl ?_
    refine wa_aload_n (n := 0) rfl ?_
    refine wb_gfi 237 rfl (wy_pr rfl) wt_237 wf_15_16 (v := (L.length : Int)) (n1) (fun r101 => ?_)
    refine wa_icmpge (w_rg0 (by omega) (by omega)) (w_rg0 (by omega) (by omega)) ⟨_, rfl⟩ (fun c102 => ?_) (fun c102 => ?_)
    · skip
      refine wa_iconst ?_
      refine wa_ireturn rfl ?_
      refine ⟨rfl, congrArg (fun z => Sum.inl (some (0, z))) ?_⟩
      refine (ixL_no.mpr (fun q => ?_)).symm
      obtain ⟨g1, g2⟩ := getD_idx q
      exact hbe _ (by omega) g2
    · skip
      have hkb := (n3 k (by omega)).2.1
      refine wa_aload_n (n := 0) rfl ?_
      refine wb_gf4 237 rfl (wy_pr rfl) wt_237 wf_15_18 (v := 282) wl_237_18 ?_
      refine wa_iload (n := 4) rfl ?_
      refine wb_iald 282 rfl (wy_pr rfl) wt_282 (n := 4000) ((ml_282 hM)) (by omega) (by omega) (v := ((L.getD k []).length : Int)) (((n3 k (by omega)).1)) (fun r103 => ?_)
      refine wa_iload_n (n := 3) rfl ?_
      refine wa_icmpne (w_rg0 (by omega) (by omega)) (w_rg0 (by omega) (by omega)) ⟨_, rfl⟩ (fun c104 => ?_) (fun c104 => ?_)
      · skip
        refine wa_iconst ?_
        refine wa_fall ⟨_, rfl⟩ ?_
        refine wa_istore (n := 5) rfl ?_
        refine wa_iconst ?_
        refine wa_istore (n := 6) rfl ?_
        refine wa_fall ⟨_, rfl⟩ ?_
        refine wJ_S (fn3_i (k := k) hM hN0 hp hm (by omega) (fun he => ?_) (fun hne => ?_) (m.toNat + 1) 0 0 (by omega) (by omega) (Or.inr ⟨rfl, fun q => by have := ((sl_eq (by omega)).mp q).1; omega⟩)) ⟨rfl, rfl, rfl, rfl, rfl, rfl, rfl, trivial⟩
        · skip
          refine wa_iload (n := 5) rfl ?_
          refine wa_ifeq (w_rg0 (by omega) (by omega)) ⟨_, rfl⟩ (fun c205 => ?_) (fun c205 => ?_)
          · skip
            exact absurd c205 (by omega)
          · skip
            refine wa_iload (n := 4) rfl ?_
            refine wa_ireturn rfl ?_
            refine ⟨rfl, congrArg (fun z => Sum.inl (some (0, z))) ?_⟩
            have hin : sl_ (S 283) p m ∈ L := by
              rw [← he, List.getD_eq_getElem?_getD, List.getElem?_eq_getElem (by omega)]
              exact List.getElem_mem _
            obtain ⟨g1, g2⟩ := getD_idx hin
            have hge : k ≤ L.idxOf (sl_ (S 283) p m) := Nat.le_of_not_lt (fun q => hbe _ q g2)
            have hle : L.idxOf (sl_ (S 283) p m) ≤ k := by
              have hk2 : k < L.length := by omega
              have hgk : L[k] = sl_ (S 283) p m := by rw [← he, List.getD_eq_getElem?_getD, List.getElem?_eq_getElem hk2]; rfl
              exact idx_le hk2 hgk
            unfold ixL; rw [if_pos hin]; omega
        · skip
          refine wa_iload (n := 5) rfl ?_
          refine wa_ifeq (w_rg0 (by omega) (by omega)) ⟨_, rfl⟩ (fun c155 => ?_) (fun c155 => ?_)
          · skip
            refine wa_iinc rfl rfl ?_
            refine wa_goto ⟨_, rfl⟩ ?_
            rw [show ((k : Nat) : Int) + 1 = ((k + 1 : Nat) : Int) from rfl]
            refine wJ_S (ih (k + 1) (by omega) (by omega) (fun y hy => ?_)) ⟨rfl, rfl, rfl, rfl, rfl, trivial⟩
            by_cases hyk : y = k
            · subst hyk; exact hne
            · exact hbe y (by omega)
          · skip
            exact absurd c155 (by omega)
      · skip
        refine wa_iconst ?_
        refine wa_goto ⟨_, rfl⟩ ?_
        refine wa_istore (n := 5) rfl ?_
        refine wa_iconst ?_
        refine wa_istore (n := 6) rfl ?_
        refine wa_fall ⟨_, rfl⟩ ?_
        refine wJ_S (fn3_i (k := k) hM hN0 hp hm (by omega) (fun he => ?_) (fun hne => ?_) (m.toNat + 1) 0 1 (by omega) (by omega) (Or.inl ⟨rfl, by omega, fun y hy => absurd hy (Nat.not_lt_zero _)⟩)) ⟨rfl, rfl, rfl, rfl, rfl, rfl, rfl, trivial⟩
        · skip
          refine wa_iload (n := 5) rfl ?_
          refine wa_ifeq (w_rg0 (by omega) (by omega)) ⟨_, rfl⟩ (fun c205 => ?_) (fun c205 => ?_)
          · skip
            exact absurd c205 (by omega)
          · skip
            refine wa_iload (n := 4) rfl ?_
            refine wa_ireturn rfl ?_
            refine ⟨rfl, congrArg (fun z => Sum.inl (some (0, z))) ?_⟩
            have hin : sl_ (S 283) p m ∈ L := by
              rw [← he, List.getD_eq_getElem?_getD, List.getElem?_eq_getElem (by omega)]
              exact List.getElem_mem _
            obtain ⟨g1, g2⟩ := getD_idx hin
            have hge : k ≤ L.idxOf (sl_ (S 283) p m) := Nat.le_of_not_lt (fun q => hbe _ q g2)
            have hle : L.idxOf (sl_ (S 283) p m) ≤ k := by
              have hk2 : k < L.length := by omega
              have hgk : L[k] = sl_ (S 283) p m := by rw [← he, List.getD_eq_getElem?_getD, List.getElem?_eq_getElem hk2]; rfl
              exact idx_le hk2 hgk
            unfold ixL; rw [if_pos hin]; omega
        · skip
          refine wa_iload (n := 5) rfl ?_
          refine wa_ifeq (w_rg0 (by omega) (by omega)) ⟨_, rfl⟩ (fun c155 => ?_) (fun c155 => ?_)
          · skip
            refine wa_iinc rfl rfl ?_
            refine wa_goto ⟨_, rfl⟩ ?_
            rw [show ((k : Nat) : Int) + 1 = ((k + 1 : Nat) : Int) from rfl]
            refine wJ_S (ih (k + 1) (by omega) (by omega) (fun y hy => ?_)) ⟨rfl, rfl, rfl, rfl, rfl, trivial⟩
            by_cases hyk : y = k
            · subst hyk; exact hne
            · exact hbe y (by omega)
          · skip
            exact absurd c155 (by omega)
theorem fn3m {p m : Int} (hM : w_ML S) (hN : mN L S) (hp : 0 ≤ p ∧ p ≤ 269632) (hm : 0 ≤ m ∧ m ≤ 269632 ∧ p + m ≤ 269632) : wJ (pe_GA xs) wY0 M d t_M_findName ((pe_at t_M_findName.bl 0).getD (0, [])).2 [(0, (2, 237)), (1, (2, 283)), (2, (0, p)), (3, (0, m))] [] S (fun o Z => S = Z ∧ o = .inl (some (0, ixL L (sl_ (S 283) p m)))) := by
  refine wa_iconst ?_
  refine wa_istore (n := 4) rfl ?_
  refine wa_fall ⟨_, rfl⟩ ?_
  exact wJ_S (fn3_o hM hN hp hm (L.length + 1) 0 (by omega) (by omega) (fun y hy => absurd hy (Nat.not_lt_zero _))) ⟨rfl, rfl, rfl, rfl, rfl, trivial⟩
end Wfd
