/-! PART gy: addName on the reference's texts; namesElement of the reference. -/
section Wgy
variable {xs : List (Nat × List Int32)} {M : Nat → Prop} {d : Nat} {A B C S Z : wS} {Q : wO → wS → Prop} {L N : List (List Int)} {x : List Int} {r k v p : Int}
/-- x signs have been copied behind the names -/
def nc3_ag (S Z : wS) (b p : Int) (x : Nat) : Prop := (∀ y : Nat, y < x → Z 281 (b + (y : Int)) = S 283 (p + (y : Int))) ∧ ∀ (j : Nat) (i : Int), (j ≠ 281 ∨ i < b ∨ b + (x : Int) ≤ i) → Z j i = S j i
theorem nc3_s {b p : Int} {x : Nat} (h : nc3_ag S Z b p x) : nc3_ag S (w_up Z 281 (b + (x : Int)) (S 283 (p + (x : Int)))) b p (x + 1) := by
  obtain ⟨h1, h2⟩ := h
  refine ⟨fun y hy => ?_, fun j i hj => ?_⟩
  · by_cases hx : y = x
    · subst hx; exact w_up_same _ _ _ _
    · rw [w_up_at (by omega)]; exact h1 y (by omega)
  · rw [w_up_no (by omega)]; exact h2 j i (by omega)
theorem na3_mk {p m : Int} {Z1 : wS} (hm : 0 ≤ m ∧ m ≤ 60) (hN : mN L S) (hl : L.length < 4000) (h : nc3_ag S Z1 (60 * (L.length : Int)) p m.toNat) : na_ag L (sl_ (S 283) p m) S (w_up (w_up Z1 282 (L.length : Int) m) 237 16 ((L.length : Int) + 1)) := by
  obtain ⟨n1, n2, n3⟩ := hN
  obtain ⟨h1, h2⟩ := h
  have hl1 : (L ++ [sl_ (S 283) p m]).length = L.length + 1 := by rw [List.length_append]; rfl
  refine ⟨⟨by rw [w_up_same, hl1]; omega, by omega, fun k hk => ?_⟩, fun j i e1 e2 e3 => ?_⟩
  · rw [hl1] at hk
    by_cases hkl : k < L.length
    · have eg : (L ++ [sl_ (S 283) p m]).getD k [] = L.getD k [] := by
        rw [List.getD_eq_getElem?_getD, List.getElem?_append_left hkl, ← List.getD_eq_getElem?_getD]
      obtain ⟨g1, g2, g3⟩ := n3 k hkl
      rw [eg]
      refine ⟨?_, g2, fun x hx => ?_⟩
      · rw [w_up_slot (by first | decide | omega), w_up_at (by omega), h2 282 _ (by omega)]; exact g1
      · rw [w_up_slot (by first | decide | omega), w_up_slot (by first | decide | omega), h2 281 _ (by omega)]; exact g3 x hx
    · have ek : k = L.length := by omega
      have eg : (L ++ [sl_ (S 283) p m]).getD k [] = sl_ (S 283) p m := by
        rw [List.getD_eq_getElem?_getD, List.getElem?_append_right (by omega), show k - L.length = 0 by omega]
        rfl
      rw [eg, sl_len]
      refine ⟨?_, by omega, fun x hx => ?_⟩
      · rw [w_up_slot (by first | decide | omega), ek, w_up_same]; omega
      · rw [w_up_slot (by first | decide | omega), w_up_slot (by first | decide | omega), ek, h1 x hx, sl_get (S 283) p m hx]
  · rw [w_up_no (by omega), w_up_no (by omega)]
    exact h2 j i (by omega)
theorem nad3_l {p m : Int} (hM : w_ML S) (hN : mN L S) (hl : L.length < 4000) (hp : 0 ≤ p ∧ p ≤ 269632) (hm : 0 ≤ m ∧ m ≤ 60 ∧ p + m ≤ 269632) : ∀ (f x : Nat) (Z : wS), (m - (x : Int)).toNat < f → (x : Int) ≤ m → nc3_ag S Z (60 * (L.length : Int)) p x → wJ (pe_GA xs) wY0 M d t_M_addName ((pe_at t_M_addName.bl 1).getD (0, [])).2 [(0, (2, 237)), (1, (2, 283)), (2, (0, p)), (3, (0, m)), (4, (0, (x : Int)))] [] Z (fun o Z => o = .inl (some (0, (L.length : Int))) ∧ na_ag L (sl_ (S 283) p m) S Z) := by
  intro f
  induction f with
  | zero => intro x Z h; exact absurd h (Nat.not_lt_zero _)
  | succ f ih =>
    intro x Z hf hx hz
    have z16 : Z 237 16 = (L.length : Int) := (hz.2 237 16 (Or.inl (by first | decide | omega))).trans hN.1
    have zM : w_ML Z := fun y hy => (hz.2 y.1 (-1) (by omega)).trans (hM y hy)
    refine wa_iload (n := 4) rfl ?_
    refine wa_iload_n (n := 3) rfl ?_
    refine wa_icmpge (w_rg0 (by omega) (by omega)) (w_rg0 (by omega) (by omega)) ⟨_, rfl⟩ (fun c101 => ?_) (fun c101 => ?_)
    · skip
      refine wa_aload_n (n := 0) rfl ?_
      refine wb_gf4 237 rfl (wy_pr rfl) wt_237 wf_15_18 (v := 282) wl_237_18 ?_
      refine wa_aload_n (n := 0) rfl ?_
      refine wb_gfi 237 rfl (wy_pr rfl) wt_237 wf_15_16 (v := (L.length : Int)) (z16) (fun r102 => ?_)
      refine wa_iload_n (n := 3) rfl ?_
      refine wb_iast 282 rfl (wy_pr rfl) wt_282 (n := 4000) ((ml_282 zM)) (by omega) (by omega) ⟨(by omega), (by omega)⟩ ?_
      refine wa_aload_n (n := 0) rfl ?_
      refine wa_dup (by decide) ?_
      refine wb_gfi 237 rfl (wy_pr rfl) wt_237 wf_15_16 (v := (L.length : Int)) ((w_up_slot (by decide)).trans (z16)) (fun r103 => ?_)
      refine wa_iconst ?_
      refine wa_iadd ?_
      refine wb_pfi 237 rfl (wy_pr rfl) wt_237 wf_15_16 (n := 16) rfl ⟨(by omega), (by omega)⟩ ?_
      refine wa_aload_n (n := 0) rfl ?_
      refine wb_gfi 237 rfl (wy_pr rfl) wt_237 wf_15_16 (v := ((L.length : Int) + 1)) (w_up_same _ _ _ _) (fun r104 => ?_)
      refine wa_iconst ?_
      refine wa_isub ?_
      refine wa_ireturn rfl ?_
      have hxm : x = m.toNat := by omega
      subst hxm
      exact ⟨congrArg (fun z => Sum.inl (some (0, z))) (by omega), na3_mk ⟨hm.1, hm.2.1⟩ hN hl hz⟩
    · skip
      refine wa_aload_n (n := 0) rfl ?_
      refine wb_gf4 237 rfl (wy_pr rfl) wt_237 wf_15_17 (v := 281) wl_237_17 ?_
      refine wa_bipush (w_rg2 (by omega) (by omega)) ?_
      refine wa_aload_n (n := 0) rfl ?_
      refine wb_gfi 237 rfl (wy_pr rfl) wt_237 wf_15_16 (v := (L.length : Int)) (z16) (fun r105 => ?_)
      refine wa_imul ?_
      refine wa_iload (n := 4) rfl ?_
      refine wa_iadd ?_
      refine wa_aload_n (n := 1) rfl ?_
      refine wa_iload_n (n := 2) rfl ?_
      refine wa_iload (n := 4) rfl ?_
      refine wa_iadd ?_
      refine wb_bald 283 rfl (wy_pr rfl) wt_283 (n := 269632) ((ml_283 zM)) (by omega) (by omega) (v := (S 283 (p + (x : Int)))) ((hz.2 283 (p + (x : Int)) (Or.inl (by decide)))) (fun r106 => ?_)
      refine wb_bast 281 rfl (wy_pr rfl) wt_281 (n := 240000) ((ml_281 zM)) (by omega) (by omega) ⟨(by omega), (by omega)⟩ ?_
      refine wa_iinc rfl rfl ?_
      refine wa_goto ⟨_, rfl⟩ ?_
      rw [show ((x : Nat) : Int) + 1 = ((x + 1 : Nat) : Int) from rfl]
      exact wJ_S (ih (x + 1) _ (by omega) (by omega) (nc3_s hz)) ⟨rfl, rfl, rfl, rfl, rfl, trivial⟩
theorem nad3 {p m : Int} (hM : w_ML S) (hN : mN L S) (hl : L.length < 4000) (hp : 0 ≤ p ∧ p ≤ 269632) (hm : 0 ≤ m ∧ m ≤ 60 ∧ p + m ≤ 269632) : wJ (pe_GA xs) wY0 M d t_M_addName ((pe_at t_M_addName.bl 0).getD (0, [])).2 [(0, (2, 237)), (1, (2, 283)), (2, (0, p)), (3, (0, m))] [] S (fun o Z => o = .inl (some (0, (L.length : Int))) ∧ na_ag L (sl_ (S 283) p m) S Z) := by
  refine wa_iconst ?_
  refine wa_istore (n := 4) rfl ?_
  refine wa_fall ⟨_, rfl⟩ ?_
  exact wJ_S (nad3_l hM hN hl hp hm (m.toNat + 1) 0 S (by omega) (by omega) ⟨fun y hy => absurd hy (Nat.not_lt_zero _), fun _ _ _ => rfl⟩) ⟨rfl, rfl, rfl, rfl, rfl, trivial⟩
/-- a text names an element: the name it has or gets -/
def enR (N : List (List Int)) (x : List Int) (S : wS) (o : wO) (Z : wS) : Prop := ((x.length < 1 ∨ 60 < x.length) ∧ o = .inl none ∧ S = Z) ∨ ((1 ≤ x.length ∧ x.length ≤ 60) ∧ ((x ∈ N ∧ o = .inl none ∧ w_up S 237 177 (ixL N x) = Z) ∨ (x ∉ N ∧ 4000 ≤ N.length ∧ o = .inr 238 ∧ hZ 99 (w_up S 237 177 (-1)) = Z) ∨ (x ∉ N ∧ N.length < 4000 ∧ o = .inl none ∧ ∃ A : wS, na_ag N x (w_up S 237 177 (-1)) A ∧ w_up (w_up A 237 177 (N.length : Int)) 337 (N.length : Int) 0 = Z)))
theorem mN_ag9 {Z : wS} (h : mN N S) (f : ∀ (j : Nat) (x : Int), j = 281 ∨ j = 282 ∨ (j = 237 ∧ x = 16) → Z j x = S j x) : mN N Z := by
  obtain ⟨h1, h2, h3⟩ := h
  refine ⟨(f 237 16 (by omega)).trans h1, h2, fun k hk => ?_⟩
  obtain ⟨a1, a2, a3⟩ := h3 k hk
  exact ⟨(f 282 _ (by omega)).trans a1, a2, fun y hy => (f 281 _ (by omega)).trans (a3 y hy)⟩
theorem nek_ok (hM : w_ML S) (h73 : S 237 173 = r) (hr : 0 ≤ r ∧ r < 4190) (hk : S 363 (r + 1) = k) (hv : S 364 (r + 1) = v) (hk3 : k ≠ 3) : wJ (pe_GA xs) wY0 M (d + 3) t_M_namesElement ((pe_at t_M_namesElement.bl 0).getD (0, [])).2 [(0, (2, 237))] [] S (fun o Z => o = .inl none ∧ S = Z) := by
  have hlr := wb_l2i_rg v
  refine wa_aload_n (n := 0) rfl ?_
  refine wb_gf4 237 rfl (wy_pr rfl) wt_237 wf_15_139 (v := 364) wl_237_139 ?_
  refine wa_aload_n (n := 0) rfl ?_
  refine wb_gfi 237 rfl (wy_pr rfl) wt_237 wf_15_173 (v := r) (h73) (fun r1 => ?_)
  refine wa_iconst ?_
  refine wa_iadd ?_
  refine wb_lald 364 rfl (wy_pr rfl) wt_364 (n := 4200) ((ml_364 hM)) (by omega) (by omega) (v := v) (hv) (fun r2 => ?_)
  refine wa_l2i ?_
  refine wa_istore_n (n := 1) rfl ?_
  refine wa_aload_n (n := 0) rfl ?_
  refine wb_gf4 237 rfl (wy_pr rfl) wt_237 wf_15_138 (v := 363) wl_237_138 ?_
  refine wa_aload_n (n := 0) rfl ?_
  refine wb_gfi 237 rfl (wy_pr rfl) wt_237 wf_15_173 (v := r) (h73) (fun r3 => ?_)
  refine wa_iconst ?_
  refine wa_iadd ?_
  refine wb_iald 363 rfl (wy_pr rfl) wt_363 (n := 4200) ((ml_363 hM)) (by omega) (by omega) (v := k) (hk) (fun r4 => ?_)
  refine wa_iconst ?_
  refine wa_icmpne (w_rg0 (by omega) (by omega)) (w_rg0 (by omega) (by omega)) ⟨_, rfl⟩ (fun c5 => ?_) (fun c5 => ?_)
  · skip
    refine wa_return rfl ?_
    exact ⟨rfl, rfl⟩
  · skip
    exfalso; omega
set_option maxHeartbeats 4000000 in
theorem net_ok (hM : w_ML S) (h73 : S 237 173 = r) (hr : 0 ≤ r ∧ r < 4190) (hk : S 363 (r + 1) = 3) (hv : S 364 (r + 1) = v) (hvr : 0 ≤ v ∧ v < 16000) (hN : mN N S) (h84 : S 284 v = p) (h85 : S 285 v = (x.length : Int)) (hp : 0 ≤ p ∧ p + (x.length : Int) ≤ 269632) (hx : ∀ i : Nat, i < x.length → S 283 (p + (i : Int)) = x.getD i 0) : wJ (pe_GA xs) wY0 M (d + 4) t_M_namesElement ((pe_at t_M_namesElement.bl 0).getD (0, [])).2 [(0, (2, 237))] [] S (enR N x S) := by
  have hlr : wb_l2i v = v := wb_l2i_id ⟨by omega, by omega⟩
  have hN2 := hN.2.1
  have h16 := hN.1
  have hsx : sl_ (S 283) p (x.length : Int) = x := by
    refine lsg_e (by rw [sl_len]; omega) (fun i hi => ?_)
    rw [sl_len] at hi
    rw [sl_get (S 283) p _ hi]
    exact hx i (by omega)
  obtain ⟨nx, hnx⟩ : ∃ n : Int, n = ixL N x := ⟨_, rfl⟩
  have hnr : -1 ≤ nx ∧ nx ≤ 4000 := by have := @ixL_rr N x; omega
  refine wa_aload_n (n := 0) rfl ?_
  refine wb_gf4 237 rfl (wy_pr rfl) wt_237 wf_15_139 (v := 364) wl_237_139 ?_
  refine wa_aload_n (n := 0) rfl ?_
  refine wb_gfi 237 rfl (wy_pr rfl) wt_237 wf_15_173 (v := r) (h73) (fun r101 => ?_)
  refine wa_iconst ?_
  refine wa_iadd ?_
  refine wb_lald 364 rfl (wy_pr rfl) wt_364 (n := 4200) ((ml_364 hM)) (by omega) (by omega) (v := v) (hv) (fun r102 => ?_)
  refine wb_l2i_r (wb_l2i_id ⟨(by omega), (by omega)⟩) ?_
  refine wa_istore_n (n := 1) rfl ?_
  refine wa_aload_n (n := 0) rfl ?_
  refine wb_gf4 237 rfl (wy_pr rfl) wt_237 wf_15_138 (v := 363) wl_237_138 ?_
  refine wa_aload_n (n := 0) rfl ?_
  refine wb_gfi 237 rfl (wy_pr rfl) wt_237 wf_15_173 (v := r) (h73) (fun r103 => ?_)
  refine wa_iconst ?_
  refine wa_iadd ?_
  refine wb_iald 363 rfl (wy_pr rfl) wt_363 (n := 4200) ((ml_363 hM)) (by omega) (by omega) (v := 3) (hk) (fun r104 => ?_)
  refine wa_iconst ?_
  refine wa_icmpne (w_rg0 (by omega) (by omega)) (w_rg0 (by omega) (by omega)) ⟨_, rfl⟩ (fun c105 => ?_) (fun c105 => ?_)
  · skip
    exact absurd c105 (by omega)
  · skip
    refine wa_aload_n (n := 0) rfl ?_
    refine wb_gf4 237 rfl (wy_pr rfl) wt_237 wf_15_23 (v := 285) wl_237_23 ?_
    refine wa_iload_n (n := 1) rfl ?_
    refine wb_iald 285 rfl (wy_pr rfl) wt_285 (n := 16000) ((ml_285 hM)) (by omega) (by omega) (v := (x.length : Int)) (h85) (fun r106 => ?_)
    refine wa_i2l (w_rg0 (by omega) (by omega)) ?_
    refine wb_lconst (m := 1) rfl ?_
    refine wb_kl (n := 60) rfl ?_
    refine wa_cs (M2 := fun _ => False) rfl at_M_in ⟨_, rfl⟩ rfl rfl ⟨trivial, (Or.inr ⟨wy_pr rfl, fun q => q⟩), trivial⟩ trivial (fun _ _ q => False.elim q) ?_ (fun _ _ _ q => q)
    refine wa_lload_n (n := 0) rfl ?_
    refine wa_lload_n (n := 2) rfl ?_
    refine wa_lcmp (w_rg1 (by omega) (by omega)) (w_rg1 (by omega) (by omega)) ?_
    refine wa_iflt (by have := @wb_lcmp_cases; exact w_lcmp_rg) ⟨_, rfl⟩ (fun c107 => ?_) (fun c107 => ?_)
    · skip
      have c107x := @wb_lcmp_cases (x.length : Int) 1
      refine wa_iconst ?_
      refine wa_fall ⟨_, rfl⟩ ?_
      refine wa_zreturn rfl (Or.inl rfl) ?_
      show wJ _ _ _ _ _ _ _ _ _ _
      refine wa_ifne (w_rg0 (by omega) (by omega)) ⟨_, rfl⟩ (fun c108 => ?_) (fun c108 => ?_)
      · skip
        exact absurd c108 (by omega)
      · skip
        refine wa_fall ⟨_, rfl⟩ ?_
        refine wa_return rfl ?_
        exact Or.inl ⟨by omega, rfl, rfl⟩
    · skip
      have c107x := @wb_lcmp_cases (x.length : Int) 1
      refine wa_lload_n (n := 0) rfl ?_
      refine wa_lload (n := 4) rfl ?_
      refine wa_lcmp (w_rg1 (by omega) (by omega)) (w_rg1 (by omega) (by omega)) ?_
      refine wa_ifgt (by have := @wb_lcmp_cases; exact w_lcmp_rg) ⟨_, rfl⟩ (fun c109 => ?_) (fun c109 => ?_)
      · skip
        have c109x := @wb_lcmp_cases (x.length : Int) 60
        refine wa_iconst ?_
        refine wa_fall ⟨_, rfl⟩ ?_
        refine wa_zreturn rfl (Or.inl rfl) ?_
        show wJ _ _ _ _ _ _ _ _ _ _
        refine wa_ifne (w_rg0 (by omega) (by omega)) ⟨_, rfl⟩ (fun c110 => ?_) (fun c110 => ?_)
        · skip
          exact absurd c110 (by omega)
        · skip
          refine wa_fall ⟨_, rfl⟩ ?_
          refine wa_return rfl ?_
          exact Or.inl ⟨by omega, rfl, rfl⟩
      · skip
        have c109x := @wb_lcmp_cases (x.length : Int) 60
        refine wa_iconst ?_
        refine wa_goto ⟨_, rfl⟩ ?_
        refine wa_zreturn rfl (Or.inr rfl) ?_
        show wJ _ _ _ _ _ _ _ _ _ _
        refine wa_ifne (w_rg0 (by omega) (by omega)) ⟨_, rfl⟩ (fun c111 => ?_) (fun c111 => ?_)
        · skip
          refine wa_aload_n (n := 0) rfl ?_
          refine wa_aload_n (n := 0) rfl ?_
          refine wa_aload_n (n := 0) rfl ?_
          refine wb_gf4 237 rfl (wy_pr rfl) wt_237 wf_15_21 (v := 283) wl_237_21 ?_
          refine wa_aload_n (n := 0) rfl ?_
          refine wb_gf4 237 rfl (wy_pr rfl) wt_237 wf_15_22 (v := 284) wl_237_22 ?_
          refine wa_iload_n (n := 1) rfl ?_
          refine wb_iald 284 rfl (wy_pr rfl) wt_284 (n := 16000) ((ml_284 hM)) (by omega) (by omega) (v := p) (h84) (fun r112 => ?_)
          refine wa_aload_n (n := 0) rfl ?_
          refine wb_gf4 237 rfl (wy_pr rfl) wt_237 wf_15_23 (v := 285) wl_237_23 ?_
          refine wa_iload_n (n := 1) rfl ?_
          refine wb_iald 285 rfl (wy_pr rfl) wt_285 (n := 16000) ((ml_285 hM)) (by omega) (by omega) (v := (x.length : Int)) (h85) (fun r113 => ?_)
          refine wa_cv 237 rfl (wy_pr rfl) wt_237 (M2 := fun _ => False) rfl at_M_findName ⟨_, rfl⟩ rfl rfl ⟨trivial, (Or.inr ⟨wy_pr rfl, fun q => q⟩), trivial⟩ ⟨(Or.inr ⟨wy_pr rfl, fun q => q⟩), trivial⟩ (fun _ _ q => False.elim q) (wJ_mono (fn3m (S := S) (L := N) (p := p) (m := (x.length : Int)) hM hN ⟨hp.1, by omega⟩ ⟨by omega, by omega, by omega⟩) (fun o Z hz => (⟨hz.1, by rw [hnx]; exact hz.2.trans (by rw [hsx])⟩ : S = Z ∧ o = .inl (some (0, nx))))) (fun oq114 Sq114 hp115 q114 => ?_)
          rcases q114 with ⟨rfl, rfl⟩
          show wJ _ _ _ _ _ _ _ _ _ _
          refine wb_pfi 237 rfl (wy_pr rfl) wt_237 wf_15_177 (n := 177) rfl ⟨(by omega), (by omega)⟩ ?_
          refine wa_aload_n (n := 0) rfl ?_
          refine wb_gfi 237 rfl (wy_pr rfl) wt_237 wf_15_177 (v := nx) (w_up_same _ _ _ _) (fun r116 => ?_)
          refine wa_iflt (w_rg0 (by omega) (by omega)) ⟨_, rfl⟩ (fun c117 => ?_) (fun c117 => ?_)
          · skip
            refine wa_aload_n (n := 0) rfl ?_
            refine wa_aload_n (n := 0) rfl ?_
            refine wb_gfi 237 rfl (wy_pr rfl) wt_237 wf_15_16 (v := (N.length : Int)) ((w_up_at (by decide)).trans (h16)) (fun r118 => ?_)
            refine wa_sipush (by omega) ?_
            refine wa_icmpge (w_rg0 (by omega) (by omega)) (w_rg0 (by omega) (by omega)) ⟨_, rfl⟩ (fun c119 => ?_) (fun c119 => ?_)
            · skip
              refine wa_iconst ?_
              refine wa_fall ⟨_, rfl⟩ ?_
              refine wa_cv 237 rfl (wy_pr rfl) wt_237 (M2 := fun _ => False) rfl at_M_room ⟨_, rfl⟩ rfl rfl ⟨trivial, (Or.inr ⟨wy_pr rfl, fun q => q⟩), trivial⟩ trivial (fun _ _ q => False.elim q) ?_ (fun _ _ _ q => q)
              refine wa_iload_n (n := 1) rfl ?_
              refine wa_ifne (w_rg0 (by omega) (by omega)) ⟨_, rfl⟩ (fun c120 => ?_) (fun c120 => ?_)
              · skip
                exact absurd c120 (by omega)
              · skip
                refine wa_aload_n (n := 0) rfl ?_
                refine wb_gf4 237 rfl (wy_pr rfl) wt_237 wf_15_1 (v := 238) wl_237_1 ?_
                refine wa_bipush (w_rg2 (by omega) (by omega)) ?_
                refine wa_iconst ?_
                refine wa_cv 238 rfl (wy_pr rfl) wt_238 (M2 := fun _ => False) rfl at_MH_of ⟨_, rfl⟩ rfl rfl ⟨(Or.inr ⟨wy_pr rfl, fun q => q⟩), trivial, trivial⟩ trivial (fun _ _ q => False.elim q) ?_ (fun _ _ _ q => q)
                refine wa_aload_n (n := 0) rfl ?_
                refine wa_iload_n (n := 1) rfl ?_
                refine wb_pfi 238 rfl (wy_pr rfl) wt_238 wf_11_5 (n := 5) rfl ⟨(by omega), (by omega)⟩ ?_
                refine wa_aload_n (n := 0) rfl ?_
                refine wa_iload_n (n := 2) rfl ?_
                refine wb_pfi 238 rfl (wy_pr rfl) wt_238 wf_11_6 (n := 6) rfl ⟨(by omega), (by omega)⟩ ?_
                refine wa_aload_n (n := 0) rfl ?_
                refine wa_oreturn rfl ?_
                show wJ _ _ _ _ _ _ _ _ _ _
                refine wa_th (j := 238) ?_
                refine ⟨rfl, ?_⟩
                exact Or.inr ⟨by omega, Or.inr (Or.inl ⟨ixL_no.mp (by rw [← hnx]; omega), by omega, rfl, by rw [show nx = -1 by omega]; rfl⟩)⟩
            · skip
              refine wa_iconst ?_
              refine wa_goto ⟨_, rfl⟩ ?_
              refine wa_cv 237 rfl (wy_pr rfl) wt_237 (M2 := fun _ => False) rfl at_M_room ⟨_, rfl⟩ rfl rfl ⟨trivial, (Or.inr ⟨wy_pr rfl, fun q => q⟩), trivial⟩ trivial (fun _ _ q => False.elim q) ?_ (fun _ _ _ q => q)
              refine wa_iload_n (n := 1) rfl ?_
              refine wa_ifne (w_rg0 (by omega) (by omega)) ⟨_, rfl⟩ (fun c121 => ?_) (fun c121 => ?_)
              · skip
                refine wa_return rfl ?_
                show wJ _ _ _ _ _ _ _ _ _ _
                refine wa_aload_n (n := 0) rfl ?_
                refine wa_aload_n (n := 0) rfl ?_
                refine wa_aload_n (n := 0) rfl ?_
                refine wb_gf4 237 rfl (wy_pr rfl) wt_237 wf_15_21 (v := 283) wl_237_21 ?_
                refine wa_aload_n (n := 0) rfl ?_
                refine wb_gf4 237 rfl (wy_pr rfl) wt_237 wf_15_22 (v := 284) wl_237_22 ?_
                refine wa_iload_n (n := 1) rfl ?_
                refine wb_iald 284 rfl (wy_pr rfl) wt_284 (n := 16000) ((w_up_slot (by decide)).trans ((ml_284 hM))) (by omega) (by omega) (v := p) ((w_up_slot (by decide)).trans (h84)) (fun r122 => ?_)
                refine wa_aload_n (n := 0) rfl ?_
                refine wb_gf4 237 rfl (wy_pr rfl) wt_237 wf_15_23 (v := 285) wl_237_23 ?_
                refine wa_iload_n (n := 1) rfl ?_
                refine wb_iald 285 rfl (wy_pr rfl) wt_285 (n := 16000) ((w_up_slot (by decide)).trans ((ml_285 hM))) (by omega) (by omega) (v := (x.length : Int)) ((w_up_slot (by decide)).trans (h85)) (fun r123 => ?_)
                have hno : x ∉ N := ixL_no.mp (by rw [← hnx]; omega)
                have enx : nx = -1 := by omega
                have eT : (w_up S 237 177 nx) = w_up S 237 177 (-1) := by rw [enx]
                have hNT : mN N (w_up S 237 177 nx) := mN_ag9 hN (fun j x hj => w_up_no (by omega))
                refine wa_cv 237 rfl (wy_pr rfl) wt_237 (M2 := fun _ => False) rfl at_M_addName ⟨_, rfl⟩ rfl rfl ⟨trivial, (Or.inr ⟨wy_pr rfl, fun q => q⟩), trivial⟩ ⟨(Or.inr ⟨wy_pr rfl, fun q => q⟩), trivial⟩ (fun _ _ q => False.elim q) (nad3 (S := (w_up S 237 177 nx)) (L := N) (p := p) (m := (x.length : Int)) (w_ML_up hM (by decide)) hNT (by omega) ⟨hp.1, by omega⟩ ⟨by omega, by omega, by omega⟩) (fun oq124 Sq124 hp125 q124 => ?_)
                rcases q124 with ⟨rfl, hna⟩
                show wJ _ _ _ _ _ _ _ _ _ _
                rw [show sl_ ((w_up S 237 177 nx) 283) p (x.length : Int) = x from hsx] at hna
                have l337 := hna.2 337 (-1) (by first | decide | omega) (by first | decide | omega) (by first | decide | omega)
                rw [eT] at hna
                refine wb_pfi 237 rfl (wy_pr rfl) wt_237 wf_15_177 (n := 177) rfl ⟨(by omega), (by omega)⟩ ?_
                refine wa_aload_n (n := 0) rfl ?_
                refine wb_gf4 237 rfl (wy_pr rfl) wt_237 wf_15_97 (v := 337) wl_237_97 ?_
                refine wa_aload_n (n := 0) rfl ?_
                refine wb_gfi 237 rfl (wy_pr rfl) wt_237 wf_15_177 (v := (N.length : Int)) (w_up_same _ _ _ _) (fun r126 => ?_)
                refine wa_iconst ?_
                refine wb_zast 337 rfl (wy_pr rfl) wt_337 (n := (4000)) ((w_up_slot (by decide)).trans ((hna.2 337 (-1) (Or.inl (by decide)) (Or.inl (by decide)) (Or.inl (by decide))).trans (((w_up_slot (by decide)).trans ((ml_337 hM)))))) (by omega) (by omega) ⟨(by omega), (by omega)⟩ ?_
                refine wa_return rfl ?_
                exact Or.inr ⟨by omega, Or.inr (Or.inr ⟨hno, by omega, rfl, _, hna, rfl⟩)⟩
              · skip
                exact absurd c121 (by omega)
          · skip
            refine wa_return rfl ?_
            exact Or.inr ⟨by omega, Or.inl ⟨Classical.byContradiction (fun z => by have := ixL_no.mpr z; omega), rfl, by rw [← hnx]⟩⟩
        · skip
          exact absurd c111 (by omega)
end Wgy
