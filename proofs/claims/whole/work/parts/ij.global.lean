/-! PART ij: global, of the class and of the reference. -/
section Wij
variable {xs : List (Nat × List Int32)} {M : Nat → Prop} {d : Nat} {A B C S Z : wS} {Q : wO → wS → Prop} {L : List (List Int)} {N : List (List Int)} {x : List Int} {Gg : Int → aV} {n wh : Int}
theorem fnT_i {p m : Int} {k : Nat} (hM : w_ML S) (hN : mN L S) (hp : 0 ≤ p ∧ p ≤ 65552) (hm : 0 ≤ m ∧ m ≤ 65552 ∧ p + m ≤ 65552) (hk : k < L.length) (h1 : L.getD k [] = sl_ (S 239) p m → wJ (pe_GA xs) wY0 M d t_M_findName ((pe_at t_M_findName.bl 7).getD (0, [])).2 [(0, (2, 237)), (1, (2, 239)), (2, (0, p)), (3, (0, m)), (4, (0, (k : Int))), (5, (0, 1))] [] S Q) (h0 : L.getD k [] ≠ sl_ (S 239) p m → wJ (pe_GA xs) wY0 M d t_M_findName ((pe_at t_M_findName.bl 7).getD (0, [])).2 [(0, (2, 237)), (1, (2, 239)), (2, (0, p)), (3, (0, m)), (4, (0, (k : Int))), (5, (0, 0))] [] S Q) : ∀ (f x : Nat) (sm : Int), (m - (x : Int)).toNat < f → (x : Int) ≤ m → ((sm = 1 ∧ ((L.getD k []).length : Int) = m ∧ ∀ y : Nat, y < x → (L.getD k []).getD y 0 = S 239 (p + (y : Int))) ∨ (sm = 0 ∧ L.getD k [] ≠ sl_ (S 239) p m)) → wJ (pe_GA xs) wY0 M d t_M_findName ((pe_at t_M_findName.bl 4).getD (0, [])).2 [(0, (2, 237)), (1, (2, 239)), (2, (0, p)), (3, (0, m)), (4, (0, (k : Int))), (5, (0, sm)), (6, (0, (x : Int)))] [] S Q := by
  obtain ⟨n1, n2, n3⟩ := hN
  obtain ⟨k1, k2, k3⟩ := n3 k hk
  intro f
  induction f with
  | zero => intro x sm h; exact absurd h (Nat.not_lt_zero _)
  | succ f ih =>
    intro x sm hf hx hs
    have hsr : sm = 0 ∨ sm = 1 := hs.elim (fun q => Or.inr q.1) (fun q => Or.inl q.1)
    refine wa_iload (n := 6) rfl ?_
    refine wa_iload_n (n := 3) rfl ?_
    refine wa_icmpge (w_rg0 (by omega) (by omega)) (w_rg0 (by omega) (by omega)) ⟨_, rfl⟩ (fun c101 => ?_) (fun c101 => ?_)
    · skip
      rcases hs with ⟨rfl, hs1, hs2⟩ | ⟨rfl, hs1⟩
      · first | omega | exact wJ_S (h1 ((sl_eq (by omega)).mpr ⟨hs1, fun y hy => hs2 y (by omega)⟩)) ⟨rfl, rfl, rfl, rfl, rfl, rfl, trivial⟩
      · exact wJ_S (h0 hs1) ⟨rfl, rfl, rfl, rfl, rfl, rfl, trivial⟩
    · skip
      refine wa_iload (n := 5) rfl ?_
      refine wa_ifeq (w_rg0 (by omega) (by omega)) ⟨_, rfl⟩ (fun c102 => ?_) (fun c102 => ?_)
      · skip
        rcases hs with ⟨rfl, hs1, hs2⟩ | ⟨rfl, hs1⟩
        · first | omega | exact wJ_S (h1 ((sl_eq (by omega)).mpr ⟨hs1, fun y hy => hs2 y (by omega)⟩)) ⟨rfl, rfl, rfl, rfl, rfl, rfl, trivial⟩
        · exact wJ_S (h0 hs1) ⟨rfl, rfl, rfl, rfl, rfl, rfl, trivial⟩
      · skip
        have hs1 : sm = 1 ∧ ((L.getD k []).length : Int) = m ∧ ∀ y : Nat, y < x → (L.getD k []).getD y 0 = S 239 (p + (y : Int)) := hs.elim id (fun q => by omega)
        have hkx := k3 x (by omega)
        refine wa_aload_n (n := 0) rfl ?_
        refine wb_gf4 237 rfl (wy_pr rfl) wt_237 wf_15_17 (v := 281) wl_237_17 ?_
        refine wa_bipush (w_rg2 (by omega) (by omega)) ?_
        refine wa_iload (n := 4) rfl ?_
        refine wa_imul ?_
        refine wa_iload (n := 6) rfl ?_
        refine wa_iadd ?_
        refine wb_bald 281 rfl (wy_pr rfl) wt_281 (n := 240000) ((ml_281 hM)) (by omega) (by omega) (v := (S 281 ((60 * (k : Int)) + (x : Int)))) rfl (fun r103 => ?_)
        refine wa_aload_n (n := 1) rfl ?_
        refine wa_iload_n (n := 2) rfl ?_
        refine wa_iload (n := 6) rfl ?_
        refine wa_iadd ?_
        refine wb_bald 239 rfl (wy_pr rfl) wt_239 (n := 65552) ((ml_239 hM)) (by omega) (by omega) (v := (S 239 (p + (x : Int)))) rfl (fun r104 => ?_)
        refine wa_icmpne (w_rg0 (by omega) (by omega)) (w_rg0 (by omega) (by omega)) ⟨_, rfl⟩ (fun c105 => ?_) (fun c105 => ?_)
        · skip
          refine wa_iconst ?_
          refine wa_fall ⟨_, rfl⟩ ?_
          refine wa_istore (n := 5) rfl ?_
          refine wa_iinc rfl rfl ?_
          refine wa_goto ⟨_, rfl⟩ ?_
          rw [show ((x : Nat) : Int) + 1 = ((x + 1 : Nat) : Int) from rfl]
          refine wJ_S (ih (x + 1) 0 (by omega) (by omega) (Or.inr ⟨rfl, fun q => ?_⟩)) ⟨rfl, rfl, rfl, rfl, rfl, rfl, rfl, trivial⟩
          have := ((sl_eq (by omega)).mp q).2 x (by omega)
          rw [← hkx] at this
          first | exact absurd this (by assumption) | omega
        · skip
          refine wa_iconst ?_
          refine wa_goto ⟨_, rfl⟩ ?_
          refine wa_istore (n := 5) rfl ?_
          refine wa_iinc rfl rfl ?_
          refine wa_goto ⟨_, rfl⟩ ?_
          rw [show ((x : Nat) : Int) + 1 = ((x + 1 : Nat) : Int) from rfl]
          refine wJ_S (ih (x + 1) 1 (by omega) (by omega) (Or.inl ⟨rfl, hs1.2.1, fun y hy => ?_⟩)) ⟨rfl, rfl, rfl, rfl, rfl, rfl, rfl, trivial⟩
          by_cases hyx : y = x
          · subst hyx; rw [← hkx]; omega
          · exact hs1.2.2 y (by omega)
theorem fnT_o {p m : Int} (hM : w_ML S) (hN : mN L S) (hp : 0 ≤ p ∧ p ≤ 65552) (hm : 0 ≤ m ∧ m ≤ 65552 ∧ p + m ≤ 65552) : ∀ (f k : Nat), L.length - k < f → k ≤ L.length → (∀ y : Nat, y < k → L.getD y [] ≠ sl_ (S 239) p m) → wJ (pe_GA xs) wY0 M d t_M_findName ((pe_at t_M_findName.bl 1).getD (0, [])).2 [(0, (2, 237)), (1, (2, 239)), (2, (0, p)), (3, (0, m)), (4, (0, (k : Int)))] [] S (fun o Z => S = Z ∧ o = .inl (some (0, ixL L (sl_ (S 239) p m)))) := by
  have hN0 := hN
  obtain ⟨n1, n2, n3⟩ := hN
  intro f
  induction f with
  | zero => intro k h; exact absurd h (Nat.not_lt_zero _)
  | succ f ih =>
    intro k hf hkl hbe
    refine wa_iload (n := 4) rfl ?_
    refine wa_aload_n (n := 0) rfl ?_
    refine wb_gfi 237 rfl (wy_pr rfl) wt_237 wf_15_16 (v := (L.length : Int)) (n1) (fun r101 => ?_)
    refine wa_icmpge (w_rg0 (by omega) (by omega)) (w_rg0 (by omega) (by omega)) ⟨_, rfl⟩ (fun c102 => ?_) (fun c102 => ?_)
    · skip
      refine wa_iconst ?_
      refine wa_ireturn rfl ?_
      refine ⟨rfl, congrArg (fun z => Sum.inl (some (0, z))) ?_⟩
      refine (ixL_no.mpr (fun q => ?_)).symm
      obtain ⟨g1, g2⟩ := getD_idx q
      exact hbe _ (by omega) g2
    · skip
      have hkb := (n3 k (by omega)).2.1
      refine wa_aload_n (n := 0) rfl ?_
      refine wb_gf4 237 rfl (wy_pr rfl) wt_237 wf_15_18 (v := 282) wl_237_18 ?_
      refine wa_iload (n := 4) rfl ?_
      refine wb_iald 282 rfl (wy_pr rfl) wt_282 (n := 4000) ((ml_282 hM)) (by omega) (by omega) (v := ((L.getD k []).length : Int)) (((n3 k (by omega)).1)) (fun r103 => ?_)
      refine wa_iload_n (n := 3) rfl ?_
      refine wa_icmpne (w_rg0 (by omega) (by omega)) (w_rg0 (by omega) (by omega)) ⟨_, rfl⟩ (fun c104 => ?_) (fun c104 => ?_)
      · skip
        refine wa_iconst ?_
        refine wa_fall ⟨_, rfl⟩ ?_
        refine wa_istore (n := 5) rfl ?_
        refine wa_iconst ?_
        refine wa_istore (n := 6) rfl ?_
        refine wa_fall ⟨_, rfl⟩ ?_
        refine wJ_S (fnT_i (k := k) hM hN0 hp hm (by omega) (fun he => ?_) (fun hne => ?_) (m.toNat + 1) 0 0 (by omega) (by omega) (Or.inr ⟨rfl, fun q => by have := ((sl_eq (by omega)).mp q).1; omega⟩)) ⟨rfl, rfl, rfl, rfl, rfl, rfl, rfl, trivial⟩
        · skip
          refine wa_iload (n := 5) rfl ?_
          refine wa_ifeq (w_rg0 (by omega) (by omega)) ⟨_, rfl⟩ (fun c205 => ?_) (fun c205 => ?_)
          · skip
            exact absurd c205 (by omega)
          · skip
            refine wa_iload (n := 4) rfl ?_
            refine wa_ireturn rfl ?_
            refine ⟨rfl, congrArg (fun z => Sum.inl (some (0, z))) ?_⟩
            have hin : sl_ (S 239) p m ∈ L := by
              rw [← he, List.getD_eq_getElem?_getD, List.getElem?_eq_getElem (by omega)]
              exact List.getElem_mem _
            obtain ⟨g1, g2⟩ := getD_idx hin
            have hge : k ≤ L.idxOf (sl_ (S 239) p m) := Nat.le_of_not_lt (fun q => hbe _ q g2)
            have hle : L.idxOf (sl_ (S 239) p m) ≤ k := by
              have hk2 : k < L.length := by omega
              have hgk : L[k] = sl_ (S 239) p m := by rw [← he, List.getD_eq_getElem?_getD, List.getElem?_eq_getElem hk2]; rfl
              exact idx_le hk2 hgk
            unfold ixL; rw [if_pos hin]; omega
        · skip
          refine wa_iload (n := 5) rfl ?_
          refine wa_ifeq (w_rg0 (by omega) (by omega)) ⟨_, rfl⟩ (fun c155 => ?_) (fun c155 => ?_)
          · skip
            refine wa_iinc rfl rfl ?_
            refine wa_goto ⟨_, rfl⟩ ?_
            rw [show ((k : Nat) : Int) + 1 = ((k + 1 : Nat) : Int) from rfl]
            refine wJ_S (ih (k + 1) (by omega) (by omega) (fun y hy => ?_)) ⟨rfl, rfl, rfl, rfl, rfl, trivial⟩
            by_cases hyk : y = k
            · subst hyk; exact hne
            · exact hbe y (by omega)
          · skip
            exact absurd c155 (by omega)
      · skip
        refine wa_iconst ?_
        refine wa_goto ⟨_, rfl⟩ ?_
        refine wa_istore (n := 5) rfl ?_
        refine wa_iconst ?_
        refine wa_istore (n := 6) rfl ?_
        refine wa_fall ⟨_, rfl⟩ ?_
        refine wJ_S (fnT_i (k := k) hM hN0 hp hm (by omega) (fun he => ?_) (fun hne => ?_) (m.toNat + 1) 0 1 (by omega) (by omega) (Or.inl ⟨rfl, by omega, fun y hy => absurd hy (Nat.not_lt_zero _)⟩)) ⟨rfl, rfl, rfl, rfl, rfl, rfl, rfl, trivial⟩
        · skip
          refine wa_iload (n := 5) rfl ?_
          refine wa_ifeq (w_rg0 (by omega) (by omega)) ⟨_, rfl⟩ (fun c205 => ?_) (fun c205 => ?_)
          · skip
            exact absurd c205 (by omega)
          · skip
            refine wa_iload (n := 4) rfl ?_
            refine wa_ireturn rfl ?_
            refine ⟨rfl, congrArg (fun z => Sum.inl (some (0, z))) ?_⟩
            have hin : sl_ (S 239) p m ∈ L := by
              rw [← he, List.getD_eq_getElem?_getD, List.getElem?_eq_getElem (by omega)]
              exact List.getElem_mem _
            obtain ⟨g1, g2⟩ := getD_idx hin
            have hge : k ≤ L.idxOf (sl_ (S 239) p m) := Nat.le_of_not_lt (fun q => hbe _ q g2)
            have hle : L.idxOf (sl_ (S 239) p m) ≤ k := by
              have hk2 : k < L.length := by omega
              have hgk : L[k] = sl_ (S 239) p m := by rw [← he, List.getD_eq_getElem?_getD, List.getElem?_eq_getElem hk2]; rfl
              exact idx_le hk2 hgk
            unfold ixL; rw [if_pos hin]; omega
        · skip
          refine wa_iload (n := 5) rfl ?_
          refine wa_ifeq (w_rg0 (by omega) (by omega)) ⟨_, rfl⟩ (fun c155 => ?_) (fun c155 => ?_)
          · skip
            refine wa_iinc rfl rfl ?_
            refine wa_goto ⟨_, rfl⟩ ?_
            rw [show ((k : Nat) : Int) + 1 = ((k + 1 : Nat) : Int) from rfl]
            refine wJ_S (ih (k + 1) (by omega) (by omega) (fun y hy => ?_)) ⟨rfl, rfl, rfl, rfl, rfl, trivial⟩
            by_cases hyk : y = k
            · subst hyk; exact hne
            · exact hbe y (by omega)
          · skip
            exact absurd c155 (by omega)
theorem fnTm {p m : Int} (hM : w_ML S) (hN : mN L S) (hp : 0 ≤ p ∧ p ≤ 65552) (hm : 0 ≤ m ∧ m ≤ 65552 ∧ p + m ≤ 65552) : wJ (pe_GA xs) wY0 M d t_M_findName ((pe_at t_M_findName.bl 0).getD (0, [])).2 [(0, (2, 237)), (1, (2, 239)), (2, (0, p)), (3, (0, m))] [] S (fun o Z => S = Z ∧ o = .inl (some (0, ixL L (sl_ (S 239) p m)))) := by
  refine wa_iconst ?_
  refine wa_istore (n := 4) rfl ?_
  refine wa_fall ⟨_, rfl⟩ ?_
  exact wJ_S (fnT_o hM hN hp hm (L.length + 1) 0 (by omega) (by omega) (fun y hy => absurd hy (Nat.not_lt_zero _))) ⟨rfl, rfl, rfl, rfl, rfl, trivial⟩
theorem c_nmT {s : Int} (hWd : wd_at S 2 1024) (hWL : wd_L S 2 1024) (hWv : wv_L S 2) (hN : cL 9 10 N S) (hs : 0 ≤ s ∧ s + (x.length : Int) ≤ S 1 (-1)) (hp3 : S 1 (-1) ≤ 10000000) (he : ∀ i : Nat, i < x.length → S 1 (s + (i : Int)) = x.getD i 0) : wJ (pe_GA xs) wY0 M (d + 2) t_XW_nameAt ((pe_at t_XW_nameAt.bl 0).getD (0, [])).2 [(0, (2, 2)), (1, (2, 1)), (2, (0, s)), (3, (0, (x.length : Int)))] [] S (fun o Z => S = Z ∧ o = .inl (some (0, ixL N x))) := by
  have hx := sl_x he
  have hI : wd_I 1024 (S 3) (S 4) (S 5) (S 6) (S 12) (S 2 1) (S 3 (-1)) (S 2 7) (S 4 (-1)) := hWd
  have h74 : S 2 7 ≤ S 4 (-1) := hWd.1.2
  have l7 : S 7 (-1) = S 4 (-1) := hWL.2.2.2.1
  refine wa_aload_n (n := 0) rfl ?_
  refine wa_aload_n (n := 1) rfl ?_
  refine wa_iload_n (n := 2) rfl ?_
  refine wa_iload_n (n := 3) rfl ?_
  refine wa_cv 2 rfl (wy_pr rfl) wt_2 (M2 := fun _ => False) rfl at_XW_wordAt ⟨_, rfl⟩ rfl rfl ⟨(Or.inr ⟨wy_pr rfl, fun q => q⟩), (Or.inr ⟨wy_pr rfl, fun q => q⟩), trivial, trivial, trivial⟩ trivial (fun _ _ q => False.elim q) (wa_2 (b := 1) (a0 := s) (n := (x.length : Int)) (wy_pr rfl) wt_1 ⟨by omega, by omega, by omega, by omega⟩ hI hWL) (fun oq1 Sq1 hp2 q1 => ?_)
  rcases q1 with ⟨rfl, q, rfl, hq⟩
  show wJ _ _ _ _ _ _ _ _ _ _
  have hqr : -1 ≤ q ∧ q < 2147483647 := by have hw4 : S 4 (-1) ≤ 2147483647 := hWL.2.2.2.2.2.2.2.1; omega
  refine wa_istore (n := 4) rfl ?_
  refine wa_iload (n := 4) rfl ?_
  refine wa_iconst ?_
  refine wa_icmpne (w_rg0 (by omega) (by omega)) (w_rg0 (by omega) (by omega)) ⟨_, rfl⟩ (fun c3 => ?_) (fun c3 => ?_)
  · skip
    refine wa_aload_n (n := 0) rfl ?_
    refine wb_gf4 2 rfl (wy_pr rfl) wt_2 wf_9_5 (v := 7) wl_2_5 ?_
    refine wa_iload (n := 4) rfl ?_
    refine wb_iald 7 rfl (wy_pr rfl) wt_7 (n := (S 4 (-1))) (l7) (by omega) (by omega) (v := (S 7 q)) rfl (fun r4 => ?_)
    refine wa_fall ⟨_, rfl⟩ ?_
    refine wa_ireturn rfl ?_
    refine ⟨rfl, congrArg (fun z => Sum.inl (some (0, z))) ?_⟩
    obtain ⟨q1, q2, q3⟩ := hq.resolve_right (fun z => by omega)
    have q4 := (wqL_sl (by omega)).mp q3
    rw [hx] at q4
    exact ix_no hWd hWv.1 hN ⟨q1, q2⟩ q4
  · skip
    refine wa_iconst ?_
    refine wa_goto ⟨_, rfl⟩ ?_
    refine wa_ireturn rfl ?_
    refine ⟨rfl, congrArg (fun z => Sum.inl (some (0, z))) ?_⟩
    have hq2 := (hq.resolve_left (fun z => by omega)).2
    refine (ixL_no.mpr (fun z => ?_)).symm
    obtain ⟨g1, g2⟩ := getD_idx z
    obtain ⟨g3, g4⟩ := hN.2 _ g1
    rw [g2] at g4
    exact hq2 _ g3.1 g3.2 ((wqL_sl (by omega)).mpr (by rw [hx]; exact g4))
theorem xgl (hI : gI S) (hC : w_CL S) (hWd : wd_at S 2 1024) (hWL : wd_L S 2 1024) (hWv : wv_L S 2) (hN : cL 9 10 N S) (hNl : N.length ≤ 4000) (hG : cGl S Gg) (h21 : S 2 1 ≤ 10000000) (hts : S 0 1 = n) (hn : 0 ≤ n ∧ n ≤ S 1 (-1)) (h1l : S 1 (-1) ≤ 10000000) (hvk : ∀ a : Int, -128 ≤ (Gg a).1 ∧ (Gg a).1 ≤ 127) (hwh : -2147483648 ≤ wh ∧ wh ≤ 2147483647) : wJ (pe_GA xs) wY0 M (d + 7) t_X_global ((pe_at t_X_global.bl 0).getD (0, [])).2 [(0, (2, 0)), (1, (0, wh))] [] S (fun o Z => (¬ (0 ≤ wh ∧ wh ≤ 1) ∧ nxO (w_up S 0 1 0) 18 o Z) ∨ ((0 ≤ wh ∧ wh ≤ 1) ∧ ((ixL N (sl_ (S 1) 0 n)) = -1 ∨ (Gg (ixL N (sl_ (S 1) 0 n))).1 = -1) ∧ nxO (w_up S 0 1 0) 19 o Z) ∨ ((0 ≤ wh ∧ wh ≤ 1) ∧ ¬ ((ixL N (sl_ (S 1) 0 n)) = -1 ∨ (Gg (ixL N (sl_ (S 1) 0 n))).1 = -1) ∧ (w_up S 0 1 0) = Z ∧ o = .inl (some (1, tdV (Gg (ixL N (sl_ (S 1) 0 n))) wh)))) := wJ_E (fun ⟨ad, hp0, hE⟩ => by
  have hGw : 0 ≤ S wG 1 := wE_G hE
  have hixr := ixL_rr (N := N) (x := sl_ (S 1) 0 n)
  have hsln : ((sl_ (S 1) 0 n).length : Int) = n := by rw [sl_len]; omega
  obtain ⟨⟨g1, g2, g3, g4, g5⟩, g6, g7⟩ := hG
  refine wa_aload_n (n := 0) rfl ?_
  refine wb_gfi 0 rfl (wy_pr rfl) wt_0 wf_10_1 (v := ((sl_ (S 1) 0 n).length : Int)) ((hts.trans hsln.symm)) (fun r1 => ?_)
  refine wa_istore_n (n := 2) rfl ?_
  refine wa_aload_n (n := 0) rfl ?_
  refine wa_iconst ?_
  refine wb_pfi 0 rfl (wy_pr rfl) wt_0 wf_10_1 (n := 1) rfl ⟨(by omega), (by omega)⟩ ?_
  refine wa_iload_n (n := 1) rfl ?_
  refine wa_iflt (w_rg0 (by omega) (by omega)) ⟨_, rfl⟩ (fun c2 => ?_) (fun c2 => ?_)
  · skip
    have g0 : 0 ≤ (w_up S 0 1 0) wG 1 := hGw
    refine wa_nx (nN (w_up S 0 1 0) 50) (nN_rg g0 (by decide)) (wt_nX ⟨by decide, by decide⟩) (by decide +kernel) ⟨trivial, (Or.inr ⟨wy_pr rfl, fun q => q⟩), trivial, trivial⟩ trivial (nx_d (by omega) (by decide)) ?_
    refine wa_th ?_
    exact Or.inl ⟨by omega, ⟨_, rfl, fun j x j0 j1 => w_nw_o j0 j1, gI_nx (gI_up hI (by first | decide | omega) (by first | decide | omega) (by first | decide | omega)) (by first | decide | omega) ⟨by decide, by decide⟩, w_nw_GX, wt_nX ⟨by decide, by decide⟩, w_pr_nx (by first | decide | omega)⟩⟩
  · skip
    refine wa_iload_n (n := 1) rfl ?_
    refine wa_iconst ?_
    refine wa_icmple (w_rg0 (by omega) (by omega)) (w_rg0 (by omega) (by omega)) ⟨_, rfl⟩ (fun c3 => ?_) (fun c3 => ?_)
    · skip
      refine wa_aload_n (n := 0) rfl ?_
      refine wb_gf4 0 rfl (wy_pr rfl) wt_0 wf_10_2 (v := 2) wl_0_2 ?_
      refine wa_aload_n (n := 0) rfl ?_
      refine wb_gf4 0 rfl (wy_pr rfl) wt_0 wf_10_0 (v := 1) wl_0_0 ?_
      refine wa_iconst ?_
      refine wa_iload_n (n := 2) rfl ?_
      refine wa_cv 2 rfl (wy_pr rfl) wt_2 (M2 := fun _ => False) rfl at_XW_nameAt ⟨_, rfl⟩ rfl rfl ⟨trivial, (Or.inr ⟨wy_pr rfl, fun q => q⟩), trivial, trivial⟩ trivial (fun _ _ q => False.elim q) (c_nmT (S := (w_up S 0 1 0)) (N := N) (x := sl_ (S 1) 0 n) (s := 0) hWd hWL hWv hN ⟨by omega, by show 0 + _ ≤ S 1 (-1); omega⟩ h1l (fun i hi => by rw [sl_len] at hi; exact (sl_get (S 1) 0 n hi).symm)) (fun oq4 Sq4 hp5 q4 => ?_)
      rcases q4 with ⟨rfl, rfl⟩
      show wJ _ _ _ _ _ _ _ _ _ _
      refine wa_istore_n (n := 3) rfl ?_
      refine wa_aload_n (n := 0) rfl ?_
      refine wb_gf4 0 rfl (wy_pr rfl) wt_0 wf_10_7 (v := 72) wl_0_7 ?_
      refine wb_gf4 72 rfl (wy_pr rfl) wt_72 wf_2_16 (v := 153) wl_72_16 ?_
      refine wa_astore (n := 4) rfl ?_
      refine wa_iload_n (n := 3) rfl ?_
      refine wa_iconst ?_
      refine wa_icmpeq (w_rg0 (by omega) (by omega)) (w_rg0 (by omega) (by omega)) ⟨_, rfl⟩ (fun c6 => ?_) (fun c6 => ?_)
      · skip
        have g0 : 0 ≤ (w_up S 0 1 0) wG 1 := hGw
        refine wa_nx (nN (w_up S 0 1 0) 51) (nN_rg g0 (by decide)) (wt_nX ⟨by decide, by decide⟩) (by decide +kernel) ⟨(Or.inr ⟨wy_pr rfl, fun q => q⟩), trivial, trivial, (Or.inr ⟨wy_pr rfl, fun q => q⟩), trivial, trivial⟩ trivial (nx_d (by omega) (by decide)) ?_
        refine wa_th ?_
        refine Or.inr (Or.inl ⟨by omega, ?_, ⟨_, rfl, fun j x j0 j1 => w_nw_o j0 j1, gI_nx (gI_up hI (by first | decide | omega) (by first | decide | omega) (by first | decide | omega)) (by first | decide | omega) ⟨by decide, by decide⟩, w_nw_GX, wt_nX ⟨by decide, by decide⟩, w_pr_nx (by first | decide | omega)⟩⟩)
        first | exact Or.inl (by omega) | exact Or.inr (by rw [g7 _ (by omega)]) | (have hv := g6 (ixL N (sl_ (S 1) 0 n)) (by omega) (by omega); have := hv.1; exact Or.inr (by omega))
      · skip
        refine wa_iload_n (n := 3) rfl ?_
        refine wa_aload (n := 4) rfl ?_
        refine wb_gfi 153 rfl (wy_pr rfl) wt_153 wf_7_2 (v := (S 153 2)) (w_up_slot (by decide)) (fun r7 => ?_)
        refine wa_icmpge (w_rg0 (by omega) (by omega)) (w_rg0 (by omega) (by omega)) ⟨_, rfl⟩ (fun c8 => ?_) (fun c8 => ?_)
        · skip
          have g0 : 0 ≤ (w_up S 0 1 0) wG 1 := hGw
          refine wa_nx (nN (w_up S 0 1 0) 51) (nN_rg g0 (by decide)) (wt_nX ⟨by decide, by decide⟩) (by decide +kernel) ⟨(Or.inr ⟨wy_pr rfl, fun q => q⟩), trivial, trivial, (Or.inr ⟨wy_pr rfl, fun q => q⟩), trivial, trivial⟩ trivial (nx_d (by omega) (by decide)) ?_
          refine wa_th ?_
          refine Or.inr (Or.inl ⟨by omega, ?_, ⟨_, rfl, fun j x j0 j1 => w_nw_o j0 j1, gI_nx (gI_up hI (by first | decide | omega) (by first | decide | omega) (by first | decide | omega)) (by first | decide | omega) ⟨by decide, by decide⟩, w_nw_GX, wt_nX ⟨by decide, by decide⟩, w_pr_nx (by first | decide | omega)⟩⟩)
          first | exact Or.inl (by omega) | exact Or.inr (by rw [g7 _ (by omega)]) | (have hv := g6 (ixL N (sl_ (S 1) 0 n)) (by omega) (by omega); have := hv.1; exact Or.inr (by omega))
        · skip
          refine wa_aload (n := 4) rfl ?_
          refine wb_gf4 153 rfl (wy_pr rfl) wt_153 wf_7_0 (v := 154) wl_153_0 ?_
          refine wa_iload_n (n := 3) rfl ?_
          refine wb_bald 154 rfl (wy_pr rfl) wt_154 (n := (S 154 (-1))) ((w_up_slot (by decide)).trans (rfl)) (by omega) (by omega) (v := (S 154 (ixL N (sl_ (S 1) 0 n)))) (w_up_slot (by decide)) (fun r9 => ?_)
          refine wa_iconst ?_
          refine wa_icmpne (w_rg0 (by omega) (by omega)) (w_rg0 (by omega) (by omega)) ⟨_, rfl⟩ (fun c10 => ?_) (fun c10 => ?_)
          · skip
            refine wa_aload (n := 4) rfl ?_
            refine wb_gf4 153 rfl (wy_pr rfl) wt_153 wf_7_0 (v := 154) wl_153_0 ?_
            refine wa_iload_n (n := 3) rfl ?_
            refine wb_bald 154 rfl (wy_pr rfl) wt_154 (n := (S 154 (-1))) ((w_up_slot (by decide)).trans (rfl)) (by omega) (by omega) (v := (S 154 (ixL N (sl_ (S 1) 0 n)))) (w_up_slot (by decide)) (fun r11 => ?_)
            refine wa_aload (n := 4) rfl ?_
            refine wb_gf4 153 rfl (wy_pr rfl) wt_153 wf_7_1 (v := 155) wl_153_1 ?_
            refine wa_iload_n (n := 3) rfl ?_
            refine wb_lald 155 rfl (wy_pr rfl) wt_155 (n := (S 154 (-1))) ((w_up_slot (by decide)).trans (g5)) (by omega) (by omega) (v := (S 155 (ixL N (sl_ (S 1) 0 n)))) (w_up_slot (by decide)) (fun r12 => ?_)
            refine wa_iload_n (n := 1) rfl ?_
            refine wa_cs (M2 := fun _ => False) rfl at_X_told ⟨_, rfl⟩ rfl rfl ⟨(Or.inr ⟨wy_pr rfl, fun q => q⟩), trivial, trivial, (Or.inr ⟨wy_pr rfl, fun q => q⟩), trivial, trivial⟩ trivial (fun _ _ q => False.elim q) (tdo (S := (w_up S 0 1 0)) (k := S 154 (ixL N (sl_ (S 1) 0 n))) (b := S 155 (ixL N (sl_ (S 1) 0 n))) (v := Gg (ixL N (sl_ (S 1) 0 n))) (wh := wh) (cVl_mo (g6 (ixL N (sl_ (S 1) 0 n)) (by omega) (by omega)) cTx_rfl) h21 (by have := (g6 (ixL N (sl_ (S 1) 0 n)) (by omega) (by omega)).1; have := hvk (ixL N (sl_ (S 1) 0 n)); omega) (by omega)) (fun oq13 Sq13 hp14 q13 => ?_)
            rcases q13 with ⟨rfl, rfl⟩
            show wJ _ _ _ _ _ _ _ _ _ _
            refine wa_lreturn rfl ?_
            refine Or.inr (Or.inr ⟨by omega, fun z => ?_, rfl, rfl⟩)
            have hv := (g6 (ixL N (sl_ (S 1) 0 n)) (by omega) (by omega)).1
            omega
          · skip
            refine wa_fall ⟨_, rfl⟩ ?_
            have g0 : 0 ≤ (w_up S 0 1 0) wG 1 := hGw
            refine wa_nx (nN (w_up S 0 1 0) 51) (nN_rg g0 (by decide)) (wt_nX ⟨by decide, by decide⟩) (by decide +kernel) ⟨(Or.inr ⟨wy_pr rfl, fun q => q⟩), trivial, trivial, (Or.inr ⟨wy_pr rfl, fun q => q⟩), trivial, trivial⟩ trivial (nx_d (by omega) (by decide)) ?_
            refine wa_th ?_
            refine Or.inr (Or.inl ⟨by omega, ?_, ⟨_, rfl, fun j x j0 j1 => w_nw_o j0 j1, gI_nx (gI_up hI (by first | decide | omega) (by first | decide | omega) (by first | decide | omega)) (by first | decide | omega) ⟨by decide, by decide⟩, w_nw_GX, wt_nX ⟨by decide, by decide⟩, w_pr_nx (by first | decide | omega)⟩⟩)
            first | exact Or.inl (by omega) | exact Or.inr (by rw [g7 _ (by omega)]) | (have hv := g6 (ixL N (sl_ (S 1) 0 n)) (by omega) (by omega); have := hv.1; exact Or.inr (by omega))
    · skip
      refine wa_fall ⟨_, rfl⟩ ?_
      have g0 : 0 ≤ (w_up S 0 1 0) wG 1 := hGw
      refine wa_nx (nN (w_up S 0 1 0) 50) (nN_rg g0 (by decide)) (wt_nX ⟨by decide, by decide⟩) (by decide +kernel) ⟨trivial, (Or.inr ⟨wy_pr rfl, fun q => q⟩), trivial, trivial⟩ trivial (nx_d (by omega) (by decide)) ?_
      refine wa_th ?_
      exact Or.inl ⟨by omega, ⟨_, rfl, fun j x j0 j1 => w_nw_o j0 j1, gI_nx (gI_up hI (by first | decide | omega) (by first | decide | omega) (by first | decide | omega)) (by first | decide | omega) ⟨by decide, by decide⟩, w_nw_GX, wt_nX ⟨by decide, by decide⟩, w_pr_nx (by first | decide | omega)⟩⟩)
theorem mgl (hM : w_ML S) (hN : mN N S) (hG : rGl S Gg) (hts : S 237 3 = n) (hn : 0 ≤ n ∧ n ≤ 65552) (h0 : ∀ a : Int, (Gg a).1 = 0 → (Gg a).2.1 = 0) (h19 : S 237 19 ≤ 4000) (h102 : S 237 102 ≤ 12000) (hvk : ∀ a : Int, -128 ≤ (Gg a).1 ∧ (Gg a).1 ≤ 127) (hwh : -2147483648 ≤ wh ∧ wh ≤ 2147483647) : wJ (pe_GA xs) wY0 M (d + 1) t_M_global ((pe_at t_M_global.bl 0).getD (0, [])).2 [(0, (2, 237)), (1, (0, wh))] [] S (fun o Z => (¬ (0 ≤ wh ∧ wh ≤ 1) ∧ (w_up (w_up S 237 3 0) 237 0 1) = Z ∧ o = .inl (some (1, 0))) ∨ ((0 ≤ wh ∧ wh ≤ 1) ∧ ((ixL N (sl_ (S 239) 0 n)) = -1 ∨ (Gg (ixL N (sl_ (S 239) 0 n))).1 = -1) ∧ (w_up (w_up S 237 3 0) 237 0 2) = Z ∧ o = .inl (some (1, 0))) ∨ ((0 ≤ wh ∧ wh ≤ 1) ∧ ¬ ((ixL N (sl_ (S 239) 0 n)) = -1 ∨ (Gg (ixL N (sl_ (S 239) 0 n))).1 = -1) ∧ (w_up (w_up S 237 3 0) 237 0 0) = Z ∧ o = .inl (some (1, tdV (Gg (ixL N (sl_ (S 239) 0 n))) wh)))) := by
  have hixr := ixL_rr (N := N) (x := sl_ (S 239) 0 n)
  have hN4 := hN.2.1
  have hgv : (ixL N (sl_ (S 239) 0 n)) ≠ -1 → (S 337 (ixL N (sl_ (S 239) 0 n)) = 0 ∧ (Gg (ixL N (sl_ (S 239) 0 n))).1 = -1) ∨ (S 337 (ixL N (sl_ (S 239) 0 n)) ≠ 0 ∧ (Gg (ixL N (sl_ (S 239) 0 n))).1 ≠ -1 ∧ rVl S (S 338 (ixL N (sl_ (S 239) 0 n))) (S 339 (ixL N (sl_ (S 239) 0 n))) (Gg (ixL N (sl_ (S 239) 0 n)))) := fun z => hG (ixL N (sl_ (S 239) 0 n)) (by omega) (by omega)
  refine wa_aload_n (n := 0) rfl ?_
  refine wa_aload_n (n := 0) rfl ?_
  refine wb_gf4 237 rfl (wy_pr rfl) wt_237 wf_15_2 (v := 239) wl_237_2 ?_
  refine wa_iconst ?_
  refine wa_aload_n (n := 0) rfl ?_
  refine wb_gfi 237 rfl (wy_pr rfl) wt_237 wf_15_3 (v := n) (hts) (fun r1 => ?_)
  refine wa_cv 237 rfl (wy_pr rfl) wt_237 (M2 := fun _ => False) rfl at_M_findName ⟨_, rfl⟩ rfl rfl ⟨(Or.inr ⟨wy_pr rfl, fun q => q⟩), trivial, trivial⟩ trivial (fun _ _ q => False.elim q) (fnTm (S := S) (L := N) (p := 0) (m := n) hM hN (by omega) (by omega)) (fun oq2 Sq2 hp3 q2 => ?_)
  rcases q2 with ⟨rfl, rfl⟩
  show wJ _ _ _ _ _ _ _ _ _ _
  refine wa_istore_n (n := 2) rfl ?_
  refine wa_aload_n (n := 0) rfl ?_
  refine wa_iconst ?_
  refine wb_pfi 237 rfl (wy_pr rfl) wt_237 wf_15_3 (n := 3) rfl ⟨(by omega), (by omega)⟩ ?_
  refine wa_aload_n (n := 0) rfl ?_
  refine wa_iload_n (n := 1) rfl ?_
  refine wa_i2l (w_rg0 (by omega) (by omega)) ?_
  refine wa_lconst ?_
  refine wa_lconst ?_
  refine wa_cs (M2 := fun _ => False) rfl at_M_in ⟨_, rfl⟩ rfl rfl ⟨trivial, (Or.inr ⟨wy_pr rfl, fun q => q⟩), trivial, trivial⟩ ⟨(Or.inr ⟨wy_pr rfl, fun q => q⟩), trivial⟩ (fun _ _ q => False.elim q) (in_ok (S := (w_up S 237 3 0)) (a := wh) (lo := 0) (hi := 1) ⟨by omega, by omega⟩ ⟨by omega, by omega⟩ ⟨by omega, by omega⟩) (fun oq5 Sq5 hp6 q5 => ?_)
  rcases q5 with ⟨rfl, ⟨rfl, hin4⟩ | ⟨rfl, hin4⟩⟩
  · skip
    show wJ _ _ _ _ _ _ _ _ _ _
    refine wa_ifne (w_rg0 (by omega) (by omega)) ⟨_, rfl⟩ (fun c7 => ?_) (fun c7 => ?_)
    · skip
      refine wa_iload_n (n := 2) rfl ?_
      refine wa_iflt (w_rg0 (by omega) (by omega)) ⟨_, rfl⟩ (fun c8 => ?_) (fun c8 => ?_)
      · skip
        refine wa_iconst ?_
        refine wa_goto ⟨_, rfl⟩ ?_
        refine wb_pfi 237 rfl (wy_pr rfl) wt_237 wf_15_0 (n := 0) rfl ⟨(by omega), (by omega)⟩ ?_
        refine wa_aload_n (n := 0) rfl ?_
        refine wb_gfi 237 rfl (wy_pr rfl) wt_237 wf_15_0 (v := 2) (w_up_same _ _ _ _) (fun r9 => ?_)
        refine wa_ifle (w_rg0 (by omega) (by omega)) ⟨_, rfl⟩ (fun c10 => ?_) (fun c10 => ?_)
        · skip
          exact absurd c10 (by omega)
        · skip
          refine wa_lconst ?_
          refine wa_goto ⟨_, rfl⟩ ?_
          refine wa_lreturn rfl ?_
          refine Or.inr (Or.inl ⟨by omega, ?_, rfl, rfl⟩)
          by_cases z : (ixL N (sl_ (S 239) 0 n)) = -1
          · exact Or.inl z
          · refine Or.inr ?_
            have := hgv z; omega
      · skip
        refine wa_aload_n (n := 0) rfl ?_
        refine wb_gf4 237 rfl (wy_pr rfl) wt_237 wf_15_97 (v := 337) wl_237_97 ?_
        refine wa_iload_n (n := 2) rfl ?_
        refine wa_ifge (w_rg0 (by omega) (by omega)) ⟨_, rfl⟩ (fun c11 => ?_) (fun c11 => ?_)
        · skip
          refine wa_iload_n (n := 2) rfl ?_
          refine wa_fall ⟨_, rfl⟩ ?_
          refine wb_zald 337 rfl (wy_pr rfl) wt_337 (n := 4000) ((w_up_slot (by decide)).trans ((ml_337 hM))) (by omega) (by omega) (v := (S 337 (ixL N (sl_ (S 239) 0 n)))) (w_up_slot (by decide)) (fun r12 => ?_)
          refine wa_ifne (w_rg0 (by omega) (by omega)) ⟨_, rfl⟩ (fun c13 => ?_) (fun c13 => ?_)
          · skip
            have hgo := (hgv (by omega)).resolve_left (fun z => by omega)
            have hgr := hgo.2.2
            refine wa_iconst ?_
            refine wa_fall ⟨_, rfl⟩ ?_
            refine wb_pfi 237 rfl (wy_pr rfl) wt_237 wf_15_0 (n := 0) rfl ⟨(by omega), (by omega)⟩ ?_
            refine wa_aload_n (n := 0) rfl ?_
            refine wb_gfi 237 rfl (wy_pr rfl) wt_237 wf_15_0 (v := 0) (w_up_same _ _ _ _) (fun r14 => ?_)
            refine wa_ifle (w_rg0 (by omega) (by omega)) ⟨_, rfl⟩ (fun c15 => ?_) (fun c15 => ?_)
            · skip
              refine wa_aload_n (n := 0) rfl ?_
              refine wa_aload_n (n := 0) rfl ?_
              refine wb_gf4 237 rfl (wy_pr rfl) wt_237 wf_15_98 (v := 338) wl_237_98 ?_
              refine wa_iload_n (n := 2) rfl ?_
              refine wb_iald 338 rfl (wy_pr rfl) wt_338 (n := 4000) ((w_up_slot (by decide)).trans ((w_up_slot (by decide)).trans ((ml_338 hM)))) (by omega) (by omega) (v := (S 338 (ixL N (sl_ (S 239) 0 n)))) ((w_up_slot (by decide)).trans (w_up_slot (by decide))) (fun r16 => ?_)
              refine wa_aload_n (n := 0) rfl ?_
              refine wb_gf4 237 rfl (wy_pr rfl) wt_237 wf_15_99 (v := 339) wl_237_99 ?_
              refine wa_iload_n (n := 2) rfl ?_
              refine wb_lald 339 rfl (wy_pr rfl) wt_339 (n := 4000) ((w_up_slot (by decide)).trans ((w_up_slot (by decide)).trans ((ml_339 hM)))) (by omega) (by omega) (v := (S 339 (ixL N (sl_ (S 239) 0 n)))) ((w_up_slot (by decide)).trans (w_up_slot (by decide))) (fun r17 => ?_)
              refine wa_iload_n (n := 1) rfl ?_
              refine wa_cv 237 rfl (wy_pr rfl) wt_237 (M2 := fun _ => False) rfl at_M_told ⟨_, rfl⟩ rfl rfl ⟨trivial, (Or.inr ⟨wy_pr rfl, fun q => q⟩), trivial, trivial⟩ trivial (fun _ _ q => False.elim q) (mto (S := (w_up (w_up S 237 3 0) 237 0 0)) (k := S 338 (ixL N (sl_ (S 239) 0 n))) (b := S 339 (ixL N (sl_ (S 239) 0 n))) (v := Gg (ixL N (sl_ (S 239) 0 n))) (wh := wh) (w_ML_up (w_ML_up hM (by decide)) (by decide)) (rVl_mo hgr rTx_rfl) (h0 (ixL N (sl_ (S 239) 0 n))) h19 h102 (by have := hgr.1; have := hvk (ixL N (sl_ (S 239) 0 n)); omega) (by omega)) (fun oq18 Sq18 hp19 q18 => ?_)
              rcases q18 with ⟨rfl, rfl⟩
              show wJ _ _ _ _ _ _ _ _ _ _
              refine wa_fall ⟨_, rfl⟩ ?_
              refine wa_lreturn rfl ?_
              refine Or.inr (Or.inr ⟨by omega, fun z => ?_, rfl, rfl⟩)
              have := hgo.2.1; omega
            · skip
              exact absurd c15 (by omega)
          · skip
            refine wa_fall ⟨_, rfl⟩ ?_
            refine wa_iconst ?_
            refine wa_goto ⟨_, rfl⟩ ?_
            refine wb_pfi 237 rfl (wy_pr rfl) wt_237 wf_15_0 (n := 0) rfl ⟨(by omega), (by omega)⟩ ?_
            refine wa_aload_n (n := 0) rfl ?_
            refine wb_gfi 237 rfl (wy_pr rfl) wt_237 wf_15_0 (v := 2) (w_up_same _ _ _ _) (fun r20 => ?_)
            refine wa_ifle (w_rg0 (by omega) (by omega)) ⟨_, rfl⟩ (fun c21 => ?_) (fun c21 => ?_)
            · skip
              exact absurd c21 (by omega)
            · skip
              refine wa_lconst ?_
              refine wa_goto ⟨_, rfl⟩ ?_
              refine wa_lreturn rfl ?_
              refine Or.inr (Or.inl ⟨by omega, ?_, rfl, rfl⟩)
              by_cases z : (ixL N (sl_ (S 239) 0 n)) = -1
              · exact Or.inl z
              · refine Or.inr ?_
                have := hgv z; omega
        · skip
          exact absurd c11 (by omega)
    · skip
      exact absurd c7 (by omega)
  · skip
    show wJ _ _ _ _ _ _ _ _ _ _
    refine wa_ifne (w_rg0 (by omega) (by omega)) ⟨_, rfl⟩ (fun c22 => ?_) (fun c22 => ?_)
    · skip
      exact absurd c22 (by omega)
    · skip
      refine wa_iconst ?_
      refine wa_goto ⟨_, rfl⟩ ?_
      refine wb_pfi 237 rfl (wy_pr rfl) wt_237 wf_15_0 (n := 0) rfl ⟨(by omega), (by omega)⟩ ?_
      refine wa_aload_n (n := 0) rfl ?_
      refine wb_gfi 237 rfl (wy_pr rfl) wt_237 wf_15_0 (v := 1) (w_up_same _ _ _ _) (fun r23 => ?_)
      refine wa_ifle (w_rg0 (by omega) (by omega)) ⟨_, rfl⟩ (fun c24 => ?_) (fun c24 => ?_)
      · skip
        exact absurd c24 (by omega)
      · skip
        refine wa_lconst ?_
        refine wa_goto ⟨_, rfl⟩ ?_
        refine wa_lreturn rfl ?_
        exact Or.inl ⟨by omega, rfl, rfl⟩
end Wij
