/-! PART bt: the reference's Part: drop, begin, made anew. -/
section Wbt
variable {xs : List (Nat × List Int32)} {M : Nat → Prop} {d : Nat} {A B C S Z : wS} {Q : wO → wS → Prop}
variable {f : Nat} {ar pa un : Int} {vs lo la lb l : List Int} {o : Nat} {fam : Nat → Nat} {most : Int}
/-- the last one goes -/
theorem iI_dr {x : Int} (hf : hfam o fam) (h : iI o fam most (l ++ [x]) S) : iI o fam most l (w_up S o 2 (l.length : Int)) ∧ phi o (w_up S o 2 (l.length : Int)) ≤ phi o S := by
  obtain ⟨⟨h1, h2, h3⟩, g, g1, g2, g3, g4, g5, g6, g7⟩ := h
  have hne := (hf.2 g g1).1.2.2.2.2
  have hl0 : ((l ++ [x]).length : Nat) = l.length + 1 := by rw [List.length_append]; rfl
  have ea : ∀ y : Int, w_up S o 2 (l.length : Int) (fam g) y = S (fam g) y := fun y => w_up_slot hne
  have e1 : w_up S o 2 (l.length : Int) o 1 = (fam g : Int) := (w_up_at (by decide)).trans g2
  have e2 : w_up S o 2 (l.length : Int) o 2 = (l.length : Int) := w_up_same _ _ _ _
  refine ⟨⟨⟨(w_up_at (by decide)).trans h1, e2, (w_up_pr (by decide)).mpr h3⟩, g, g1, e1, (ea _).trans g3, (w_up_pr (by decide)).mpr g4, by omega, fun k k1 k2 => ?_, fun h q1 q2 q3 => g7 h q1 q2 ((w_up_pr (by decide)).mp q3)⟩, ?_⟩
  · rw [ea, g6 k (by omega) k2, gD_c k1]
  · unfold phi
    rw [e1, e2, Int.toNat_natCast, ea, h2, g2, Int.toNat_natCast, g3]
    omega
theorem iI_0 (hf : hfam o fam) (h : iI o fam most l S) : iI o fam most [] (w_up S o 2 0) ∧ phi o (w_up S o 2 0) ≤ phi o S := by
  obtain ⟨⟨h1, h2, h3⟩, g, g1, g2, g3, g4, g5, g6, g7⟩ := h
  have hne := (hf.2 g g1).1.2.2.2.2
  have hcl := cap_le g1
  have ea : ∀ y : Int, w_up S o 2 0 (fam g) y = S (fam g) y := fun y => w_up_slot hne
  have e1 : w_up S o 2 0 o 1 = (fam g : Int) := (w_up_at (by decide)).trans g2
  have e2 : w_up S o 2 0 o 2 = 0 := w_up_same _ _ _ _
  refine ⟨⟨⟨(w_up_at (by decide)).trans h1, e2, (w_up_pr (by decide)).mpr h3⟩, g, g1, e1, (ea _).trans g3, (w_up_pr (by decide)).mpr g4, Or.inl (by show (0 : Int) ≤ cap g; omega), fun k k1 k2 => absurd k1 (Nat.not_lt_zero _), fun h q1 q2 q3 => g7 h q1 q2 ((w_up_pr (by decide)).mp q3)⟩, ?_⟩
  unfold phi
  rw [e1, e2, Int.toNat_natCast, ea, h2, g2, Int.toNat_natCast, g3]
  omega
theorem dr_r {x y z : Int} (hf : f ≤ 1000) (hu : 0 ≤ un ∧ un ≤ 1000000) (h : (0 < un ∧ pO f ar pa vs lo la lb un S) ∨ (un = 0 ∧ pO f ar pa vs (lo ++ [x]) (la ++ [y]) (lb ++ [z]) un S)) (hl : (lo.length : Int) ≤ 1000000 ∧ (la.length : Int) ≤ 1000000 ∧ (lb.length : Int) ≤ 1000000) : wJ (pe_GA xs) wY0 M d t_MP_drop ((pe_at t_MP_drop.bl 0).getD (0, [])).2 [(0, (2, (nP f : Int)))] [] S (fun q Z => q = .inl none ∧ pf_f f S Z ∧ ((∀ x : Int, Z wG x = S wG x) ∧ phP f Z ≤ phP f S) ∧ ((0 < un ∧ pO f ar pa vs lo la lb (un - 1) Z) ∨ (un = 0 ∧ pO f ar pa vs lo la lb un Z))) := by
  have hG : ∀ c : Nat, nP f + c ≠ wG := fun c => nP_G
  rcases h with ⟨h0, h⟩ | ⟨h0, h⟩
  · skip
    refine wa_aload_n (n := 0) rfl ?_
    refine wb_gfi (nP f) rfl h.2.1.1 (wt_P0 hf) wf_14_7 (v := un) (h.1.2.2.2.2.2.2.2) (fun r101 => ?_)
    refine wa_ifle (w_rg0 (by omega) (by omega)) ⟨_, rfl⟩ (fun c102 => ?_) (fun c102 => ?_)
    · skip
      exact absurd c102 (by omega)
    · skip
      refine wa_aload_n (n := 0) rfl ?_
      refine wa_dup (by decide) ?_
      refine wb_gfi (nP f) rfl h.2.1.1 (wt_P0 hf) wf_14_7 (v := un) (h.1.2.2.2.2.2.2.2) (fun r103 => ?_)
      refine wa_iconst ?_
      refine wa_isub ?_
      refine wb_pfi (nP f) rfl h.2.1.1 (wt_P0 hf) wf_14_7 (n := 7) rfl ⟨(by omega), (by omega)⟩ ?_
      refine wa_return rfl ?_
      obtain ⟨⟨a1, a2, a3, a4, a5, a6, a7, a8⟩, ⟨b1, b2, b3⟩, b4, b5, b6, b7, b8⟩ := h
      refine ⟨rfl, fun j x q1 q2 => w_up_slot (by omega), ⟨fun x => w_up_slot (Ne.symm (hG 0)), ?_⟩, Or.inl ⟨h0, ⟨(w_up_at (by decide)).trans a1, (w_up_at (by decide)).trans a2, (w_up_at (by decide)).trans a3, (w_up_at (by decide)).trans a4, (w_up_at (by decide)).trans a5, (w_up_at (by decide)).trans a6, (w_up_at (by decide)).trans a7, w_up_same _ _ _ _⟩, ⟨(w_up_pr (by decide)).mpr b1, (w_up_pr (by decide)).mpr b2, (w_up_slot (by omega)).trans b3⟩, b4, fun k hk => (w_up_slot (by omega)).trans (b5 k hk), (iI_ag b6 (fun j x hj => w_up_slot (by rcases hj with q | ⟨g, q1, q2⟩ <;> first | omega | (unfold fa at q2; omega)))).1, (iI_ag b7 (fun j x hj => w_up_slot (by rcases hj with q | ⟨g, q1, q2⟩ <;> first | omega | (unfold fa at q2; omega)))).1, (iI_ag b8 (fun j x hj => w_up_slot (by rcases hj with q | ⟨g, q1, q2⟩ <;> first | omega | (unfold fa at q2; omega)))).1⟩⟩
      unfold phP
      rw [(iI_ag (Z := (w_up S (nP f) 7 (un - 1))) b6 (fun j x hj => w_up_slot (by rcases hj with q | ⟨g, q1, q2⟩ <;> first | omega | (unfold fa at q2; omega)))).2]
      rw [(iI_ag (Z := (w_up S (nP f) 7 (un - 1))) b7 (fun j x hj => w_up_slot (by rcases hj with q | ⟨g, q1, q2⟩ <;> first | omega | (unfold fa at q2; omega)))).2]
      rw [(iI_ag (Z := (w_up S (nP f) 7 (un - 1))) b8 (fun j x hj => w_up_slot (by rcases hj with q | ⟨g, q1, q2⟩ <;> first | omega | (unfold fa at q2; omega)))).2]
      exact Int.le_refl _
  · subst h0
    have l0 : ((lo ++ [x]).length : Int) = (lo.length : Int) + 1 := by rw [List.length_append]; rfl
    have l1 : ((la ++ [y]).length : Int) = (la.length : Int) + 1 := by rw [List.length_append]; rfl
    have l2 : ((lb ++ [z]).length : Int) = (lb.length : Int) + 1 := by rw [List.length_append]; rfl
    refine wa_aload_n (n := 0) rfl ?_
    refine wb_gfi (nP f) rfl h.2.1.1 (wt_P0 hf) wf_14_7 (v := 0) (h.1.2.2.2.2.2.2.2) (fun r101 => ?_)
    refine wa_ifle (w_rg0 (by omega) (by omega)) ⟨_, rfl⟩ (fun c102 => ?_) (fun c102 => ?_)
    · skip
      refine wa_aload_n (n := 0) rfl ?_
      refine wb_gf5 (nP f) rfl h.2.1.1 (wt_P0 hf) wf_14_4 (v := ((nP f + 2 : Nat) : Int)) (h.1.2.2.2.2.1) (fun r103 => ?_)
      refine wa_dup (by decide) ?_
      refine wb_gfi (nP f + 2) rfl (h.2.2.2.2.1).1.2.2 (wt_P2 hf ⟨by decide, by decide⟩) wf_13_2 (v := ((lo.length : Int) + 1)) (((h.2.2.2.2.1).1.2.1.trans l0)) (fun r104 => ?_)
      refine wa_iconst ?_
      refine wa_isub ?_
      refine wb_pfi (nP f + 2) rfl (h.2.2.2.2.1).1.2.2 (wt_P2 hf ⟨by decide, by decide⟩) wf_13_2 (n := 2) rfl ⟨(by omega), (by omega)⟩ ?_
      refine wa_aload_n (n := 0) rfl ?_
      refine wb_gf5 (nP f) rfl ((w_up_pr (by omega)).mpr h.2.1.1) (wt_P0 hf) wf_14_5 (v := ((nP f + 3 : Nat) : Int)) ((w_up_slot (by omega)).trans (h.1.2.2.2.2.2.1)) (fun r105 => ?_)
      refine wa_dup (by decide) ?_
      refine wb_gfi (nP f + 3) rfl ((w_up_pr (by omega)).mpr (h.2.2.2.2.2.1).1.2.2) (wt_P2 hf ⟨by decide, by decide⟩) wf_13_2 (v := ((la.length : Int) + 1)) ((w_up_slot (by omega)).trans (((h.2.2.2.2.2.1).1.2.1.trans l1))) (fun r106 => ?_)
      refine wa_iconst ?_
      refine wa_isub ?_
      refine wb_pfi (nP f + 3) rfl ((w_up_pr (by omega)).mpr (h.2.2.2.2.2.1).1.2.2) (wt_P2 hf ⟨by decide, by decide⟩) wf_13_2 (n := 2) rfl ⟨(by omega), (by omega)⟩ ?_
      refine wa_aload_n (n := 0) rfl ?_
      refine wb_gf5 (nP f) rfl ((w_up_pr (by omega)).mpr ((w_up_pr (by omega)).mpr h.2.1.1)) (wt_P0 hf) wf_14_6 (v := ((nP f + 4 : Nat) : Int)) ((w_up_slot (by omega)).trans ((w_up_slot (by omega)).trans (h.1.2.2.2.2.2.2.1))) (fun r107 => ?_)
      refine wa_dup (by decide) ?_
      refine wb_gfi (nP f + 4) rfl ((w_up_pr (by omega)).mpr ((w_up_pr (by omega)).mpr (h.2.2.2.2.2.2).1.2.2)) (wt_P2 hf ⟨by decide, by decide⟩) wf_13_2 (v := ((lb.length : Int) + 1)) ((w_up_slot (by omega)).trans ((w_up_slot (by omega)).trans (((h.2.2.2.2.2.2).1.2.1.trans l2)))) (fun r108 => ?_)
      refine wa_iconst ?_
      refine wa_isub ?_
      refine wb_pfi (nP f + 4) rfl ((w_up_pr (by omega)).mpr ((w_up_pr (by omega)).mpr (h.2.2.2.2.2.2).1.2.2)) (wt_P2 hf ⟨by decide, by decide⟩) wf_13_2 (n := 2) rfl ⟨(by omega), (by omega)⟩ ?_
      refine wa_return rfl ?_
      have eT : (w_up (w_up (w_up S (nP f + 2) 2 (((lo.length : Int) + 1) - 1)) (nP f + 3) 2 (((la.length : Int) + 1) - 1)) (nP f + 4) 2 (((lb.length : Int) + 1) - 1)) = (w_up (w_up (w_up S (nP f + 2) 2 (lo.length : Int)) (nP f + 3) 2 (la.length : Int)) (nP f + 4) 2 (lb.length : Int)) := by rw [show ((lo.length : Int) + 1 - 1) = (lo.length : Int) by omega, show ((la.length : Int) + 1 - 1) = (la.length : Int) by omega, show ((lb.length : Int) + 1 - 1) = (lb.length : Int) by omega]
      rw [eT]
      obtain ⟨⟨a1, a2, a3, a4, a5, a6, a7, a8⟩, ⟨b1, b2, b3⟩, b4, b5, b6, b7, b8⟩ := h
      obtain ⟨c1, c2⟩ := iI_dr (o := nP f + 2) (fam := fa f 0) (hfam_P (r := 0) hf (by decide)) b6
      obtain ⟨d1, d2⟩ := iI_ag (Z := (w_up S (nP f + 2) 2 (lo.length : Int))) b7 (fun j x hj => w_up_slot (by rcases hj with q | ⟨g, q1, q2⟩ <;> first | omega | (unfold fa at q2; omega)))
      obtain ⟨e1, e2⟩ := iI_ag (Z := (w_up S (nP f + 2) 2 (lo.length : Int))) b8 (fun j x hj => w_up_slot (by rcases hj with q | ⟨g, q1, q2⟩ <;> first | omega | (unfold fa at q2; omega)))
      obtain ⟨d3, d4⟩ := iI_dr (o := nP f + 3) (fam := fa f 1) (hfam_P (r := 1) hf (by decide)) d1
      obtain ⟨c3, c4⟩ := iI_ag (Z := (w_up (w_up S (nP f + 2) 2 (lo.length : Int)) (nP f + 3) 2 (la.length : Int))) c1 (fun j x hj => w_up_slot (by rcases hj with q | ⟨g, q1, q2⟩ <;> first | omega | (unfold fa at q2; omega)))
      obtain ⟨e3, e4⟩ := iI_ag (Z := (w_up (w_up S (nP f + 2) 2 (lo.length : Int)) (nP f + 3) 2 (la.length : Int))) e1 (fun j x hj => w_up_slot (by rcases hj with q | ⟨g, q1, q2⟩ <;> first | omega | (unfold fa at q2; omega)))
      obtain ⟨e5, e6⟩ := iI_dr (o := nP f + 4) (fam := fa f 2) (hfam_P (r := 2) hf (by decide)) e3
      obtain ⟨c5, c6⟩ := iI_ag (Z := (w_up (w_up (w_up S (nP f + 2) 2 (lo.length : Int)) (nP f + 3) 2 (la.length : Int)) (nP f + 4) 2 (lb.length : Int))) c3 (fun j x hj => w_up_slot (by rcases hj with q | ⟨g, q1, q2⟩ <;> first | omega | (unfold fa at q2; omega)))
      obtain ⟨d5, d6⟩ := iI_ag (Z := (w_up (w_up (w_up S (nP f + 2) 2 (lo.length : Int)) (nP f + 3) 2 (la.length : Int)) (nP f + 4) 2 (lb.length : Int))) d3 (fun j x hj => w_up_slot (by rcases hj with q | ⟨g, q1, q2⟩ <;> first | omega | (unfold fa at q2; omega)))
      have z0 : ∀ x : Int, (w_up (w_up (w_up S (nP f + 2) 2 (lo.length : Int)) (nP f + 3) 2 (la.length : Int)) (nP f + 4) 2 (lb.length : Int)) (nP f) x = S (nP f) x := fun x => (w_up_slot (by omega)).trans ((w_up_slot (by omega)).trans (w_up_slot (by omega)))
      have z1 : ∀ x : Int, (w_up (w_up (w_up S (nP f + 2) 2 (lo.length : Int)) (nP f + 3) 2 (la.length : Int)) (nP f + 4) 2 (lb.length : Int)) (nP f + 1) x = S (nP f + 1) x := fun x => (w_up_slot (by omega)).trans ((w_up_slot (by omega)).trans (w_up_slot (by omega)))
      refine ⟨rfl, fun j x q1 q2 => (w_up_slot (by omega)).trans ((w_up_slot (by omega)).trans (w_up_slot (by omega))), ⟨fun x => (w_up_slot (Ne.symm (hG 4))).trans ((w_up_slot (Ne.symm (hG 3))).trans (w_up_slot (Ne.symm (hG 2)))), ?_⟩, Or.inr ⟨rfl, by rw [z0, z0, z0, z0, z0, z0, z0, z0]; exact ⟨a1, a2, a3, a4, a5, a6, a7, a8⟩, ⟨⟨by rw [z0]; exact b1.1, b1.2⟩, ⟨by rw [z1]; exact b2.1, b2.2⟩, (z1 _).trans b3⟩, b4, fun k hk => (z1 _).trans (b5 k hk), c5, d5, e5⟩⟩
      unfold phP
      omega
    · skip
      exact absurd c102 (by omega)
theorem bg_r {aa : Int} (hf : f ≤ 1000) (h : pO f ar pa vs lo la lb un S) (ha : -2147483648 ≤ aa ∧ aa ≤ 2147483647) : wJ (pe_GA xs) wY0 M d t_MP_begin ((pe_at t_MP_begin.bl 0).getD (0, [])).2 [(0, (2, (nP f : Int))), (1, (0, aa))] [] S (fun q Z => q = .inl none ∧ pf_f f S Z ∧ ((∀ x : Int, Z wG x = S wG x) ∧ phP f Z ≤ phP f S) ∧ pO f aa 0 [] [] [] [] 0 Z) := by
  have hG : ∀ c : Nat, nP f + c ≠ wG := fun c => nP_G
  refine wa_aload_n (n := 0) rfl ?_
  refine wa_iload_n (n := 1) rfl ?_
  refine wb_pfi (nP f) rfl h.2.1.1 (wt_P0 hf) wf_14_0 (n := 0) rfl ⟨(by omega), (by omega)⟩ ?_
  refine wa_aload_n (n := 0) rfl ?_
  refine wa_iconst ?_
  refine wb_pfi (nP f) rfl ((w_up_pr (by omega)).mpr h.2.1.1) (wt_P0 hf) wf_14_1 (n := 1) rfl ⟨(by omega), (by omega)⟩ ?_
  refine wa_aload_n (n := 0) rfl ?_
  refine wa_iconst ?_
  refine wb_pfi (nP f) rfl ((w_up_pr (by omega)).mpr ((w_up_pr (by omega)).mpr h.2.1.1)) (wt_P0 hf) wf_14_2 (n := 2) rfl ⟨(by omega), (by omega)⟩ ?_
  refine wa_aload_n (n := 0) rfl ?_
  refine wb_gf5 (nP f) rfl ((w_up_pr (by omega)).mpr ((w_up_pr (by omega)).mpr ((w_up_pr (by omega)).mpr h.2.1.1))) (wt_P0 hf) wf_14_4 (v := ((nP f + 2 : Nat) : Int)) ((w_up_at (by decide)).trans ((w_up_at (by decide)).trans ((w_up_at (by decide)).trans (h.1.2.2.2.2.1)))) (fun r101 => ?_)
  refine wa_iconst ?_
  refine wb_pfi (nP f + 2) rfl ((w_up_pr (by omega)).mpr ((w_up_pr (by omega)).mpr ((w_up_pr (by omega)).mpr (h.2.2.2.2.1).1.2.2))) (wt_P2 hf ⟨by decide, by decide⟩) wf_13_2 (n := 2) rfl ⟨(by omega), (by omega)⟩ ?_
  refine wa_aload_n (n := 0) rfl ?_
  refine wb_gf5 (nP f) rfl ((w_up_pr (by omega)).mpr ((w_up_pr (by omega)).mpr ((w_up_pr (by omega)).mpr ((w_up_pr (by omega)).mpr h.2.1.1)))) (wt_P0 hf) wf_14_5 (v := ((nP f + 3 : Nat) : Int)) ((w_up_slot (by omega)).trans ((w_up_at (by decide)).trans ((w_up_at (by decide)).trans ((w_up_at (by decide)).trans (h.1.2.2.2.2.2.1))))) (fun r102 => ?_)
  refine wa_iconst ?_
  refine wb_pfi (nP f + 3) rfl ((w_up_pr (by omega)).mpr ((w_up_pr (by omega)).mpr ((w_up_pr (by omega)).mpr ((w_up_pr (by omega)).mpr (h.2.2.2.2.2.1).1.2.2)))) (wt_P2 hf ⟨by decide, by decide⟩) wf_13_2 (n := 2) rfl ⟨(by omega), (by omega)⟩ ?_
  refine wa_aload_n (n := 0) rfl ?_
  refine wb_gf5 (nP f) rfl ((w_up_pr (by omega)).mpr ((w_up_pr (by omega)).mpr ((w_up_pr (by omega)).mpr ((w_up_pr (by omega)).mpr ((w_up_pr (by omega)).mpr h.2.1.1))))) (wt_P0 hf) wf_14_6 (v := ((nP f + 4 : Nat) : Int)) ((w_up_slot (by omega)).trans ((w_up_slot (by omega)).trans ((w_up_at (by decide)).trans ((w_up_at (by decide)).trans ((w_up_at (by decide)).trans (h.1.2.2.2.2.2.2.1)))))) (fun r103 => ?_)
  refine wa_iconst ?_
  refine wb_pfi (nP f + 4) rfl ((w_up_pr (by omega)).mpr ((w_up_pr (by omega)).mpr ((w_up_pr (by omega)).mpr ((w_up_pr (by omega)).mpr ((w_up_pr (by omega)).mpr (h.2.2.2.2.2.2).1.2.2))))) (wt_P2 hf ⟨by decide, by decide⟩) wf_13_2 (n := 2) rfl ⟨(by omega), (by omega)⟩ ?_
  refine wa_aload_n (n := 0) rfl ?_
  refine wa_iconst ?_
  refine wb_pfi (nP f) rfl ((w_up_pr (by omega)).mpr ((w_up_pr (by omega)).mpr ((w_up_pr (by omega)).mpr ((w_up_pr (by omega)).mpr ((w_up_pr (by omega)).mpr ((w_up_pr (by omega)).mpr h.2.1.1)))))) (wt_P0 hf) wf_14_7 (n := 7) rfl ⟨(by omega), (by omega)⟩ ?_
  refine wa_return rfl ?_
  have hh := h
  obtain ⟨⟨a1, a2, a3, a4, a5, a6, a7, a8⟩, ⟨b1, b2, b3⟩, b4, b5, b6, b7, b8⟩ := hh
  obtain ⟨i0_0, p0_0⟩ := iI_ag (Z := (w_up S (nP f) 0 aa)) b6 (fun j x hj => w_up_slot (by rcases hj with q | ⟨g, q1, q2⟩ <;> first | omega | (unfold fa at q2; omega)))
  obtain ⟨i0_1, p0_1⟩ := iI_ag (Z := (w_up S (nP f) 0 aa)) b7 (fun j x hj => w_up_slot (by rcases hj with q | ⟨g, q1, q2⟩ <;> first | omega | (unfold fa at q2; omega)))
  obtain ⟨i0_2, p0_2⟩ := iI_ag (Z := (w_up S (nP f) 0 aa)) b8 (fun j x hj => w_up_slot (by rcases hj with q | ⟨g, q1, q2⟩ <;> first | omega | (unfold fa at q2; omega)))
  obtain ⟨i1_0, p1_0⟩ := iI_ag (Z := (w_up (w_up S (nP f) 0 aa) (nP f) 1 0)) i0_0 (fun j x hj => w_up_slot (by rcases hj with q | ⟨g, q1, q2⟩ <;> first | omega | (unfold fa at q2; omega)))
  obtain ⟨i1_1, p1_1⟩ := iI_ag (Z := (w_up (w_up S (nP f) 0 aa) (nP f) 1 0)) i0_1 (fun j x hj => w_up_slot (by rcases hj with q | ⟨g, q1, q2⟩ <;> first | omega | (unfold fa at q2; omega)))
  obtain ⟨i1_2, p1_2⟩ := iI_ag (Z := (w_up (w_up S (nP f) 0 aa) (nP f) 1 0)) i0_2 (fun j x hj => w_up_slot (by rcases hj with q | ⟨g, q1, q2⟩ <;> first | omega | (unfold fa at q2; omega)))
  obtain ⟨i2_0, p2_0⟩ := iI_ag (Z := (w_up (w_up (w_up S (nP f) 0 aa) (nP f) 1 0) (nP f) 2 0)) i1_0 (fun j x hj => w_up_slot (by rcases hj with q | ⟨g, q1, q2⟩ <;> first | omega | (unfold fa at q2; omega)))
  obtain ⟨i2_1, p2_1⟩ := iI_ag (Z := (w_up (w_up (w_up S (nP f) 0 aa) (nP f) 1 0) (nP f) 2 0)) i1_1 (fun j x hj => w_up_slot (by rcases hj with q | ⟨g, q1, q2⟩ <;> first | omega | (unfold fa at q2; omega)))
  obtain ⟨i2_2, p2_2⟩ := iI_ag (Z := (w_up (w_up (w_up S (nP f) 0 aa) (nP f) 1 0) (nP f) 2 0)) i1_2 (fun j x hj => w_up_slot (by rcases hj with q | ⟨g, q1, q2⟩ <;> first | omega | (unfold fa at q2; omega)))
  obtain ⟨i3_0, p3_0⟩ := iI_0 (o := nP f + 2) (fam := fa f 0) (hfam_P (r := 0) hf (by decide)) i2_0
  obtain ⟨i3_1, p3_1⟩ := iI_ag (Z := (w_up (w_up (w_up (w_up S (nP f) 0 aa) (nP f) 1 0) (nP f) 2 0) (nP f + 2) 2 0)) i2_1 (fun j x hj => w_up_slot (by rcases hj with q | ⟨g, q1, q2⟩ <;> first | omega | (unfold fa at q2; omega)))
  obtain ⟨i3_2, p3_2⟩ := iI_ag (Z := (w_up (w_up (w_up (w_up S (nP f) 0 aa) (nP f) 1 0) (nP f) 2 0) (nP f + 2) 2 0)) i2_2 (fun j x hj => w_up_slot (by rcases hj with q | ⟨g, q1, q2⟩ <;> first | omega | (unfold fa at q2; omega)))
  obtain ⟨i4_0, p4_0⟩ := iI_ag (Z := (w_up (w_up (w_up (w_up (w_up S (nP f) 0 aa) (nP f) 1 0) (nP f) 2 0) (nP f + 2) 2 0) (nP f + 3) 2 0)) i3_0 (fun j x hj => w_up_slot (by rcases hj with q | ⟨g, q1, q2⟩ <;> first | omega | (unfold fa at q2; omega)))
  obtain ⟨i4_1, p4_1⟩ := iI_0 (o := nP f + 3) (fam := fa f 1) (hfam_P (r := 1) hf (by decide)) i3_1
  obtain ⟨i4_2, p4_2⟩ := iI_ag (Z := (w_up (w_up (w_up (w_up (w_up S (nP f) 0 aa) (nP f) 1 0) (nP f) 2 0) (nP f + 2) 2 0) (nP f + 3) 2 0)) i3_2 (fun j x hj => w_up_slot (by rcases hj with q | ⟨g, q1, q2⟩ <;> first | omega | (unfold fa at q2; omega)))
  obtain ⟨i5_0, p5_0⟩ := iI_ag (Z := (w_up (w_up (w_up (w_up (w_up (w_up S (nP f) 0 aa) (nP f) 1 0) (nP f) 2 0) (nP f + 2) 2 0) (nP f + 3) 2 0) (nP f + 4) 2 0)) i4_0 (fun j x hj => w_up_slot (by rcases hj with q | ⟨g, q1, q2⟩ <;> first | omega | (unfold fa at q2; omega)))
  obtain ⟨i5_1, p5_1⟩ := iI_ag (Z := (w_up (w_up (w_up (w_up (w_up (w_up S (nP f) 0 aa) (nP f) 1 0) (nP f) 2 0) (nP f + 2) 2 0) (nP f + 3) 2 0) (nP f + 4) 2 0)) i4_1 (fun j x hj => w_up_slot (by rcases hj with q | ⟨g, q1, q2⟩ <;> first | omega | (unfold fa at q2; omega)))
  obtain ⟨i5_2, p5_2⟩ := iI_0 (o := nP f + 4) (fam := fa f 2) (hfam_P (r := 2) hf (by decide)) i4_2
  obtain ⟨i6_0, p6_0⟩ := iI_ag (Z := (w_up (w_up (w_up (w_up (w_up (w_up (w_up S (nP f) 0 aa) (nP f) 1 0) (nP f) 2 0) (nP f + 2) 2 0) (nP f + 3) 2 0) (nP f + 4) 2 0) (nP f) 7 0)) i5_0 (fun j x hj => w_up_slot (by rcases hj with q | ⟨g, q1, q2⟩ <;> first | omega | (unfold fa at q2; omega)))
  obtain ⟨i6_1, p6_1⟩ := iI_ag (Z := (w_up (w_up (w_up (w_up (w_up (w_up (w_up S (nP f) 0 aa) (nP f) 1 0) (nP f) 2 0) (nP f + 2) 2 0) (nP f + 3) 2 0) (nP f + 4) 2 0) (nP f) 7 0)) i5_1 (fun j x hj => w_up_slot (by rcases hj with q | ⟨g, q1, q2⟩ <;> first | omega | (unfold fa at q2; omega)))
  obtain ⟨i6_2, p6_2⟩ := iI_ag (Z := (w_up (w_up (w_up (w_up (w_up (w_up (w_up S (nP f) 0 aa) (nP f) 1 0) (nP f) 2 0) (nP f + 2) 2 0) (nP f + 3) 2 0) (nP f + 4) 2 0) (nP f) 7 0)) i5_2 (fun j x hj => w_up_slot (by rcases hj with q | ⟨g, q1, q2⟩ <;> first | omega | (unfold fa at q2; omega)))
  have z1 : ∀ x : Int, (w_up (w_up (w_up (w_up (w_up (w_up (w_up S (nP f) 0 aa) (nP f) 1 0) (nP f) 2 0) (nP f + 2) 2 0) (nP f + 3) 2 0) (nP f + 4) 2 0) (nP f) 7 0) (nP f + 1) x = S (nP f + 1) x := fun x => (w_up_no (by omega)).trans ((w_up_no (by omega)).trans ((w_up_no (by omega)).trans ((w_up_no (by omega)).trans ((w_up_no (by omega)).trans ((w_up_no (by omega)).trans ((w_up_no (by omega)).trans (rfl)))))))
  have zG : ∀ x : Int, (w_up (w_up (w_up (w_up (w_up (w_up (w_up S (nP f) 0 aa) (nP f) 1 0) (nP f) 2 0) (nP f + 2) 2 0) (nP f + 3) 2 0) (nP f + 4) 2 0) (nP f) 7 0) wG x = S wG x := fun x => (w_up_slot (Ne.symm (hG 0))).trans ((w_up_slot (Ne.symm (hG 4))).trans ((w_up_slot (Ne.symm (hG 3))).trans ((w_up_slot (Ne.symm (hG 2))).trans ((w_up_slot (Ne.symm (hG 0))).trans ((w_up_slot (Ne.symm (hG 0))).trans ((w_up_slot (Ne.symm (hG 0))).trans (rfl)))))))
  refine ⟨rfl, fun j x q1 q2 => (w_up_no (by omega)).trans ((w_up_no (by omega)).trans ((w_up_no (by omega)).trans ((w_up_no (by omega)).trans ((w_up_no (by omega)).trans ((w_up_no (by omega)).trans ((w_up_no (by omega)).trans (rfl))))))), ⟨zG, ?_⟩, ⟨((w_up_at (by decide)).trans ((w_up_slot (by omega)).trans ((w_up_slot (by omega)).trans ((w_up_slot (by omega)).trans ((w_up_at (by decide)).trans ((w_up_at (by decide)).trans (w_up_same _ _ _ _))))))), ((w_up_at (by decide)).trans ((w_up_slot (by omega)).trans ((w_up_slot (by omega)).trans ((w_up_slot (by omega)).trans ((w_up_at (by decide)).trans (w_up_same _ _ _ _)))))), ((w_up_at (by decide)).trans ((w_up_slot (by omega)).trans ((w_up_slot (by omega)).trans ((w_up_slot (by omega)).trans (w_up_same _ _ _ _))))), ((w_up_at (by decide)).trans ((w_up_slot (by omega)).trans ((w_up_slot (by omega)).trans ((w_up_slot (by omega)).trans ((w_up_at (by decide)).trans ((w_up_at (by decide)).trans ((w_up_at (by decide)).trans (h.1.2.2.2.1)))))))), ((w_up_at (by decide)).trans ((w_up_slot (by omega)).trans ((w_up_slot (by omega)).trans ((w_up_slot (by omega)).trans ((w_up_at (by decide)).trans ((w_up_at (by decide)).trans ((w_up_at (by decide)).trans (h.1.2.2.2.2.1)))))))), ((w_up_at (by decide)).trans ((w_up_slot (by omega)).trans ((w_up_slot (by omega)).trans ((w_up_slot (by omega)).trans ((w_up_at (by decide)).trans ((w_up_at (by decide)).trans ((w_up_at (by decide)).trans (h.1.2.2.2.2.2.1)))))))), ((w_up_at (by decide)).trans ((w_up_slot (by omega)).trans ((w_up_slot (by omega)).trans ((w_up_slot (by omega)).trans ((w_up_at (by decide)).trans ((w_up_at (by decide)).trans ((w_up_at (by decide)).trans (h.1.2.2.2.2.2.2.1)))))))), (w_up_same _ _ _ _)⟩, ⟨?_, ⟨by rw [z1]; exact b2.1, b2.2⟩, (z1 _).trans b3⟩, Nat.zero_le _, fun k hk => absurd hk (Nat.not_lt_zero _), i6_0, i6_1, i6_2⟩
  · unfold phP
    omega
  · exact ((w_up_pr (by decide)).mpr ((w_up_pr (by decide)).mpr ((w_up_pr (by decide)).mpr ((w_up_pr (by decide)).mpr ((w_up_pr (by decide)).mpr ((w_up_pr (by decide)).mpr ((w_up_pr (by decide)).mpr b1)))))))
/-- the fields of a new Ints, of a new Part -/
def g13 : Int → Int := fun i => if i = 1 then -1 else 0
def g14 : Int → Int := fun i => if 3 ≤ i ∧ i ≤ 6 then -1 else 0
theorem wc_13 {j : Nat} (ht : wY0.ty j = 113) (ad2 : Nat → Nat) : w_c wY0 ad2 (w_nw S j g13 3) j (.inr (.inl (13, pe_dv_13))) := by
  refine ⟨ht, by decide +kernel, fun i k hk => ?_⟩
  rw [w_nw_at]
  match i, hk with
  | 0, hk => cases (Option.some.inj (hk.symm.trans wf_13_0)); exact ⟨Or.inr rfl, ⟨by decide, by decide⟩, trivial⟩
  | 1, hk => cases (Option.some.inj (hk.symm.trans wf_13_1)); exact ⟨Or.inr rfl, trivial, Or.inl (by decide)⟩
  | 2, hk => cases (Option.some.inj (hk.symm.trans wf_13_2)); exact ⟨Or.inr rfl, ⟨by decide, by decide⟩, trivial⟩
  | i + 3, hk =>
    have h0 : (wY0.fk 13)[i + 3]? = none := List.getElem?_eq_none (by show 3 ≤ i + 3; omega)
    rw [h0] at hk; cases hk
theorem wc_14 {j : Nat} (ht : wY0.ty j = 114) (ad2 : Nat → Nat) : w_c wY0 ad2 (w_nw S j g14 8) j (.inr (.inl (14, pe_dv_14))) := by
  refine ⟨ht, by decide +kernel, fun i k hk => ?_⟩
  rw [w_nw_at]
  match i, hk with
  | 0, hk => cases (Option.some.inj (hk.symm.trans wf_14_0)); exact ⟨Or.inr rfl, ⟨by decide, by decide⟩, trivial⟩
  | 1, hk => cases (Option.some.inj (hk.symm.trans wf_14_1)); exact ⟨Or.inr rfl, ⟨by decide, by decide⟩, trivial⟩
  | 2, hk => cases (Option.some.inj (hk.symm.trans wf_14_2)); exact ⟨Or.inr rfl, ⟨by decide, by decide⟩, trivial⟩
  | 3, hk => cases (Option.some.inj (hk.symm.trans wf_14_3)); exact ⟨Or.inr rfl, trivial, Or.inl (by decide)⟩
  | 4, hk => cases (Option.some.inj (hk.symm.trans wf_14_4)); exact ⟨Or.inr rfl, trivial, Or.inl (by decide)⟩
  | 5, hk => cases (Option.some.inj (hk.symm.trans wf_14_5)); exact ⟨Or.inr rfl, trivial, Or.inl (by decide)⟩
  | 6, hk => cases (Option.some.inj (hk.symm.trans wf_14_6)); exact ⟨Or.inr rfl, trivial, Or.inl (by decide)⟩
  | 7, hk => cases (Option.some.inj (hk.symm.trans wf_14_7)); exact ⟨Or.inr rfl, ⟨by decide, by decide⟩, trivial⟩
  | i + 8, hk =>
    have h0 : (wY0.fk 14)[i + 8]? = none := List.getElem?_eq_none (by show 8 ≤ i + 8; omega)
    rw [h0] at hk; cases hk
theorem ii_r (hf : hfam o fam) (po : w_pr wY0 S o) (h2 : S o 2 = 0) (hab : ∀ g : Nat, g ≤ 11 → ¬ w_pr wY0 S (fam g)) (hm : 16 ≤ most ∧ most ≤ 20000) : wJ (pe_GA xs) wY0 M (d + 1) t_MI_init ((pe_at t_MI_init.bl 0).getD (0, [])).2 [(0, (2, (o : Int))), (1, (0, most))] [] S (fun q Z => q = .inl none ∧ iI o fam most [] Z ∧ ia_f o fam S Z ∧ (Z wG 0 = S wG 0 + 16 ∧ Z wG 1 = S wG 1 + 1) ∧ (2000000 ≤ o → phi o Z = 0)) := by
  have hn := (hf.2 0 (by decide)).1
  refine wa_aload_n (n := 0) rfl ?_
  refine wa_obj o rfl (ob_d (by omega) (by decide)) ?_
  refine wa_aload_n (n := 0) rfl ?_
  refine wa_bipush (w_rg2 (by omega) (by omega)) ?_
  refine wb_nI (fam 0) ⟨by omega, by omega⟩ hn.1 (hab 0 (by decide)) hn.2.2.1 hn.2.2.2.1 ⟨(Or.inr ⟨po, fun q => q⟩), trivial, trivial⟩ ⟨(Or.inr ⟨po, fun q => q⟩), trivial⟩ (fun Z1 n1 np nq => ?_)
  refine wb_pf7 o rfl (nq _ po) hf.1.1 wf_13_1 (n := 1) rfl (Or.inr ⟨by rw [Int.toNat_natCast]; exact np, by rw [Int.toNat_natCast]; exact hn.2.1⟩) ?_
  refine wa_aload_n (n := 0) rfl ?_
  refine wa_iload_n (n := 1) rfl ?_
  refine wb_pfi o rfl ((w_up_pr (by omega)).mpr (nq _ po)) hf.1.1 wf_13_0 (n := 0) rfl ⟨(by omega), (by omega)⟩ ?_
  refine wa_return rfl ?_
  have ko : o ≠ fam 0 := Ne.symm hn.2.2.2.2
  have e1 : (w_up (w_up Z1 o 1 (fam 0 : Int)) o 0 most) o 1 = (fam 0 : Int) := ((w_up_at (by decide)).trans (w_up_same _ _ _ _))
  have e2 : (w_up (w_up Z1 o 1 (fam 0 : Int)) o 0 most) o 2 = 0 := (w_up_at (by decide)).trans ((w_up_at (by decide)).trans ((congrFun (n1.2.2.1 o ko hf.1.2.1) 2).trans h2))
  have ea : ∀ x : Int, (w_up (w_up Z1 o 1 (fam 0 : Int)) o 0 most) (fam 0) x = Z1 (fam 0) x := fun x => (w_up_slot hn.2.2.2.2).trans (w_up_slot hn.2.2.2.2)
  have eG : ∀ x : Int, (w_up (w_up Z1 o 1 (fam 0 : Int)) o 0 most) wG x = Z1 wG x := fun x => (w_up_slot (Ne.symm hf.1.2.1)).trans (w_up_slot (Ne.symm hf.1.2.1))
  refine ⟨rfl, ⟨⟨(w_up_same _ _ _ _), e2, (w_up_pr (by decide)).mpr ((w_up_pr (by decide)).mpr (nq _ po))⟩, 0, by decide, e1, by rw [ea, n1.2.1]; rfl, (w_up_pr (by decide)).mpr ((w_up_pr (by decide)).mpr np), Or.inl (by decide), fun k hk => absurd hk (Nat.not_lt_zero _), fun h q1 q2 q3 => ?_⟩, fun j x q1 q2 q3 => (w_up_slot q2).trans ((w_up_slot q2).trans (congrFun (n1.2.2.1 j (q3 0 (by decide)) q1) x)), ⟨by rw [eG]; exact n1.2.2.2.1, by rw [eG]; exact n1.2.2.2.2⟩, ?_⟩
  · have hh := (hf.2 h q2).1
    have hne : fam h ≠ fam 0 := fun e => by have := (hf.2 h q2).2 0 (by decide) e; omega
    have q4 := (w_up_pr (by decide)).mp ((w_up_pr (by decide)).mp q3)
    exact hab h q2 ⟨by rw [← congrFun (n1.2.2.1 _ hne hh.2.2.1) (-1)]; exact q4.1, q4.2⟩
  · intro ho
    unfold phi
    rw [if_neg (by omega), e1, e2, Int.toNat_natCast, ea, n1.2.1]
    decide
end Wbt
