/-! PART bs: the reference's Part. -/
section Wbs
variable {xs : List (Nat × List Int32)} {M : Nat → Prop} {d : Nat} {A B C S Z : wS} {Q : wO → wS → Prop}
variable {f : Nat} {ar pa un : Int} {vs lo la lb l : List Int} {o : Nat} {fam : Nat → Nat} {most : Int}
/-- the names of the r-th Ints' arrays of the f-th part -/
def fa (f r g : Nat) : Nat := nP f + (16 + 16 * r + g)
theorem hfam_P {r : Nat} (hf : f ≤ 1000) (hr : r < 3) : hfam (nP f + (2 + r)) (fa f r) := by
  refine ⟨⟨wt_P2 hf (by omega), nP_G, by unfold nP; omega⟩, fun g hg => ⟨⟨wt_P1 hf (Or.inr (by omega)), wc_P1 hf (Or.inr (by omega)), nP_G, by unfold fa nP; omega, by unfold fa; omega⟩, fun h hh e => by unfold fa at e; omega⟩⟩
/-- the f-th part: around, parameters, variables, instructions, how many were not kept -/
def pO (f : Nat) (ar pa : Int) (vs lo la lb : List Int) (un : Int) (S : wS) : Prop := (S (nP f) 0 = ar ∧ S (nP f) 1 = pa ∧ S (nP f) 2 = (vs.length : Int) ∧ S (nP f) 3 = ((nP f + 1 : Nat) : Int) ∧ S (nP f) 4 = ((nP f + 2 : Nat) : Int) ∧ S (nP f) 5 = ((nP f + 3 : Nat) : Int) ∧ S (nP f) 6 = ((nP f + 4 : Nat) : Int) ∧ S (nP f) 7 = un) ∧ (w_pr wY0 S (nP f) ∧ w_pr wY0 S (nP f + 1) ∧ S (nP f + 1) (-1) = 60) ∧ vs.length ≤ 60 ∧ (∀ k : Nat, k < vs.length → S (nP f + 1) (k : Int) = vs.getD k 0) ∧ iI (nP f + 2) (fa f 0) 20000 lo S ∧ iI (nP f + 3) (fa f 1) 20000 la S ∧ iI (nP f + 4) (fa f 2) 20000 lb S
/-- nothing but the f-th part has changed -/
def pf_f (f : Nat) (S Z : wS) : Prop := ∀ (j : Nat) (x : Int), j ≠ wG → (j < nP f ∨ nP f + 64 ≤ j) → Z j x = S j x
def phP (f : Nat) (S : wS) : Int := phi (nP f + 2) S + phi (nP f + 3) S + phi (nP f + 4) S
theorem iI_ag (h : iI o fam most l S) (e : ∀ (j : Nat) (x : Int), (j = o ∨ ∃ g : Nat, g ≤ 11 ∧ j = fam g) → Z j x = S j x) : iI o fam most l Z ∧ phi o Z = phi o S := by
  obtain ⟨⟨h1, h2, h3⟩, g, g1, g2, g3, g4, g5, g6, g7⟩ := h
  have eo : ∀ x : Int, Z o x = S o x := fun x => e o x (Or.inl rfl)
  have ef : ∀ (h : Nat) (x : Int), h ≤ 11 → Z (fam h) x = S (fam h) x := fun h x hh => e _ x (Or.inr ⟨h, hh, rfl⟩)
  refine ⟨⟨⟨(eo 0).trans h1, (eo 2).trans h2, ⟨by rw [eo]; exact h3.1, h3.2⟩⟩, g, g1, (eo 1).trans g2, (ef g _ g1).trans g3, ⟨by rw [ef g _ g1]; exact g4.1, g4.2⟩, g5, fun k k1 k2 => (ef g _ g1).trans (g6 k k1 k2), fun h q1 q2 q3 => g7 h q1 q2 ⟨by rw [← ef h _ q2]; exact q3.1, q3.2⟩⟩, ?_⟩
  unfold phi
  rw [eo, eo, g2, Int.toNat_natCast, ef g _ g1]
theorem pO_ag (h : pO f ar pa vs lo la lb un S) (e : ∀ (j : Nat) (x : Int), nP f ≤ j → j < nP f + 64 → Z j x = S j x) : pO f ar pa vs lo la lb un Z ∧ phP f Z = phP f S := by
  obtain ⟨h1, ⟨h2, h3, h4⟩, h5, h6, h7, h8, h9⟩ := h
  have e0 : ∀ x : Int, Z (nP f) x = S (nP f) x := fun x => e _ x (by omega) (by omega)
  have e1 : ∀ x : Int, Z (nP f + 1) x = S (nP f + 1) x := fun x => e _ x (by omega) (by omega)
  have ei : ∀ (r : Nat) (j : Nat) (x : Int), r < 3 → (j = nP f + (2 + r) ∨ ∃ g : Nat, g ≤ 11 ∧ j = fa f r g) → Z j x = S j x := fun r j x hr hj => e j x (by rcases hj with q | ⟨g, q1, q2⟩ <;> first | omega | (unfold fa at q2; omega)) (by rcases hj with q | ⟨g, q1, q2⟩ <;> first | omega | (unfold fa at q2; omega))
  obtain ⟨a1, a2⟩ := iI_ag h7 (fun j x => ei 0 j x (by decide))
  obtain ⟨b1, b2⟩ := iI_ag h8 (fun j x => ei 1 j x (by decide))
  obtain ⟨c1, c2⟩ := iI_ag h9 (fun j x => ei 2 j x (by decide))
  refine ⟨⟨by rw [e0, e0, e0, e0, e0, e0, e0, e0]; exact h1, ⟨⟨by rw [e0]; exact h2.1, h2.2⟩, ⟨by rw [e1]; exact h3.1, h3.2⟩, (e1 _).trans h4⟩, h5, fun k hk => (e1 _).trans (h6 k hk), a1, b1, c1⟩, ?_⟩
  unfold phP
  rw [a2, b2, c2]
theorem he_r (hf : f ≤ 1000) (h : pO f ar pa vs lo la lb un S) : wJ (pe_GA xs) wY0 M d t_MP_here ((pe_at t_MP_here.bl 0).getD (0, [])).2 [(0, (2, (nP f : Int)))] [] S (fun q Z => S = Z ∧ q = .inl (some (0, (lo.length : Int) + un))) := by
  refine wa_aload_n (n := 0) rfl ?_
  refine wb_gf5 (nP f) rfl h.2.1.1 (wt_P0 hf) wf_14_4 (v := ((nP f + 2 : Nat) : Int)) (h.1.2.2.2.2.1) (fun r101 => ?_)
  refine wb_gfi (nP f + 2) rfl (h.2.2.2.2.1).1.2.2 (wt_P2 hf ⟨by decide, by decide⟩) wf_13_2 (v := (lo.length : Int)) ((h.2.2.2.2.1).1.2.1) (fun r102 => ?_)
  refine wa_aload_n (n := 0) rfl ?_
  refine wb_gfi (nP f) rfl h.2.1.1 (wt_P0 hf) wf_14_7 (v := un) (h.1.2.2.2.2.2.2.2) (fun r103 => ?_)
  refine wa_iadd ?_
  refine wa_ireturn rfl ?_
  exact ⟨rfl, rfl⟩
theorem ad_r {op x y kp : Int} (hf : f ≤ 1000) (h : pO f ar pa vs lo la lb un S) (ho : -2147483648 ≤ op ∧ op ≤ 2147483647) (hx : -2147483648 ≤ x ∧ x ≤ 2147483647) (hy : -2147483648 ≤ y ∧ y ≤ 2147483647) (hk : kp = 0 ∨ kp = 1) (hu : 0 ≤ un ∧ un ≤ 1000000) (hl : (lo.length : Int) ≤ 1000000 ∧ (la.length : Int) ≤ 1000000 ∧ (lb.length : Int) ≤ 1000000) : wJ (pe_GA xs) wY0 M (d + 1) t_MP_add ((pe_at t_MP_add.bl 0).getD (0, [])).2 [(0, (2, (nP f : Int))), (1, (0, op)), (2, (0, x)), (3, (0, y)), (4, (0, kp))] [] S (fun q Z => q = .inl none ∧ pf_f f S Z ∧ (Z wG 0 + phP f Z ≤ S wG 0 + phP f S + 12 ∧ S wG 0 ≤ Z wG 0 ∧ 32 * (Z wG 1 - S wG 1) ≤ Z wG 0 - S wG 0 ∧ S wG 1 ≤ Z wG 1) ∧ ((kp = 0 ∧ pO f ar pa vs lo la lb (un + 1) Z) ∨ (kp = 1 ∧ pO f ar pa vs (lo ++ [op]) (la ++ [x]) (lb ++ [y]) un Z))) := by
  have hh := h
  have fm : ∀ r : Nat, r < 3 → hfam (nP f + (2 + r)) (fa f r) := fun r hr => hfam_P hf hr
  have hG : ∀ c : Nat, nP f + c ≠ wG := fun c => nP_G
  refine wa_iload (n := 4) rfl ?_
  refine wa_ifne (w_rg0 (by omega) (by omega)) ⟨_, rfl⟩ (fun c101 => ?_) (fun c101 => ?_)
  · skip
    refine wa_aload_n (n := 0) rfl ?_
    refine wb_gf5 (nP f) rfl h.2.1.1 (wt_P0 hf) wf_14_4 (v := ((nP f + 2 : Nat) : Int)) (h.1.2.2.2.2.1) (fun r102 => ?_)
    refine wa_iload_n (n := 1) rfl ?_
    refine wa_cv (nP f + 2) rfl (h.2.2.2.2.1).1.2.2 (wt_P2 hf ⟨by decide, by decide⟩) (M2 := fun _ => False) rfl at_MI_add ⟨_, rfl⟩ rfl rfl ⟨(Or.inr ⟨h.2.1.1, fun q => q⟩), trivial, trivial, trivial, trivial, trivial⟩ trivial (fun _ _ q => False.elim q) (ia_ok (o := nP f + 2) (fam := fa f 0) (most := 20000) (l := lo) (fm 0 (by decide)) ⟨by decide, by decide⟩ h.2.2.2.2.1 ⟨by omega, by omega⟩ (by omega)) (fun oq103 Sq103 hp104 q103 => ?_)
    rcases q103 with ⟨rfl, n0, ag0⟩
    show wJ _ _ _ _ _ _ _ _ _ _
    obtain ⟨i1_0, p1_0⟩ := iI_ag h.2.2.2.2.2.1 (fun j x hj => ag0.1 j x (by rcases hj with q | ⟨g, q1, q⟩ <;> rw [q] <;> first | exact nP_G | (unfold fa; exact nP_G)) (by rcases hj with q | ⟨g, q1, q2⟩ <;> first | omega | (unfold fa at q2; omega)) (fun g hg => by rcases hj with q | ⟨g2, q1, q2⟩ <;> unfold fa <;> first | omega | (unfold fa at q2; omega)))
    obtain ⟨i2_0, p2_0⟩ := iI_ag h.2.2.2.2.2.2 (fun j x hj => ag0.1 j x (by rcases hj with q | ⟨g, q1, q⟩ <;> rw [q] <;> first | exact nP_G | (unfold fa; exact nP_G)) (by rcases hj with q | ⟨g, q1, q2⟩ <;> first | omega | (unfold fa at q2; omega)) (fun g hg => by rcases hj with q | ⟨g2, q1, q2⟩ <;> unfold fa <;> first | omega | (unfold fa at q2; omega)))
    have f0 : ∀ (j : Nat) (x : Int), j ≠ wG → (j < nP f + 2 ∨ nP f + 64 ≤ j) → Sq103 j x = S j x := fun j x q1 q2 => ag0.1 j x q1 (by omega) (fun g hg => by unfold fa; omega)
    refine wa_aload_n (n := 0) rfl ?_
    refine wb_gf5 (nP f) rfl (hp104 _ h.2.1.1) (wt_P0 hf) wf_14_5 (v := ((nP f + 3 : Nat) : Int)) (((f0 (nP f) 5 (hG 0) (Or.inl (by omega))).trans h.1.2.2.2.2.2.1)) (fun r105 => ?_)
    refine wa_iload_n (n := 2) rfl ?_
    refine wa_cv (nP f + 3) rfl (i1_0.1.2.2) (wt_P2 hf ⟨by decide, by decide⟩) (M2 := fun _ => False) rfl at_MI_add ⟨_, rfl⟩ rfl rfl ⟨(Or.inr ⟨(hp104 _ h.2.1.1), fun q => q⟩), trivial, trivial, trivial, trivial, trivial⟩ trivial (fun _ _ q => False.elim q) (ia_ok (o := nP f + 3) (fam := fa f 1) (most := 20000) (l := la) (fm 1 (by decide)) ⟨by decide, by decide⟩ i1_0 ⟨by omega, by omega⟩ (by omega)) (fun oq106 Sq106 hp107 q106 => ?_)
    rcases q106 with ⟨rfl, n1, ag1⟩
    show wJ _ _ _ _ _ _ _ _ _ _
    obtain ⟨i0_1, p0_1⟩ := iI_ag n0 (fun j x hj => ag1.1 j x (by rcases hj with q | ⟨g, q1, q⟩ <;> rw [q] <;> first | exact nP_G | (unfold fa; exact nP_G)) (by rcases hj with q | ⟨g, q1, q2⟩ <;> first | omega | (unfold fa at q2; omega)) (fun g hg => by rcases hj with q | ⟨g2, q1, q2⟩ <;> unfold fa <;> first | omega | (unfold fa at q2; omega)))
    obtain ⟨i2_1, p2_1⟩ := iI_ag i2_0 (fun j x hj => ag1.1 j x (by rcases hj with q | ⟨g, q1, q⟩ <;> rw [q] <;> first | exact nP_G | (unfold fa; exact nP_G)) (by rcases hj with q | ⟨g, q1, q2⟩ <;> first | omega | (unfold fa at q2; omega)) (fun g hg => by rcases hj with q | ⟨g2, q1, q2⟩ <;> unfold fa <;> first | omega | (unfold fa at q2; omega)))
    have f1 : ∀ (j : Nat) (x : Int), j ≠ wG → (j < nP f + 2 ∨ nP f + 64 ≤ j) → Sq106 j x = Sq103 j x := fun j x q1 q2 => ag1.1 j x q1 (by omega) (fun g hg => by unfold fa; omega)
    refine wa_aload_n (n := 0) rfl ?_
    refine wb_gf5 (nP f) rfl (hp107 _ (hp104 _ h.2.1.1)) (wt_P0 hf) wf_14_6 (v := ((nP f + 4 : Nat) : Int)) (((f1 (nP f) 6 (hG 0) (Or.inl (by omega))).trans ((f0 (nP f) 6 (hG 0) (Or.inl (by omega))).trans h.1.2.2.2.2.2.2.1))) (fun r108 => ?_)
    refine wa_iload_n (n := 3) rfl ?_
    refine wa_cv (nP f + 4) rfl (i2_1.1.2.2) (wt_P2 hf ⟨by decide, by decide⟩) (M2 := fun _ => False) rfl at_MI_add ⟨_, rfl⟩ rfl rfl ⟨(Or.inr ⟨(hp107 _ (hp104 _ h.2.1.1)), fun q => q⟩), trivial, trivial, trivial, trivial, trivial⟩ trivial (fun _ _ q => False.elim q) (ia_ok (o := nP f + 4) (fam := fa f 2) (most := 20000) (l := lb) (fm 2 (by decide)) ⟨by decide, by decide⟩ i2_1 ⟨by omega, by omega⟩ (by omega)) (fun oq109 Sq109 hp110 q109 => ?_)
    rcases q109 with ⟨rfl, n2, ag2⟩
    show wJ _ _ _ _ _ _ _ _ _ _
    obtain ⟨i0_2, p0_2⟩ := iI_ag i0_1 (fun j x hj => ag2.1 j x (by rcases hj with q | ⟨g, q1, q⟩ <;> rw [q] <;> first | exact nP_G | (unfold fa; exact nP_G)) (by rcases hj with q | ⟨g, q1, q2⟩ <;> first | omega | (unfold fa at q2; omega)) (fun g hg => by rcases hj with q | ⟨g2, q1, q2⟩ <;> unfold fa <;> first | omega | (unfold fa at q2; omega)))
    obtain ⟨i1_2, p1_2⟩ := iI_ag n1 (fun j x hj => ag2.1 j x (by rcases hj with q | ⟨g, q1, q⟩ <;> rw [q] <;> first | exact nP_G | (unfold fa; exact nP_G)) (by rcases hj with q | ⟨g, q1, q2⟩ <;> first | omega | (unfold fa at q2; omega)) (fun g hg => by rcases hj with q | ⟨g2, q1, q2⟩ <;> unfold fa <;> first | omega | (unfold fa at q2; omega)))
    have f2 : ∀ (j : Nat) (x : Int), j ≠ wG → (j < nP f + 2 ∨ nP f + 64 ≤ j) → Sq109 j x = Sq106 j x := fun j x q1 q2 => ag2.1 j x q1 (by omega) (fun g hg => by unfold fa; omega)
    refine wa_return rfl ?_
    have fz : ∀ (j : Nat) (x : Int), j ≠ wG → (j < nP f + 2 ∨ nP f + 64 ≤ j) → Sq109 j x = S j x := fun j x q1 q2 => (f2 j x q1 q2).trans ((f1 j x q1 q2).trans (f0 j x q1 q2))
    have z0 : ∀ x : Int, Sq109 (nP f) x = S (nP f) x := fun x => fz _ x (hG 0) (Or.inl (by omega))
    have z1 : ∀ x : Int, Sq109 (nP f + 1) x = S (nP f + 1) x := fun x => fz _ x (hG 1) (Or.inl (by omega))
    obtain ⟨⟨w1, -⟩, w2, w3, w4⟩ := ag0.2
    obtain ⟨⟨x1, -⟩, x2, x3, x4⟩ := ag1.2
    obtain ⟨⟨y1, -⟩, y2, y3, y4⟩ := ag2.2
    replace w1 := w1 (by unfold nP; omega)
    replace x1 := x1 (by unfold nP; omega)
    replace y1 := y1 (by unfold nP; omega)
    refine ⟨rfl, fun j x q1 q2 => fz j x q1 (by omega), ?_, Or.inr ⟨by omega, ?_⟩⟩
    · unfold phP
      omega
    · obtain ⟨a1, ⟨b1, b2, b3⟩, b4, b5, b6, b7, b8⟩ := hh
      exact ⟨by rw [z0, z0, z0, z0, z0, z0, z0, z0]; exact a1, ⟨⟨by rw [z0]; exact b1.1, b1.2⟩, ⟨by rw [z1]; exact b2.1, b2.2⟩, (z1 _).trans b3⟩, b4, fun k hk => (z1 _).trans (b5 k hk), i0_2, i1_2, n2⟩
  · skip
    refine wa_aload_n (n := 0) rfl ?_
    refine wa_dup (by decide) ?_
    refine wb_gfi (nP f) rfl h.2.1.1 (wt_P0 hf) wf_14_7 (v := un) (h.1.2.2.2.2.2.2.2) (fun r111 => ?_)
    refine wa_iconst ?_
    refine wa_iadd ?_
    refine wb_pfi (nP f) rfl h.2.1.1 (wt_P0 hf) wf_14_7 (n := 7) rfl ⟨(by omega), (by omega)⟩ ?_
    refine wa_return rfl ?_
    refine ⟨rfl, fun j x q1 q2 => w_up_slot (by omega), ?_, Or.inl ⟨by omega, ?_⟩⟩
    · have ph : phP f (w_up S (nP f) 7 (un + 1)) = phP f S := by
        unfold phP
        rw [(iI_ag (Z := (w_up S (nP f) 7 (un + 1))) h.2.2.2.2.1 (fun j x hj => w_up_slot (by rcases hj with q | ⟨g, q1, q2⟩ <;> first | omega | (unfold fa at q2; omega)))).2]
        rw [(iI_ag (Z := (w_up S (nP f) 7 (un + 1))) h.2.2.2.2.2.1 (fun j x hj => w_up_slot (by rcases hj with q | ⟨g, q1, q2⟩ <;> first | omega | (unfold fa at q2; omega)))).2]
        rw [(iI_ag (Z := (w_up S (nP f) 7 (un + 1))) h.2.2.2.2.2.2 (fun j x hj => w_up_slot (by rcases hj with q | ⟨g, q1, q2⟩ <;> first | omega | (unfold fa at q2; omega)))).2]
      have e0 : ∀ x : Int, (w_up S (nP f) 7 (un + 1)) wG x = S wG x := fun x => w_up_slot (Ne.symm (hG 0))
      rw [ph, e0, e0]; omega
    · obtain ⟨⟨a1, a2, a3, a4, a5, a6, a7, a8⟩, ⟨b1, b2, b3⟩, b4, b5, b6, b7, b8⟩ := h
      refine ⟨⟨(w_up_at (by decide)).trans a1, (w_up_at (by decide)).trans a2, (w_up_at (by decide)).trans a3, (w_up_at (by decide)).trans a4, (w_up_at (by decide)).trans a5, (w_up_at (by decide)).trans a6, (w_up_at (by decide)).trans a7, w_up_same _ _ _ _⟩, ⟨(w_up_pr (by decide)).mpr b1, (w_up_pr (by decide)).mpr b2, (w_up_slot (by omega)).trans b3⟩, b4, fun k hk => (w_up_slot (by omega)).trans (b5 k hk), (iI_ag b6 (fun j x hj => w_up_slot (by rcases hj with q | ⟨g, q1, q2⟩ <;> first | omega | (unfold fa at q2; omega)))).1, (iI_ag b7 (fun j x hj => w_up_slot (by rcases hj with q | ⟨g, q1, q2⟩ <;> first | omega | (unfold fa at q2; omega)))).1, (iI_ag b8 (fun j x hj => w_up_slot (by rcases hj with q | ⟨g, q1, q2⟩ <;> first | omega | (unfold fa at q2; omega)))).1⟩
theorem ixI_le {x : Int} : ∀ {L : List Int} {k : Nat} (h : k < L.length), L[k] = x → L.idxOf x ≤ k := by
  intro L
  induction L with
  | nil => intro k h; exact absurd h (Nat.not_lt_zero _)
  | cons y r ih =>
    intro k h e
    rw [List.idxOf_cons]
    cases hb : (y == x) with
    | true => exact Nat.zero_le _
    | false =>
      cases k with
      | zero =>
        have e2 : y = x := e
        rw [e2] at hb
        simp at hb
      | succ k =>
        have := ih (k := k) (by have : (y :: r).length = r.length + 1 := rfl; omega) e
        show r.idxOf x + 1 ≤ k + 1
        omega
/-- where a name stands among variables -/
def ixI (l : List Int) (y : Int) : Int := if y ∈ l then (l.idxOf y : Int) else -1
theorem fd_l {y : Int} (hf : f ≤ 1000) (h : pO f ar pa vs lo la lb un S) (hy : -2147483648 ≤ y ∧ y ≤ 2147483647) : ∀ (fu k : Nat), vs.length - k < fu → k ≤ vs.length → (∀ x : Nat, x < k → vs.getD x 0 ≠ y) → wJ (pe_GA xs) wY0 M d t_MP_find ((pe_at t_MP_find.bl 1).getD (0, [])).2 [(0, (2, (nP f : Int))), (1, (0, y)), (2, (0, (k : Int)))] [] S (fun q Z => S = Z ∧ q = .inl (some (0, ixI vs y))) := by
  have h60 := h.2.2.1
  intro fu
  induction fu with
  | zero => intro k hm; exact absurd hm (Nat.not_lt_zero _)
  | succ fu ih =>
    intro k hm hk hno
    refine wa_iload_n (n := 2) rfl ?_
    refine wa_aload_n (n := 0) rfl ?_
    refine wb_gfi (nP f) rfl h.2.1.1 (wt_P0 hf) wf_14_2 (v := (vs.length : Int)) (h.1.2.2.1) (fun r101 => ?_)
    refine wa_icmpge (w_rg0 (by omega) (by omega)) (w_rg0 (by omega) (by omega)) ⟨_, rfl⟩ (fun c102 => ?_) (fun c102 => ?_)
    · skip
      refine wa_iconst ?_
      refine wa_ireturn rfl ?_
      refine ⟨rfl, ?_⟩
      have hn : y ∉ vs := fun q => by
        obtain ⟨x, x1, x2⟩ := List.getElem_of_mem q
        exact hno x (by omega) (by rw [List.getD_eq_getElem?_getD, List.getElem?_eq_getElem x1]; exact x2)
      unfold ixI; rw [if_neg hn]
    · skip
      refine wa_aload_n (n := 0) rfl ?_
      refine wb_gf7 (nP f) rfl h.2.1.1 (wt_P0 hf) wf_14_3 (v := ((nP f + 1 : Nat) : Int)) (h.1.2.2.2.1) ?_
      refine wa_iload_n (n := 2) rfl ?_
      refine wb_iald (nP f + 1) rfl h.2.1.2.1 (wt_P1 hf (Or.inl rfl)) (n := 60) (h.2.1.2.2) (by omega) (by omega) (v := (vs.getD k 0)) ((h.2.2.2.1 k (by omega))) (fun r103 => ?_)
      refine wa_iload_n (n := 1) rfl ?_
      refine wa_icmpne (w_rg0 (by omega) (by omega)) (w_rg0 (by omega) (by omega)) ⟨_, rfl⟩ (fun c104 => ?_) (fun c104 => ?_)
      · skip
        refine wa_iinc rfl rfl ?_
        refine wa_goto ⟨_, rfl⟩ ?_
        rw [show ((k : Int) + 1) = ((k + 1 : Nat) : Int) by omega]
        exact wJ_S (ih (k + 1) (by omega) (by omega) (fun x hx q => if e : x = k then absurd q (by subst e; omega) else hno x (by omega) q)) ⟨rfl, rfl, rfl, trivial⟩
      · skip
        refine wa_iload_n (n := 2) rfl ?_
        refine wa_ireturn rfl ?_
        refine ⟨rfl, ?_⟩
        have hkl : k < vs.length := by omega
        have he : vs[k] = y := by
          have q : vs.getD k 0 = y := by omega
          rw [List.getD_eq_getElem?_getD, List.getElem?_eq_getElem hkl] at q; exact q
        have hm2 : y ∈ vs := he ▸ List.getElem_mem hkl
        have hid : vs.idxOf y = k := by
          have hlt : vs.idxOf y < vs.length := List.idxOf_lt_length_iff.mpr hm2
          have hge : vs[vs.idxOf y] = y := List.getElem_idxOf hlt
          have h1 : k ≤ vs.idxOf y := Nat.le_of_not_lt (fun q => hno _ q (by rw [List.getD_eq_getElem?_getD, List.getElem?_eq_getElem hlt]; exact hge))
          have h2 : vs.idxOf y ≤ k := ixI_le hkl he
          omega
        unfold ixI; rw [if_pos hm2, hid]
theorem fd_r {y : Int} (hf : f ≤ 1000) (h : pO f ar pa vs lo la lb un S) (hy : -2147483648 ≤ y ∧ y ≤ 2147483647) : wJ (pe_GA xs) wY0 M d t_MP_find ((pe_at t_MP_find.bl 0).getD (0, [])).2 [(0, (2, (nP f : Int))), (1, (0, y))] [] S (fun q Z => S = Z ∧ q = .inl (some (0, ixI vs y))) := by
  refine wa_iconst ?_
  refine wa_istore_n (n := 2) rfl ?_
  refine wa_fall ⟨_, rfl⟩ ?_
  exact wJ_S (fd_l hf h hy (vs.length + 1) 0 (by omega) (Nat.zero_le _) (fun x hx => absurd hx (Nat.not_lt_zero _))) ⟨rfl, rfl, rfl, trivial⟩
end Wbs
