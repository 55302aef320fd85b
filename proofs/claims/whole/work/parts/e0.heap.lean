/-! PART e0: the class's heap: takeCells, addThing; FUN, OBJECT. -/
section We0
variable {xs : List (Nat × List Int32)} {d : Nat} {S Z A B : wS}
/-- a table has room for one more row -/
def mrQ (lo m : Nat) (cnt : Int) (S Z : wS) : Prop := (∀ x : Nat, x < m → Z (lo + x) (-1) = Z lo (-1)) ∧ (cnt < Z lo (-1) ∧ S lo (-1) ≤ Z lo (-1) ∧ (Z lo (-1) = S lo (-1) ∨ Z lo (-1) = 2 * cnt)) ∧ (∀ x : Nat, x < m → ∀ i : Int, 0 ≤ i → i < cnt → Z (lo + x) i = S (lo + x) i) ∧ (∀ (j : Nat) (i : Int), j < 4000000 → j ≠ wG → (j < lo ∨ lo + m ≤ j) → Z j i = S j i) ∧ gI Z ∧ rmR S Z
theorem mrQ_of {lo m : Nat} {cnt : Int} (h : mr_ag lo m cnt S Z) (hl : ∀ x : Nat, x < m → S (lo + x) (-1) = S lo (-1)) (hI : gI S) (hc : 16 ≤ S lo (-1)) (hm : 0 < m) : mrQ lo m cnt S Z := by
  rcases h with ⟨h1, rfl⟩ | ⟨h1, ⟨h2, h3⟩, h4, h5⟩
  · exact ⟨hl, ⟨h1, Int.le_refl _, Or.inl rfl⟩, fun _ _ _ _ _ => rfl, fun _ _ _ _ _ => rfl, hI, rmR_rfl _⟩
  · have e : Z lo (-1) = cnt * 2 := (h2 0 hm).1
    refine ⟨fun x hx => (h2 x hx).1.trans e.symm, ?_, fun x hx => (h2 x hx).2, fun j i j0 j1 j2 => h3 j i j0 j1 j2, h4, h5⟩
    exact ⟨by omega, by omega, Or.inr (by omega)⟩
/-- cells are taken -/
def tc_ag (m : Int) (S Z : wS) : Prop := Z 140 2 = S 140 2 + m ∧ (∀ i : Int, 0 ≤ i → i < S 141 (-1) → Z 141 i = S 141 i ∧ Z 142 i = S 142 i) ∧ (∀ (j : Nat) (i : Int), j < 4000000 → j ≠ wG → j ≠ 141 → j ≠ 142 → (j ≠ 140 ∨ i ≠ 2) → Z j i = S j i) ∧ (Z 142 (-1) = Z 141 (-1) ∧ S 140 2 + m ≤ Z 141 (-1) ∧ S 141 (-1) ≤ Z 141 (-1) ∧ (Z 141 (-1) = S 141 (-1) ∨ Z 141 (-1) ≤ 2 * (S 140 2 + m))) ∧ gI Z ∧ rmR S Z
theorem tc_0 {m cs : Int} (e : S 140 2 = cs) (hl : S 142 (-1) = S 141 (-1)) (hn : cs + m ≤ S 141 (-1)) (hI : gI S) : tc_ag m S (w_up S 140 2 (cs + m)) := by
  refine ⟨by rw [w_up_same, e], fun i _ _ => ⟨w_up_slot (by decide), w_up_slot (by decide)⟩, fun j i _ _ _ _ q => w_up_no (by omega), ⟨hl, by rw [e]; exact hn, Int.le_refl _, Or.inl rfl⟩, gI_up hI (by omega) (by omega) (by omega), rmR_up (rmR_rfl _) (by omega) (by decide)⟩
theorem tc_g {m r cs : Int} {Z1 : wS} (e : S 140 2 = cs) (g1 : gr_ag (w_up S 140 2 (cs + m)) Z1 141 r) (g2 : gr_ag Z1 Z 142 r) (hl : S 142 (-1) = S 141 (-1)) (hr : cs + m ≤ r ∧ S 141 (-1) ≤ r ∧ r ≤ 2 * (cs + m)) (hI : gI Z) (hR : rmR S Z) : tc_ag m S Z := by
  obtain ⟨a1, a2, a3, -⟩ := g1
  obtain ⟨b1, b2, b3, -⟩ := g2
  have hg : wG = 1000000 := rfl
  have f1 : ∀ (j : Nat) (i : Int), j < 4000000 → j ≠ wG → j ≠ 141 → j ≠ 142 → Z j i = (w_up S 140 2 (cs + m)) j i := fun j i j0 j1 j2 j3 => (congrFun (b3 j j3 j0 j1) i).trans (congrFun (a3 j j2 j0 j1) i)
  have z141 : Z 141 = Z1 141 := b3 141 (by decide) (by decide) (by decide)
  have z142 : Z1 142 = S 142 := (a3 142 (by decide) (by decide) (by decide)).trans (w_up_row (by decide))
  refine ⟨(f1 140 2 (by decide) (by decide) (by decide) (by decide)).trans (by rw [w_up_same, e]), fun i i0 i1 => ⟨?_, ?_⟩, fun j i j0 j1 j2 j3 j4 => (f1 j i j0 j1 j2 j3).trans (w_up_no (by omega)), ⟨by rw [b1, z141, a1], ?_, ?_, ?_⟩, hI, hR⟩
  · rw [z141, a2 i i0 (by rw [w_up_slot (by decide)]; exact i1), w_up_slot (by decide)]
  · rw [b2 i i0 (by rw [z142, hl]; exact i1), z142]
  · rw [z141, a1, e]; omega
  · rw [z141, a1]; omega
  · rw [z141, a1, e]; omega
/-- a thing is added -/
def at_ag (kd sh fo rm : Int) (S Z : wS) : Prop := (Z 72 3 = S 72 3 + 1 ∧ Z 150 0 = S 150 0 + 1) ∧ ((Z 127 (S 72 3) = kd ∧ Z 128 (S 72 3) = sh ∧ Z 129 (S 72 3) = fo) ∧ (Z 130 (S 72 3) = -1 ∧ Z 131 (S 72 3) = 0 ∧ Z 132 (S 72 3) = -1) ∧ Z 133 (S 72 3) = S 140 2 ∧ Z 134 (S 72 3) = 0 ∧ Z 135 (S 72 3) = rm ∧ Z 136 (S 72 3) = -1) ∧ (∀ x : Nat, x < 10 → ∀ i : Int, 0 ≤ i → i < S 72 3 → Z (127 + x) i = S (127 + x) i) ∧ Z 140 2 = S 140 2 + rm ∧ (∀ i : Int, 0 ≤ i → i < S 141 (-1) → Z 141 i = S 141 i ∧ Z 142 i = S 142 i) ∧ (Z 142 (-1) = Z 141 (-1) ∧ S 140 2 + rm ≤ Z 141 (-1) ∧ S 141 (-1) ≤ Z 141 (-1) ∧ (Z 141 (-1) = S 141 (-1) ∨ Z 141 (-1) ≤ 2 * (S 140 2 + rm))) ∧ ((∀ x : Nat, x < 10 → Z (127 + x) (-1) = Z 127 (-1)) ∧ S 72 3 < Z 127 (-1) ∧ S 127 (-1) ≤ Z 127 (-1) ∧ (Z 127 (-1) = S 127 (-1) ∨ Z 127 (-1) = 2 * S 72 3)) ∧ (∀ (j : Nat) (i : Int), j < 4000000 → j ≠ wG → (j < 127 ∨ 136 < j) → j ≠ 141 → j ≠ 142 → (j ≠ 72 ∨ i ≠ 3) → (j ≠ 140 ∨ i ≠ 2) → (j ≠ 150 ∨ i ≠ 0) → Z j i = S j i) ∧ gI Z ∧ rmR S Z
theorem tc_ok {m cs : Int} (hI : gI S) (h2 : S 140 2 = cs) (hcs : 0 ≤ cs ∧ cs ≤ S 141 (-1)) (hl : S 142 (-1) = S 141 (-1)) (hz : 16 ≤ S 141 (-1) ∧ S 141 (-1) ≤ 480400) (hm : 0 ≤ m ∧ m ≤ 1000000) : wJ (pe_GA xs) wY0 (mS [141, 142]) (d + 3) t_XH_takeCells ((pe_at t_XH_takeCells.bl 0).getD (0, [])).2 [(0, (2, 72)), (1, (0, m))] [] S (fun o Z => o = .inl (some (0, cs)) ∧ tc_ag m S Z) := by
  have hRm := rmR_rfl S
  refine wa_aload_n (n := 0) rfl ?_
  refine wb_gf4 72 rfl (wy_pr rfl) wt_72 wf_2_6 (v := 140) wl_72_6 ?_
  refine wb_gfi 140 rfl (wy_pr rfl) wt_140 wf_7_2 (v := cs) (h2) (fun r1 => ?_)
  refine wa_istore_n (n := 2) rfl ?_
  refine wa_aload_n (n := 0) rfl ?_
  refine wb_gf4 72 rfl (wy_pr rfl) wt_72 wf_2_6 (v := 140) wl_72_6 ?_
  refine wa_dup (by decide) ?_
  refine wb_gfi 140 rfl (wy_pr rfl) wt_140 wf_7_2 (v := cs) (h2) (fun r2 => ?_)
  refine wa_iload_n (n := 1) rfl ?_
  refine wa_iadd ?_
  refine wb_pfi 140 rfl (wy_pr rfl) wt_140 wf_7_2 (n := 2) rfl ⟨(by omega), (by omega)⟩ ?_
  refine wa_aload_n (n := 0) rfl ?_
  refine wb_gf4 72 rfl (wy_pr rfl) wt_72 wf_2_6 (v := 140) wl_72_6 ?_
  refine wb_gfi 140 rfl (wy_pr rfl) wt_140 wf_7_2 (v := (cs + m)) (w_up_same _ _ _ _) (fun r3 => ?_)
  refine wa_aload_n (n := 0) rfl ?_
  refine wb_gf4 72 rfl (wy_pr rfl) wt_72 wf_2_6 (v := 140) wl_72_6 ?_
  refine wb_gf4 140 rfl (wy_pr rfl) wt_140 wf_7_0 (v := 141) wl_140_0 ?_
  refine wb_alen 141 rfl (wy_pr rfl) (by rw [wt_141]; rfl) (v := (S 141 (-1))) ((w_up_slot (by decide)).trans (rfl)) (fun r4 => ?_)
  refine wa_icmple (w_rg0 (by omega) (by omega)) (w_rg0 (by omega) (by omega)) ⟨_, rfl⟩ (fun c5 => ?_) (fun c5 => ?_)
  · skip
    refine wa_iload_n (n := 2) rfl ?_
    refine wa_ireturn rfl ?_
    exact ⟨rfl, tc_0 h2 hl (by omega) hI⟩
  · skip
    refine wa_aload_n (n := 0) rfl ?_
    refine wb_gf4 72 rfl (wy_pr rfl) wt_72 wf_2_6 (v := 140) wl_72_6 ?_
    refine wb_gfi 140 rfl (wy_pr rfl) wt_140 wf_7_2 (v := (cs + m)) (w_up_same _ _ _ _) (fun r6 => ?_)
    refine wa_aload_n (n := 0) rfl ?_
    refine wb_gf4 72 rfl (wy_pr rfl) wt_72 wf_2_6 (v := 140) wl_72_6 ?_
    refine wb_gf4 140 rfl (wy_pr rfl) wt_140 wf_7_0 (v := 141) wl_140_0 ?_
    refine wb_alen 141 rfl (wy_pr rfl) (by rw [wt_141]; rfl) (v := (S 141 (-1))) ((w_up_slot (by decide)).trans (rfl)) (fun r7 => ?_)
    refine wa_iconst ?_
    refine wa_imul ?_
    refine wa_cs (M2 := mS [141, 142]) rfl at_JM_max ⟨_, rfl⟩ rfl rfl ⟨trivial, (Or.inr ⟨wy_pr rfl, mS_no rfl⟩), trivial, trivial⟩ trivial (fun _ _ q => q) ?_ (fun _ _ _ q => q)
    refine wa_iload_n (n := 0) rfl ?_
    refine wa_iload_n (n := 1) rfl ?_
    refine wa_icmplt (w_rg0 (by omega) (by omega)) (w_rg0 (by omega) (by omega)) ⟨_, rfl⟩ (fun c8 => ?_) (fun c8 => ?_)
    · skip
      refine wa_iload_n (n := 1) rfl ?_
      refine wa_fall ⟨_, rfl⟩ ?_
      refine wa_ireturn rfl ?_
      show wJ _ _ _ _ _ _ _ _ _ _
      refine wa_istore_n (n := 3) rfl ?_
      refine wa_aload_n (n := 0) rfl ?_
      refine wb_gf4 72 rfl (wy_pr rfl) wt_72 wf_2_6 (v := 140) wl_72_6 ?_
      refine wa_aload_n (n := 0) rfl ?_
      refine wb_gf4 72 rfl (wy_pr rfl) wt_72 wf_2_6 (v := 140) wl_72_6 ?_
      refine wb_gf4 140 rfl (wy_pr rfl) wt_140 wf_7_0 (v := 141) wl_140_0 ?_
      refine wa_iload_n (n := 3) rfl ?_
      refine wa_cs (M2 := fun _ => False) rfl at_JA_copyOf ⟨_, rfl⟩ rfl rfl ⟨trivial, trivial, (Or.inr ⟨wy_pr rfl, fun q => q⟩), trivial, trivial⟩ ⟨(Or.inr ⟨wy_pr rfl, fun q => q⟩), trivial⟩ (fun _ _ q => False.elim q) (cp_B (S := (w_up S 140 2 (cs + m))) (a := 141) (n := ((S 141 (-1)) * 2)) (len := (S 141 (-1))) (wy_pr rfl) wt_141 ((w_up_slot (by decide)).trans (rfl)) ⟨by omega, by omega, by omega⟩) (fun oq9 Sq9 _ q9 => ?_)
      rcases q9 with ⟨rfl, rfl⟩
      show wJ _ _ _ _ _ _ _ _ _ _
      refine wg_pf (S := (w_up S 140 2 (cs + m))) (len := (S 141 (-1))) 2 140 141 rfl rfl rfl wt_140 wf_7_0 wl_140_0 (by decide +kernel) wt_141 (by decide) (by decide +kernel) (gI_up hI (by omega) (by omega) (by omega)) (fun q => absurd q (by decide)) (by decide) ⟨by omega, by omega⟩ ((w_up_slot (by decide)).trans (rfl)) (fun _ => ⟨Or.inr (by decide), Or.inl (nN_ge _)⟩) ⟨trivial, trivial, (Or.inr ⟨wy_pr rfl, mS_no rfl⟩), trivial, trivial⟩ trivial (fun Z10 g11 gi12 => ?_)
      have rm13 := rmR_gr (rmR_up hRm (by omega) (by decide)) g11 (by decide +kernel) (len := (S 141 (-1))) ((w_up_slot (by decide)).trans (rfl)) ⟨by omega, by omega⟩ ⟨fun q => by first | omega | exact absurd q (by decide), by show _ ≤ (100000000 : Int); omega⟩
      refine wa_aload_n (n := 0) rfl ?_
      refine wb_gf4 72 rfl (wy_pr rfl) wt_72 wf_2_6 (v := 140) wl_72_6 ?_
      refine wa_aload_n (n := 0) rfl ?_
      refine wb_gf4 72 rfl (wy_pr rfl) wt_72 wf_2_6 (v := 140) wl_72_6 ?_
      refine wb_gf4 140 rfl (wy_pr rfl) wt_140 wf_7_1 (v := 142) wl_140_1 ?_
      refine wa_iload_n (n := 3) rfl ?_
      refine wa_cs (M2 := fun _ => False) rfl at_JA_copyOf_3 ⟨_, rfl⟩ rfl rfl ⟨trivial, trivial, (Or.inr ⟨wy_pr rfl, fun q => q⟩), trivial, trivial⟩ ⟨(Or.inr ⟨wy_pr rfl, fun q => q⟩), trivial⟩ (fun _ _ q => False.elim q) (cp_J (S := Z10) (a := 142) (n := ((S 141 (-1)) * 2)) (len := (S 141 (-1))) (wy_pr rfl) wt_142 (((congrFun (g11.2.2.1 142 (by decide) (by decide) (by decide)) (-1)).trans ((w_up_slot (by decide)).trans (hl)))) ⟨by omega, by omega, by omega⟩) (fun oq14 Sq14 _ q14 => ?_)
      rcases q14 with ⟨rfl, rfl⟩
      show wJ _ _ _ _ _ _ _ _ _ _
      refine wg_pf (S := Z10) (len := (S 141 (-1))) 1 140 142 rfl rfl rfl wt_140 wf_7_1 wl_140_1 (by decide +kernel) wt_142 (by decide) (by decide +kernel) gi12 (fun q => absurd q (by decide)) (by decide) ⟨by omega, by omega⟩ (((congrFun (g11.2.2.1 142 (by decide) (by decide) (by decide)) (-1)).trans ((w_up_slot (by decide)).trans (hl)))) (fun _ => ⟨Or.inr (by decide), Or.inl (nN_ge _)⟩) ⟨trivial, trivial, (Or.inr ⟨wy_pr rfl, mS_no rfl⟩), trivial, trivial⟩ trivial (fun Z15 g16 gi17 => ?_)
      have rm18 := rmR_gr rm13 g16 (by decide +kernel) (len := (S 141 (-1))) (((congrFun (g11.2.2.1 142 (by decide) (by decide) (by decide)) (-1)).trans ((w_up_slot (by decide)).trans (hl)))) ⟨by omega, by omega⟩ ⟨fun q => by first | omega | exact absurd q (by decide), by show _ ≤ (100000000 : Int); omega⟩
      refine wa_fall ⟨_, rfl⟩ ?_
      refine wa_iload_n (n := 2) rfl ?_
      refine wa_ireturn rfl ?_
      exact ⟨rfl, tc_g h2 g11 g16 hl ⟨by omega, by omega, by omega⟩ gi17 rm18⟩
    · skip
      refine wa_iload_n (n := 0) rfl ?_
      refine wa_goto ⟨_, rfl⟩ ?_
      refine wa_ireturn rfl ?_
      show wJ _ _ _ _ _ _ _ _ _ _
      refine wa_istore_n (n := 3) rfl ?_
      refine wa_aload_n (n := 0) rfl ?_
      refine wb_gf4 72 rfl (wy_pr rfl) wt_72 wf_2_6 (v := 140) wl_72_6 ?_
      refine wa_aload_n (n := 0) rfl ?_
      refine wb_gf4 72 rfl (wy_pr rfl) wt_72 wf_2_6 (v := 140) wl_72_6 ?_
      refine wb_gf4 140 rfl (wy_pr rfl) wt_140 wf_7_0 (v := 141) wl_140_0 ?_
      refine wa_iload_n (n := 3) rfl ?_
      refine wa_cs (M2 := fun _ => False) rfl at_JA_copyOf ⟨_, rfl⟩ rfl rfl ⟨trivial, trivial, (Or.inr ⟨wy_pr rfl, fun q => q⟩), trivial, trivial⟩ ⟨(Or.inr ⟨wy_pr rfl, fun q => q⟩), trivial⟩ (fun _ _ q => False.elim q) (cp_B (S := (w_up S 140 2 (cs + m))) (a := 141) (n := (cs + m)) (len := (S 141 (-1))) (wy_pr rfl) wt_141 ((w_up_slot (by decide)).trans (rfl)) ⟨by omega, by omega, by omega⟩) (fun oq19 Sq19 _ q19 => ?_)
      rcases q19 with ⟨rfl, rfl⟩
      show wJ _ _ _ _ _ _ _ _ _ _
      refine wg_pf (S := (w_up S 140 2 (cs + m))) (len := (S 141 (-1))) 2 140 141 rfl rfl rfl wt_140 wf_7_0 wl_140_0 (by decide +kernel) wt_141 (by decide) (by decide +kernel) (gI_up hI (by omega) (by omega) (by omega)) (fun q => absurd q (by decide)) (by decide) ⟨by omega, by omega⟩ ((w_up_slot (by decide)).trans (rfl)) (fun _ => ⟨Or.inr (by decide), Or.inl (nN_ge _)⟩) ⟨trivial, trivial, (Or.inr ⟨wy_pr rfl, mS_no rfl⟩), trivial, trivial⟩ trivial (fun Z20 g21 gi22 => ?_)
      have rm23 := rmR_gr (rmR_up hRm (by omega) (by decide)) g21 (by decide +kernel) (len := (S 141 (-1))) ((w_up_slot (by decide)).trans (rfl)) ⟨by omega, by omega⟩ ⟨fun q => by first | omega | exact absurd q (by decide), by show _ ≤ (100000000 : Int); omega⟩
      refine wa_aload_n (n := 0) rfl ?_
      refine wb_gf4 72 rfl (wy_pr rfl) wt_72 wf_2_6 (v := 140) wl_72_6 ?_
      refine wa_aload_n (n := 0) rfl ?_
      refine wb_gf4 72 rfl (wy_pr rfl) wt_72 wf_2_6 (v := 140) wl_72_6 ?_
      refine wb_gf4 140 rfl (wy_pr rfl) wt_140 wf_7_1 (v := 142) wl_140_1 ?_
      refine wa_iload_n (n := 3) rfl ?_
      refine wa_cs (M2 := fun _ => False) rfl at_JA_copyOf_3 ⟨_, rfl⟩ rfl rfl ⟨trivial, trivial, (Or.inr ⟨wy_pr rfl, fun q => q⟩), trivial, trivial⟩ ⟨(Or.inr ⟨wy_pr rfl, fun q => q⟩), trivial⟩ (fun _ _ q => False.elim q) (cp_J (S := Z20) (a := 142) (n := (cs + m)) (len := (S 141 (-1))) (wy_pr rfl) wt_142 (((congrFun (g21.2.2.1 142 (by decide) (by decide) (by decide)) (-1)).trans ((w_up_slot (by decide)).trans (hl)))) ⟨by omega, by omega, by omega⟩) (fun oq24 Sq24 _ q24 => ?_)
      rcases q24 with ⟨rfl, rfl⟩
      show wJ _ _ _ _ _ _ _ _ _ _
      refine wg_pf (S := Z20) (len := (S 141 (-1))) 1 140 142 rfl rfl rfl wt_140 wf_7_1 wl_140_1 (by decide +kernel) wt_142 (by decide) (by decide +kernel) gi22 (fun q => absurd q (by decide)) (by decide) ⟨by omega, by omega⟩ (((congrFun (g21.2.2.1 142 (by decide) (by decide) (by decide)) (-1)).trans ((w_up_slot (by decide)).trans (hl)))) (fun _ => ⟨Or.inr (by decide), Or.inl (nN_ge _)⟩) ⟨trivial, trivial, (Or.inr ⟨wy_pr rfl, mS_no rfl⟩), trivial, trivial⟩ trivial (fun Z25 g26 gi27 => ?_)
      have rm28 := rmR_gr rm23 g26 (by decide +kernel) (len := (S 141 (-1))) (((congrFun (g21.2.2.1 142 (by decide) (by decide) (by decide)) (-1)).trans ((w_up_slot (by decide)).trans (hl)))) ⟨by omega, by omega⟩ ⟨fun q => by first | omega | exact absurd q (by decide), by show _ ≤ (100000000 : Int); omega⟩
      refine wa_fall ⟨_, rfl⟩ ?_
      refine wa_iload_n (n := 2) rfl ?_
      refine wa_ireturn rfl ?_
      exact ⟨rfl, tc_g h2 g21 g26 hl ⟨by omega, by omega, by omega⟩ gi27 rm28⟩
set_option maxHeartbeats 4000000 in
theorem atH_ok {kd sh fo rm cs n u0 : Int} (hC : w_CL S) (hI : gI S) (h2 : S 140 2 = cs) (hcs : 0 ≤ cs ∧ cs ≤ S 141 (-1)) (hl : S 142 (-1) = S 141 (-1)) (hz : 16 ≤ S 141 (-1) ∧ S 141 (-1) ≤ 480400) (hth : ∀ x : Nat, x < 10 → S (127 + x) (-1) = S 127 (-1)) (hn : S 72 3 = n) (hn1 : 0 ≤ n ∧ n ≤ S 127 (-1)) (hn2 : 64 ≤ S 127 (-1) ∧ S 127 (-1) ≤ 16383) (hu0 : S 150 0 = u0) (hu1 : 0 ≤ u0 ∧ u0 ≤ 8000) (hr : 0 ≤ rm ∧ rm ≤ 1000000) (hk : -2147483648 ≤ kd ∧ kd ≤ 2147483647) (hs : -2147483648 ≤ sh ∧ sh ≤ 2147483647) (hf : -2147483648 ≤ fo ∧ fo ≤ 2147483647) : wJ (pe_GA xs) wY0 (mS [127, 128, 129, 130, 131, 132, 133, 134, 135, 136, 141, 142]) (d + 4) t_XH_addThing ((pe_at t_XH_addThing.bl 0).getD (0, [])).2 [(0, (2, 72)), (1, (0, kd)), (2, (0, sh)), (3, (0, fo)), (4, (0, rm))] [] S (fun o Z => o = .inl (some (0, n)) ∧ at_ag kd sh fo rm S Z) := by
  have hg : wG = 1000000 := rfl
  refine wa_aload_n (n := 0) rfl ?_
  refine wb_gfi 72 rfl (wy_pr rfl) wt_72 wf_2_3 (v := n) (hn) (fun r1 => ?_)
  refine wa_istore (n := 5) rfl ?_
  refine wa_aload_n (n := 0) rfl ?_
  refine wb_gf4 72 rfl (wy_pr rfl) wt_72 wf_2_2 (v := 126) wl_72_2 ?_
  refine wa_iload (n := 5) rfl ?_
  have mh2 : ∀ x : Nat, x < 10 → S (127 + x) (-1) = S 127 (-1) := hth
  have mh2l : S 127 (-1) = (S 127 (-1)) := (rfl)
  refine wa_cs (M2 := mS [127, 128, 129, 130, 131, 132, 133, 134, 135, 136]) rfl at_X_makeRoom ⟨_, rfl⟩ rfl rfl ⟨trivial, (Or.inr ⟨wy_pr rfl, mS_no rfl⟩), trivial, trivial, trivial, trivial, trivial⟩ trivial (fun _ _ q => mS_sub (by decide) q) (wJ_mono (Q2 := fun o Z => o = .inl none ∧ mrQ 127 10 n S Z) (mkr_126 (S := S) (cnt := n) ((cl_126 hC)) hI ⟨by omega, by omega⟩ ⟨by omega, by omega⟩ mh2) (fun _ _ q => ⟨q.1, mrQ_of q.2 mh2 hI (by omega) (by decide)⟩)) (fun oq2 Sq2 hp3 q2 => ?_)
  rcases q2 with ⟨rfl, mr2⟩
  show wJ _ _ _ _ _ _ _ _ _ _
  have mr2a := mr2.2.1
  refine wa_aload_n (n := 0) rfl ?_
  refine wb_gf4 72 rfl (wy_pr rfl) wt_72 wf_2_2 (v := 126) wl_72_2 ?_
  refine wa_iconst ?_
  refine wb_aald5 126 0 rfl rfl (wy_pr rfl) wt_126 (by rw [show _ = _ from (((mr2.2.2.2.1 126 (-1) (by decide) (by decide) (by decide)).trans ((cl_126 hC))))]; omega) wl_126_0 ?_
  refine wa_iload (n := 5) rfl ?_
  refine wa_iload_n (n := 1) rfl ?_
  refine wb_iast 127 rfl (wy_pr rfl) wt_127 (n := (Sq2 127 (-1))) (rfl) (by omega) (by omega) ⟨(by omega), (by omega)⟩ ?_
  refine wa_aload_n (n := 0) rfl ?_
  refine wb_gf4 72 rfl (wy_pr rfl) wt_72 wf_2_2 (v := 126) wl_72_2 ?_
  refine wa_iconst ?_
  refine wb_aald5 126 1 rfl rfl (wy_pr rfl) wt_126 (by rw [show _ = _ from ((w_up_slot (by decide)).trans (((mr2.2.2.2.1 126 (-1) (by decide) (by decide) (by decide)).trans ((cl_126 hC)))))]; omega) wl_126_1 ?_
  refine wa_iload (n := 5) rfl ?_
  refine wa_iload_n (n := 2) rfl ?_
  refine wb_iast 128 rfl (wy_pr rfl) wt_128 (n := (Sq2 127 (-1))) ((w_up_slot (by decide)).trans ((mr2.1 1 (by decide)))) (by omega) (by omega) ⟨(by omega), (by omega)⟩ ?_
  refine wa_aload_n (n := 0) rfl ?_
  refine wb_gf4 72 rfl (wy_pr rfl) wt_72 wf_2_2 (v := 126) wl_72_2 ?_
  refine wa_iconst ?_
  refine wb_aald5 126 2 rfl rfl (wy_pr rfl) wt_126 (by rw [show _ = _ from ((w_up_slot (by decide)).trans ((w_up_slot (by decide)).trans (((mr2.2.2.2.1 126 (-1) (by decide) (by decide) (by decide)).trans ((cl_126 hC))))))]; omega) wl_126_2 ?_
  refine wa_iload (n := 5) rfl ?_
  refine wa_iload_n (n := 3) rfl ?_
  refine wb_iast 129 rfl (wy_pr rfl) wt_129 (n := (Sq2 127 (-1))) ((w_up_slot (by decide)).trans ((w_up_slot (by decide)).trans ((mr2.1 2 (by decide))))) (by omega) (by omega) ⟨(by omega), (by omega)⟩ ?_
  refine wa_aload_n (n := 0) rfl ?_
  refine wb_gf4 72 rfl (wy_pr rfl) wt_72 wf_2_2 (v := 126) wl_72_2 ?_
  refine wa_iconst ?_
  refine wb_aald5 126 3 rfl rfl (wy_pr rfl) wt_126 (by rw [show _ = _ from ((w_up_slot (by decide)).trans ((w_up_slot (by decide)).trans ((w_up_slot (by decide)).trans (((mr2.2.2.2.1 126 (-1) (by decide) (by decide) (by decide)).trans ((cl_126 hC)))))))]; omega) wl_126_3 ?_
  refine wa_iload (n := 5) rfl ?_
  refine wa_iconst ?_
  refine wb_iast 130 rfl (wy_pr rfl) wt_130 (n := (Sq2 127 (-1))) ((w_up_slot (by decide)).trans ((w_up_slot (by decide)).trans ((w_up_slot (by decide)).trans ((mr2.1 3 (by decide)))))) (by omega) (by omega) ⟨(by omega), (by omega)⟩ ?_
  refine wa_aload_n (n := 0) rfl ?_
  refine wb_gf4 72 rfl (wy_pr rfl) wt_72 wf_2_2 (v := 126) wl_72_2 ?_
  refine wa_iconst ?_
  refine wb_aald5 126 4 rfl rfl (wy_pr rfl) wt_126 (by rw [show _ = _ from ((w_up_slot (by decide)).trans ((w_up_slot (by decide)).trans ((w_up_slot (by decide)).trans ((w_up_slot (by decide)).trans (((mr2.2.2.2.1 126 (-1) (by decide) (by decide) (by decide)).trans ((cl_126 hC))))))))]; omega) wl_126_4 ?_
  refine wa_iload (n := 5) rfl ?_
  refine wa_fall ⟨_, rfl⟩ ?_
  refine wa_iconst ?_
  refine wb_iast 131 rfl (wy_pr rfl) wt_131 (n := (Sq2 127 (-1))) ((w_up_slot (by decide)).trans ((w_up_slot (by decide)).trans ((w_up_slot (by decide)).trans ((w_up_slot (by decide)).trans ((mr2.1 4 (by decide))))))) (by omega) (by omega) ⟨(by omega), (by omega)⟩ ?_
  refine wa_aload_n (n := 0) rfl ?_
  refine wb_gf4 72 rfl (wy_pr rfl) wt_72 wf_2_2 (v := 126) wl_72_2 ?_
  refine wa_iconst ?_
  refine wb_aald5 126 5 rfl rfl (wy_pr rfl) wt_126 (by rw [show _ = _ from ((w_up_slot (by decide)).trans ((w_up_slot (by decide)).trans ((w_up_slot (by decide)).trans ((w_up_slot (by decide)).trans ((w_up_slot (by decide)).trans (((mr2.2.2.2.1 126 (-1) (by decide) (by decide) (by decide)).trans ((cl_126 hC)))))))))]; omega) wl_126_5 ?_
  refine wa_iload (n := 5) rfl ?_
  refine wa_iconst ?_
  refine wb_iast 132 rfl (wy_pr rfl) wt_132 (n := (Sq2 127 (-1))) ((w_up_slot (by decide)).trans ((w_up_slot (by decide)).trans ((w_up_slot (by decide)).trans ((w_up_slot (by decide)).trans ((w_up_slot (by decide)).trans ((mr2.1 5 (by decide)))))))) (by omega) (by omega) ⟨(by omega), (by omega)⟩ ?_
  refine wa_aload_n (n := 0) rfl ?_
  refine wb_gf4 72 rfl (wy_pr rfl) wt_72 wf_2_2 (v := 126) wl_72_2 ?_
  refine wa_bipush (w_rg2 (by omega) (by omega)) ?_
  refine wb_aald5 126 6 rfl rfl (wy_pr rfl) wt_126 (by rw [show _ = _ from ((w_up_slot (by decide)).trans ((w_up_slot (by decide)).trans ((w_up_slot (by decide)).trans ((w_up_slot (by decide)).trans ((w_up_slot (by decide)).trans ((w_up_slot (by decide)).trans (((mr2.2.2.2.1 126 (-1) (by decide) (by decide) (by decide)).trans ((cl_126 hC))))))))))]; omega) wl_126_6 ?_
  refine wa_iload (n := 5) rfl ?_
  refine wa_aload_n (n := 0) rfl ?_
  refine wa_iload (n := 4) rfl ?_
  have tc4l : (w_up (w_up (w_up (w_up (w_up (w_up Sq2 127 n kd) 128 n sh) 129 n fo) 130 n (-1)) 131 n 0) 132 n (-1)) 141 (-1) = (S 141 (-1)) := ((w_up_slot (by decide)).trans ((w_up_slot (by decide)).trans ((w_up_slot (by decide)).trans ((w_up_slot (by decide)).trans ((w_up_slot (by decide)).trans ((w_up_slot (by decide)).trans (((mr2.2.2.2.1 141 (-1) (by decide) (by decide) (by decide)).trans (rfl)))))))))
  have tc4m : (w_up (w_up (w_up (w_up (w_up (w_up Sq2 127 n kd) 128 n sh) 129 n fo) 130 n (-1)) 131 n 0) 132 n (-1)) 142 (-1) = (w_up (w_up (w_up (w_up (w_up (w_up Sq2 127 n kd) 128 n sh) 129 n fo) 130 n (-1)) 131 n 0) 132 n (-1)) 141 (-1) := (((w_up_slot (by decide)).trans ((w_up_slot (by decide)).trans ((w_up_slot (by decide)).trans ((w_up_slot (by decide)).trans ((w_up_slot (by decide)).trans ((w_up_slot (by decide)).trans (((mr2.2.2.2.1 142 (-1) (by decide) (by decide) (by decide)).trans (hl))))))))) : (w_up (w_up (w_up (w_up (w_up (w_up Sq2 127 n kd) 128 n sh) 129 n fo) 130 n (-1)) 131 n 0) 132 n (-1)) 142 (-1) = (S 141 (-1))).trans tc4l.symm
  refine wa_cv 72 rfl (wy_pr rfl) wt_72 (M2 := mS [141, 142]) rfl at_XH_takeCells ⟨_, rfl⟩ rfl rfl ⟨trivial, (Or.inr ⟨wy_pr rfl, mS_no rfl⟩), trivial, trivial, trivial, trivial, trivial⟩ ⟨trivial, (Or.inr ⟨wy_pr rfl, mS_no rfl⟩), trivial⟩ (fun _ _ q => mS_sub (by decide) q) (tc_ok (S := (w_up (w_up (w_up (w_up (w_up (w_up Sq2 127 n kd) 128 n sh) 129 n fo) 130 n (-1)) 131 n 0) 132 n (-1))) (m := rm) (cs := cs) (gI_up (gI_up (gI_up (gI_up (gI_up (gI_up mr2.2.2.2.2.1 (by omega) (by omega) (by omega)) (by omega) (by omega) (by omega)) (by omega) (by omega) (by omega)) (by omega) (by omega) (by omega)) (by omega) (by omega) (by omega)) (by omega) (by omega) (by omega)) ((w_up_slot (by decide)).trans ((w_up_slot (by decide)).trans ((w_up_slot (by decide)).trans ((w_up_slot (by decide)).trans ((w_up_slot (by decide)).trans ((w_up_slot (by decide)).trans (((mr2.2.2.2.1 140 2 (by decide) (by decide) (by decide)).trans (h2))))))))) ⟨by omega, by omega⟩ tc4m ⟨by omega, by omega⟩ ⟨by omega, by omega⟩) (fun oq4 Sq4 hp5 q4 => ?_)
  rcases q4 with ⟨rfl, tc4⟩
  show wJ _ _ _ _ _ _ _ _ _ _
  refine wb_iast 133 rfl (wy_pr rfl) wt_133 (n := (Sq2 127 (-1))) (((tc4.2.2.1 133 (-1) (by decide) (by decide) (by decide) (by decide) (Or.inl (by decide))).trans ((w_up_slot (by decide)).trans ((w_up_slot (by decide)).trans ((w_up_slot (by decide)).trans ((w_up_slot (by decide)).trans ((w_up_slot (by decide)).trans ((w_up_slot (by decide)).trans ((mr2.1 6 (by decide))))))))))) (by omega) (by omega) ⟨(by omega), (by omega)⟩ ?_
  refine wa_aload_n (n := 0) rfl ?_
  refine wb_gf4 72 rfl (wy_pr rfl) wt_72 wf_2_2 (v := 126) wl_72_2 ?_
  refine wa_bipush (w_rg2 (by omega) (by omega)) ?_
  refine wb_aald5 126 7 rfl rfl (wy_pr rfl) wt_126 (by rw [show _ = _ from ((w_up_slot (by decide)).trans (((tc4.2.2.1 126 (-1) (by decide) (by decide) (by decide) (by decide) (Or.inl (by decide))).trans ((w_up_slot (by decide)).trans ((w_up_slot (by decide)).trans ((w_up_slot (by decide)).trans ((w_up_slot (by decide)).trans ((w_up_slot (by decide)).trans ((w_up_slot (by decide)).trans (((mr2.2.2.2.1 126 (-1) (by decide) (by decide) (by decide)).trans ((cl_126 hC)))))))))))))]; omega) wl_126_7 ?_
  refine wa_iload (n := 5) rfl ?_
  refine wa_iconst ?_
  refine wb_iast 134 rfl (wy_pr rfl) wt_134 (n := (Sq2 127 (-1))) ((w_up_slot (by decide)).trans (((tc4.2.2.1 134 (-1) (by decide) (by decide) (by decide) (by decide) (Or.inl (by decide))).trans ((w_up_slot (by decide)).trans ((w_up_slot (by decide)).trans ((w_up_slot (by decide)).trans ((w_up_slot (by decide)).trans ((w_up_slot (by decide)).trans ((w_up_slot (by decide)).trans ((mr2.1 7 (by decide)))))))))))) (by omega) (by omega) ⟨(by omega), (by omega)⟩ ?_
  refine wa_aload_n (n := 0) rfl ?_
  refine wb_gf4 72 rfl (wy_pr rfl) wt_72 wf_2_2 (v := 126) wl_72_2 ?_
  refine wa_bipush (w_rg2 (by omega) (by omega)) ?_
  refine wb_aald5 126 8 rfl rfl (wy_pr rfl) wt_126 (by rw [show _ = _ from ((w_up_slot (by decide)).trans ((w_up_slot (by decide)).trans (((tc4.2.2.1 126 (-1) (by decide) (by decide) (by decide) (by decide) (Or.inl (by decide))).trans ((w_up_slot (by decide)).trans ((w_up_slot (by decide)).trans ((w_up_slot (by decide)).trans ((w_up_slot (by decide)).trans ((w_up_slot (by decide)).trans ((w_up_slot (by decide)).trans (((mr2.2.2.2.1 126 (-1) (by decide) (by decide) (by decide)).trans ((cl_126 hC))))))))))))))]; omega) wl_126_8 ?_
  refine wa_iload (n := 5) rfl ?_
  refine wa_iload (n := 4) rfl ?_
  refine wb_iast 135 rfl (wy_pr rfl) wt_135 (n := (Sq2 127 (-1))) ((w_up_slot (by decide)).trans ((w_up_slot (by decide)).trans (((tc4.2.2.1 135 (-1) (by decide) (by decide) (by decide) (by decide) (Or.inl (by decide))).trans ((w_up_slot (by decide)).trans ((w_up_slot (by decide)).trans ((w_up_slot (by decide)).trans ((w_up_slot (by decide)).trans ((w_up_slot (by decide)).trans ((w_up_slot (by decide)).trans ((mr2.1 8 (by decide))))))))))))) (by omega) (by omega) ⟨(by omega), (by omega)⟩ ?_
  refine wa_aload_n (n := 0) rfl ?_
  refine wb_gf4 72 rfl (wy_pr rfl) wt_72 wf_2_2 (v := 126) wl_72_2 ?_
  refine wa_bipush (w_rg2 (by omega) (by omega)) ?_
  refine wb_aald5 126 9 rfl rfl (wy_pr rfl) wt_126 (by rw [show _ = _ from ((w_up_slot (by decide)).trans ((w_up_slot (by decide)).trans ((w_up_slot (by decide)).trans (((tc4.2.2.1 126 (-1) (by decide) (by decide) (by decide) (by decide) (Or.inl (by decide))).trans ((w_up_slot (by decide)).trans ((w_up_slot (by decide)).trans ((w_up_slot (by decide)).trans ((w_up_slot (by decide)).trans ((w_up_slot (by decide)).trans ((w_up_slot (by decide)).trans (((mr2.2.2.2.1 126 (-1) (by decide) (by decide) (by decide)).trans ((cl_126 hC)))))))))))))))]; omega) wl_126_9 ?_
  refine wa_iload (n := 5) rfl ?_
  refine wa_iconst ?_
  refine wb_iast 136 rfl (wy_pr rfl) wt_136 (n := (Sq2 127 (-1))) ((w_up_slot (by decide)).trans ((w_up_slot (by decide)).trans ((w_up_slot (by decide)).trans (((tc4.2.2.1 136 (-1) (by decide) (by decide) (by decide) (by decide) (Or.inl (by decide))).trans ((w_up_slot (by decide)).trans ((w_up_slot (by decide)).trans ((w_up_slot (by decide)).trans ((w_up_slot (by decide)).trans ((w_up_slot (by decide)).trans ((w_up_slot (by decide)).trans ((mr2.1 9 (by decide)))))))))))))) (by omega) (by omega) ⟨(by omega), (by omega)⟩ ?_
  refine wa_aload_n (n := 0) rfl ?_
  refine wa_fall ⟨_, rfl⟩ ?_
  refine wa_dup (by decide) ?_
  refine wb_gfi 72 rfl (wy_pr rfl) wt_72 wf_2_3 (v := n) ((w_up_slot (by decide)).trans ((w_up_slot (by decide)).trans ((w_up_slot (by decide)).trans ((w_up_slot (by decide)).trans (((tc4.2.2.1 72 3 (by decide) (by decide) (by decide) (by decide) (Or.inl (by decide))).trans ((w_up_slot (by decide)).trans ((w_up_slot (by decide)).trans ((w_up_slot (by decide)).trans ((w_up_slot (by decide)).trans ((w_up_slot (by decide)).trans ((w_up_slot (by decide)).trans (((mr2.2.2.2.1 72 3 (by decide) (by decide) (by decide)).trans (hn))))))))))))))) (fun r6 => ?_)
  refine wa_iconst ?_
  refine wa_iadd ?_
  refine wb_pfi 72 rfl (wy_pr rfl) wt_72 wf_2_3 (n := 3) rfl ⟨(by omega), (by omega)⟩ ?_
  refine wa_aload_n (n := 0) rfl ?_
  refine wb_gf4 72 rfl (wy_pr rfl) wt_72 wf_2_10 (v := 150) wl_72_10 ?_
  refine wa_iconst ?_
  refine wa_dup2 (by decide) (by decide) ?_
  refine wb_iald 150 rfl (wy_pr rfl) wt_150 (n := 6) ((w_up_slot (by decide)).trans ((w_up_slot (by decide)).trans ((w_up_slot (by decide)).trans ((w_up_slot (by decide)).trans ((w_up_slot (by decide)).trans (((tc4.2.2.1 150 (-1) (by decide) (by decide) (by decide) (by decide) (Or.inl (by decide))).trans ((w_up_slot (by decide)).trans ((w_up_slot (by decide)).trans ((w_up_slot (by decide)).trans ((w_up_slot (by decide)).trans ((w_up_slot (by decide)).trans ((w_up_slot (by decide)).trans (((mr2.2.2.2.1 150 (-1) (by decide) (by decide) (by decide)).trans ((cl_150 hC))))))))))))))))) (by omega) (by omega) (v := u0) ((w_up_slot (by decide)).trans ((w_up_slot (by decide)).trans ((w_up_slot (by decide)).trans ((w_up_slot (by decide)).trans ((w_up_slot (by decide)).trans (((tc4.2.2.1 150 0 (by decide) (by decide) (by decide) (by decide) (Or.inl (by decide))).trans ((w_up_slot (by decide)).trans ((w_up_slot (by decide)).trans ((w_up_slot (by decide)).trans ((w_up_slot (by decide)).trans ((w_up_slot (by decide)).trans ((w_up_slot (by decide)).trans (((mr2.2.2.2.1 150 0 (by decide) (by decide) (by decide)).trans (hu0)))))))))))))))) (fun r7 => ?_)
  refine wa_iconst ?_
  refine wa_iadd ?_
  refine wb_iast 150 rfl (wy_pr rfl) wt_150 (n := 6) ((w_up_slot (by decide)).trans ((w_up_slot (by decide)).trans ((w_up_slot (by decide)).trans ((w_up_slot (by decide)).trans ((w_up_slot (by decide)).trans (((tc4.2.2.1 150 (-1) (by decide) (by decide) (by decide) (by decide) (Or.inl (by decide))).trans ((w_up_slot (by decide)).trans ((w_up_slot (by decide)).trans ((w_up_slot (by decide)).trans ((w_up_slot (by decide)).trans ((w_up_slot (by decide)).trans ((w_up_slot (by decide)).trans (((mr2.2.2.2.1 150 (-1) (by decide) (by decide) (by decide)).trans ((cl_150 hC))))))))))))))))) (by omega) (by omega) ⟨(by omega), (by omega)⟩ ?_
  refine wa_iload (n := 5) rfl ?_
  refine wa_ireturn rfl ?_
  have y27 : (w_up (w_up (w_up (w_up (w_up (w_up Sq4 133 n cs) 134 n 0) 135 n rm) 136 n (-1)) 72 3 (n + 1)) 150 0 (u0 + 1)) 127 (-1) = Sq2 127 (-1) := (w_up_no (by omega)).trans ((w_up_no (by omega)).trans ((w_up_no (by omega)).trans ((w_up_no (by omega)).trans ((w_up_no (by omega)).trans ((w_up_no (by omega)).trans ((tc4.2.2.1 127 (-1) (by omega) (by omega) (by omega) (by omega) (by omega)).trans ((w_up_no (by omega)).trans ((w_up_no (by omega)).trans ((w_up_no (by omega)).trans ((w_up_no (by omega)).trans ((w_up_no (by omega)).trans ((w_up_no (by omega)).trans (rfl)))))))))))))
  have y41 : ∀ i : Int, (w_up (w_up (w_up (w_up (w_up (w_up Sq2 127 n kd) 128 n sh) 129 n fo) 130 n (-1)) 131 n 0) 132 n (-1)) 141 i = S 141 i := fun i => (w_up_no (by omega)).trans ((w_up_no (by omega)).trans ((w_up_no (by omega)).trans ((w_up_no (by omega)).trans ((w_up_no (by omega)).trans ((w_up_no (by omega)).trans (mr2.2.2.2.1 141 i (by decide) (by decide) (by decide)))))))
  have y42 : ∀ i : Int, (w_up (w_up (w_up (w_up (w_up (w_up Sq2 127 n kd) 128 n sh) 129 n fo) 130 n (-1)) 131 n 0) 132 n (-1)) 142 i = S 142 i := fun i => (w_up_no (by omega)).trans ((w_up_no (by omega)).trans ((w_up_no (by omega)).trans ((w_up_no (by omega)).trans ((w_up_no (by omega)).trans ((w_up_no (by omega)).trans (mr2.2.2.2.1 142 i (by decide) (by decide) (by decide)))))))
  have y40 : (w_up (w_up (w_up (w_up (w_up (w_up Sq2 127 n kd) 128 n sh) 129 n fo) 130 n (-1)) 131 n 0) 132 n (-1)) 140 2 = cs := ((w_up_slot (by decide)).trans ((w_up_slot (by decide)).trans ((w_up_slot (by decide)).trans ((w_up_slot (by decide)).trans ((w_up_slot (by decide)).trans ((w_up_slot (by decide)).trans (((mr2.2.2.2.1 140 2 (by decide) (by decide) (by decide)).trans (h2)))))))))
  have z41 : ∀ i : Int, (w_up (w_up (w_up (w_up (w_up (w_up Sq4 133 n cs) 134 n 0) 135 n rm) 136 n (-1)) 72 3 (n + 1)) 150 0 (u0 + 1)) 141 i = Sq4 141 i := fun i => (w_up_no (by omega)).trans ((w_up_no (by omega)).trans ((w_up_no (by omega)).trans ((w_up_no (by omega)).trans ((w_up_no (by omega)).trans ((w_up_no (by omega)).trans (rfl))))))
  have z42 : ∀ i : Int, (w_up (w_up (w_up (w_up (w_up (w_up Sq4 133 n cs) 134 n 0) 135 n rm) 136 n (-1)) 72 3 (n + 1)) 150 0 (u0 + 1)) 142 i = Sq4 142 i := fun i => (w_up_no (by omega)).trans ((w_up_no (by omega)).trans ((w_up_no (by omega)).trans ((w_up_no (by omega)).trans ((w_up_no (by omega)).trans ((w_up_no (by omega)).trans (rfl))))))
  obtain ⟨t1, t2, t3, ⟨t4, t5, t6, t7⟩, t8, t9⟩ := tc4
  rw [y40] at t1 t5 t7
  rw [y41] at t6 t7
  refine ⟨rfl, ?_⟩
  unfold at_ag
  rw [hn, h2, hu0]
  refine ⟨⟨((w_up_slot (by decide)).trans (w_up_same _ _ _ _)), (w_up_same _ _ _ _)⟩, ⟨⟨((w_up_slot (by decide)).trans ((w_up_slot (by decide)).trans ((w_up_slot (by decide)).trans ((w_up_slot (by decide)).trans ((w_up_slot (by decide)).trans ((w_up_slot (by decide)).trans (((t3 127 n (by decide) (by decide) (by decide) (by decide) (Or.inl (by decide))).trans ((w_up_slot (by decide)).trans ((w_up_slot (by decide)).trans ((w_up_slot (by decide)).trans ((w_up_slot (by decide)).trans ((w_up_slot (by decide)).trans (w_up_same _ _ _ _)))))))))))))), ((w_up_slot (by decide)).trans ((w_up_slot (by decide)).trans ((w_up_slot (by decide)).trans ((w_up_slot (by decide)).trans ((w_up_slot (by decide)).trans ((w_up_slot (by decide)).trans (((t3 128 n (by decide) (by decide) (by decide) (by decide) (Or.inl (by decide))).trans ((w_up_slot (by decide)).trans ((w_up_slot (by decide)).trans ((w_up_slot (by decide)).trans ((w_up_slot (by decide)).trans (w_up_same _ _ _ _))))))))))))), ((w_up_slot (by decide)).trans ((w_up_slot (by decide)).trans ((w_up_slot (by decide)).trans ((w_up_slot (by decide)).trans ((w_up_slot (by decide)).trans ((w_up_slot (by decide)).trans (((t3 129 n (by decide) (by decide) (by decide) (by decide) (Or.inl (by decide))).trans ((w_up_slot (by decide)).trans ((w_up_slot (by decide)).trans ((w_up_slot (by decide)).trans (w_up_same _ _ _ _))))))))))))⟩, ⟨((w_up_slot (by decide)).trans ((w_up_slot (by decide)).trans ((w_up_slot (by decide)).trans ((w_up_slot (by decide)).trans ((w_up_slot (by decide)).trans ((w_up_slot (by decide)).trans (((t3 130 n (by decide) (by decide) (by decide) (by decide) (Or.inl (by decide))).trans ((w_up_slot (by decide)).trans ((w_up_slot (by decide)).trans (w_up_same _ _ _ _))))))))))), ((w_up_slot (by decide)).trans ((w_up_slot (by decide)).trans ((w_up_slot (by decide)).trans ((w_up_slot (by decide)).trans ((w_up_slot (by decide)).trans ((w_up_slot (by decide)).trans (((t3 131 n (by decide) (by decide) (by decide) (by decide) (Or.inl (by decide))).trans ((w_up_slot (by decide)).trans (w_up_same _ _ _ _)))))))))), ((w_up_slot (by decide)).trans ((w_up_slot (by decide)).trans ((w_up_slot (by decide)).trans ((w_up_slot (by decide)).trans ((w_up_slot (by decide)).trans ((w_up_slot (by decide)).trans (((t3 132 n (by decide) (by decide) (by decide) (by decide) (Or.inl (by decide))).trans (w_up_same _ _ _ _)))))))))⟩, ((w_up_slot (by decide)).trans ((w_up_slot (by decide)).trans ((w_up_slot (by decide)).trans ((w_up_slot (by decide)).trans ((w_up_slot (by decide)).trans (w_up_same _ _ _ _)))))), ((w_up_slot (by decide)).trans ((w_up_slot (by decide)).trans ((w_up_slot (by decide)).trans ((w_up_slot (by decide)).trans (w_up_same _ _ _ _))))), ((w_up_slot (by decide)).trans ((w_up_slot (by decide)).trans ((w_up_slot (by decide)).trans (w_up_same _ _ _ _)))), ((w_up_slot (by decide)).trans ((w_up_slot (by decide)).trans (w_up_same _ _ _ _)))⟩, fun x hx i i0 i1 => (w_up_no (by omega)).trans ((w_up_no (by omega)).trans ((w_up_no (by omega)).trans ((w_up_no (by omega)).trans ((w_up_no (by omega)).trans ((w_up_no (by omega)).trans ((t3 (127 + x) i (by omega) (by omega) (by omega) (by omega) (by omega)).trans ((w_up_no (by omega)).trans ((w_up_no (by omega)).trans ((w_up_no (by omega)).trans ((w_up_no (by omega)).trans ((w_up_no (by omega)).trans ((w_up_no (by omega)).trans (mr2.2.2.1 x hx i i0 i1))))))))))))), ((w_up_no (by omega)).trans ((w_up_no (by omega)).trans ((w_up_no (by omega)).trans ((w_up_no (by omega)).trans ((w_up_no (by omega)).trans ((w_up_no (by omega)).trans (t1))))))), fun i i0 i1 => ⟨(z41 i).trans ((t2 i i0 (by rw [y41]; exact i1)).1.trans (y41 i)), (z42 i).trans ((t2 i i0 (by rw [y41]; exact i1)).2.trans (y42 i))⟩, ⟨by rw [z42, z41]; exact t4, by rw [z41]; exact t5, by rw [z41]; exact t6, by rw [z41]; exact t7⟩, ⟨fun x hx => ((w_up_no (by omega)).trans ((w_up_no (by omega)).trans ((w_up_no (by omega)).trans ((w_up_no (by omega)).trans ((w_up_no (by omega)).trans ((w_up_no (by omega)).trans ((t3 (127 + x) (-1) (by omega) (by omega) (by omega) (by omega) (by omega)).trans ((w_up_no (by omega)).trans ((w_up_no (by omega)).trans ((w_up_no (by omega)).trans ((w_up_no (by omega)).trans ((w_up_no (by omega)).trans ((w_up_no (by omega)).trans (mr2.1 x hx)))))))))))))).trans y27.symm, by rw [y27]; exact mr2.2.1.1, by rw [y27]; exact mr2.2.1.2.1, by rw [y27]; exact mr2.2.1.2.2⟩, fun j i j0 j1 j2 j3 j4 j5 j6 j7 => (w_up_no (by omega)).trans ((w_up_no (by omega)).trans ((w_up_no (by omega)).trans ((w_up_no (by omega)).trans ((w_up_no (by omega)).trans ((w_up_no (by omega)).trans ((t3 j i j0 j1 j3 j4 j6).trans ((w_up_no (by omega)).trans ((w_up_no (by omega)).trans ((w_up_no (by omega)).trans ((w_up_no (by omega)).trans ((w_up_no (by omega)).trans ((w_up_no (by omega)).trans (mr2.2.2.2.1 j i j0 j1 (by omega)))))))))))))), ?_, ?_⟩
  · exact (gI_up (gI_up (gI_up (gI_up (gI_up (gI_up t8 (by omega) (by omega) (by omega)) (by omega) (by omega) (by omega)) (by omega) (by omega) (by omega)) (by omega) (by omega) (by omega)) (by omega) (by omega) (by omega)) (by omega) (by omega) (by omega))
  · exact (rmR_up (rmR_up (rmR_up (rmR_up (rmR_up (rmR_up (rmR_tr (rmR_up (rmR_up (rmR_up (rmR_up (rmR_up (rmR_up mr2.2.2.2.2.2 (by omega) (by decide)) (by omega) (by decide)) (by omega) (by decide)) (by omega) (by decide)) (by omega) (by decide)) (by omega) (by decide)) t9) (by omega) (by decide)) (by omega) (by decide)) (by omega) (by decide)) (by omega) (by decide)) (by omega) (by decide)) (by omega) (by decide))
end We0
