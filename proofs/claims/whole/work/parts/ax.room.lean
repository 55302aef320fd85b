/-! PART ax: makeRoom, for every table that grows. -/
section Wax
variable {xs : List (Nat × List Int32)} {M : Nat → Prop} {d : Nat} {A B C S Z : wS} {Q : wO → wS → Prop}
/-- the first k rows from lo on have got twice the room -/
def mr_p (lo k : Nat) (cnt : Int) (S Z : wS) : Prop := (∀ x : Nat, x < k → Z (lo + x) (-1) = cnt * 2 ∧ ∀ i : Int, 0 ≤ i → i < cnt → Z (lo + x) i = S (lo + x) i) ∧ ∀ (j : Nat) (i : Int), j < 4000000 → j ≠ wG → (j < lo ∨ lo + k ≤ j) → Z j i = S j i
theorem mr_p0 (lo : Nat) (cnt : Int) (S : wS) : mr_p lo 0 cnt S S := ⟨fun x hx => absurd hx (Nat.not_lt_zero _), fun _ _ _ _ _ => rfl⟩
theorem mr_ps {lo k : Nat} {cnt : Int} {Z2 : wS} (hl : lo + k < 388) (h : mr_p lo k cnt S Z) (hc : Z (lo + k) (-1) = cnt) (g : gr_ag Z Z2 (lo + k) (cnt * 2)) : mr_p lo (k + 1) cnt S Z2 := by
  obtain ⟨h1, h2⟩ := h
  obtain ⟨g1, g2, g3, -⟩ := g
  have hG : ∀ j : Nat, j < 400 → j ≠ wG := fun j hj => by unfold wG; omega
  refine ⟨fun x hx => ?_, fun j i j0 j1 j2 => ?_⟩
  · by_cases hk : x = k
    · subst hk
      refine ⟨g1, fun i i0 i1 => ?_⟩
      rw [g2 i i0 (by rw [hc]; exact i1)]
      exact h2 _ i (by omega) (hG _ (by omega)) (by omega)
    · rw [g3 (lo + x) (by omega) (by omega) (hG _ (by omega))]
      exact h1 x (by omega)
  · rw [g3 j (by omega) j0 j1]
    exact h2 j i j0 j1 (by omega)
/-- room is made: nothing, or all rows have got it -/
def mr_ag (lo m : Nat) (cnt : Int) (S Z : wS) : Prop := (cnt < S lo (-1) ∧ S = Z) ∨ (cnt = S lo (-1) ∧ mr_p lo m cnt S Z ∧ gI Z ∧ rmR S Z)
theorem mk_34_12 {cnt : Int} (hC : S 34 (-1) = 12) (hc : 16 ≤ cnt ∧ cnt ≤ 8388608) (hl : ∀ x : Nat, x < 12 → S (35 + x) (-1) = cnt) (hz : mr_p 35 12 cnt S Z) (hI : gI Z) (hrm : rmR S Z) : wJ (pe_GA xs) wY0 (mS [35, 36, 37, 38, 39, 40, 41, 42, 43, 44, 45, 46]) (d + 2) t_X_makeRoom ((pe_at t_X_makeRoom.bl 1).getD (0, [])).2 [(0, (2, 34)), (1, (0, cnt)), (2, (0, 12))] [] Z (fun o Z => o = .inl none ∧ mr_p 35 12 cnt S Z ∧ gI Z ∧ rmR S Z) := by
  have zC : Z 34 (-1) = 12 := (hz.2 34 (-1) (by decide) (by decide) (by decide)).trans hC
  refine wa_iload_n (n := 2) rfl ?_
  refine wa_aload_n (n := 0) rfl ?_
  refine wb_alen 34 rfl (wy_pr rfl) (by rw [wt_34]; rfl) (v := 12) (zC) (fun r1 => ?_)
  refine wa_icmpge (w_rg0 (by omega) (by omega)) (w_rg0 (by omega) (by omega)) ⟨_, rfl⟩ (fun c2 => ?_) (fun c2 => ?_)
  · skip
    refine wa_return rfl ?_
    exact ⟨rfl, hz, hI, hrm⟩
  · skip
    exact absurd c2 (by omega)
theorem mk_34_11 {cnt : Int} (hC : S 34 (-1) = 12) (hc : 16 ≤ cnt ∧ cnt ≤ 8388608) (hl : ∀ x : Nat, x < 12 → S (35 + x) (-1) = cnt) (hz : mr_p 35 11 cnt S Z) (hI : gI Z) (hrm : rmR S Z) : wJ (pe_GA xs) wY0 (mS [35, 36, 37, 38, 39, 40, 41, 42, 43, 44, 45, 46]) (d + 2) t_X_makeRoom ((pe_at t_X_makeRoom.bl 1).getD (0, [])).2 [(0, (2, 34)), (1, (0, cnt)), (2, (0, 11))] [] Z (fun o Z => o = .inl none ∧ mr_p 35 12 cnt S Z ∧ gI Z ∧ rmR S Z) := by
  have zC : Z 34 (-1) = 12 := (hz.2 34 (-1) (by decide) (by decide) (by decide)).trans hC
  have zl : Z 46 (-1) = cnt := (hz.2 46 (-1) (by decide) (by decide) (by decide)).trans (hl 11 (by decide))
  refine wa_iload_n (n := 2) rfl ?_
  refine wa_aload_n (n := 0) rfl ?_
  refine wb_alen 34 rfl (wy_pr rfl) (by rw [wt_34]; rfl) (v := 12) (zC) (fun r1 => ?_)
  refine wa_icmpge (w_rg0 (by omega) (by omega)) (w_rg0 (by omega) (by omega)) ⟨_, rfl⟩ (fun c2 => ?_) (fun c2 => ?_)
  · skip
    exact absurd c2 (by omega)
  · skip
    refine wa_aload_n (n := 0) rfl ?_
    refine wa_iload_n (n := 2) rfl ?_
    refine wa_aload_n (n := 0) rfl ?_
    refine wa_iload_n (n := 2) rfl ?_
    refine wb_aald5 34 11 rfl rfl (wy_pr rfl) wt_34 (by rw [show _ = _ from (zC)]; omega) wl_34_11 ?_
    refine wa_iload_n (n := 1) rfl ?_
    refine wa_iconst ?_
    refine wa_imul ?_
    refine wa_cs (M2 := fun _ => False) rfl at_JA_copyOf_2 ⟨_, rfl⟩ rfl rfl ⟨(Or.inr ⟨wy_pr rfl, fun q => q⟩), trivial, trivial, trivial⟩ ⟨trivial, (Or.inr ⟨wy_pr rfl, fun q => q⟩), trivial⟩ (fun _ _ q => False.elim q) (cp_I (S := Z) (a := 46) (n := (cnt * 2)) (len := cnt) (wy_pr rfl) wt_46 (zl) ⟨by omega, by omega, by omega⟩) (fun oq3 Sq3 _ q3 => ?_)
    rcases q3 with ⟨rfl, rfl⟩
    show wJ _ _ _ _ _ _ _ _ _ _
    refine wg_as (S := Z) (len := cnt) 11 34 46 rfl rfl (by have e : Z 34 (-1) = 12 := (zC); omega) rfl rfl wt_34 (by decide) wl_34_11 (by decide +kernel) wt_46 (by decide +kernel) hI (fun q => absurd q (by decide)) (by decide) ⟨by omega, by omega⟩ (zl) (fun _ => ⟨Or.inr (by decide), Or.inl (nN_ge _)⟩) ⟨(Or.inr ⟨wy_pr rfl, mS_no rfl⟩), trivial, trivial, trivial⟩ trivial (fun Z4 g5 gi6 => ?_)
    have rm7 := rmR_gr hrm g5 (by decide +kernel) (len := cnt) (zl) ⟨by omega, by omega⟩ ⟨fun q => by first | omega | exact absurd q (by decide), by show _ ≤ (100000000 : Int); omega⟩
    refine wa_iinc rfl rfl ?_
    refine wa_goto ⟨_, rfl⟩ ?_
    rw [show ((11 + 1) : Int) = 12 from rfl]
    exact wJ_S (mk_34_12 hC hc hl (mr_ps (lo := 35) (k := 11) (by decide) hz zl g5) gi6 rm7) ⟨rfl, rfl, rfl, trivial⟩
theorem mk_34_10 {cnt : Int} (hC : S 34 (-1) = 12) (hc : 16 ≤ cnt ∧ cnt ≤ 8388608) (hl : ∀ x : Nat, x < 12 → S (35 + x) (-1) = cnt) (hz : mr_p 35 10 cnt S Z) (hI : gI Z) (hrm : rmR S Z) : wJ (pe_GA xs) wY0 (mS [35, 36, 37, 38, 39, 40, 41, 42, 43, 44, 45, 46]) (d + 2) t_X_makeRoom ((pe_at t_X_makeRoom.bl 1).getD (0, [])).2 [(0, (2, 34)), (1, (0, cnt)), (2, (0, 10))] [] Z (fun o Z => o = .inl none ∧ mr_p 35 12 cnt S Z ∧ gI Z ∧ rmR S Z) := by
  have zC : Z 34 (-1) = 12 := (hz.2 34 (-1) (by decide) (by decide) (by decide)).trans hC
  have zl : Z 45 (-1) = cnt := (hz.2 45 (-1) (by decide) (by decide) (by decide)).trans (hl 10 (by decide))
  refine wa_iload_n (n := 2) rfl ?_
  refine wa_aload_n (n := 0) rfl ?_
  refine wb_alen 34 rfl (wy_pr rfl) (by rw [wt_34]; rfl) (v := 12) (zC) (fun r1 => ?_)
  refine wa_icmpge (w_rg0 (by omega) (by omega)) (w_rg0 (by omega) (by omega)) ⟨_, rfl⟩ (fun c2 => ?_) (fun c2 => ?_)
  · skip
    exact absurd c2 (by omega)
  · skip
    refine wa_aload_n (n := 0) rfl ?_
    refine wa_iload_n (n := 2) rfl ?_
    refine wa_aload_n (n := 0) rfl ?_
    refine wa_iload_n (n := 2) rfl ?_
    refine wb_aald5 34 10 rfl rfl (wy_pr rfl) wt_34 (by rw [show _ = _ from (zC)]; omega) wl_34_10 ?_
    refine wa_iload_n (n := 1) rfl ?_
    refine wa_iconst ?_
    refine wa_imul ?_
    refine wa_cs (M2 := fun _ => False) rfl at_JA_copyOf_2 ⟨_, rfl⟩ rfl rfl ⟨(Or.inr ⟨wy_pr rfl, fun q => q⟩), trivial, trivial, trivial⟩ ⟨trivial, (Or.inr ⟨wy_pr rfl, fun q => q⟩), trivial⟩ (fun _ _ q => False.elim q) (cp_I (S := Z) (a := 45) (n := (cnt * 2)) (len := cnt) (wy_pr rfl) wt_45 (zl) ⟨by omega, by omega, by omega⟩) (fun oq3 Sq3 _ q3 => ?_)
    rcases q3 with ⟨rfl, rfl⟩
    show wJ _ _ _ _ _ _ _ _ _ _
    refine wg_as (S := Z) (len := cnt) 10 34 45 rfl rfl (by have e : Z 34 (-1) = 12 := (zC); omega) rfl rfl wt_34 (by decide) wl_34_10 (by decide +kernel) wt_45 (by decide +kernel) hI (fun q => absurd q (by decide)) (by decide) ⟨by omega, by omega⟩ (zl) (fun _ => ⟨Or.inr (by decide), Or.inl (nN_ge _)⟩) ⟨(Or.inr ⟨wy_pr rfl, mS_no rfl⟩), trivial, trivial, trivial⟩ trivial (fun Z4 g5 gi6 => ?_)
    have rm7 := rmR_gr hrm g5 (by decide +kernel) (len := cnt) (zl) ⟨by omega, by omega⟩ ⟨fun q => by first | omega | exact absurd q (by decide), by show _ ≤ (100000000 : Int); omega⟩
    refine wa_iinc rfl rfl ?_
    refine wa_goto ⟨_, rfl⟩ ?_
    rw [show ((10 + 1) : Int) = 11 from rfl]
    exact wJ_S (mk_34_11 hC hc hl (mr_ps (lo := 35) (k := 10) (by decide) hz zl g5) gi6 rm7) ⟨rfl, rfl, rfl, trivial⟩
theorem mk_34_9 {cnt : Int} (hC : S 34 (-1) = 12) (hc : 16 ≤ cnt ∧ cnt ≤ 8388608) (hl : ∀ x : Nat, x < 12 → S (35 + x) (-1) = cnt) (hz : mr_p 35 9 cnt S Z) (hI : gI Z) (hrm : rmR S Z) : wJ (pe_GA xs) wY0 (mS [35, 36, 37, 38, 39, 40, 41, 42, 43, 44, 45, 46]) (d + 2) t_X_makeRoom ((pe_at t_X_makeRoom.bl 1).getD (0, [])).2 [(0, (2, 34)), (1, (0, cnt)), (2, (0, 9))] [] Z (fun o Z => o = .inl none ∧ mr_p 35 12 cnt S Z ∧ gI Z ∧ rmR S Z) := by
  have zC : Z 34 (-1) = 12 := (hz.2 34 (-1) (by decide) (by decide) (by decide)).trans hC
  have zl : Z 44 (-1) = cnt := (hz.2 44 (-1) (by decide) (by decide) (by decide)).trans (hl 9 (by decide))
  refine wa_iload_n (n := 2) rfl ?_
  refine wa_aload_n (n := 0) rfl ?_
  refine wb_alen 34 rfl (wy_pr rfl) (by rw [wt_34]; rfl) (v := 12) (zC) (fun r1 => ?_)
  refine wa_icmpge (w_rg0 (by omega) (by omega)) (w_rg0 (by omega) (by omega)) ⟨_, rfl⟩ (fun c2 => ?_) (fun c2 => ?_)
  · skip
    exact absurd c2 (by omega)
  · skip
    refine wa_aload_n (n := 0) rfl ?_
    refine wa_iload_n (n := 2) rfl ?_
    refine wa_aload_n (n := 0) rfl ?_
    refine wa_iload_n (n := 2) rfl ?_
    refine wb_aald5 34 9 rfl rfl (wy_pr rfl) wt_34 (by rw [show _ = _ from (zC)]; omega) wl_34_9 ?_
    refine wa_iload_n (n := 1) rfl ?_
    refine wa_iconst ?_
    refine wa_imul ?_
    refine wa_cs (M2 := fun _ => False) rfl at_JA_copyOf_2 ⟨_, rfl⟩ rfl rfl ⟨(Or.inr ⟨wy_pr rfl, fun q => q⟩), trivial, trivial, trivial⟩ ⟨trivial, (Or.inr ⟨wy_pr rfl, fun q => q⟩), trivial⟩ (fun _ _ q => False.elim q) (cp_I (S := Z) (a := 44) (n := (cnt * 2)) (len := cnt) (wy_pr rfl) wt_44 (zl) ⟨by omega, by omega, by omega⟩) (fun oq3 Sq3 _ q3 => ?_)
    rcases q3 with ⟨rfl, rfl⟩
    show wJ _ _ _ _ _ _ _ _ _ _
    refine wg_as (S := Z) (len := cnt) 9 34 44 rfl rfl (by have e : Z 34 (-1) = 12 := (zC); omega) rfl rfl wt_34 (by decide) wl_34_9 (by decide +kernel) wt_44 (by decide +kernel) hI (fun q => absurd q (by decide)) (by decide) ⟨by omega, by omega⟩ (zl) (fun _ => ⟨Or.inr (by decide), Or.inl (nN_ge _)⟩) ⟨(Or.inr ⟨wy_pr rfl, mS_no rfl⟩), trivial, trivial, trivial⟩ trivial (fun Z4 g5 gi6 => ?_)
    have rm7 := rmR_gr hrm g5 (by decide +kernel) (len := cnt) (zl) ⟨by omega, by omega⟩ ⟨fun q => by first | omega | exact absurd q (by decide), by show _ ≤ (100000000 : Int); omega⟩
    refine wa_iinc rfl rfl ?_
    refine wa_goto ⟨_, rfl⟩ ?_
    rw [show ((9 + 1) : Int) = 10 from rfl]
    exact wJ_S (mk_34_10 hC hc hl (mr_ps (lo := 35) (k := 9) (by decide) hz zl g5) gi6 rm7) ⟨rfl, rfl, rfl, trivial⟩
theorem mk_34_8 {cnt : Int} (hC : S 34 (-1) = 12) (hc : 16 ≤ cnt ∧ cnt ≤ 8388608) (hl : ∀ x : Nat, x < 12 → S (35 + x) (-1) = cnt) (hz : mr_p 35 8 cnt S Z) (hI : gI Z) (hrm : rmR S Z) : wJ (pe_GA xs) wY0 (mS [35, 36, 37, 38, 39, 40, 41, 42, 43, 44, 45, 46]) (d + 2) t_X_makeRoom ((pe_at t_X_makeRoom.bl 1).getD (0, [])).2 [(0, (2, 34)), (1, (0, cnt)), (2, (0, 8))] [] Z (fun o Z => o = .inl none ∧ mr_p 35 12 cnt S Z ∧ gI Z ∧ rmR S Z) := by
  have zC : Z 34 (-1) = 12 := (hz.2 34 (-1) (by decide) (by decide) (by decide)).trans hC
  have zl : Z 43 (-1) = cnt := (hz.2 43 (-1) (by decide) (by decide) (by decide)).trans (hl 8 (by decide))
  refine wa_iload_n (n := 2) rfl ?_
  refine wa_aload_n (n := 0) rfl ?_
  refine wb_alen 34 rfl (wy_pr rfl) (by rw [wt_34]; rfl) (v := 12) (zC) (fun r1 => ?_)
  refine wa_icmpge (w_rg0 (by omega) (by omega)) (w_rg0 (by omega) (by omega)) ⟨_, rfl⟩ (fun c2 => ?_) (fun c2 => ?_)
  · skip
    exact absurd c2 (by omega)
  · skip
    refine wa_aload_n (n := 0) rfl ?_
    refine wa_iload_n (n := 2) rfl ?_
    refine wa_aload_n (n := 0) rfl ?_
    refine wa_iload_n (n := 2) rfl ?_
    refine wb_aald5 34 8 rfl rfl (wy_pr rfl) wt_34 (by rw [show _ = _ from (zC)]; omega) wl_34_8 ?_
    refine wa_iload_n (n := 1) rfl ?_
    refine wa_iconst ?_
    refine wa_imul ?_
    refine wa_cs (M2 := fun _ => False) rfl at_JA_copyOf_2 ⟨_, rfl⟩ rfl rfl ⟨(Or.inr ⟨wy_pr rfl, fun q => q⟩), trivial, trivial, trivial⟩ ⟨trivial, (Or.inr ⟨wy_pr rfl, fun q => q⟩), trivial⟩ (fun _ _ q => False.elim q) (cp_I (S := Z) (a := 43) (n := (cnt * 2)) (len := cnt) (wy_pr rfl) wt_43 (zl) ⟨by omega, by omega, by omega⟩) (fun oq3 Sq3 _ q3 => ?_)
    rcases q3 with ⟨rfl, rfl⟩
    show wJ _ _ _ _ _ _ _ _ _ _
    refine wg_as (S := Z) (len := cnt) 8 34 43 rfl rfl (by have e : Z 34 (-1) = 12 := (zC); omega) rfl rfl wt_34 (by decide) wl_34_8 (by decide +kernel) wt_43 (by decide +kernel) hI (fun q => absurd q (by decide)) (by decide) ⟨by omega, by omega⟩ (zl) (fun _ => ⟨Or.inr (by decide), Or.inl (nN_ge _)⟩) ⟨(Or.inr ⟨wy_pr rfl, mS_no rfl⟩), trivial, trivial, trivial⟩ trivial (fun Z4 g5 gi6 => ?_)
    have rm7 := rmR_gr hrm g5 (by decide +kernel) (len := cnt) (zl) ⟨by omega, by omega⟩ ⟨fun q => by first | omega | exact absurd q (by decide), by show _ ≤ (100000000 : Int); omega⟩
    refine wa_iinc rfl rfl ?_
    refine wa_goto ⟨_, rfl⟩ ?_
    rw [show ((8 + 1) : Int) = 9 from rfl]
    exact wJ_S (mk_34_9 hC hc hl (mr_ps (lo := 35) (k := 8) (by decide) hz zl g5) gi6 rm7) ⟨rfl, rfl, rfl, trivial⟩
theorem mk_34_7 {cnt : Int} (hC : S 34 (-1) = 12) (hc : 16 ≤ cnt ∧ cnt ≤ 8388608) (hl : ∀ x : Nat, x < 12 → S (35 + x) (-1) = cnt) (hz : mr_p 35 7 cnt S Z) (hI : gI Z) (hrm : rmR S Z) : wJ (pe_GA xs) wY0 (mS [35, 36, 37, 38, 39, 40, 41, 42, 43, 44, 45, 46]) (d + 2) t_X_makeRoom ((pe_at t_X_makeRoom.bl 1).getD (0, [])).2 [(0, (2, 34)), (1, (0, cnt)), (2, (0, 7))] [] Z (fun o Z => o = .inl none ∧ mr_p 35 12 cnt S Z ∧ gI Z ∧ rmR S Z) := by
  have zC : Z 34 (-1) = 12 := (hz.2 34 (-1) (by decide) (by decide) (by decide)).trans hC
  have zl : Z 42 (-1) = cnt := (hz.2 42 (-1) (by decide) (by decide) (by decide)).trans (hl 7 (by decide))
  refine wa_iload_n (n := 2) rfl ?_
  refine wa_aload_n (n := 0) rfl ?_
  refine wb_alen 34 rfl (wy_pr rfl) (by rw [wt_34]; rfl) (v := 12) (zC) (fun r1 => ?_)
  refine wa_icmpge (w_rg0 (by omega) (by omega)) (w_rg0 (by omega) (by omega)) ⟨_, rfl⟩ (fun c2 => ?_) (fun c2 => ?_)
  · skip
    exact absurd c2 (by omega)
  · skip
    refine wa_aload_n (n := 0) rfl ?_
    refine wa_iload_n (n := 2) rfl ?_
    refine wa_aload_n (n := 0) rfl ?_
    refine wa_iload_n (n := 2) rfl ?_
    refine wb_aald5 34 7 rfl rfl (wy_pr rfl) wt_34 (by rw [show _ = _ from (zC)]; omega) wl_34_7 ?_
    refine wa_iload_n (n := 1) rfl ?_
    refine wa_iconst ?_
    refine wa_imul ?_
    refine wa_cs (M2 := fun _ => False) rfl at_JA_copyOf_2 ⟨_, rfl⟩ rfl rfl ⟨(Or.inr ⟨wy_pr rfl, fun q => q⟩), trivial, trivial, trivial⟩ ⟨trivial, (Or.inr ⟨wy_pr rfl, fun q => q⟩), trivial⟩ (fun _ _ q => False.elim q) (cp_I (S := Z) (a := 42) (n := (cnt * 2)) (len := cnt) (wy_pr rfl) wt_42 (zl) ⟨by omega, by omega, by omega⟩) (fun oq3 Sq3 _ q3 => ?_)
    rcases q3 with ⟨rfl, rfl⟩
    show wJ _ _ _ _ _ _ _ _ _ _
    refine wg_as (S := Z) (len := cnt) 7 34 42 rfl rfl (by have e : Z 34 (-1) = 12 := (zC); omega) rfl rfl wt_34 (by decide) wl_34_7 (by decide +kernel) wt_42 (by decide +kernel) hI (fun q => absurd q (by decide)) (by decide) ⟨by omega, by omega⟩ (zl) (fun _ => ⟨Or.inr (by decide), Or.inl (nN_ge _)⟩) ⟨(Or.inr ⟨wy_pr rfl, mS_no rfl⟩), trivial, trivial, trivial⟩ trivial (fun Z4 g5 gi6 => ?_)
    have rm7 := rmR_gr hrm g5 (by decide +kernel) (len := cnt) (zl) ⟨by omega, by omega⟩ ⟨fun q => by first | omega | exact absurd q (by decide), by show _ ≤ (100000000 : Int); omega⟩
    refine wa_iinc rfl rfl ?_
    refine wa_goto ⟨_, rfl⟩ ?_
    rw [show ((7 + 1) : Int) = 8 from rfl]
    exact wJ_S (mk_34_8 hC hc hl (mr_ps (lo := 35) (k := 7) (by decide) hz zl g5) gi6 rm7) ⟨rfl, rfl, rfl, trivial⟩
theorem mk_34_6 {cnt : Int} (hC : S 34 (-1) = 12) (hc : 16 ≤ cnt ∧ cnt ≤ 8388608) (hl : ∀ x : Nat, x < 12 → S (35 + x) (-1) = cnt) (hz : mr_p 35 6 cnt S Z) (hI : gI Z) (hrm : rmR S Z) : wJ (pe_GA xs) wY0 (mS [35, 36, 37, 38, 39, 40, 41, 42, 43, 44, 45, 46]) (d + 2) t_X_makeRoom ((pe_at t_X_makeRoom.bl 1).getD (0, [])).2 [(0, (2, 34)), (1, (0, cnt)), (2, (0, 6))] [] Z (fun o Z => o = .inl none ∧ mr_p 35 12 cnt S Z ∧ gI Z ∧ rmR S Z) := by
  have zC : Z 34 (-1) = 12 := (hz.2 34 (-1) (by decide) (by decide) (by decide)).trans hC
  have zl : Z 41 (-1) = cnt := (hz.2 41 (-1) (by decide) (by decide) (by decide)).trans (hl 6 (by decide))
  refine wa_iload_n (n := 2) rfl ?_
  refine wa_aload_n (n := 0) rfl ?_
  refine wb_alen 34 rfl (wy_pr rfl) (by rw [wt_34]; rfl) (v := 12) (zC) (fun r1 => ?_)
  refine wa_icmpge (w_rg0 (by omega) (by omega)) (w_rg0 (by omega) (by omega)) ⟨_, rfl⟩ (fun c2 => ?_) (fun c2 => ?_)
  · skip
    exact absurd c2 (by omega)
  · skip
    refine wa_aload_n (n := 0) rfl ?_
    refine wa_iload_n (n := 2) rfl ?_
    refine wa_aload_n (n := 0) rfl ?_
    refine wa_iload_n (n := 2) rfl ?_
    refine wb_aald5 34 6 rfl rfl (wy_pr rfl) wt_34 (by rw [show _ = _ from (zC)]; omega) wl_34_6 ?_
    refine wa_iload_n (n := 1) rfl ?_
    refine wa_iconst ?_
    refine wa_imul ?_
    refine wa_cs (M2 := fun _ => False) rfl at_JA_copyOf_2 ⟨_, rfl⟩ rfl rfl ⟨(Or.inr ⟨wy_pr rfl, fun q => q⟩), trivial, trivial, trivial⟩ ⟨trivial, (Or.inr ⟨wy_pr rfl, fun q => q⟩), trivial⟩ (fun _ _ q => False.elim q) (cp_I (S := Z) (a := 41) (n := (cnt * 2)) (len := cnt) (wy_pr rfl) wt_41 (zl) ⟨by omega, by omega, by omega⟩) (fun oq3 Sq3 _ q3 => ?_)
    rcases q3 with ⟨rfl, rfl⟩
    show wJ _ _ _ _ _ _ _ _ _ _
    refine wg_as (S := Z) (len := cnt) 6 34 41 rfl rfl (by have e : Z 34 (-1) = 12 := (zC); omega) rfl rfl wt_34 (by decide) wl_34_6 (by decide +kernel) wt_41 (by decide +kernel) hI (fun q => absurd q (by decide)) (by decide) ⟨by omega, by omega⟩ (zl) (fun _ => ⟨Or.inr (by decide), Or.inl (nN_ge _)⟩) ⟨(Or.inr ⟨wy_pr rfl, mS_no rfl⟩), trivial, trivial, trivial⟩ trivial (fun Z4 g5 gi6 => ?_)
    have rm7 := rmR_gr hrm g5 (by decide +kernel) (len := cnt) (zl) ⟨by omega, by omega⟩ ⟨fun q => by first | omega | exact absurd q (by decide), by show _ ≤ (100000000 : Int); omega⟩
    refine wa_iinc rfl rfl ?_
    refine wa_goto ⟨_, rfl⟩ ?_
    rw [show ((6 + 1) : Int) = 7 from rfl]
    exact wJ_S (mk_34_7 hC hc hl (mr_ps (lo := 35) (k := 6) (by decide) hz zl g5) gi6 rm7) ⟨rfl, rfl, rfl, trivial⟩
theorem mk_34_5 {cnt : Int} (hC : S 34 (-1) = 12) (hc : 16 ≤ cnt ∧ cnt ≤ 8388608) (hl : ∀ x : Nat, x < 12 → S (35 + x) (-1) = cnt) (hz : mr_p 35 5 cnt S Z) (hI : gI Z) (hrm : rmR S Z) : wJ (pe_GA xs) wY0 (mS [35, 36, 37, 38, 39, 40, 41, 42, 43, 44, 45, 46]) (d + 2) t_X_makeRoom ((pe_at t_X_makeRoom.bl 1).getD (0, [])).2 [(0, (2, 34)), (1, (0, cnt)), (2, (0, 5))] [] Z (fun o Z => o = .inl none ∧ mr_p 35 12 cnt S Z ∧ gI Z ∧ rmR S Z) := by
  have zC : Z 34 (-1) = 12 := (hz.2 34 (-1) (by decide) (by decide) (by decide)).trans hC
  have zl : Z 40 (-1) = cnt := (hz.2 40 (-1) (by decide) (by decide) (by decide)).trans (hl 5 (by decide))
  refine wa_iload_n (n := 2) rfl ?_
  refine wa_aload_n (n := 0) rfl ?_
  refine wb_alen 34 rfl (wy_pr rfl) (by rw [wt_34]; rfl) (v := 12) (zC) (fun r1 => ?_)
  refine wa_icmpge (w_rg0 (by omega) (by omega)) (w_rg0 (by omega) (by omega)) ⟨_, rfl⟩ (fun c2 => ?_) (fun c2 => ?_)
  · skip
    exact absurd c2 (by omega)
  · skip
    refine wa_aload_n (n := 0) rfl ?_
    refine wa_iload_n (n := 2) rfl ?_
    refine wa_aload_n (n := 0) rfl ?_
    refine wa_iload_n (n := 2) rfl ?_
    refine wb_aald5 34 5 rfl rfl (wy_pr rfl) wt_34 (by rw [show _ = _ from (zC)]; omega) wl_34_5 ?_
    refine wa_iload_n (n := 1) rfl ?_
    refine wa_iconst ?_
    refine wa_imul ?_
    refine wa_cs (M2 := fun _ => False) rfl at_JA_copyOf_2 ⟨_, rfl⟩ rfl rfl ⟨(Or.inr ⟨wy_pr rfl, fun q => q⟩), trivial, trivial, trivial⟩ ⟨trivial, (Or.inr ⟨wy_pr rfl, fun q => q⟩), trivial⟩ (fun _ _ q => False.elim q) (cp_I (S := Z) (a := 40) (n := (cnt * 2)) (len := cnt) (wy_pr rfl) wt_40 (zl) ⟨by omega, by omega, by omega⟩) (fun oq3 Sq3 _ q3 => ?_)
    rcases q3 with ⟨rfl, rfl⟩
    show wJ _ _ _ _ _ _ _ _ _ _
    refine wg_as (S := Z) (len := cnt) 5 34 40 rfl rfl (by have e : Z 34 (-1) = 12 := (zC); omega) rfl rfl wt_34 (by decide) wl_34_5 (by decide +kernel) wt_40 (by decide +kernel) hI (fun q => absurd q (by decide)) (by decide) ⟨by omega, by omega⟩ (zl) (fun _ => ⟨Or.inr (by decide), Or.inl (nN_ge _)⟩) ⟨(Or.inr ⟨wy_pr rfl, mS_no rfl⟩), trivial, trivial, trivial⟩ trivial (fun Z4 g5 gi6 => ?_)
    have rm7 := rmR_gr hrm g5 (by decide +kernel) (len := cnt) (zl) ⟨by omega, by omega⟩ ⟨fun q => by first | omega | exact absurd q (by decide), by show _ ≤ (100000000 : Int); omega⟩
    refine wa_iinc rfl rfl ?_
    refine wa_goto ⟨_, rfl⟩ ?_
    rw [show ((5 + 1) : Int) = 6 from rfl]
    exact wJ_S (mk_34_6 hC hc hl (mr_ps (lo := 35) (k := 5) (by decide) hz zl g5) gi6 rm7) ⟨rfl, rfl, rfl, trivial⟩
theorem mk_34_4 {cnt : Int} (hC : S 34 (-1) = 12) (hc : 16 ≤ cnt ∧ cnt ≤ 8388608) (hl : ∀ x : Nat, x < 12 → S (35 + x) (-1) = cnt) (hz : mr_p 35 4 cnt S Z) (hI : gI Z) (hrm : rmR S Z) : wJ (pe_GA xs) wY0 (mS [35, 36, 37, 38, 39, 40, 41, 42, 43, 44, 45, 46]) (d + 2) t_X_makeRoom ((pe_at t_X_makeRoom.bl 1).getD (0, [])).2 [(0, (2, 34)), (1, (0, cnt)), (2, (0, 4))] [] Z (fun o Z => o = .inl none ∧ mr_p 35 12 cnt S Z ∧ gI Z ∧ rmR S Z) := by
  have zC : Z 34 (-1) = 12 := (hz.2 34 (-1) (by decide) (by decide) (by decide)).trans hC
  have zl : Z 39 (-1) = cnt := (hz.2 39 (-1) (by decide) (by decide) (by decide)).trans (hl 4 (by decide))
  refine wa_iload_n (n := 2) rfl ?_
  refine wa_aload_n (n := 0) rfl ?_
  refine wb_alen 34 rfl (wy_pr rfl) (by rw [wt_34]; rfl) (v := 12) (zC) (fun r1 => ?_)
  refine wa_icmpge (w_rg0 (by omega) (by omega)) (w_rg0 (by omega) (by omega)) ⟨_, rfl⟩ (fun c2 => ?_) (fun c2 => ?_)
  · skip
    exact absurd c2 (by omega)
  · skip
    refine wa_aload_n (n := 0) rfl ?_
    refine wa_iload_n (n := 2) rfl ?_
    refine wa_aload_n (n := 0) rfl ?_
    refine wa_iload_n (n := 2) rfl ?_
    refine wb_aald5 34 4 rfl rfl (wy_pr rfl) wt_34 (by rw [show _ = _ from (zC)]; omega) wl_34_4 ?_
    refine wa_iload_n (n := 1) rfl ?_
    refine wa_iconst ?_
    refine wa_imul ?_
    refine wa_cs (M2 := fun _ => False) rfl at_JA_copyOf_2 ⟨_, rfl⟩ rfl rfl ⟨(Or.inr ⟨wy_pr rfl, fun q => q⟩), trivial, trivial, trivial⟩ ⟨trivial, (Or.inr ⟨wy_pr rfl, fun q => q⟩), trivial⟩ (fun _ _ q => False.elim q) (cp_I (S := Z) (a := 39) (n := (cnt * 2)) (len := cnt) (wy_pr rfl) wt_39 (zl) ⟨by omega, by omega, by omega⟩) (fun oq3 Sq3 _ q3 => ?_)
    rcases q3 with ⟨rfl, rfl⟩
    show wJ _ _ _ _ _ _ _ _ _ _
    refine wg_as (S := Z) (len := cnt) 4 34 39 rfl rfl (by have e : Z 34 (-1) = 12 := (zC); omega) rfl rfl wt_34 (by decide) wl_34_4 (by decide +kernel) wt_39 (by decide +kernel) hI (fun q => absurd q (by decide)) (by decide) ⟨by omega, by omega⟩ (zl) (fun _ => ⟨Or.inr (by decide), Or.inl (nN_ge _)⟩) ⟨(Or.inr ⟨wy_pr rfl, mS_no rfl⟩), trivial, trivial, trivial⟩ trivial (fun Z4 g5 gi6 => ?_)
    have rm7 := rmR_gr hrm g5 (by decide +kernel) (len := cnt) (zl) ⟨by omega, by omega⟩ ⟨fun q => by first | omega | exact absurd q (by decide), by show _ ≤ (100000000 : Int); omega⟩
    refine wa_iinc rfl rfl ?_
    refine wa_goto ⟨_, rfl⟩ ?_
    rw [show ((4 + 1) : Int) = 5 from rfl]
    exact wJ_S (mk_34_5 hC hc hl (mr_ps (lo := 35) (k := 4) (by decide) hz zl g5) gi6 rm7) ⟨rfl, rfl, rfl, trivial⟩
theorem mk_34_3 {cnt : Int} (hC : S 34 (-1) = 12) (hc : 16 ≤ cnt ∧ cnt ≤ 8388608) (hl : ∀ x : Nat, x < 12 → S (35 + x) (-1) = cnt) (hz : mr_p 35 3 cnt S Z) (hI : gI Z) (hrm : rmR S Z) : wJ (pe_GA xs) wY0 (mS [35, 36, 37, 38, 39, 40, 41, 42, 43, 44, 45, 46]) (d + 2) t_X_makeRoom ((pe_at t_X_makeRoom.bl 1).getD (0, [])).2 [(0, (2, 34)), (1, (0, cnt)), (2, (0, 3))] [] Z (fun o Z => o = .inl none ∧ mr_p 35 12 cnt S Z ∧ gI Z ∧ rmR S Z) := by
  have zC : Z 34 (-1) = 12 := (hz.2 34 (-1) (by decide) (by decide) (by decide)).trans hC
  have zl : Z 38 (-1) = cnt := (hz.2 38 (-1) (by decide) (by decide) (by decide)).trans (hl 3 (by decide))
  refine wa_iload_n (n := 2) rfl ?_
  refine wa_aload_n (n := 0) rfl ?_
  refine wb_alen 34 rfl (wy_pr rfl) (by rw [wt_34]; rfl) (v := 12) (zC) (fun r1 => ?_)
  refine wa_icmpge (w_rg0 (by omega) (by omega)) (w_rg0 (by omega) (by omega)) ⟨_, rfl⟩ (fun c2 => ?_) (fun c2 => ?_)
  · skip
    exact absurd c2 (by omega)
  · skip
    refine wa_aload_n (n := 0) rfl ?_
    refine wa_iload_n (n := 2) rfl ?_
    refine wa_aload_n (n := 0) rfl ?_
    refine wa_iload_n (n := 2) rfl ?_
    refine wb_aald5 34 3 rfl rfl (wy_pr rfl) wt_34 (by rw [show _ = _ from (zC)]; omega) wl_34_3 ?_
    refine wa_iload_n (n := 1) rfl ?_
    refine wa_iconst ?_
    refine wa_imul ?_
    refine wa_cs (M2 := fun _ => False) rfl at_JA_copyOf_2 ⟨_, rfl⟩ rfl rfl ⟨(Or.inr ⟨wy_pr rfl, fun q => q⟩), trivial, trivial, trivial⟩ ⟨trivial, (Or.inr ⟨wy_pr rfl, fun q => q⟩), trivial⟩ (fun _ _ q => False.elim q) (cp_I (S := Z) (a := 38) (n := (cnt * 2)) (len := cnt) (wy_pr rfl) wt_38 (zl) ⟨by omega, by omega, by omega⟩) (fun oq3 Sq3 _ q3 => ?_)
    rcases q3 with ⟨rfl, rfl⟩
    show wJ _ _ _ _ _ _ _ _ _ _
    refine wg_as (S := Z) (len := cnt) 3 34 38 rfl rfl (by have e : Z 34 (-1) = 12 := (zC); omega) rfl rfl wt_34 (by decide) wl_34_3 (by decide +kernel) wt_38 (by decide +kernel) hI (fun q => absurd q (by decide)) (by decide) ⟨by omega, by omega⟩ (zl) (fun _ => ⟨Or.inr (by decide), Or.inl (nN_ge _)⟩) ⟨(Or.inr ⟨wy_pr rfl, mS_no rfl⟩), trivial, trivial, trivial⟩ trivial (fun Z4 g5 gi6 => ?_)
    have rm7 := rmR_gr hrm g5 (by decide +kernel) (len := cnt) (zl) ⟨by omega, by omega⟩ ⟨fun q => by first | omega | exact absurd q (by decide), by show _ ≤ (100000000 : Int); omega⟩
    refine wa_iinc rfl rfl ?_
    refine wa_goto ⟨_, rfl⟩ ?_
    rw [show ((3 + 1) : Int) = 4 from rfl]
    exact wJ_S (mk_34_4 hC hc hl (mr_ps (lo := 35) (k := 3) (by decide) hz zl g5) gi6 rm7) ⟨rfl, rfl, rfl, trivial⟩
theorem mk_34_2 {cnt : Int} (hC : S 34 (-1) = 12) (hc : 16 ≤ cnt ∧ cnt ≤ 8388608) (hl : ∀ x : Nat, x < 12 → S (35 + x) (-1) = cnt) (hz : mr_p 35 2 cnt S Z) (hI : gI Z) (hrm : rmR S Z) : wJ (pe_GA xs) wY0 (mS [35, 36, 37, 38, 39, 40, 41, 42, 43, 44, 45, 46]) (d + 2) t_X_makeRoom ((pe_at t_X_makeRoom.bl 1).getD (0, [])).2 [(0, (2, 34)), (1, (0, cnt)), (2, (0, 2))] [] Z (fun o Z => o = .inl none ∧ mr_p 35 12 cnt S Z ∧ gI Z ∧ rmR S Z) := by
  have zC : Z 34 (-1) = 12 := (hz.2 34 (-1) (by decide) (by decide) (by decide)).trans hC
  have zl : Z 37 (-1) = cnt := (hz.2 37 (-1) (by decide) (by decide) (by decide)).trans (hl 2 (by decide))
  refine wa_iload_n (n := 2) rfl ?_
  refine wa_aload_n (n := 0) rfl ?_
  refine wb_alen 34 rfl (wy_pr rfl) (by rw [wt_34]; rfl) (v := 12) (zC) (fun r1 => ?_)
  refine wa_icmpge (w_rg0 (by omega) (by omega)) (w_rg0 (by omega) (by omega)) ⟨_, rfl⟩ (fun c2 => ?_) (fun c2 => ?_)
  · skip
    exact absurd c2 (by omega)
  · skip
    refine wa_aload_n (n := 0) rfl ?_
    refine wa_iload_n (n := 2) rfl ?_
    refine wa_aload_n (n := 0) rfl ?_
    refine wa_iload_n (n := 2) rfl ?_
    refine wb_aald5 34 2 rfl rfl (wy_pr rfl) wt_34 (by rw [show _ = _ from (zC)]; omega) wl_34_2 ?_
    refine wa_iload_n (n := 1) rfl ?_
    refine wa_iconst ?_
    refine wa_imul ?_
    refine wa_cs (M2 := fun _ => False) rfl at_JA_copyOf_2 ⟨_, rfl⟩ rfl rfl ⟨(Or.inr ⟨wy_pr rfl, fun q => q⟩), trivial, trivial, trivial⟩ ⟨trivial, (Or.inr ⟨wy_pr rfl, fun q => q⟩), trivial⟩ (fun _ _ q => False.elim q) (cp_I (S := Z) (a := 37) (n := (cnt * 2)) (len := cnt) (wy_pr rfl) wt_37 (zl) ⟨by omega, by omega, by omega⟩) (fun oq3 Sq3 _ q3 => ?_)
    rcases q3 with ⟨rfl, rfl⟩
    show wJ _ _ _ _ _ _ _ _ _ _
    refine wg_as (S := Z) (len := cnt) 2 34 37 rfl rfl (by have e : Z 34 (-1) = 12 := (zC); omega) rfl rfl wt_34 (by decide) wl_34_2 (by decide +kernel) wt_37 (by decide +kernel) hI (fun q => absurd q (by decide)) (by decide) ⟨by omega, by omega⟩ (zl) (fun _ => ⟨Or.inr (by decide), Or.inl (nN_ge _)⟩) ⟨(Or.inr ⟨wy_pr rfl, mS_no rfl⟩), trivial, trivial, trivial⟩ trivial (fun Z4 g5 gi6 => ?_)
    have rm7 := rmR_gr hrm g5 (by decide +kernel) (len := cnt) (zl) ⟨by omega, by omega⟩ ⟨fun q => by first | omega | exact absurd q (by decide), by show _ ≤ (100000000 : Int); omega⟩
    refine wa_iinc rfl rfl ?_
    refine wa_goto ⟨_, rfl⟩ ?_
    rw [show ((2 + 1) : Int) = 3 from rfl]
    exact wJ_S (mk_34_3 hC hc hl (mr_ps (lo := 35) (k := 2) (by decide) hz zl g5) gi6 rm7) ⟨rfl, rfl, rfl, trivial⟩
theorem mk_34_1 {cnt : Int} (hC : S 34 (-1) = 12) (hc : 16 ≤ cnt ∧ cnt ≤ 8388608) (hl : ∀ x : Nat, x < 12 → S (35 + x) (-1) = cnt) (hz : mr_p 35 1 cnt S Z) (hI : gI Z) (hrm : rmR S Z) : wJ (pe_GA xs) wY0 (mS [35, 36, 37, 38, 39, 40, 41, 42, 43, 44, 45, 46]) (d + 2) t_X_makeRoom ((pe_at t_X_makeRoom.bl 1).getD (0, [])).2 [(0, (2, 34)), (1, (0, cnt)), (2, (0, 1))] [] Z (fun o Z => o = .inl none ∧ mr_p 35 12 cnt S Z ∧ gI Z ∧ rmR S Z) := by
  have zC : Z 34 (-1) = 12 := (hz.2 34 (-1) (by decide) (by decide) (by decide)).trans hC
  have zl : Z 36 (-1) = cnt := (hz.2 36 (-1) (by decide) (by decide) (by decide)).trans (hl 1 (by decide))
  refine wa_iload_n (n := 2) rfl ?_
  refine wa_aload_n (n := 0) rfl ?_
  refine wb_alen 34 rfl (wy_pr rfl) (by rw [wt_34]; rfl) (v := 12) (zC) (fun r1 => ?_)
  refine wa_icmpge (w_rg0 (by omega) (by omega)) (w_rg0 (by omega) (by omega)) ⟨_, rfl⟩ (fun c2 => ?_) (fun c2 => ?_)
  · skip
    exact absurd c2 (by omega)
  · skip
    refine wa_aload_n (n := 0) rfl ?_
    refine wa_iload_n (n := 2) rfl ?_
    refine wa_aload_n (n := 0) rfl ?_
    refine wa_iload_n (n := 2) rfl ?_
    refine wb_aald5 34 1 rfl rfl (wy_pr rfl) wt_34 (by rw [show _ = _ from (zC)]; omega) wl_34_1 ?_
    refine wa_iload_n (n := 1) rfl ?_
    refine wa_iconst ?_
    refine wa_imul ?_
    refine wa_cs (M2 := fun _ => False) rfl at_JA_copyOf_2 ⟨_, rfl⟩ rfl rfl ⟨(Or.inr ⟨wy_pr rfl, fun q => q⟩), trivial, trivial, trivial⟩ ⟨trivial, (Or.inr ⟨wy_pr rfl, fun q => q⟩), trivial⟩ (fun _ _ q => False.elim q) (cp_I (S := Z) (a := 36) (n := (cnt * 2)) (len := cnt) (wy_pr rfl) wt_36 (zl) ⟨by omega, by omega, by omega⟩) (fun oq3 Sq3 _ q3 => ?_)
    rcases q3 with ⟨rfl, rfl⟩
    show wJ _ _ _ _ _ _ _ _ _ _
    refine wg_as (S := Z) (len := cnt) 1 34 36 rfl rfl (by have e : Z 34 (-1) = 12 := (zC); omega) rfl rfl wt_34 (by decide) wl_34_1 (by decide +kernel) wt_36 (by decide +kernel) hI (fun q => absurd q (by decide)) (by decide) ⟨by omega, by omega⟩ (zl) (fun _ => ⟨Or.inr (by decide), Or.inl (nN_ge _)⟩) ⟨(Or.inr ⟨wy_pr rfl, mS_no rfl⟩), trivial, trivial, trivial⟩ trivial (fun Z4 g5 gi6 => ?_)
    have rm7 := rmR_gr hrm g5 (by decide +kernel) (len := cnt) (zl) ⟨by omega, by omega⟩ ⟨fun q => by first | omega | exact absurd q (by decide), by show _ ≤ (100000000 : Int); omega⟩
    refine wa_iinc rfl rfl ?_
    refine wa_goto ⟨_, rfl⟩ ?_
    rw [show ((1 + 1) : Int) = 2 from rfl]
    exact wJ_S (mk_34_2 hC hc hl (mr_ps (lo := 35) (k := 1) (by decide) hz zl g5) gi6 rm7) ⟨rfl, rfl, rfl, trivial⟩
theorem mk_34_0 {cnt : Int} (hC : S 34 (-1) = 12) (hc : 16 ≤ cnt ∧ cnt ≤ 8388608) (hl : ∀ x : Nat, x < 12 → S (35 + x) (-1) = cnt) (hz : mr_p 35 0 cnt S Z) (hI : gI Z) (hrm : rmR S Z) : wJ (pe_GA xs) wY0 (mS [35, 36, 37, 38, 39, 40, 41, 42, 43, 44, 45, 46]) (d + 2) t_X_makeRoom ((pe_at t_X_makeRoom.bl 1).getD (0, [])).2 [(0, (2, 34)), (1, (0, cnt)), (2, (0, 0))] [] Z (fun o Z => o = .inl none ∧ mr_p 35 12 cnt S Z ∧ gI Z ∧ rmR S Z) := by
  have zC : Z 34 (-1) = 12 := (hz.2 34 (-1) (by decide) (by decide) (by decide)).trans hC
  have zl : Z 35 (-1) = cnt := (hz.2 35 (-1) (by decide) (by decide) (by decide)).trans (hl 0 (by decide))
  refine wa_iload_n (n := 2) rfl ?_
  refine wa_aload_n (n := 0) rfl ?_
  refine wb_alen 34 rfl (wy_pr rfl) (by rw [wt_34]; rfl) (v := 12) (zC) (fun r1 => ?_)
  refine wa_icmpge (w_rg0 (by omega) (by omega)) (w_rg0 (by omega) (by omega)) ⟨_, rfl⟩ (fun c2 => ?_) (fun c2 => ?_)
  · skip
    exact absurd c2 (by omega)
  · skip
    refine wa_aload_n (n := 0) rfl ?_
    refine wa_iload_n (n := 2) rfl ?_
    refine wa_aload_n (n := 0) rfl ?_
    refine wa_iload_n (n := 2) rfl ?_
    refine wb_aald5 34 0 rfl rfl (wy_pr rfl) wt_34 (by rw [show _ = _ from (zC)]; omega) wl_34_0 ?_
    refine wa_iload_n (n := 1) rfl ?_
    refine wa_iconst ?_
    refine wa_imul ?_
    refine wa_cs (M2 := fun _ => False) rfl at_JA_copyOf_2 ⟨_, rfl⟩ rfl rfl ⟨(Or.inr ⟨wy_pr rfl, fun q => q⟩), trivial, trivial, trivial⟩ ⟨trivial, (Or.inr ⟨wy_pr rfl, fun q => q⟩), trivial⟩ (fun _ _ q => False.elim q) (cp_I (S := Z) (a := 35) (n := (cnt * 2)) (len := cnt) (wy_pr rfl) wt_35 (zl) ⟨by omega, by omega, by omega⟩) (fun oq3 Sq3 _ q3 => ?_)
    rcases q3 with ⟨rfl, rfl⟩
    show wJ _ _ _ _ _ _ _ _ _ _
    refine wg_as (S := Z) (len := cnt) 0 34 35 rfl rfl (by have e : Z 34 (-1) = 12 := (zC); omega) rfl rfl wt_34 (by decide) wl_34_0 (by decide +kernel) wt_35 (by decide +kernel) hI (fun q => absurd q (by decide)) (by decide) ⟨by omega, by omega⟩ (zl) (fun _ => ⟨Or.inr (by decide), Or.inl (nN_ge _)⟩) ⟨(Or.inr ⟨wy_pr rfl, mS_no rfl⟩), trivial, trivial, trivial⟩ trivial (fun Z4 g5 gi6 => ?_)
    have rm7 := rmR_gr hrm g5 (by decide +kernel) (len := cnt) (zl) ⟨by omega, by omega⟩ ⟨fun q => by first | omega | exact absurd q (by decide), by show _ ≤ (100000000 : Int); omega⟩
    refine wa_iinc rfl rfl ?_
    refine wa_goto ⟨_, rfl⟩ ?_
    rw [show ((0 + 1) : Int) = 1 from rfl]
    exact wJ_S (mk_34_1 hC hc hl (mr_ps (lo := 35) (k := 0) (by decide) hz zl g5) gi6 rm7) ⟨rfl, rfl, rfl, trivial⟩
theorem mkr_34 {cnt : Int} (hC : S 34 (-1) = 12) (hI : gI S) (hc : 0 ≤ cnt ∧ cnt ≤ S 35 (-1)) (hL : 16 ≤ S 35 (-1) ∧ S 35 (-1) ≤ 8388608) (hl : ∀ x : Nat, x < 12 → S (35 + x) (-1) = S 35 (-1)) : wJ (pe_GA xs) wY0 (mS [35, 36, 37, 38, 39, 40, 41, 42, 43, 44, 45, 46]) (d + 2) t_X_makeRoom ((pe_at t_X_makeRoom.bl 0).getD (0, [])).2 [(0, (2, 34)), (1, (0, cnt))] [] S (fun o Z => o = .inl none ∧ mr_ag 35 12 cnt S Z) := by
  have hrm := rmR_rfl S
  refine wa_iload_n (n := 1) rfl ?_
  refine wa_aload_n (n := 0) rfl ?_
  refine wa_iconst ?_
  refine wb_aald5 34 0 rfl rfl (wy_pr rfl) wt_34 (by rw [show _ = _ from (hC)]; omega) wl_34_0 ?_
  refine wb_alen 35 rfl (wy_pr rfl) (by rw [wt_35]; rfl) (v := (S 35 (-1))) rfl (fun r1 => ?_)
  refine wa_icmplt (w_rg0 (by omega) (by omega)) (w_rg0 (by omega) (by omega)) ⟨_, rfl⟩ (fun c2 => ?_) (fun c2 => ?_)
  · skip
    refine wa_return rfl ?_
    exact ⟨rfl, Or.inl ⟨by omega, rfl⟩⟩
  · skip
    refine wa_iconst ?_
    refine wa_istore_n (n := 2) rfl ?_
    refine wa_fall ⟨_, rfl⟩ ?_
    have he : cnt = S 35 (-1) := by omega
    exact wJ_mono (wJ_S (mk_34_0 hC (by omega) (fun x hx => (hl x hx).trans he.symm) (mr_p0 35 cnt S) hI hrm) ⟨rfl, rfl, rfl, trivial⟩) (fun o Z q => ⟨q.1, Or.inr ⟨he, q.2⟩⟩)
theorem mk_47_10 {cnt : Int} (hC : S 47 (-1) = 10) (hc : 16 ≤ cnt ∧ cnt ≤ 8388608) (hl : ∀ x : Nat, x < 10 → S (48 + x) (-1) = cnt) (hz : mr_p 48 10 cnt S Z) (hI : gI Z) (hrm : rmR S Z) : wJ (pe_GA xs) wY0 (mS [48, 49, 50, 51, 52, 53, 54, 55, 56, 57]) (d + 2) t_X_makeRoom ((pe_at t_X_makeRoom.bl 1).getD (0, [])).2 [(0, (2, 47)), (1, (0, cnt)), (2, (0, 10))] [] Z (fun o Z => o = .inl none ∧ mr_p 48 10 cnt S Z ∧ gI Z ∧ rmR S Z) := by
  have zC : Z 47 (-1) = 10 := (hz.2 47 (-1) (by decide) (by decide) (by decide)).trans hC
  refine wa_iload_n (n := 2) rfl ?_
  refine wa_aload_n (n := 0) rfl ?_
  refine wb_alen 47 rfl (wy_pr rfl) (by rw [wt_47]; rfl) (v := 10) (zC) (fun r1 => ?_)
  refine wa_icmpge (w_rg0 (by omega) (by omega)) (w_rg0 (by omega) (by omega)) ⟨_, rfl⟩ (fun c2 => ?_) (fun c2 => ?_)
  · skip
    refine wa_return rfl ?_
    exact ⟨rfl, hz, hI, hrm⟩
  · skip
    exact absurd c2 (by omega)
theorem mk_47_9 {cnt : Int} (hC : S 47 (-1) = 10) (hc : 16 ≤ cnt ∧ cnt ≤ 8388608) (hl : ∀ x : Nat, x < 10 → S (48 + x) (-1) = cnt) (hz : mr_p 48 9 cnt S Z) (hI : gI Z) (hrm : rmR S Z) : wJ (pe_GA xs) wY0 (mS [48, 49, 50, 51, 52, 53, 54, 55, 56, 57]) (d + 2) t_X_makeRoom ((pe_at t_X_makeRoom.bl 1).getD (0, [])).2 [(0, (2, 47)), (1, (0, cnt)), (2, (0, 9))] [] Z (fun o Z => o = .inl none ∧ mr_p 48 10 cnt S Z ∧ gI Z ∧ rmR S Z) := by
  have zC : Z 47 (-1) = 10 := (hz.2 47 (-1) (by decide) (by decide) (by decide)).trans hC
  have zl : Z 57 (-1) = cnt := (hz.2 57 (-1) (by decide) (by decide) (by decide)).trans (hl 9 (by decide))
  refine wa_iload_n (n := 2) rfl ?_
  refine wa_aload_n (n := 0) rfl ?_
  refine wb_alen 47 rfl (wy_pr rfl) (by rw [wt_47]; rfl) (v := 10) (zC) (fun r1 => ?_)
  refine wa_icmpge (w_rg0 (by omega) (by omega)) (w_rg0 (by omega) (by omega)) ⟨_, rfl⟩ (fun c2 => ?_) (fun c2 => ?_)
  · skip
    exact absurd c2 (by omega)
  · skip
    refine wa_aload_n (n := 0) rfl ?_
    refine wa_iload_n (n := 2) rfl ?_
    refine wa_aload_n (n := 0) rfl ?_
    refine wa_iload_n (n := 2) rfl ?_
    refine wb_aald5 47 9 rfl rfl (wy_pr rfl) wt_47 (by rw [show _ = _ from (zC)]; omega) wl_47_9 ?_
    refine wa_iload_n (n := 1) rfl ?_
    refine wa_iconst ?_
    refine wa_imul ?_
    refine wa_cs (M2 := fun _ => False) rfl at_JA_copyOf_2 ⟨_, rfl⟩ rfl rfl ⟨(Or.inr ⟨wy_pr rfl, fun q => q⟩), trivial, trivial, trivial⟩ ⟨trivial, (Or.inr ⟨wy_pr rfl, fun q => q⟩), trivial⟩ (fun _ _ q => False.elim q) (cp_I (S := Z) (a := 57) (n := (cnt * 2)) (len := cnt) (wy_pr rfl) wt_57 (zl) ⟨by omega, by omega, by omega⟩) (fun oq3 Sq3 _ q3 => ?_)
    rcases q3 with ⟨rfl, rfl⟩
    show wJ _ _ _ _ _ _ _ _ _ _
    refine wg_as (S := Z) (len := cnt) 9 47 57 rfl rfl (by have e : Z 47 (-1) = 10 := (zC); omega) rfl rfl wt_47 (by decide) wl_47_9 (by decide +kernel) wt_57 (by decide +kernel) hI (fun q => absurd q (by decide)) (by decide) ⟨by omega, by omega⟩ (zl) (fun _ => ⟨Or.inr (by decide), Or.inl (nN_ge _)⟩) ⟨(Or.inr ⟨wy_pr rfl, mS_no rfl⟩), trivial, trivial, trivial⟩ trivial (fun Z4 g5 gi6 => ?_)
    have rm7 := rmR_gr hrm g5 (by decide +kernel) (len := cnt) (zl) ⟨by omega, by omega⟩ ⟨fun q => by first | omega | exact absurd q (by decide), by show _ ≤ (100000000 : Int); omega⟩
    refine wa_iinc rfl rfl ?_
    refine wa_goto ⟨_, rfl⟩ ?_
    rw [show ((9 + 1) : Int) = 10 from rfl]
    exact wJ_S (mk_47_10 hC hc hl (mr_ps (lo := 48) (k := 9) (by decide) hz zl g5) gi6 rm7) ⟨rfl, rfl, rfl, trivial⟩
theorem mk_47_8 {cnt : Int} (hC : S 47 (-1) = 10) (hc : 16 ≤ cnt ∧ cnt ≤ 8388608) (hl : ∀ x : Nat, x < 10 → S (48 + x) (-1) = cnt) (hz : mr_p 48 8 cnt S Z) (hI : gI Z) (hrm : rmR S Z) : wJ (pe_GA xs) wY0 (mS [48, 49, 50, 51, 52, 53, 54, 55, 56, 57]) (d + 2) t_X_makeRoom ((pe_at t_X_makeRoom.bl 1).getD (0, [])).2 [(0, (2, 47)), (1, (0, cnt)), (2, (0, 8))] [] Z (fun o Z => o = .inl none ∧ mr_p 48 10 cnt S Z ∧ gI Z ∧ rmR S Z) := by
  have zC : Z 47 (-1) = 10 := (hz.2 47 (-1) (by decide) (by decide) (by decide)).trans hC
  have zl : Z 56 (-1) = cnt := (hz.2 56 (-1) (by decide) (by decide) (by decide)).trans (hl 8 (by decide))
  refine wa_iload_n (n := 2) rfl ?_
  refine wa_aload_n (n := 0) rfl ?_
  refine wb_alen 47 rfl (wy_pr rfl) (by rw [wt_47]; rfl) (v := 10) (zC) (fun r1 => ?_)
  refine wa_icmpge (w_rg0 (by omega) (by omega)) (w_rg0 (by omega) (by omega)) ⟨_, rfl⟩ (fun c2 => ?_) (fun c2 => ?_)
  · skip
    exact absurd c2 (by omega)
  · skip
    refine wa_aload_n (n := 0) rfl ?_
    refine wa_iload_n (n := 2) rfl ?_
    refine wa_aload_n (n := 0) rfl ?_
    refine wa_iload_n (n := 2) rfl ?_
    refine wb_aald5 47 8 rfl rfl (wy_pr rfl) wt_47 (by rw [show _ = _ from (zC)]; omega) wl_47_8 ?_
    refine wa_iload_n (n := 1) rfl ?_
    refine wa_iconst ?_
    refine wa_imul ?_
    refine wa_cs (M2 := fun _ => False) rfl at_JA_copyOf_2 ⟨_, rfl⟩ rfl rfl ⟨(Or.inr ⟨wy_pr rfl, fun q => q⟩), trivial, trivial, trivial⟩ ⟨trivial, (Or.inr ⟨wy_pr rfl, fun q => q⟩), trivial⟩ (fun _ _ q => False.elim q) (cp_I (S := Z) (a := 56) (n := (cnt * 2)) (len := cnt) (wy_pr rfl) wt_56 (zl) ⟨by omega, by omega, by omega⟩) (fun oq3 Sq3 _ q3 => ?_)
    rcases q3 with ⟨rfl, rfl⟩
    show wJ _ _ _ _ _ _ _ _ _ _
    refine wg_as (S := Z) (len := cnt) 8 47 56 rfl rfl (by have e : Z 47 (-1) = 10 := (zC); omega) rfl rfl wt_47 (by decide) wl_47_8 (by decide +kernel) wt_56 (by decide +kernel) hI (fun q => absurd q (by decide)) (by decide) ⟨by omega, by omega⟩ (zl) (fun _ => ⟨Or.inr (by decide), Or.inl (nN_ge _)⟩) ⟨(Or.inr ⟨wy_pr rfl, mS_no rfl⟩), trivial, trivial, trivial⟩ trivial (fun Z4 g5 gi6 => ?_)
    have rm7 := rmR_gr hrm g5 (by decide +kernel) (len := cnt) (zl) ⟨by omega, by omega⟩ ⟨fun q => by first | omega | exact absurd q (by decide), by show _ ≤ (100000000 : Int); omega⟩
    refine wa_iinc rfl rfl ?_
    refine wa_goto ⟨_, rfl⟩ ?_
    rw [show ((8 + 1) : Int) = 9 from rfl]
    exact wJ_S (mk_47_9 hC hc hl (mr_ps (lo := 48) (k := 8) (by decide) hz zl g5) gi6 rm7) ⟨rfl, rfl, rfl, trivial⟩
theorem mk_47_7 {cnt : Int} (hC : S 47 (-1) = 10) (hc : 16 ≤ cnt ∧ cnt ≤ 8388608) (hl : ∀ x : Nat, x < 10 → S (48 + x) (-1) = cnt) (hz : mr_p 48 7 cnt S Z) (hI : gI Z) (hrm : rmR S Z) : wJ (pe_GA xs) wY0 (mS [48, 49, 50, 51, 52, 53, 54, 55, 56, 57]) (d + 2) t_X_makeRoom ((pe_at t_X_makeRoom.bl 1).getD (0, [])).2 [(0, (2, 47)), (1, (0, cnt)), (2, (0, 7))] [] Z (fun o Z => o = .inl none ∧ mr_p 48 10 cnt S Z ∧ gI Z ∧ rmR S Z) := by
  have zC : Z 47 (-1) = 10 := (hz.2 47 (-1) (by decide) (by decide) (by decide)).trans hC
  have zl : Z 55 (-1) = cnt := (hz.2 55 (-1) (by decide) (by decide) (by decide)).trans (hl 7 (by decide))
  refine wa_iload_n (n := 2) rfl ?_
  refine wa_aload_n (n := 0) rfl ?_
  refine wb_alen 47 rfl (wy_pr rfl) (by rw [wt_47]; rfl) (v := 10) (zC) (fun r1 => ?_)
  refine wa_icmpge (w_rg0 (by omega) (by omega)) (w_rg0 (by omega) (by omega)) ⟨_, rfl⟩ (fun c2 => ?_) (fun c2 => ?_)
  · skip
    exact absurd c2 (by omega)
  · skip
    refine wa_aload_n (n := 0) rfl ?_
    refine wa_iload_n (n := 2) rfl ?_
    refine wa_aload_n (n := 0) rfl ?_
    refine wa_iload_n (n := 2) rfl ?_
    refine wb_aald5 47 7 rfl rfl (wy_pr rfl) wt_47 (by rw [show _ = _ from (zC)]; omega) wl_47_7 ?_
    refine wa_iload_n (n := 1) rfl ?_
    refine wa_iconst ?_
    refine wa_imul ?_
    refine wa_cs (M2 := fun _ => False) rfl at_JA_copyOf_2 ⟨_, rfl⟩ rfl rfl ⟨(Or.inr ⟨wy_pr rfl, fun q => q⟩), trivial, trivial, trivial⟩ ⟨trivial, (Or.inr ⟨wy_pr rfl, fun q => q⟩), trivial⟩ (fun _ _ q => False.elim q) (cp_I (S := Z) (a := 55) (n := (cnt * 2)) (len := cnt) (wy_pr rfl) wt_55 (zl) ⟨by omega, by omega, by omega⟩) (fun oq3 Sq3 _ q3 => ?_)
    rcases q3 with ⟨rfl, rfl⟩
    show wJ _ _ _ _ _ _ _ _ _ _
    refine wg_as (S := Z) (len := cnt) 7 47 55 rfl rfl (by have e : Z 47 (-1) = 10 := (zC); omega) rfl rfl wt_47 (by decide) wl_47_7 (by decide +kernel) wt_55 (by decide +kernel) hI (fun q => absurd q (by decide)) (by decide) ⟨by omega, by omega⟩ (zl) (fun _ => ⟨Or.inr (by decide), Or.inl (nN_ge _)⟩) ⟨(Or.inr ⟨wy_pr rfl, mS_no rfl⟩), trivial, trivial, trivial⟩ trivial (fun Z4 g5 gi6 => ?_)
    have rm7 := rmR_gr hrm g5 (by decide +kernel) (len := cnt) (zl) ⟨by omega, by omega⟩ ⟨fun q => by first | omega | exact absurd q (by decide), by show _ ≤ (100000000 : Int); omega⟩
    refine wa_iinc rfl rfl ?_
    refine wa_goto ⟨_, rfl⟩ ?_
    rw [show ((7 + 1) : Int) = 8 from rfl]
    exact wJ_S (mk_47_8 hC hc hl (mr_ps (lo := 48) (k := 7) (by decide) hz zl g5) gi6 rm7) ⟨rfl, rfl, rfl, trivial⟩
theorem mk_47_6 {cnt : Int} (hC : S 47 (-1) = 10) (hc : 16 ≤ cnt ∧ cnt ≤ 8388608) (hl : ∀ x : Nat, x < 10 → S (48 + x) (-1) = cnt) (hz : mr_p 48 6 cnt S Z) (hI : gI Z) (hrm : rmR S Z) : wJ (pe_GA xs) wY0 (mS [48, 49, 50, 51, 52, 53, 54, 55, 56, 57]) (d + 2) t_X_makeRoom ((pe_at t_X_makeRoom.bl 1).getD (0, [])).2 [(0, (2, 47)), (1, (0, cnt)), (2, (0, 6))] [] Z (fun o Z => o = .inl none ∧ mr_p 48 10 cnt S Z ∧ gI Z ∧ rmR S Z) := by
  have zC : Z 47 (-1) = 10 := (hz.2 47 (-1) (by decide) (by decide) (by decide)).trans hC
  have zl : Z 54 (-1) = cnt := (hz.2 54 (-1) (by decide) (by decide) (by decide)).trans (hl 6 (by decide))
  refine wa_iload_n (n := 2) rfl ?_
  refine wa_aload_n (n := 0) rfl ?_
  refine wb_alen 47 rfl (wy_pr rfl) (by rw [wt_47]; rfl) (v := 10) (zC) (fun r1 => ?_)
  refine wa_icmpge (w_rg0 (by omega) (by omega)) (w_rg0 (by omega) (by omega)) ⟨_, rfl⟩ (fun c2 => ?_) (fun c2 => ?_)
  · skip
    exact absurd c2 (by omega)
  · skip
    refine wa_aload_n (n := 0) rfl ?_
    refine wa_iload_n (n := 2) rfl ?_
    refine wa_aload_n (n := 0) rfl ?_
    refine wa_iload_n (n := 2) rfl ?_
    refine wb_aald5 47 6 rfl rfl (wy_pr rfl) wt_47 (by rw [show _ = _ from (zC)]; omega) wl_47_6 ?_
    refine wa_iload_n (n := 1) rfl ?_
    refine wa_iconst ?_
    refine wa_imul ?_
    refine wa_cs (M2 := fun _ => False) rfl at_JA_copyOf_2 ⟨_, rfl⟩ rfl rfl ⟨(Or.inr ⟨wy_pr rfl, fun q => q⟩), trivial, trivial, trivial⟩ ⟨trivial, (Or.inr ⟨wy_pr rfl, fun q => q⟩), trivial⟩ (fun _ _ q => False.elim q) (cp_I (S := Z) (a := 54) (n := (cnt * 2)) (len := cnt) (wy_pr rfl) wt_54 (zl) ⟨by omega, by omega, by omega⟩) (fun oq3 Sq3 _ q3 => ?_)
    rcases q3 with ⟨rfl, rfl⟩
    show wJ _ _ _ _ _ _ _ _ _ _
    refine wg_as (S := Z) (len := cnt) 6 47 54 rfl rfl (by have e : Z 47 (-1) = 10 := (zC); omega) rfl rfl wt_47 (by decide) wl_47_6 (by decide +kernel) wt_54 (by decide +kernel) hI (fun q => absurd q (by decide)) (by decide) ⟨by omega, by omega⟩ (zl) (fun _ => ⟨Or.inr (by decide), Or.inl (nN_ge _)⟩) ⟨(Or.inr ⟨wy_pr rfl, mS_no rfl⟩), trivial, trivial, trivial⟩ trivial (fun Z4 g5 gi6 => ?_)
    have rm7 := rmR_gr hrm g5 (by decide +kernel) (len := cnt) (zl) ⟨by omega, by omega⟩ ⟨fun q => by first | omega | exact absurd q (by decide), by show _ ≤ (100000000 : Int); omega⟩
    refine wa_iinc rfl rfl ?_
    refine wa_goto ⟨_, rfl⟩ ?_
    rw [show ((6 + 1) : Int) = 7 from rfl]
    exact wJ_S (mk_47_7 hC hc hl (mr_ps (lo := 48) (k := 6) (by decide) hz zl g5) gi6 rm7) ⟨rfl, rfl, rfl, trivial⟩
theorem mk_47_5 {cnt : Int} (hC : S 47 (-1) = 10) (hc : 16 ≤ cnt ∧ cnt ≤ 8388608) (hl : ∀ x : Nat, x < 10 → S (48 + x) (-1) = cnt) (hz : mr_p 48 5 cnt S Z) (hI : gI Z) (hrm : rmR S Z) : wJ (pe_GA xs) wY0 (mS [48, 49, 50, 51, 52, 53, 54, 55, 56, 57]) (d + 2) t_X_makeRoom ((pe_at t_X_makeRoom.bl 1).getD (0, [])).2 [(0, (2, 47)), (1, (0, cnt)), (2, (0, 5))] [] Z (fun o Z => o = .inl none ∧ mr_p 48 10 cnt S Z ∧ gI Z ∧ rmR S Z) := by
  have zC : Z 47 (-1) = 10 := (hz.2 47 (-1) (by decide) (by decide) (by decide)).trans hC
  have zl : Z 53 (-1) = cnt := (hz.2 53 (-1) (by decide) (by decide) (by decide)).trans (hl 5 (by decide))
  refine wa_iload_n (n := 2) rfl ?_
  refine wa_aload_n (n := 0) rfl ?_
  refine wb_alen 47 rfl (wy_pr rfl) (by rw [wt_47]; rfl) (v := 10) (zC) (fun r1 => ?_)
  refine wa_icmpge (w_rg0 (by omega) (by omega)) (w_rg0 (by omega) (by omega)) ⟨_, rfl⟩ (fun c2 => ?_) (fun c2 => ?_)
  · skip
    exact absurd c2 (by omega)
  · skip
    refine wa_aload_n (n := 0) rfl ?_
    refine wa_iload_n (n := 2) rfl ?_
    refine wa_aload_n (n := 0) rfl ?_
    refine wa_iload_n (n := 2) rfl ?_
    refine wb_aald5 47 5 rfl rfl (wy_pr rfl) wt_47 (by rw [show _ = _ from (zC)]; omega) wl_47_5 ?_
    refine wa_iload_n (n := 1) rfl ?_
    refine wa_iconst ?_
    refine wa_imul ?_
    refine wa_cs (M2 := fun _ => False) rfl at_JA_copyOf_2 ⟨_, rfl⟩ rfl rfl ⟨(Or.inr ⟨wy_pr rfl, fun q => q⟩), trivial, trivial, trivial⟩ ⟨trivial, (Or.inr ⟨wy_pr rfl, fun q => q⟩), trivial⟩ (fun _ _ q => False.elim q) (cp_I (S := Z) (a := 53) (n := (cnt * 2)) (len := cnt) (wy_pr rfl) wt_53 (zl) ⟨by omega, by omega, by omega⟩) (fun oq3 Sq3 _ q3 => ?_)
    rcases q3 with ⟨rfl, rfl⟩
    show wJ _ _ _ _ _ _ _ _ _ _
    refine wg_as (S := Z) (len := cnt) 5 47 53 rfl rfl (by have e : Z 47 (-1) = 10 := (zC); omega) rfl rfl wt_47 (by decide) wl_47_5 (by decide +kernel) wt_53 (by decide +kernel) hI (fun q => absurd q (by decide)) (by decide) ⟨by omega, by omega⟩ (zl) (fun _ => ⟨Or.inr (by decide), Or.inl (nN_ge _)⟩) ⟨(Or.inr ⟨wy_pr rfl, mS_no rfl⟩), trivial, trivial, trivial⟩ trivial (fun Z4 g5 gi6 => ?_)
    have rm7 := rmR_gr hrm g5 (by decide +kernel) (len := cnt) (zl) ⟨by omega, by omega⟩ ⟨fun q => by first | omega | exact absurd q (by decide), by show _ ≤ (100000000 : Int); omega⟩
    refine wa_iinc rfl rfl ?_
    refine wa_goto ⟨_, rfl⟩ ?_
    rw [show ((5 + 1) : Int) = 6 from rfl]
    exact wJ_S (mk_47_6 hC hc hl (mr_ps (lo := 48) (k := 5) (by decide) hz zl g5) gi6 rm7) ⟨rfl, rfl, rfl, trivial⟩
theorem mk_47_4 {cnt : Int} (hC : S 47 (-1) = 10) (hc : 16 ≤ cnt ∧ cnt ≤ 8388608) (hl : ∀ x : Nat, x < 10 → S (48 + x) (-1) = cnt) (hz : mr_p 48 4 cnt S Z) (hI : gI Z) (hrm : rmR S Z) : wJ (pe_GA xs) wY0 (mS [48, 49, 50, 51, 52, 53, 54, 55, 56, 57]) (d + 2) t_X_makeRoom ((pe_at t_X_makeRoom.bl 1).getD (0, [])).2 [(0, (2, 47)), (1, (0, cnt)), (2, (0, 4))] [] Z (fun o Z => o = .inl none ∧ mr_p 48 10 cnt S Z ∧ gI Z ∧ rmR S Z) := by
  have zC : Z 47 (-1) = 10 := (hz.2 47 (-1) (by decide) (by decide) (by decide)).trans hC
  have zl : Z 52 (-1) = cnt := (hz.2 52 (-1) (by decide) (by decide) (by decide)).trans (hl 4 (by decide))
  refine wa_iload_n (n := 2) rfl ?_
  refine wa_aload_n (n := 0) rfl ?_
  refine wb_alen 47 rfl (wy_pr rfl) (by rw [wt_47]; rfl) (v := 10) (zC) (fun r1 => ?_)
  refine wa_icmpge (w_rg0 (by omega) (by omega)) (w_rg0 (by omega) (by omega)) ⟨_, rfl⟩ (fun c2 => ?_) (fun c2 => ?_)
  · skip
    exact absurd c2 (by omega)
  · skip
    refine wa_aload_n (n := 0) rfl ?_
    refine wa_iload_n (n := 2) rfl ?_
    refine wa_aload_n (n := 0) rfl ?_
    refine wa_iload_n (n := 2) rfl ?_
    refine wb_aald5 47 4 rfl rfl (wy_pr rfl) wt_47 (by rw [show _ = _ from (zC)]; omega) wl_47_4 ?_
    refine wa_iload_n (n := 1) rfl ?_
    refine wa_iconst ?_
    refine wa_imul ?_
    refine wa_cs (M2 := fun _ => False) rfl at_JA_copyOf_2 ⟨_, rfl⟩ rfl rfl ⟨(Or.inr ⟨wy_pr rfl, fun q => q⟩), trivial, trivial, trivial⟩ ⟨trivial, (Or.inr ⟨wy_pr rfl, fun q => q⟩), trivial⟩ (fun _ _ q => False.elim q) (cp_I (S := Z) (a := 52) (n := (cnt * 2)) (len := cnt) (wy_pr rfl) wt_52 (zl) ⟨by omega, by omega, by omega⟩) (fun oq3 Sq3 _ q3 => ?_)
    rcases q3 with ⟨rfl, rfl⟩
    show wJ _ _ _ _ _ _ _ _ _ _
    refine wg_as (S := Z) (len := cnt) 4 47 52 rfl rfl (by have e : Z 47 (-1) = 10 := (zC); omega) rfl rfl wt_47 (by decide) wl_47_4 (by decide +kernel) wt_52 (by decide +kernel) hI (fun q => absurd q (by decide)) (by decide) ⟨by omega, by omega⟩ (zl) (fun _ => ⟨Or.inr (by decide), Or.inl (nN_ge _)⟩) ⟨(Or.inr ⟨wy_pr rfl, mS_no rfl⟩), trivial, trivial, trivial⟩ trivial (fun Z4 g5 gi6 => ?_)
    have rm7 := rmR_gr hrm g5 (by decide +kernel) (len := cnt) (zl) ⟨by omega, by omega⟩ ⟨fun q => by first | omega | exact absurd q (by decide), by show _ ≤ (100000000 : Int); omega⟩
    refine wa_iinc rfl rfl ?_
    refine wa_goto ⟨_, rfl⟩ ?_
    rw [show ((4 + 1) : Int) = 5 from rfl]
    exact wJ_S (mk_47_5 hC hc hl (mr_ps (lo := 48) (k := 4) (by decide) hz zl g5) gi6 rm7) ⟨rfl, rfl, rfl, trivial⟩
theorem mk_47_3 {cnt : Int} (hC : S 47 (-1) = 10) (hc : 16 ≤ cnt ∧ cnt ≤ 8388608) (hl : ∀ x : Nat, x < 10 → S (48 + x) (-1) = cnt) (hz : mr_p 48 3 cnt S Z) (hI : gI Z) (hrm : rmR S Z) : wJ (pe_GA xs) wY0 (mS [48, 49, 50, 51, 52, 53, 54, 55, 56, 57]) (d + 2) t_X_makeRoom ((pe_at t_X_makeRoom.bl 1).getD (0, [])).2 [(0, (2, 47)), (1, (0, cnt)), (2, (0, 3))] [] Z (fun o Z => o = .inl none ∧ mr_p 48 10 cnt S Z ∧ gI Z ∧ rmR S Z) := by
  have zC : Z 47 (-1) = 10 := (hz.2 47 (-1) (by decide) (by decide) (by decide)).trans hC
  have zl : Z 51 (-1) = cnt := (hz.2 51 (-1) (by decide) (by decide) (by decide)).trans (hl 3 (by decide))
  refine wa_iload_n (n := 2) rfl ?_
  refine wa_aload_n (n := 0) rfl ?_
  refine wb_alen 47 rfl (wy_pr rfl) (by rw [wt_47]; rfl) (v := 10) (zC) (fun r1 => ?_)
  refine wa_icmpge (w_rg0 (by omega) (by omega)) (w_rg0 (by omega) (by omega)) ⟨_, rfl⟩ (fun c2 => ?_) (fun c2 => ?_)
  · skip
    exact absurd c2 (by omega)
  · skip
    refine wa_aload_n (n := 0) rfl ?_
    refine wa_iload_n (n := 2) rfl ?_
    refine wa_aload_n (n := 0) rfl ?_
    refine wa_iload_n (n := 2) rfl ?_
    refine wb_aald5 47 3 rfl rfl (wy_pr rfl) wt_47 (by rw [show _ = _ from (zC)]; omega) wl_47_3 ?_
    refine wa_iload_n (n := 1) rfl ?_
    refine wa_iconst ?_
    refine wa_imul ?_
    refine wa_cs (M2 := fun _ => False) rfl at_JA_copyOf_2 ⟨_, rfl⟩ rfl rfl ⟨(Or.inr ⟨wy_pr rfl, fun q => q⟩), trivial, trivial, trivial⟩ ⟨trivial, (Or.inr ⟨wy_pr rfl, fun q => q⟩), trivial⟩ (fun _ _ q => False.elim q) (cp_I (S := Z) (a := 51) (n := (cnt * 2)) (len := cnt) (wy_pr rfl) wt_51 (zl) ⟨by omega, by omega, by omega⟩) (fun oq3 Sq3 _ q3 => ?_)
    rcases q3 with ⟨rfl, rfl⟩
    show wJ _ _ _ _ _ _ _ _ _ _
    refine wg_as (S := Z) (len := cnt) 3 47 51 rfl rfl (by have e : Z 47 (-1) = 10 := (zC); omega) rfl rfl wt_47 (by decide) wl_47_3 (by decide +kernel) wt_51 (by decide +kernel) hI (fun q => absurd q (by decide)) (by decide) ⟨by omega, by omega⟩ (zl) (fun _ => ⟨Or.inr (by decide), Or.inl (nN_ge _)⟩) ⟨(Or.inr ⟨wy_pr rfl, mS_no rfl⟩), trivial, trivial, trivial⟩ trivial (fun Z4 g5 gi6 => ?_)
    have rm7 := rmR_gr hrm g5 (by decide +kernel) (len := cnt) (zl) ⟨by omega, by omega⟩ ⟨fun q => by first | omega | exact absurd q (by decide), by show _ ≤ (100000000 : Int); omega⟩
    refine wa_iinc rfl rfl ?_
    refine wa_goto ⟨_, rfl⟩ ?_
    rw [show ((3 + 1) : Int) = 4 from rfl]
    exact wJ_S (mk_47_4 hC hc hl (mr_ps (lo := 48) (k := 3) (by decide) hz zl g5) gi6 rm7) ⟨rfl, rfl, rfl, trivial⟩
theorem mk_47_2 {cnt : Int} (hC : S 47 (-1) = 10) (hc : 16 ≤ cnt ∧ cnt ≤ 8388608) (hl : ∀ x : Nat, x < 10 → S (48 + x) (-1) = cnt) (hz : mr_p 48 2 cnt S Z) (hI : gI Z) (hrm : rmR S Z) : wJ (pe_GA xs) wY0 (mS [48, 49, 50, 51, 52, 53, 54, 55, 56, 57]) (d + 2) t_X_makeRoom ((pe_at t_X_makeRoom.bl 1).getD (0, [])).2 [(0, (2, 47)), (1, (0, cnt)), (2, (0, 2))] [] Z (fun o Z => o = .inl none ∧ mr_p 48 10 cnt S Z ∧ gI Z ∧ rmR S Z) := by
  have zC : Z 47 (-1) = 10 := (hz.2 47 (-1) (by decide) (by decide) (by decide)).trans hC
  have zl : Z 50 (-1) = cnt := (hz.2 50 (-1) (by decide) (by decide) (by decide)).trans (hl 2 (by decide))
  refine wa_iload_n (n := 2) rfl ?_
  refine wa_aload_n (n := 0) rfl ?_
  refine wb_alen 47 rfl (wy_pr rfl) (by rw [wt_47]; rfl) (v := 10) (zC) (fun r1 => ?_)
  refine wa_icmpge (w_rg0 (by omega) (by omega)) (w_rg0 (by omega) (by omega)) ⟨_, rfl⟩ (fun c2 => ?_) (fun c2 => ?_)
  · skip
    exact absurd c2 (by omega)
  · skip
    refine wa_aload_n (n := 0) rfl ?_
    refine wa_iload_n (n := 2) rfl ?_
    refine wa_aload_n (n := 0) rfl ?_
    refine wa_iload_n (n := 2) rfl ?_
    refine wb_aald5 47 2 rfl rfl (wy_pr rfl) wt_47 (by rw [show _ = _ from (zC)]; omega) wl_47_2 ?_
    refine wa_iload_n (n := 1) rfl ?_
    refine wa_iconst ?_
    refine wa_imul ?_
    refine wa_cs (M2 := fun _ => False) rfl at_JA_copyOf_2 ⟨_, rfl⟩ rfl rfl ⟨(Or.inr ⟨wy_pr rfl, fun q => q⟩), trivial, trivial, trivial⟩ ⟨trivial, (Or.inr ⟨wy_pr rfl, fun q => q⟩), trivial⟩ (fun _ _ q => False.elim q) (cp_I (S := Z) (a := 50) (n := (cnt * 2)) (len := cnt) (wy_pr rfl) wt_50 (zl) ⟨by omega, by omega, by omega⟩) (fun oq3 Sq3 _ q3 => ?_)
    rcases q3 with ⟨rfl, rfl⟩
    show wJ _ _ _ _ _ _ _ _ _ _
    refine wg_as (S := Z) (len := cnt) 2 47 50 rfl rfl (by have e : Z 47 (-1) = 10 := (zC); omega) rfl rfl wt_47 (by decide) wl_47_2 (by decide +kernel) wt_50 (by decide +kernel) hI (fun q => absurd q (by decide)) (by decide) ⟨by omega, by omega⟩ (zl) (fun _ => ⟨Or.inr (by decide), Or.inl (nN_ge _)⟩) ⟨(Or.inr ⟨wy_pr rfl, mS_no rfl⟩), trivial, trivial, trivial⟩ trivial (fun Z4 g5 gi6 => ?_)
    have rm7 := rmR_gr hrm g5 (by decide +kernel) (len := cnt) (zl) ⟨by omega, by omega⟩ ⟨fun q => by first | omega | exact absurd q (by decide), by show _ ≤ (100000000 : Int); omega⟩
    refine wa_iinc rfl rfl ?_
    refine wa_goto ⟨_, rfl⟩ ?_
    rw [show ((2 + 1) : Int) = 3 from rfl]
    exact wJ_S (mk_47_3 hC hc hl (mr_ps (lo := 48) (k := 2) (by decide) hz zl g5) gi6 rm7) ⟨rfl, rfl, rfl, trivial⟩
theorem mk_47_1 {cnt : Int} (hC : S 47 (-1) = 10) (hc : 16 ≤ cnt ∧ cnt ≤ 8388608) (hl : ∀ x : Nat, x < 10 → S (48 + x) (-1) = cnt) (hz : mr_p 48 1 cnt S Z) (hI : gI Z) (hrm : rmR S Z) : wJ (pe_GA xs) wY0 (mS [48, 49, 50, 51, 52, 53, 54, 55, 56, 57]) (d + 2) t_X_makeRoom ((pe_at t_X_makeRoom.bl 1).getD (0, [])).2 [(0, (2, 47)), (1, (0, cnt)), (2, (0, 1))] [] Z (fun o Z => o = .inl none ∧ mr_p 48 10 cnt S Z ∧ gI Z ∧ rmR S Z) := by
  have zC : Z 47 (-1) = 10 := (hz.2 47 (-1) (by decide) (by decide) (by decide)).trans hC
  have zl : Z 49 (-1) = cnt := (hz.2 49 (-1) (by decide) (by decide) (by decide)).trans (hl 1 (by decide))
  refine wa_iload_n (n := 2) rfl ?_
  refine wa_aload_n (n := 0) rfl ?_
  refine wb_alen 47 rfl (wy_pr rfl) (by rw [wt_47]; rfl) (v := 10) (zC) (fun r1 => ?_)
  refine wa_icmpge (w_rg0 (by omega) (by omega)) (w_rg0 (by omega) (by omega)) ⟨_, rfl⟩ (fun c2 => ?_) (fun c2 => ?_)
  · skip
    exact absurd c2 (by omega)
  · skip
    refine wa_aload_n (n := 0) rfl ?_
    refine wa_iload_n (n := 2) rfl ?_
    refine wa_aload_n (n := 0) rfl ?_
    refine wa_iload_n (n := 2) rfl ?_
    refine wb_aald5 47 1 rfl rfl (wy_pr rfl) wt_47 (by rw [show _ = _ from (zC)]; omega) wl_47_1 ?_
    refine wa_iload_n (n := 1) rfl ?_
    refine wa_iconst ?_
    refine wa_imul ?_
    refine wa_cs (M2 := fun _ => False) rfl at_JA_copyOf_2 ⟨_, rfl⟩ rfl rfl ⟨(Or.inr ⟨wy_pr rfl, fun q => q⟩), trivial, trivial, trivial⟩ ⟨trivial, (Or.inr ⟨wy_pr rfl, fun q => q⟩), trivial⟩ (fun _ _ q => False.elim q) (cp_I (S := Z) (a := 49) (n := (cnt * 2)) (len := cnt) (wy_pr rfl) wt_49 (zl) ⟨by omega, by omega, by omega⟩) (fun oq3 Sq3 _ q3 => ?_)
    rcases q3 with ⟨rfl, rfl⟩
    show wJ _ _ _ _ _ _ _ _ _ _
    refine wg_as (S := Z) (len := cnt) 1 47 49 rfl rfl (by have e : Z 47 (-1) = 10 := (zC); omega) rfl rfl wt_47 (by decide) wl_47_1 (by decide +kernel) wt_49 (by decide +kernel) hI (fun q => absurd q (by decide)) (by decide) ⟨by omega, by omega⟩ (zl) (fun _ => ⟨Or.inr (by decide), Or.inl (nN_ge _)⟩) ⟨(Or.inr ⟨wy_pr rfl, mS_no rfl⟩), trivial, trivial, trivial⟩ trivial (fun Z4 g5 gi6 => ?_)
    have rm7 := rmR_gr hrm g5 (by decide +kernel) (len := cnt) (zl) ⟨by omega, by omega⟩ ⟨fun q => by first | omega | exact absurd q (by decide), by show _ ≤ (100000000 : Int); omega⟩
    refine wa_iinc rfl rfl ?_
    refine wa_goto ⟨_, rfl⟩ ?_
    rw [show ((1 + 1) : Int) = 2 from rfl]
    exact wJ_S (mk_47_2 hC hc hl (mr_ps (lo := 48) (k := 1) (by decide) hz zl g5) gi6 rm7) ⟨rfl, rfl, rfl, trivial⟩
theorem mk_47_0 {cnt : Int} (hC : S 47 (-1) = 10) (hc : 16 ≤ cnt ∧ cnt ≤ 8388608) (hl : ∀ x : Nat, x < 10 → S (48 + x) (-1) = cnt) (hz : mr_p 48 0 cnt S Z) (hI : gI Z) (hrm : rmR S Z) : wJ (pe_GA xs) wY0 (mS [48, 49, 50, 51, 52, 53, 54, 55, 56, 57]) (d + 2) t_X_makeRoom ((pe_at t_X_makeRoom.bl 1).getD (0, [])).2 [(0, (2, 47)), (1, (0, cnt)), (2, (0, 0))] [] Z (fun o Z => o = .inl none ∧ mr_p 48 10 cnt S Z ∧ gI Z ∧ rmR S Z) := by
  have zC : Z 47 (-1) = 10 := (hz.2 47 (-1) (by decide) (by decide) (by decide)).trans hC
  have zl : Z 48 (-1) = cnt := (hz.2 48 (-1) (by decide) (by decide) (by decide)).trans (hl 0 (by decide))
  refine wa_iload_n (n := 2) rfl ?_
  refine wa_aload_n (n := 0) rfl ?_
  refine wb_alen 47 rfl (wy_pr rfl) (by rw [wt_47]; rfl) (v := 10) (zC) (fun r1 => ?_)
  refine wa_icmpge (w_rg0 (by omega) (by omega)) (w_rg0 (by omega) (by omega)) ⟨_, rfl⟩ (fun c2 => ?_) (fun c2 => ?_)
  · skip
    exact absurd c2 (by omega)
  · skip
    refine wa_aload_n (n := 0) rfl ?_
    refine wa_iload_n (n := 2) rfl ?_
    refine wa_aload_n (n := 0) rfl ?_
    refine wa_iload_n (n := 2) rfl ?_
    refine wb_aald5 47 0 rfl rfl (wy_pr rfl) wt_47 (by rw [show _ = _ from (zC)]; omega) wl_47_0 ?_
    refine wa_iload_n (n := 1) rfl ?_
    refine wa_iconst ?_
    refine wa_imul ?_
    refine wa_cs (M2 := fun _ => False) rfl at_JA_copyOf_2 ⟨_, rfl⟩ rfl rfl ⟨(Or.inr ⟨wy_pr rfl, fun q => q⟩), trivial, trivial, trivial⟩ ⟨trivial, (Or.inr ⟨wy_pr rfl, fun q => q⟩), trivial⟩ (fun _ _ q => False.elim q) (cp_I (S := Z) (a := 48) (n := (cnt * 2)) (len := cnt) (wy_pr rfl) wt_48 (zl) ⟨by omega, by omega, by omega⟩) (fun oq3 Sq3 _ q3 => ?_)
    rcases q3 with ⟨rfl, rfl⟩
    show wJ _ _ _ _ _ _ _ _ _ _
    refine wg_as (S := Z) (len := cnt) 0 47 48 rfl rfl (by have e : Z 47 (-1) = 10 := (zC); omega) rfl rfl wt_47 (by decide) wl_47_0 (by decide +kernel) wt_48 (by decide +kernel) hI (fun q => absurd q (by decide)) (by decide) ⟨by omega, by omega⟩ (zl) (fun _ => ⟨Or.inr (by decide), Or.inl (nN_ge _)⟩) ⟨(Or.inr ⟨wy_pr rfl, mS_no rfl⟩), trivial, trivial, trivial⟩ trivial (fun Z4 g5 gi6 => ?_)
    have rm7 := rmR_gr hrm g5 (by decide +kernel) (len := cnt) (zl) ⟨by omega, by omega⟩ ⟨fun q => by first | omega | exact absurd q (by decide), by show _ ≤ (100000000 : Int); omega⟩
    refine wa_iinc rfl rfl ?_
    refine wa_goto ⟨_, rfl⟩ ?_
    rw [show ((0 + 1) : Int) = 1 from rfl]
    exact wJ_S (mk_47_1 hC hc hl (mr_ps (lo := 48) (k := 0) (by decide) hz zl g5) gi6 rm7) ⟨rfl, rfl, rfl, trivial⟩
theorem mkr_47 {cnt : Int} (hC : S 47 (-1) = 10) (hI : gI S) (hc : 0 ≤ cnt ∧ cnt ≤ S 48 (-1)) (hL : 16 ≤ S 48 (-1) ∧ S 48 (-1) ≤ 8388608) (hl : ∀ x : Nat, x < 10 → S (48 + x) (-1) = S 48 (-1)) : wJ (pe_GA xs) wY0 (mS [48, 49, 50, 51, 52, 53, 54, 55, 56, 57]) (d + 2) t_X_makeRoom ((pe_at t_X_makeRoom.bl 0).getD (0, [])).2 [(0, (2, 47)), (1, (0, cnt))] [] S (fun o Z => o = .inl none ∧ mr_ag 48 10 cnt S Z) := by
  have hrm := rmR_rfl S
  refine wa_iload_n (n := 1) rfl ?_
  refine wa_aload_n (n := 0) rfl ?_
  refine wa_iconst ?_
  refine wb_aald5 47 0 rfl rfl (wy_pr rfl) wt_47 (by rw [show _ = _ from (hC)]; omega) wl_47_0 ?_
  refine wb_alen 48 rfl (wy_pr rfl) (by rw [wt_48]; rfl) (v := (S 48 (-1))) rfl (fun r1 => ?_)
  refine wa_icmplt (w_rg0 (by omega) (by omega)) (w_rg0 (by omega) (by omega)) ⟨_, rfl⟩ (fun c2 => ?_) (fun c2 => ?_)
  · skip
    refine wa_return rfl ?_
    exact ⟨rfl, Or.inl ⟨by omega, rfl⟩⟩
  · skip
    refine wa_iconst ?_
    refine wa_istore_n (n := 2) rfl ?_
    refine wa_fall ⟨_, rfl⟩ ?_
    have he : cnt = S 48 (-1) := by omega
    exact wJ_mono (wJ_S (mk_47_0 hC (by omega) (fun x hx => (hl x hx).trans he.symm) (mr_p0 48 cnt S) hI hrm) ⟨rfl, rfl, rfl, trivial⟩) (fun o Z q => ⟨q.1, Or.inr ⟨he, q.2⟩⟩)
theorem mk_68_2 {cnt : Int} (hC : S 68 (-1) = 2) (hc : 16 ≤ cnt ∧ cnt ≤ 8388608) (hl : ∀ x : Nat, x < 2 → S (69 + x) (-1) = cnt) (hz : mr_p 69 2 cnt S Z) (hI : gI Z) (hrm : rmR S Z) : wJ (pe_GA xs) wY0 (mS [69, 70]) (d + 2) t_X_makeRoom ((pe_at t_X_makeRoom.bl 1).getD (0, [])).2 [(0, (2, 68)), (1, (0, cnt)), (2, (0, 2))] [] Z (fun o Z => o = .inl none ∧ mr_p 69 2 cnt S Z ∧ gI Z ∧ rmR S Z) := by
  have zC : Z 68 (-1) = 2 := (hz.2 68 (-1) (by decide) (by decide) (by decide)).trans hC
  refine wa_iload_n (n := 2) rfl ?_
  refine wa_aload_n (n := 0) rfl ?_
  refine wb_alen 68 rfl (wy_pr rfl) (by rw [wt_68]; rfl) (v := 2) (zC) (fun r1 => ?_)
  refine wa_icmpge (w_rg0 (by omega) (by omega)) (w_rg0 (by omega) (by omega)) ⟨_, rfl⟩ (fun c2 => ?_) (fun c2 => ?_)
  · skip
    refine wa_return rfl ?_
    exact ⟨rfl, hz, hI, hrm⟩
  · skip
    exact absurd c2 (by omega)
theorem mk_68_1 {cnt : Int} (hC : S 68 (-1) = 2) (hc : 16 ≤ cnt ∧ cnt ≤ 8388608) (hl : ∀ x : Nat, x < 2 → S (69 + x) (-1) = cnt) (hz : mr_p 69 1 cnt S Z) (hI : gI Z) (hrm : rmR S Z) : wJ (pe_GA xs) wY0 (mS [69, 70]) (d + 2) t_X_makeRoom ((pe_at t_X_makeRoom.bl 1).getD (0, [])).2 [(0, (2, 68)), (1, (0, cnt)), (2, (0, 1))] [] Z (fun o Z => o = .inl none ∧ mr_p 69 2 cnt S Z ∧ gI Z ∧ rmR S Z) := by
  have zC : Z 68 (-1) = 2 := (hz.2 68 (-1) (by decide) (by decide) (by decide)).trans hC
  have zl : Z 70 (-1) = cnt := (hz.2 70 (-1) (by decide) (by decide) (by decide)).trans (hl 1 (by decide))
  refine wa_iload_n (n := 2) rfl ?_
  refine wa_aload_n (n := 0) rfl ?_
  refine wb_alen 68 rfl (wy_pr rfl) (by rw [wt_68]; rfl) (v := 2) (zC) (fun r1 => ?_)
  refine wa_icmpge (w_rg0 (by omega) (by omega)) (w_rg0 (by omega) (by omega)) ⟨_, rfl⟩ (fun c2 => ?_) (fun c2 => ?_)
  · skip
    exact absurd c2 (by omega)
  · skip
    refine wa_aload_n (n := 0) rfl ?_
    refine wa_iload_n (n := 2) rfl ?_
    refine wa_aload_n (n := 0) rfl ?_
    refine wa_iload_n (n := 2) rfl ?_
    refine wb_aald5 68 1 rfl rfl (wy_pr rfl) wt_68 (by rw [show _ = _ from (zC)]; omega) wl_68_1 ?_
    refine wa_iload_n (n := 1) rfl ?_
    refine wa_iconst ?_
    refine wa_imul ?_
    refine wa_cs (M2 := fun _ => False) rfl at_JA_copyOf_2 ⟨_, rfl⟩ rfl rfl ⟨(Or.inr ⟨wy_pr rfl, fun q => q⟩), trivial, trivial, trivial⟩ ⟨trivial, (Or.inr ⟨wy_pr rfl, fun q => q⟩), trivial⟩ (fun _ _ q => False.elim q) (cp_I (S := Z) (a := 70) (n := (cnt * 2)) (len := cnt) (wy_pr rfl) wt_70 (zl) ⟨by omega, by omega, by omega⟩) (fun oq3 Sq3 _ q3 => ?_)
    rcases q3 with ⟨rfl, rfl⟩
    show wJ _ _ _ _ _ _ _ _ _ _
    refine wg_as (S := Z) (len := cnt) 1 68 70 rfl rfl (by have e : Z 68 (-1) = 2 := (zC); omega) rfl rfl wt_68 (by decide) wl_68_1 (by decide +kernel) wt_70 (by decide +kernel) hI (fun q => absurd q (by decide)) (by decide) ⟨by omega, by omega⟩ (zl) (fun _ => ⟨Or.inr (by decide), Or.inl (nN_ge _)⟩) ⟨(Or.inr ⟨wy_pr rfl, mS_no rfl⟩), trivial, trivial, trivial⟩ trivial (fun Z4 g5 gi6 => ?_)
    have rm7 := rmR_gr hrm g5 (by decide +kernel) (len := cnt) (zl) ⟨by omega, by omega⟩ ⟨fun q => by first | omega | exact absurd q (by decide), by show _ ≤ (100000000 : Int); omega⟩
    refine wa_iinc rfl rfl ?_
    refine wa_goto ⟨_, rfl⟩ ?_
    rw [show ((1 + 1) : Int) = 2 from rfl]
    exact wJ_S (mk_68_2 hC hc hl (mr_ps (lo := 69) (k := 1) (by decide) hz zl g5) gi6 rm7) ⟨rfl, rfl, rfl, trivial⟩
theorem mk_68_0 {cnt : Int} (hC : S 68 (-1) = 2) (hc : 16 ≤ cnt ∧ cnt ≤ 8388608) (hl : ∀ x : Nat, x < 2 → S (69 + x) (-1) = cnt) (hz : mr_p 69 0 cnt S Z) (hI : gI Z) (hrm : rmR S Z) : wJ (pe_GA xs) wY0 (mS [69, 70]) (d + 2) t_X_makeRoom ((pe_at t_X_makeRoom.bl 1).getD (0, [])).2 [(0, (2, 68)), (1, (0, cnt)), (2, (0, 0))] [] Z (fun o Z => o = .inl none ∧ mr_p 69 2 cnt S Z ∧ gI Z ∧ rmR S Z) := by
  have zC : Z 68 (-1) = 2 := (hz.2 68 (-1) (by decide) (by decide) (by decide)).trans hC
  have zl : Z 69 (-1) = cnt := (hz.2 69 (-1) (by decide) (by decide) (by decide)).trans (hl 0 (by decide))
  refine wa_iload_n (n := 2) rfl ?_
  refine wa_aload_n (n := 0) rfl ?_
  refine wb_alen 68 rfl (wy_pr rfl) (by rw [wt_68]; rfl) (v := 2) (zC) (fun r1 => ?_)
  refine wa_icmpge (w_rg0 (by omega) (by omega)) (w_rg0 (by omega) (by omega)) ⟨_, rfl⟩ (fun c2 => ?_) (fun c2 => ?_)
  · skip
    exact absurd c2 (by omega)
  · skip
    refine wa_aload_n (n := 0) rfl ?_
    refine wa_iload_n (n := 2) rfl ?_
    refine wa_aload_n (n := 0) rfl ?_
    refine wa_iload_n (n := 2) rfl ?_
    refine wb_aald5 68 0 rfl rfl (wy_pr rfl) wt_68 (by rw [show _ = _ from (zC)]; omega) wl_68_0 ?_
    refine wa_iload_n (n := 1) rfl ?_
    refine wa_iconst ?_
    refine wa_imul ?_
    refine wa_cs (M2 := fun _ => False) rfl at_JA_copyOf_2 ⟨_, rfl⟩ rfl rfl ⟨(Or.inr ⟨wy_pr rfl, fun q => q⟩), trivial, trivial, trivial⟩ ⟨trivial, (Or.inr ⟨wy_pr rfl, fun q => q⟩), trivial⟩ (fun _ _ q => False.elim q) (cp_I (S := Z) (a := 69) (n := (cnt * 2)) (len := cnt) (wy_pr rfl) wt_69 (zl) ⟨by omega, by omega, by omega⟩) (fun oq3 Sq3 _ q3 => ?_)
    rcases q3 with ⟨rfl, rfl⟩
    show wJ _ _ _ _ _ _ _ _ _ _
    refine wg_as (S := Z) (len := cnt) 0 68 69 rfl rfl (by have e : Z 68 (-1) = 2 := (zC); omega) rfl rfl wt_68 (by decide) wl_68_0 (by decide +kernel) wt_69 (by decide +kernel) hI (fun q => absurd q (by decide)) (by decide) ⟨by omega, by omega⟩ (zl) (fun _ => ⟨Or.inr (by decide), Or.inl (nN_ge _)⟩) ⟨(Or.inr ⟨wy_pr rfl, mS_no rfl⟩), trivial, trivial, trivial⟩ trivial (fun Z4 g5 gi6 => ?_)
    have rm7 := rmR_gr hrm g5 (by decide +kernel) (len := cnt) (zl) ⟨by omega, by omega⟩ ⟨fun q => by first | omega | exact absurd q (by decide), by show _ ≤ (100000000 : Int); omega⟩
    refine wa_iinc rfl rfl ?_
    refine wa_goto ⟨_, rfl⟩ ?_
    rw [show ((0 + 1) : Int) = 1 from rfl]
    exact wJ_S (mk_68_1 hC hc hl (mr_ps (lo := 69) (k := 0) (by decide) hz zl g5) gi6 rm7) ⟨rfl, rfl, rfl, trivial⟩
theorem mkr_68 {cnt : Int} (hC : S 68 (-1) = 2) (hI : gI S) (hc : 0 ≤ cnt ∧ cnt ≤ S 69 (-1)) (hL : 16 ≤ S 69 (-1) ∧ S 69 (-1) ≤ 8388608) (hl : ∀ x : Nat, x < 2 → S (69 + x) (-1) = S 69 (-1)) : wJ (pe_GA xs) wY0 (mS [69, 70]) (d + 2) t_X_makeRoom ((pe_at t_X_makeRoom.bl 0).getD (0, [])).2 [(0, (2, 68)), (1, (0, cnt))] [] S (fun o Z => o = .inl none ∧ mr_ag 69 2 cnt S Z) := by
  have hrm := rmR_rfl S
  refine wa_iload_n (n := 1) rfl ?_
  refine wa_aload_n (n := 0) rfl ?_
  refine wa_iconst ?_
  refine wb_aald5 68 0 rfl rfl (wy_pr rfl) wt_68 (by rw [show _ = _ from (hC)]; omega) wl_68_0 ?_
  refine wb_alen 69 rfl (wy_pr rfl) (by rw [wt_69]; rfl) (v := (S 69 (-1))) rfl (fun r1 => ?_)
  refine wa_icmplt (w_rg0 (by omega) (by omega)) (w_rg0 (by omega) (by omega)) ⟨_, rfl⟩ (fun c2 => ?_) (fun c2 => ?_)
  · skip
    refine wa_return rfl ?_
    exact ⟨rfl, Or.inl ⟨by omega, rfl⟩⟩
  · skip
    refine wa_iconst ?_
    refine wa_istore_n (n := 2) rfl ?_
    refine wa_fall ⟨_, rfl⟩ ?_
    have he : cnt = S 69 (-1) := by omega
    exact wJ_mono (wJ_S (mk_68_0 hC (by omega) (fun x hx => (hl x hx).trans he.symm) (mr_p0 69 cnt S) hI hrm) ⟨rfl, rfl, rfl, trivial⟩) (fun o Z q => ⟨q.1, Or.inr ⟨he, q.2⟩⟩)
theorem mk_126_10 {cnt : Int} (hC : S 126 (-1) = 10) (hc : 16 ≤ cnt ∧ cnt ≤ 8388608) (hl : ∀ x : Nat, x < 10 → S (127 + x) (-1) = cnt) (hz : mr_p 127 10 cnt S Z) (hI : gI Z) (hrm : rmR S Z) : wJ (pe_GA xs) wY0 (mS [127, 128, 129, 130, 131, 132, 133, 134, 135, 136]) (d + 2) t_X_makeRoom ((pe_at t_X_makeRoom.bl 1).getD (0, [])).2 [(0, (2, 126)), (1, (0, cnt)), (2, (0, 10))] [] Z (fun o Z => o = .inl none ∧ mr_p 127 10 cnt S Z ∧ gI Z ∧ rmR S Z) := by
  have zC : Z 126 (-1) = 10 := (hz.2 126 (-1) (by decide) (by decide) (by decide)).trans hC
  refine wa_iload_n (n := 2) rfl ?_
  refine wa_aload_n (n := 0) rfl ?_
  refine wb_alen 126 rfl (wy_pr rfl) (by rw [wt_126]; rfl) (v := 10) (zC) (fun r1 => ?_)
  refine wa_icmpge (w_rg0 (by omega) (by omega)) (w_rg0 (by omega) (by omega)) ⟨_, rfl⟩ (fun c2 => ?_) (fun c2 => ?_)
  · skip
    refine wa_return rfl ?_
    exact ⟨rfl, hz, hI, hrm⟩
  · skip
    exact absurd c2 (by omega)
theorem mk_126_9 {cnt : Int} (hC : S 126 (-1) = 10) (hc : 16 ≤ cnt ∧ cnt ≤ 8388608) (hl : ∀ x : Nat, x < 10 → S (127 + x) (-1) = cnt) (hz : mr_p 127 9 cnt S Z) (hI : gI Z) (hrm : rmR S Z) : wJ (pe_GA xs) wY0 (mS [127, 128, 129, 130, 131, 132, 133, 134, 135, 136]) (d + 2) t_X_makeRoom ((pe_at t_X_makeRoom.bl 1).getD (0, [])).2 [(0, (2, 126)), (1, (0, cnt)), (2, (0, 9))] [] Z (fun o Z => o = .inl none ∧ mr_p 127 10 cnt S Z ∧ gI Z ∧ rmR S Z) := by
  have zC : Z 126 (-1) = 10 := (hz.2 126 (-1) (by decide) (by decide) (by decide)).trans hC
  have zl : Z 136 (-1) = cnt := (hz.2 136 (-1) (by decide) (by decide) (by decide)).trans (hl 9 (by decide))
  refine wa_iload_n (n := 2) rfl ?_
  refine wa_aload_n (n := 0) rfl ?_
  refine wb_alen 126 rfl (wy_pr rfl) (by rw [wt_126]; rfl) (v := 10) (zC) (fun r1 => ?_)
  refine wa_icmpge (w_rg0 (by omega) (by omega)) (w_rg0 (by omega) (by omega)) ⟨_, rfl⟩ (fun c2 => ?_) (fun c2 => ?_)
  · skip
    exact absurd c2 (by omega)
  · skip
    refine wa_aload_n (n := 0) rfl ?_
    refine wa_iload_n (n := 2) rfl ?_
    refine wa_aload_n (n := 0) rfl ?_
    refine wa_iload_n (n := 2) rfl ?_
    refine wb_aald5 126 9 rfl rfl (wy_pr rfl) wt_126 (by rw [show _ = _ from (zC)]; omega) wl_126_9 ?_
    refine wa_iload_n (n := 1) rfl ?_
    refine wa_iconst ?_
    refine wa_imul ?_
    refine wa_cs (M2 := fun _ => False) rfl at_JA_copyOf_2 ⟨_, rfl⟩ rfl rfl ⟨(Or.inr ⟨wy_pr rfl, fun q => q⟩), trivial, trivial, trivial⟩ ⟨trivial, (Or.inr ⟨wy_pr rfl, fun q => q⟩), trivial⟩ (fun _ _ q => False.elim q) (cp_I (S := Z) (a := 136) (n := (cnt * 2)) (len := cnt) (wy_pr rfl) wt_136 (zl) ⟨by omega, by omega, by omega⟩) (fun oq3 Sq3 _ q3 => ?_)
    rcases q3 with ⟨rfl, rfl⟩
    show wJ _ _ _ _ _ _ _ _ _ _
    refine wg_as (S := Z) (len := cnt) 9 126 136 rfl rfl (by have e : Z 126 (-1) = 10 := (zC); omega) rfl rfl wt_126 (by decide) wl_126_9 (by decide +kernel) wt_136 (by decide +kernel) hI (fun q => absurd q (by decide)) (by decide) ⟨by omega, by omega⟩ (zl) (fun _ => ⟨Or.inr (by decide), Or.inl (nN_ge _)⟩) ⟨(Or.inr ⟨wy_pr rfl, mS_no rfl⟩), trivial, trivial, trivial⟩ trivial (fun Z4 g5 gi6 => ?_)
    have rm7 := rmR_gr hrm g5 (by decide +kernel) (len := cnt) (zl) ⟨by omega, by omega⟩ ⟨fun q => by first | omega | exact absurd q (by decide), by show _ ≤ (100000000 : Int); omega⟩
    refine wa_iinc rfl rfl ?_
    refine wa_goto ⟨_, rfl⟩ ?_
    rw [show ((9 + 1) : Int) = 10 from rfl]
    exact wJ_S (mk_126_10 hC hc hl (mr_ps (lo := 127) (k := 9) (by decide) hz zl g5) gi6 rm7) ⟨rfl, rfl, rfl, trivial⟩
theorem mk_126_8 {cnt : Int} (hC : S 126 (-1) = 10) (hc : 16 ≤ cnt ∧ cnt ≤ 8388608) (hl : ∀ x : Nat, x < 10 → S (127 + x) (-1) = cnt) (hz : mr_p 127 8 cnt S Z) (hI : gI Z) (hrm : rmR S Z) : wJ (pe_GA xs) wY0 (mS [127, 128, 129, 130, 131, 132, 133, 134, 135, 136]) (d + 2) t_X_makeRoom ((pe_at t_X_makeRoom.bl 1).getD (0, [])).2 [(0, (2, 126)), (1, (0, cnt)), (2, (0, 8))] [] Z (fun o Z => o = .inl none ∧ mr_p 127 10 cnt S Z ∧ gI Z ∧ rmR S Z) := by
  have zC : Z 126 (-1) = 10 := (hz.2 126 (-1) (by decide) (by decide) (by decide)).trans hC
  have zl : Z 135 (-1) = cnt := (hz.2 135 (-1) (by decide) (by decide) (by decide)).trans (hl 8 (by decide))
  refine wa_iload_n (n := 2) rfl ?_
  refine wa_aload_n (n := 0) rfl ?_
  refine wb_alen 126 rfl (wy_pr rfl) (by rw [wt_126]; rfl) (v := 10) (zC) (fun r1 => ?_)
  refine wa_icmpge (w_rg0 (by omega) (by omega)) (w_rg0 (by omega) (by omega)) ⟨_, rfl⟩ (fun c2 => ?_) (fun c2 => ?_)
  · skip
    exact absurd c2 (by omega)
  · skip
    refine wa_aload_n (n := 0) rfl ?_
    refine wa_iload_n (n := 2) rfl ?_
    refine wa_aload_n (n := 0) rfl ?_
    refine wa_iload_n (n := 2) rfl ?_
    refine wb_aald5 126 8 rfl rfl (wy_pr rfl) wt_126 (by rw [show _ = _ from (zC)]; omega) wl_126_8 ?_
    refine wa_iload_n (n := 1) rfl ?_
    refine wa_iconst ?_
    refine wa_imul ?_
    refine wa_cs (M2 := fun _ => False) rfl at_JA_copyOf_2 ⟨_, rfl⟩ rfl rfl ⟨(Or.inr ⟨wy_pr rfl, fun q => q⟩), trivial, trivial, trivial⟩ ⟨trivial, (Or.inr ⟨wy_pr rfl, fun q => q⟩), trivial⟩ (fun _ _ q => False.elim q) (cp_I (S := Z) (a := 135) (n := (cnt * 2)) (len := cnt) (wy_pr rfl) wt_135 (zl) ⟨by omega, by omega, by omega⟩) (fun oq3 Sq3 _ q3 => ?_)
    rcases q3 with ⟨rfl, rfl⟩
    show wJ _ _ _ _ _ _ _ _ _ _
    refine wg_as (S := Z) (len := cnt) 8 126 135 rfl rfl (by have e : Z 126 (-1) = 10 := (zC); omega) rfl rfl wt_126 (by decide) wl_126_8 (by decide +kernel) wt_135 (by decide +kernel) hI (fun q => absurd q (by decide)) (by decide) ⟨by omega, by omega⟩ (zl) (fun _ => ⟨Or.inr (by decide), Or.inl (nN_ge _)⟩) ⟨(Or.inr ⟨wy_pr rfl, mS_no rfl⟩), trivial, trivial, trivial⟩ trivial (fun Z4 g5 gi6 => ?_)
    have rm7 := rmR_gr hrm g5 (by decide +kernel) (len := cnt) (zl) ⟨by omega, by omega⟩ ⟨fun q => by first | omega | exact absurd q (by decide), by show _ ≤ (100000000 : Int); omega⟩
    refine wa_iinc rfl rfl ?_
    refine wa_goto ⟨_, rfl⟩ ?_
    rw [show ((8 + 1) : Int) = 9 from rfl]
    exact wJ_S (mk_126_9 hC hc hl (mr_ps (lo := 127) (k := 8) (by decide) hz zl g5) gi6 rm7) ⟨rfl, rfl, rfl, trivial⟩
theorem mk_126_7 {cnt : Int} (hC : S 126 (-1) = 10) (hc : 16 ≤ cnt ∧ cnt ≤ 8388608) (hl : ∀ x : Nat, x < 10 → S (127 + x) (-1) = cnt) (hz : mr_p 127 7 cnt S Z) (hI : gI Z) (hrm : rmR S Z) : wJ (pe_GA xs) wY0 (mS [127, 128, 129, 130, 131, 132, 133, 134, 135, 136]) (d + 2) t_X_makeRoom ((pe_at t_X_makeRoom.bl 1).getD (0, [])).2 [(0, (2, 126)), (1, (0, cnt)), (2, (0, 7))] [] Z (fun o Z => o = .inl none ∧ mr_p 127 10 cnt S Z ∧ gI Z ∧ rmR S Z) := by
  have zC : Z 126 (-1) = 10 := (hz.2 126 (-1) (by decide) (by decide) (by decide)).trans hC
  have zl : Z 134 (-1) = cnt := (hz.2 134 (-1) (by decide) (by decide) (by decide)).trans (hl 7 (by decide))
  refine wa_iload_n (n := 2) rfl ?_
  refine wa_aload_n (n := 0) rfl ?_
  refine wb_alen 126 rfl (wy_pr rfl) (by rw [wt_126]; rfl) (v := 10) (zC) (fun r1 => ?_)
  refine wa_icmpge (w_rg0 (by omega) (by omega)) (w_rg0 (by omega) (by omega)) ⟨_, rfl⟩ (fun c2 => ?_) (fun c2 => ?_)
  · skip
    exact absurd c2 (by omega)
  · skip
    refine wa_aload_n (n := 0) rfl ?_
    refine wa_iload_n (n := 2) rfl ?_
    refine wa_aload_n (n := 0) rfl ?_
    refine wa_iload_n (n := 2) rfl ?_
    refine wb_aald5 126 7 rfl rfl (wy_pr rfl) wt_126 (by rw [show _ = _ from (zC)]; omega) wl_126_7 ?_
    refine wa_iload_n (n := 1) rfl ?_
    refine wa_iconst ?_
    refine wa_imul ?_
    refine wa_cs (M2 := fun _ => False) rfl at_JA_copyOf_2 ⟨_, rfl⟩ rfl rfl ⟨(Or.inr ⟨wy_pr rfl, fun q => q⟩), trivial, trivial, trivial⟩ ⟨trivial, (Or.inr ⟨wy_pr rfl, fun q => q⟩), trivial⟩ (fun _ _ q => False.elim q) (cp_I (S := Z) (a := 134) (n := (cnt * 2)) (len := cnt) (wy_pr rfl) wt_134 (zl) ⟨by omega, by omega, by omega⟩) (fun oq3 Sq3 _ q3 => ?_)
    rcases q3 with ⟨rfl, rfl⟩
    show wJ _ _ _ _ _ _ _ _ _ _
    refine wg_as (S := Z) (len := cnt) 7 126 134 rfl rfl (by have e : Z 126 (-1) = 10 := (zC); omega) rfl rfl wt_126 (by decide) wl_126_7 (by decide +kernel) wt_134 (by decide +kernel) hI (fun q => absurd q (by decide)) (by decide) ⟨by omega, by omega⟩ (zl) (fun _ => ⟨Or.inr (by decide), Or.inl (nN_ge _)⟩) ⟨(Or.inr ⟨wy_pr rfl, mS_no rfl⟩), trivial, trivial, trivial⟩ trivial (fun Z4 g5 gi6 => ?_)
    have rm7 := rmR_gr hrm g5 (by decide +kernel) (len := cnt) (zl) ⟨by omega, by omega⟩ ⟨fun q => by first | omega | exact absurd q (by decide), by show _ ≤ (100000000 : Int); omega⟩
    refine wa_iinc rfl rfl ?_
    refine wa_goto ⟨_, rfl⟩ ?_
    rw [show ((7 + 1) : Int) = 8 from rfl]
    exact wJ_S (mk_126_8 hC hc hl (mr_ps (lo := 127) (k := 7) (by decide) hz zl g5) gi6 rm7) ⟨rfl, rfl, rfl, trivial⟩
theorem mk_126_6 {cnt : Int} (hC : S 126 (-1) = 10) (hc : 16 ≤ cnt ∧ cnt ≤ 8388608) (hl : ∀ x : Nat, x < 10 → S (127 + x) (-1) = cnt) (hz : mr_p 127 6 cnt S Z) (hI : gI Z) (hrm : rmR S Z) : wJ (pe_GA xs) wY0 (mS [127, 128, 129, 130, 131, 132, 133, 134, 135, 136]) (d + 2) t_X_makeRoom ((pe_at t_X_makeRoom.bl 1).getD (0, [])).2 [(0, (2, 126)), (1, (0, cnt)), (2, (0, 6))] [] Z (fun o Z => o = .inl none ∧ mr_p 127 10 cnt S Z ∧ gI Z ∧ rmR S Z) := by
  have zC : Z 126 (-1) = 10 := (hz.2 126 (-1) (by decide) (by decide) (by decide)).trans hC
  have zl : Z 133 (-1) = cnt := (hz.2 133 (-1) (by decide) (by decide) (by decide)).trans (hl 6 (by decide))
  refine wa_iload_n (n := 2) rfl ?_
  refine wa_aload_n (n := 0) rfl ?_
  refine wb_alen 126 rfl (wy_pr rfl) (by rw [wt_126]; rfl) (v := 10) (zC) (fun r1 => ?_)
  refine wa_icmpge (w_rg0 (by omega) (by omega)) (w_rg0 (by omega) (by omega)) ⟨_, rfl⟩ (fun c2 => ?_) (fun c2 => ?_)
  · skip
    exact absurd c2 (by omega)
  · skip
    refine wa_aload_n (n := 0) rfl ?_
    refine wa_iload_n (n := 2) rfl ?_
    refine wa_aload_n (n := 0) rfl ?_
    refine wa_iload_n (n := 2) rfl ?_
    refine wb_aald5 126 6 rfl rfl (wy_pr rfl) wt_126 (by rw [show _ = _ from (zC)]; omega) wl_126_6 ?_
    refine wa_iload_n (n := 1) rfl ?_
    refine wa_iconst ?_
    refine wa_imul ?_
    refine wa_cs (M2 := fun _ => False) rfl at_JA_copyOf_2 ⟨_, rfl⟩ rfl rfl ⟨(Or.inr ⟨wy_pr rfl, fun q => q⟩), trivial, trivial, trivial⟩ ⟨trivial, (Or.inr ⟨wy_pr rfl, fun q => q⟩), trivial⟩ (fun _ _ q => False.elim q) (cp_I (S := Z) (a := 133) (n := (cnt * 2)) (len := cnt) (wy_pr rfl) wt_133 (zl) ⟨by omega, by omega, by omega⟩) (fun oq3 Sq3 _ q3 => ?_)
    rcases q3 with ⟨rfl, rfl⟩
    show wJ _ _ _ _ _ _ _ _ _ _
    refine wg_as (S := Z) (len := cnt) 6 126 133 rfl rfl (by have e : Z 126 (-1) = 10 := (zC); omega) rfl rfl wt_126 (by decide) wl_126_6 (by decide +kernel) wt_133 (by decide +kernel) hI (fun q => absurd q (by decide)) (by decide) ⟨by omega, by omega⟩ (zl) (fun _ => ⟨Or.inr (by decide), Or.inl (nN_ge _)⟩) ⟨(Or.inr ⟨wy_pr rfl, mS_no rfl⟩), trivial, trivial, trivial⟩ trivial (fun Z4 g5 gi6 => ?_)
    have rm7 := rmR_gr hrm g5 (by decide +kernel) (len := cnt) (zl) ⟨by omega, by omega⟩ ⟨fun q => by first | omega | exact absurd q (by decide), by show _ ≤ (100000000 : Int); omega⟩
    refine wa_iinc rfl rfl ?_
    refine wa_goto ⟨_, rfl⟩ ?_
    rw [show ((6 + 1) : Int) = 7 from rfl]
    exact wJ_S (mk_126_7 hC hc hl (mr_ps (lo := 127) (k := 6) (by decide) hz zl g5) gi6 rm7) ⟨rfl, rfl, rfl, trivial⟩
theorem mk_126_5 {cnt : Int} (hC : S 126 (-1) = 10) (hc : 16 ≤ cnt ∧ cnt ≤ 8388608) (hl : ∀ x : Nat, x < 10 → S (127 + x) (-1) = cnt) (hz : mr_p 127 5 cnt S Z) (hI : gI Z) (hrm : rmR S Z) : wJ (pe_GA xs) wY0 (mS [127, 128, 129, 130, 131, 132, 133, 134, 135, 136]) (d + 2) t_X_makeRoom ((pe_at t_X_makeRoom.bl 1).getD (0, [])).2 [(0, (2, 126)), (1, (0, cnt)), (2, (0, 5))] [] Z (fun o Z => o = .inl none ∧ mr_p 127 10 cnt S Z ∧ gI Z ∧ rmR S Z) := by
  have zC : Z 126 (-1) = 10 := (hz.2 126 (-1) (by decide) (by decide) (by decide)).trans hC
  have zl : Z 132 (-1) = cnt := (hz.2 132 (-1) (by decide) (by decide) (by decide)).trans (hl 5 (by decide))
  refine wa_iload_n (n := 2) rfl ?_
  refine wa_aload_n (n := 0) rfl ?_
  refine wb_alen 126 rfl (wy_pr rfl) (by rw [wt_126]; rfl) (v := 10) (zC) (fun r1 => ?_)
  refine wa_icmpge (w_rg0 (by omega) (by omega)) (w_rg0 (by omega) (by omega)) ⟨_, rfl⟩ (fun c2 => ?_) (fun c2 => ?_)
  · skip
    exact absurd c2 (by omega)
  · skip
    refine wa_aload_n (n := 0) rfl ?_
    refine wa_iload_n (n := 2) rfl ?_
    refine wa_aload_n (n := 0) rfl ?_
    refine wa_iload_n (n := 2) rfl ?_
    refine wb_aald5 126 5 rfl rfl (wy_pr rfl) wt_126 (by rw [show _ = _ from (zC)]; omega) wl_126_5 ?_
    refine wa_iload_n (n := 1) rfl ?_
    refine wa_iconst ?_
    refine wa_imul ?_
    refine wa_cs (M2 := fun _ => False) rfl at_JA_copyOf_2 ⟨_, rfl⟩ rfl rfl ⟨(Or.inr ⟨wy_pr rfl, fun q => q⟩), trivial, trivial, trivial⟩ ⟨trivial, (Or.inr ⟨wy_pr rfl, fun q => q⟩), trivial⟩ (fun _ _ q => False.elim q) (cp_I (S := Z) (a := 132) (n := (cnt * 2)) (len := cnt) (wy_pr rfl) wt_132 (zl) ⟨by omega, by omega, by omega⟩) (fun oq3 Sq3 _ q3 => ?_)
    rcases q3 with ⟨rfl, rfl⟩
    show wJ _ _ _ _ _ _ _ _ _ _
    refine wg_as (S := Z) (len := cnt) 5 126 132 rfl rfl (by have e : Z 126 (-1) = 10 := (zC); omega) rfl rfl wt_126 (by decide) wl_126_5 (by decide +kernel) wt_132 (by decide +kernel) hI (fun q => absurd q (by decide)) (by decide) ⟨by omega, by omega⟩ (zl) (fun _ => ⟨Or.inr (by decide), Or.inl (nN_ge _)⟩) ⟨(Or.inr ⟨wy_pr rfl, mS_no rfl⟩), trivial, trivial, trivial⟩ trivial (fun Z4 g5 gi6 => ?_)
    have rm7 := rmR_gr hrm g5 (by decide +kernel) (len := cnt) (zl) ⟨by omega, by omega⟩ ⟨fun q => by first | omega | exact absurd q (by decide), by show _ ≤ (100000000 : Int); omega⟩
    refine wa_iinc rfl rfl ?_
    refine wa_goto ⟨_, rfl⟩ ?_
    rw [show ((5 + 1) : Int) = 6 from rfl]
    exact wJ_S (mk_126_6 hC hc hl (mr_ps (lo := 127) (k := 5) (by decide) hz zl g5) gi6 rm7) ⟨rfl, rfl, rfl, trivial⟩
theorem mk_126_4 {cnt : Int} (hC : S 126 (-1) = 10) (hc : 16 ≤ cnt ∧ cnt ≤ 8388608) (hl : ∀ x : Nat, x < 10 → S (127 + x) (-1) = cnt) (hz : mr_p 127 4 cnt S Z) (hI : gI Z) (hrm : rmR S Z) : wJ (pe_GA xs) wY0 (mS [127, 128, 129, 130, 131, 132, 133, 134, 135, 136]) (d + 2) t_X_makeRoom ((pe_at t_X_makeRoom.bl 1).getD (0, [])).2 [(0, (2, 126)), (1, (0, cnt)), (2, (0, 4))] [] Z (fun o Z => o = .inl none ∧ mr_p 127 10 cnt S Z ∧ gI Z ∧ rmR S Z) := by
  have zC : Z 126 (-1) = 10 := (hz.2 126 (-1) (by decide) (by decide) (by decide)).trans hC
  have zl : Z 131 (-1) = cnt := (hz.2 131 (-1) (by decide) (by decide) (by decide)).trans (hl 4 (by decide))
  refine wa_iload_n (n := 2) rfl ?_
  refine wa_aload_n (n := 0) rfl ?_
  refine wb_alen 126 rfl (wy_pr rfl) (by rw [wt_126]; rfl) (v := 10) (zC) (fun r1 => ?_)
  refine wa_icmpge (w_rg0 (by omega) (by omega)) (w_rg0 (by omega) (by omega)) ⟨_, rfl⟩ (fun c2 => ?_) (fun c2 => ?_)
  · skip
    exact absurd c2 (by omega)
  · skip
    refine wa_aload_n (n := 0) rfl ?_
    refine wa_iload_n (n := 2) rfl ?_
    refine wa_aload_n (n := 0) rfl ?_
    refine wa_iload_n (n := 2) rfl ?_
    refine wb_aald5 126 4 rfl rfl (wy_pr rfl) wt_126 (by rw [show _ = _ from (zC)]; omega) wl_126_4 ?_
    refine wa_iload_n (n := 1) rfl ?_
    refine wa_iconst ?_
    refine wa_imul ?_
    refine wa_cs (M2 := fun _ => False) rfl at_JA_copyOf_2 ⟨_, rfl⟩ rfl rfl ⟨(Or.inr ⟨wy_pr rfl, fun q => q⟩), trivial, trivial, trivial⟩ ⟨trivial, (Or.inr ⟨wy_pr rfl, fun q => q⟩), trivial⟩ (fun _ _ q => False.elim q) (cp_I (S := Z) (a := 131) (n := (cnt * 2)) (len := cnt) (wy_pr rfl) wt_131 (zl) ⟨by omega, by omega, by omega⟩) (fun oq3 Sq3 _ q3 => ?_)
    rcases q3 with ⟨rfl, rfl⟩
    show wJ _ _ _ _ _ _ _ _ _ _
    refine wg_as (S := Z) (len := cnt) 4 126 131 rfl rfl (by have e : Z 126 (-1) = 10 := (zC); omega) rfl rfl wt_126 (by decide) wl_126_4 (by decide +kernel) wt_131 (by decide +kernel) hI (fun q => absurd q (by decide)) (by decide) ⟨by omega, by omega⟩ (zl) (fun _ => ⟨Or.inr (by decide), Or.inl (nN_ge _)⟩) ⟨(Or.inr ⟨wy_pr rfl, mS_no rfl⟩), trivial, trivial, trivial⟩ trivial (fun Z4 g5 gi6 => ?_)
    have rm7 := rmR_gr hrm g5 (by decide +kernel) (len := cnt) (zl) ⟨by omega, by omega⟩ ⟨fun q => by first | omega | exact absurd q (by decide), by show _ ≤ (100000000 : Int); omega⟩
    refine wa_iinc rfl rfl ?_
    refine wa_goto ⟨_, rfl⟩ ?_
    rw [show ((4 + 1) : Int) = 5 from rfl]
    exact wJ_S (mk_126_5 hC hc hl (mr_ps (lo := 127) (k := 4) (by decide) hz zl g5) gi6 rm7) ⟨rfl, rfl, rfl, trivial⟩
theorem mk_126_3 {cnt : Int} (hC : S 126 (-1) = 10) (hc : 16 ≤ cnt ∧ cnt ≤ 8388608) (hl : ∀ x : Nat, x < 10 → S (127 + x) (-1) = cnt) (hz : mr_p 127 3 cnt S Z) (hI : gI Z) (hrm : rmR S Z) : wJ (pe_GA xs) wY0 (mS [127, 128, 129, 130, 131, 132, 133, 134, 135, 136]) (d + 2) t_X_makeRoom ((pe_at t_X_makeRoom.bl 1).getD (0, [])).2 [(0, (2, 126)), (1, (0, cnt)), (2, (0, 3))] [] Z (fun o Z => o = .inl none ∧ mr_p 127 10 cnt S Z ∧ gI Z ∧ rmR S Z) := by
  have zC : Z 126 (-1) = 10 := (hz.2 126 (-1) (by decide) (by decide) (by decide)).trans hC
  have zl : Z 130 (-1) = cnt := (hz.2 130 (-1) (by decide) (by decide) (by decide)).trans (hl 3 (by decide))
  refine wa_iload_n (n := 2) rfl ?_
  refine wa_aload_n (n := 0) rfl ?_
  refine wb_alen 126 rfl (wy_pr rfl) (by rw [wt_126]; rfl) (v := 10) (zC) (fun r1 => ?_)
  refine wa_icmpge (w_rg0 (by omega) (by omega)) (w_rg0 (by omega) (by omega)) ⟨_, rfl⟩ (fun c2 => ?_) (fun c2 => ?_)
  · skip
    exact absurd c2 (by omega)
  · skip
    refine wa_aload_n (n := 0) rfl ?_
    refine wa_iload_n (n := 2) rfl ?_
    refine wa_aload_n (n := 0) rfl ?_
    refine wa_iload_n (n := 2) rfl ?_
    refine wb_aald5 126 3 rfl rfl (wy_pr rfl) wt_126 (by rw [show _ = _ from (zC)]; omega) wl_126_3 ?_
    refine wa_iload_n (n := 1) rfl ?_
    refine wa_iconst ?_
    refine wa_imul ?_
    refine wa_cs (M2 := fun _ => False) rfl at_JA_copyOf_2 ⟨_, rfl⟩ rfl rfl ⟨(Or.inr ⟨wy_pr rfl, fun q => q⟩), trivial, trivial, trivial⟩ ⟨trivial, (Or.inr ⟨wy_pr rfl, fun q => q⟩), trivial⟩ (fun _ _ q => False.elim q) (cp_I (S := Z) (a := 130) (n := (cnt * 2)) (len := cnt) (wy_pr rfl) wt_130 (zl) ⟨by omega, by omega, by omega⟩) (fun oq3 Sq3 _ q3 => ?_)
    rcases q3 with ⟨rfl, rfl⟩
    show wJ _ _ _ _ _ _ _ _ _ _
    refine wg_as (S := Z) (len := cnt) 3 126 130 rfl rfl (by have e : Z 126 (-1) = 10 := (zC); omega) rfl rfl wt_126 (by decide) wl_126_3 (by decide +kernel) wt_130 (by decide +kernel) hI (fun q => absurd q (by decide)) (by decide) ⟨by omega, by omega⟩ (zl) (fun _ => ⟨Or.inr (by decide), Or.inl (nN_ge _)⟩) ⟨(Or.inr ⟨wy_pr rfl, mS_no rfl⟩), trivial, trivial, trivial⟩ trivial (fun Z4 g5 gi6 => ?_)
    have rm7 := rmR_gr hrm g5 (by decide +kernel) (len := cnt) (zl) ⟨by omega, by omega⟩ ⟨fun q => by first | omega | exact absurd q (by decide), by show _ ≤ (100000000 : Int); omega⟩
    refine wa_iinc rfl rfl ?_
    refine wa_goto ⟨_, rfl⟩ ?_
    rw [show ((3 + 1) : Int) = 4 from rfl]
    exact wJ_S (mk_126_4 hC hc hl (mr_ps (lo := 127) (k := 3) (by decide) hz zl g5) gi6 rm7) ⟨rfl, rfl, rfl, trivial⟩
theorem mk_126_2 {cnt : Int} (hC : S 126 (-1) = 10) (hc : 16 ≤ cnt ∧ cnt ≤ 8388608) (hl : ∀ x : Nat, x < 10 → S (127 + x) (-1) = cnt) (hz : mr_p 127 2 cnt S Z) (hI : gI Z) (hrm : rmR S Z) : wJ (pe_GA xs) wY0 (mS [127, 128, 129, 130, 131, 132, 133, 134, 135, 136]) (d + 2) t_X_makeRoom ((pe_at t_X_makeRoom.bl 1).getD (0, [])).2 [(0, (2, 126)), (1, (0, cnt)), (2, (0, 2))] [] Z (fun o Z => o = .inl none ∧ mr_p 127 10 cnt S Z ∧ gI Z ∧ rmR S Z) := by
  have zC : Z 126 (-1) = 10 := (hz.2 126 (-1) (by decide) (by decide) (by decide)).trans hC
  have zl : Z 129 (-1) = cnt := (hz.2 129 (-1) (by decide) (by decide) (by decide)).trans (hl 2 (by decide))
  refine wa_iload_n (n := 2) rfl ?_
  refine wa_aload_n (n := 0) rfl ?_
  refine wb_alen 126 rfl (wy_pr rfl) (by rw [wt_126]; rfl) (v := 10) (zC) (fun r1 => ?_)
  refine wa_icmpge (w_rg0 (by omega) (by omega)) (w_rg0 (by omega) (by omega)) ⟨_, rfl⟩ (fun c2 => ?_) (fun c2 => ?_)
  · skip
    exact absurd c2 (by omega)
  · skip
    refine wa_aload_n (n := 0) rfl ?_
    refine wa_iload_n (n := 2) rfl ?_
    refine wa_aload_n (n := 0) rfl ?_
    refine wa_iload_n (n := 2) rfl ?_
    refine wb_aald5 126 2 rfl rfl (wy_pr rfl) wt_126 (by rw [show _ = _ from (zC)]; omega) wl_126_2 ?_
    refine wa_iload_n (n := 1) rfl ?_
    refine wa_iconst ?_
    refine wa_imul ?_
    refine wa_cs (M2 := fun _ => False) rfl at_JA_copyOf_2 ⟨_, rfl⟩ rfl rfl ⟨(Or.inr ⟨wy_pr rfl, fun q => q⟩), trivial, trivial, trivial⟩ ⟨trivial, (Or.inr ⟨wy_pr rfl, fun q => q⟩), trivial⟩ (fun _ _ q => False.elim q) (cp_I (S := Z) (a := 129) (n := (cnt * 2)) (len := cnt) (wy_pr rfl) wt_129 (zl) ⟨by omega, by omega, by omega⟩) (fun oq3 Sq3 _ q3 => ?_)
    rcases q3 with ⟨rfl, rfl⟩
    show wJ _ _ _ _ _ _ _ _ _ _
    refine wg_as (S := Z) (len := cnt) 2 126 129 rfl rfl (by have e : Z 126 (-1) = 10 := (zC); omega) rfl rfl wt_126 (by decide) wl_126_2 (by decide +kernel) wt_129 (by decide +kernel) hI (fun q => absurd q (by decide)) (by decide) ⟨by omega, by omega⟩ (zl) (fun _ => ⟨Or.inr (by decide), Or.inl (nN_ge _)⟩) ⟨(Or.inr ⟨wy_pr rfl, mS_no rfl⟩), trivial, trivial, trivial⟩ trivial (fun Z4 g5 gi6 => ?_)
    have rm7 := rmR_gr hrm g5 (by decide +kernel) (len := cnt) (zl) ⟨by omega, by omega⟩ ⟨fun q => by first | omega | exact absurd q (by decide), by show _ ≤ (100000000 : Int); omega⟩
    refine wa_iinc rfl rfl ?_
    refine wa_goto ⟨_, rfl⟩ ?_
    rw [show ((2 + 1) : Int) = 3 from rfl]
    exact wJ_S (mk_126_3 hC hc hl (mr_ps (lo := 127) (k := 2) (by decide) hz zl g5) gi6 rm7) ⟨rfl, rfl, rfl, trivial⟩
theorem mk_126_1 {cnt : Int} (hC : S 126 (-1) = 10) (hc : 16 ≤ cnt ∧ cnt ≤ 8388608) (hl : ∀ x : Nat, x < 10 → S (127 + x) (-1) = cnt) (hz : mr_p 127 1 cnt S Z) (hI : gI Z) (hrm : rmR S Z) : wJ (pe_GA xs) wY0 (mS [127, 128, 129, 130, 131, 132, 133, 134, 135, 136]) (d + 2) t_X_makeRoom ((pe_at t_X_makeRoom.bl 1).getD (0, [])).2 [(0, (2, 126)), (1, (0, cnt)), (2, (0, 1))] [] Z (fun o Z => o = .inl none ∧ mr_p 127 10 cnt S Z ∧ gI Z ∧ rmR S Z) := by
  have zC : Z 126 (-1) = 10 := (hz.2 126 (-1) (by decide) (by decide) (by decide)).trans hC
  have zl : Z 128 (-1) = cnt := (hz.2 128 (-1) (by decide) (by decide) (by decide)).trans (hl 1 (by decide))
  refine wa_iload_n (n := 2) rfl ?_
  refine wa_aload_n (n := 0) rfl ?_
  refine wb_alen 126 rfl (wy_pr rfl) (by rw [wt_126]; rfl) (v := 10) (zC) (fun r1 => ?_)
  refine wa_icmpge (w_rg0 (by omega) (by omega)) (w_rg0 (by omega) (by omega)) ⟨_, rfl⟩ (fun c2 => ?_) (fun c2 => ?_)
  · skip
    exact absurd c2 (by omega)
  · skip
    refine wa_aload_n (n := 0) rfl ?_
    refine wa_iload_n (n := 2) rfl ?_
    refine wa_aload_n (n := 0) rfl ?_
    refine wa_iload_n (n := 2) rfl ?_
    refine wb_aald5 126 1 rfl rfl (wy_pr rfl) wt_126 (by rw [show _ = _ from (zC)]; omega) wl_126_1 ?_
    refine wa_iload_n (n := 1) rfl ?_
    refine wa_iconst ?_
    refine wa_imul ?_
    refine wa_cs (M2 := fun _ => False) rfl at_JA_copyOf_2 ⟨_, rfl⟩ rfl rfl ⟨(Or.inr ⟨wy_pr rfl, fun q => q⟩), trivial, trivial, trivial⟩ ⟨trivial, (Or.inr ⟨wy_pr rfl, fun q => q⟩), trivial⟩ (fun _ _ q => False.elim q) (cp_I (S := Z) (a := 128) (n := (cnt * 2)) (len := cnt) (wy_pr rfl) wt_128 (zl) ⟨by omega, by omega, by omega⟩) (fun oq3 Sq3 _ q3 => ?_)
    rcases q3 with ⟨rfl, rfl⟩
    show wJ _ _ _ _ _ _ _ _ _ _
    refine wg_as (S := Z) (len := cnt) 1 126 128 rfl rfl (by have e : Z 126 (-1) = 10 := (zC); omega) rfl rfl wt_126 (by decide) wl_126_1 (by decide +kernel) wt_128 (by decide +kernel) hI (fun q => absurd q (by decide)) (by decide) ⟨by omega, by omega⟩ (zl) (fun _ => ⟨Or.inr (by decide), Or.inl (nN_ge _)⟩) ⟨(Or.inr ⟨wy_pr rfl, mS_no rfl⟩), trivial, trivial, trivial⟩ trivial (fun Z4 g5 gi6 => ?_)
    have rm7 := rmR_gr hrm g5 (by decide +kernel) (len := cnt) (zl) ⟨by omega, by omega⟩ ⟨fun q => by first | omega | exact absurd q (by decide), by show _ ≤ (100000000 : Int); omega⟩
    refine wa_iinc rfl rfl ?_
    refine wa_goto ⟨_, rfl⟩ ?_
    rw [show ((1 + 1) : Int) = 2 from rfl]
    exact wJ_S (mk_126_2 hC hc hl (mr_ps (lo := 127) (k := 1) (by decide) hz zl g5) gi6 rm7) ⟨rfl, rfl, rfl, trivial⟩
theorem mk_126_0 {cnt : Int} (hC : S 126 (-1) = 10) (hc : 16 ≤ cnt ∧ cnt ≤ 8388608) (hl : ∀ x : Nat, x < 10 → S (127 + x) (-1) = cnt) (hz : mr_p 127 0 cnt S Z) (hI : gI Z) (hrm : rmR S Z) : wJ (pe_GA xs) wY0 (mS [127, 128, 129, 130, 131, 132, 133, 134, 135, 136]) (d + 2) t_X_makeRoom ((pe_at t_X_makeRoom.bl 1).getD (0, [])).2 [(0, (2, 126)), (1, (0, cnt)), (2, (0, 0))] [] Z (fun o Z => o = .inl none ∧ mr_p 127 10 cnt S Z ∧ gI Z ∧ rmR S Z) := by
  have zC : Z 126 (-1) = 10 := (hz.2 126 (-1) (by decide) (by decide) (by decide)).trans hC
  have zl : Z 127 (-1) = cnt := (hz.2 127 (-1) (by decide) (by decide) (by decide)).trans (hl 0 (by decide))
  refine wa_iload_n (n := 2) rfl ?_
  refine wa_aload_n (n := 0) rfl ?_
  refine wb_alen 126 rfl (wy_pr rfl) (by rw [wt_126]; rfl) (v := 10) (zC) (fun r1 => ?_)
  refine wa_icmpge (w_rg0 (by omega) (by omega)) (w_rg0 (by omega) (by omega)) ⟨_, rfl⟩ (fun c2 => ?_) (fun c2 => ?_)
  · skip
    exact absurd c2 (by omega)
  · skip
    refine wa_aload_n (n := 0) rfl ?_
    refine wa_iload_n (n := 2) rfl ?_
    refine wa_aload_n (n := 0) rfl ?_
    refine wa_iload_n (n := 2) rfl ?_
    refine wb_aald5 126 0 rfl rfl (wy_pr rfl) wt_126 (by rw [show _ = _ from (zC)]; omega) wl_126_0 ?_
    refine wa_iload_n (n := 1) rfl ?_
    refine wa_iconst ?_
    refine wa_imul ?_
    refine wa_cs (M2 := fun _ => False) rfl at_JA_copyOf_2 ⟨_, rfl⟩ rfl rfl ⟨(Or.inr ⟨wy_pr rfl, fun q => q⟩), trivial, trivial, trivial⟩ ⟨trivial, (Or.inr ⟨wy_pr rfl, fun q => q⟩), trivial⟩ (fun _ _ q => False.elim q) (cp_I (S := Z) (a := 127) (n := (cnt * 2)) (len := cnt) (wy_pr rfl) wt_127 (zl) ⟨by omega, by omega, by omega⟩) (fun oq3 Sq3 _ q3 => ?_)
    rcases q3 with ⟨rfl, rfl⟩
    show wJ _ _ _ _ _ _ _ _ _ _
    refine wg_as (S := Z) (len := cnt) 0 126 127 rfl rfl (by have e : Z 126 (-1) = 10 := (zC); omega) rfl rfl wt_126 (by decide) wl_126_0 (by decide +kernel) wt_127 (by decide +kernel) hI (fun q => absurd q (by decide)) (by decide) ⟨by omega, by omega⟩ (zl) (fun _ => ⟨Or.inr (by decide), Or.inl (nN_ge _)⟩) ⟨(Or.inr ⟨wy_pr rfl, mS_no rfl⟩), trivial, trivial, trivial⟩ trivial (fun Z4 g5 gi6 => ?_)
    have rm7 := rmR_gr hrm g5 (by decide +kernel) (len := cnt) (zl) ⟨by omega, by omega⟩ ⟨fun q => by first | omega | exact absurd q (by decide), by show _ ≤ (100000000 : Int); omega⟩
    refine wa_iinc rfl rfl ?_
    refine wa_goto ⟨_, rfl⟩ ?_
    rw [show ((0 + 1) : Int) = 1 from rfl]
    exact wJ_S (mk_126_1 hC hc hl (mr_ps (lo := 127) (k := 0) (by decide) hz zl g5) gi6 rm7) ⟨rfl, rfl, rfl, trivial⟩
theorem mkr_126 {cnt : Int} (hC : S 126 (-1) = 10) (hI : gI S) (hc : 0 ≤ cnt ∧ cnt ≤ S 127 (-1)) (hL : 16 ≤ S 127 (-1) ∧ S 127 (-1) ≤ 8388608) (hl : ∀ x : Nat, x < 10 → S (127 + x) (-1) = S 127 (-1)) : wJ (pe_GA xs) wY0 (mS [127, 128, 129, 130, 131, 132, 133, 134, 135, 136]) (d + 2) t_X_makeRoom ((pe_at t_X_makeRoom.bl 0).getD (0, [])).2 [(0, (2, 126)), (1, (0, cnt))] [] S (fun o Z => o = .inl none ∧ mr_ag 127 10 cnt S Z) := by
  have hrm := rmR_rfl S
  refine wa_iload_n (n := 1) rfl ?_
  refine wa_aload_n (n := 0) rfl ?_
  refine wa_iconst ?_
  refine wb_aald5 126 0 rfl rfl (wy_pr rfl) wt_126 (by rw [show _ = _ from (hC)]; omega) wl_126_0 ?_
  refine wb_alen 127 rfl (wy_pr rfl) (by rw [wt_127]; rfl) (v := (S 127 (-1))) rfl (fun r1 => ?_)
  refine wa_icmplt (w_rg0 (by omega) (by omega)) (w_rg0 (by omega) (by omega)) ⟨_, rfl⟩ (fun c2 => ?_) (fun c2 => ?_)
  · skip
    refine wa_return rfl ?_
    exact ⟨rfl, Or.inl ⟨by omega, rfl⟩⟩
  · skip
    refine wa_iconst ?_
    refine wa_istore_n (n := 2) rfl ?_
    refine wa_fall ⟨_, rfl⟩ ?_
    have he : cnt = S 127 (-1) := by omega
    exact wJ_mono (wJ_S (mk_126_0 hC (by omega) (fun x hx => (hl x hx).trans he.symm) (mr_p0 127 cnt S) hI hrm) ⟨rfl, rfl, rfl, trivial⟩) (fun o Z q => ⟨q.1, Or.inr ⟨he, q.2⟩⟩)
theorem mk_137_2 {cnt : Int} (hC : S 137 (-1) = 2) (hc : 16 ≤ cnt ∧ cnt ≤ 8388608) (hl : ∀ x : Nat, x < 2 → S (138 + x) (-1) = cnt) (hz : mr_p 138 2 cnt S Z) (hI : gI Z) (hrm : rmR S Z) : wJ (pe_GA xs) wY0 (mS [138, 139]) (d + 2) t_X_makeRoom ((pe_at t_X_makeRoom.bl 1).getD (0, [])).2 [(0, (2, 137)), (1, (0, cnt)), (2, (0, 2))] [] Z (fun o Z => o = .inl none ∧ mr_p 138 2 cnt S Z ∧ gI Z ∧ rmR S Z) := by
  have zC : Z 137 (-1) = 2 := (hz.2 137 (-1) (by decide) (by decide) (by decide)).trans hC
  refine wa_iload_n (n := 2) rfl ?_
  refine wa_aload_n (n := 0) rfl ?_
  refine wb_alen 137 rfl (wy_pr rfl) (by rw [wt_137]; rfl) (v := 2) (zC) (fun r1 => ?_)
  refine wa_icmpge (w_rg0 (by omega) (by omega)) (w_rg0 (by omega) (by omega)) ⟨_, rfl⟩ (fun c2 => ?_) (fun c2 => ?_)
  · skip
    refine wa_return rfl ?_
    exact ⟨rfl, hz, hI, hrm⟩
  · skip
    exact absurd c2 (by omega)
theorem mk_137_1 {cnt : Int} (hC : S 137 (-1) = 2) (hc : 16 ≤ cnt ∧ cnt ≤ 8388608) (hl : ∀ x : Nat, x < 2 → S (138 + x) (-1) = cnt) (hz : mr_p 138 1 cnt S Z) (hI : gI Z) (hrm : rmR S Z) : wJ (pe_GA xs) wY0 (mS [138, 139]) (d + 2) t_X_makeRoom ((pe_at t_X_makeRoom.bl 1).getD (0, [])).2 [(0, (2, 137)), (1, (0, cnt)), (2, (0, 1))] [] Z (fun o Z => o = .inl none ∧ mr_p 138 2 cnt S Z ∧ gI Z ∧ rmR S Z) := by
  have zC : Z 137 (-1) = 2 := (hz.2 137 (-1) (by decide) (by decide) (by decide)).trans hC
  have zl : Z 139 (-1) = cnt := (hz.2 139 (-1) (by decide) (by decide) (by decide)).trans (hl 1 (by decide))
  refine wa_iload_n (n := 2) rfl ?_
  refine wa_aload_n (n := 0) rfl ?_
  refine wb_alen 137 rfl (wy_pr rfl) (by rw [wt_137]; rfl) (v := 2) (zC) (fun r1 => ?_)
  refine wa_icmpge (w_rg0 (by omega) (by omega)) (w_rg0 (by omega) (by omega)) ⟨_, rfl⟩ (fun c2 => ?_) (fun c2 => ?_)
  · skip
    exact absurd c2 (by omega)
  · skip
    refine wa_aload_n (n := 0) rfl ?_
    refine wa_iload_n (n := 2) rfl ?_
    refine wa_aload_n (n := 0) rfl ?_
    refine wa_iload_n (n := 2) rfl ?_
    refine wb_aald5 137 1 rfl rfl (wy_pr rfl) wt_137 (by rw [show _ = _ from (zC)]; omega) wl_137_1 ?_
    refine wa_iload_n (n := 1) rfl ?_
    refine wa_iconst ?_
    refine wa_imul ?_
    refine wa_cs (M2 := fun _ => False) rfl at_JA_copyOf_2 ⟨_, rfl⟩ rfl rfl ⟨(Or.inr ⟨wy_pr rfl, fun q => q⟩), trivial, trivial, trivial⟩ ⟨trivial, (Or.inr ⟨wy_pr rfl, fun q => q⟩), trivial⟩ (fun _ _ q => False.elim q) (cp_I (S := Z) (a := 139) (n := (cnt * 2)) (len := cnt) (wy_pr rfl) wt_139 (zl) ⟨by omega, by omega, by omega⟩) (fun oq3 Sq3 _ q3 => ?_)
    rcases q3 with ⟨rfl, rfl⟩
    show wJ _ _ _ _ _ _ _ _ _ _
    refine wg_as (S := Z) (len := cnt) 1 137 139 rfl rfl (by have e : Z 137 (-1) = 2 := (zC); omega) rfl rfl wt_137 (by decide) wl_137_1 (by decide +kernel) wt_139 (by decide +kernel) hI (fun q => absurd q (by decide)) (by decide) ⟨by omega, by omega⟩ (zl) (fun _ => ⟨Or.inr (by decide), Or.inl (nN_ge _)⟩) ⟨(Or.inr ⟨wy_pr rfl, mS_no rfl⟩), trivial, trivial, trivial⟩ trivial (fun Z4 g5 gi6 => ?_)
    have rm7 := rmR_gr hrm g5 (by decide +kernel) (len := cnt) (zl) ⟨by omega, by omega⟩ ⟨fun q => by first | omega | exact absurd q (by decide), by show _ ≤ (100000000 : Int); omega⟩
    refine wa_iinc rfl rfl ?_
    refine wa_goto ⟨_, rfl⟩ ?_
    rw [show ((1 + 1) : Int) = 2 from rfl]
    exact wJ_S (mk_137_2 hC hc hl (mr_ps (lo := 138) (k := 1) (by decide) hz zl g5) gi6 rm7) ⟨rfl, rfl, rfl, trivial⟩
theorem mk_137_0 {cnt : Int} (hC : S 137 (-1) = 2) (hc : 16 ≤ cnt ∧ cnt ≤ 8388608) (hl : ∀ x : Nat, x < 2 → S (138 + x) (-1) = cnt) (hz : mr_p 138 0 cnt S Z) (hI : gI Z) (hrm : rmR S Z) : wJ (pe_GA xs) wY0 (mS [138, 139]) (d + 2) t_X_makeRoom ((pe_at t_X_makeRoom.bl 1).getD (0, [])).2 [(0, (2, 137)), (1, (0, cnt)), (2, (0, 0))] [] Z (fun o Z => o = .inl none ∧ mr_p 138 2 cnt S Z ∧ gI Z ∧ rmR S Z) := by
  have zC : Z 137 (-1) = 2 := (hz.2 137 (-1) (by decide) (by decide) (by decide)).trans hC
  have zl : Z 138 (-1) = cnt := (hz.2 138 (-1) (by decide) (by decide) (by decide)).trans (hl 0 (by decide))
  refine wa_iload_n (n := 2) rfl ?_
  refine wa_aload_n (n := 0) rfl ?_
  refine wb_alen 137 rfl (wy_pr rfl) (by rw [wt_137]; rfl) (v := 2) (zC) (fun r1 => ?_)
  refine wa_icmpge (w_rg0 (by omega) (by omega)) (w_rg0 (by omega) (by omega)) ⟨_, rfl⟩ (fun c2 => ?_) (fun c2 => ?_)
  · skip
    exact absurd c2 (by omega)
  · skip
    refine wa_aload_n (n := 0) rfl ?_
    refine wa_iload_n (n := 2) rfl ?_
    refine wa_aload_n (n := 0) rfl ?_
    refine wa_iload_n (n := 2) rfl ?_
    refine wb_aald5 137 0 rfl rfl (wy_pr rfl) wt_137 (by rw [show _ = _ from (zC)]; omega) wl_137_0 ?_
    refine wa_iload_n (n := 1) rfl ?_
    refine wa_iconst ?_
    refine wa_imul ?_
    refine wa_cs (M2 := fun _ => False) rfl at_JA_copyOf_2 ⟨_, rfl⟩ rfl rfl ⟨(Or.inr ⟨wy_pr rfl, fun q => q⟩), trivial, trivial, trivial⟩ ⟨trivial, (Or.inr ⟨wy_pr rfl, fun q => q⟩), trivial⟩ (fun _ _ q => False.elim q) (cp_I (S := Z) (a := 138) (n := (cnt * 2)) (len := cnt) (wy_pr rfl) wt_138 (zl) ⟨by omega, by omega, by omega⟩) (fun oq3 Sq3 _ q3 => ?_)
    rcases q3 with ⟨rfl, rfl⟩
    show wJ _ _ _ _ _ _ _ _ _ _
    refine wg_as (S := Z) (len := cnt) 0 137 138 rfl rfl (by have e : Z 137 (-1) = 2 := (zC); omega) rfl rfl wt_137 (by decide) wl_137_0 (by decide +kernel) wt_138 (by decide +kernel) hI (fun q => absurd q (by decide)) (by decide) ⟨by omega, by omega⟩ (zl) (fun _ => ⟨Or.inr (by decide), Or.inl (nN_ge _)⟩) ⟨(Or.inr ⟨wy_pr rfl, mS_no rfl⟩), trivial, trivial, trivial⟩ trivial (fun Z4 g5 gi6 => ?_)
    have rm7 := rmR_gr hrm g5 (by decide +kernel) (len := cnt) (zl) ⟨by omega, by omega⟩ ⟨fun q => by first | omega | exact absurd q (by decide), by show _ ≤ (100000000 : Int); omega⟩
    refine wa_iinc rfl rfl ?_
    refine wa_goto ⟨_, rfl⟩ ?_
    rw [show ((0 + 1) : Int) = 1 from rfl]
    exact wJ_S (mk_137_1 hC hc hl (mr_ps (lo := 138) (k := 0) (by decide) hz zl g5) gi6 rm7) ⟨rfl, rfl, rfl, trivial⟩
theorem mkr_137 {cnt : Int} (hC : S 137 (-1) = 2) (hI : gI S) (hc : 0 ≤ cnt ∧ cnt ≤ S 138 (-1)) (hL : 16 ≤ S 138 (-1) ∧ S 138 (-1) ≤ 8388608) (hl : ∀ x : Nat, x < 2 → S (138 + x) (-1) = S 138 (-1)) : wJ (pe_GA xs) wY0 (mS [138, 139]) (d + 2) t_X_makeRoom ((pe_at t_X_makeRoom.bl 0).getD (0, [])).2 [(0, (2, 137)), (1, (0, cnt))] [] S (fun o Z => o = .inl none ∧ mr_ag 138 2 cnt S Z) := by
  have hrm := rmR_rfl S
  refine wa_iload_n (n := 1) rfl ?_
  refine wa_aload_n (n := 0) rfl ?_
  refine wa_iconst ?_
  refine wb_aald5 137 0 rfl rfl (wy_pr rfl) wt_137 (by rw [show _ = _ from (hC)]; omega) wl_137_0 ?_
  refine wb_alen 138 rfl (wy_pr rfl) (by rw [wt_138]; rfl) (v := (S 138 (-1))) rfl (fun r1 => ?_)
  refine wa_icmplt (w_rg0 (by omega) (by omega)) (w_rg0 (by omega) (by omega)) ⟨_, rfl⟩ (fun c2 => ?_) (fun c2 => ?_)
  · skip
    refine wa_return rfl ?_
    exact ⟨rfl, Or.inl ⟨by omega, rfl⟩⟩
  · skip
    refine wa_iconst ?_
    refine wa_istore_n (n := 2) rfl ?_
    refine wa_fall ⟨_, rfl⟩ ?_
    have he : cnt = S 138 (-1) := by omega
    exact wJ_mono (wJ_S (mk_137_0 hC (by omega) (fun x hx => (hl x hx).trans he.symm) (mr_p0 138 cnt S) hI hrm) ⟨rfl, rfl, rfl, trivial⟩) (fun o Z q => ⟨q.1, Or.inr ⟨he, q.2⟩⟩)
theorem mk_143_5 {cnt : Int} (hC : S 143 (-1) = 5) (hc : 16 ≤ cnt ∧ cnt ≤ 8388608) (hl : ∀ x : Nat, x < 5 → S (144 + x) (-1) = cnt) (hz : mr_p 144 5 cnt S Z) (hI : gI Z) (hrm : rmR S Z) : wJ (pe_GA xs) wY0 (mS [144, 145, 146, 147, 148]) (d + 2) t_X_makeRoom ((pe_at t_X_makeRoom.bl 1).getD (0, [])).2 [(0, (2, 143)), (1, (0, cnt)), (2, (0, 5))] [] Z (fun o Z => o = .inl none ∧ mr_p 144 5 cnt S Z ∧ gI Z ∧ rmR S Z) := by
  have zC : Z 143 (-1) = 5 := (hz.2 143 (-1) (by decide) (by decide) (by decide)).trans hC
  refine wa_iload_n (n := 2) rfl ?_
  refine wa_aload_n (n := 0) rfl ?_
  refine wb_alen 143 rfl (wy_pr rfl) (by rw [wt_143]; rfl) (v := 5) (zC) (fun r1 => ?_)
  refine wa_icmpge (w_rg0 (by omega) (by omega)) (w_rg0 (by omega) (by omega)) ⟨_, rfl⟩ (fun c2 => ?_) (fun c2 => ?_)
  · skip
    refine wa_return rfl ?_
    exact ⟨rfl, hz, hI, hrm⟩
  · skip
    exact absurd c2 (by omega)
theorem mk_143_4 {cnt : Int} (hC : S 143 (-1) = 5) (hc : 16 ≤ cnt ∧ cnt ≤ 8388608) (hl : ∀ x : Nat, x < 5 → S (144 + x) (-1) = cnt) (hz : mr_p 144 4 cnt S Z) (hI : gI Z) (hrm : rmR S Z) : wJ (pe_GA xs) wY0 (mS [144, 145, 146, 147, 148]) (d + 2) t_X_makeRoom ((pe_at t_X_makeRoom.bl 1).getD (0, [])).2 [(0, (2, 143)), (1, (0, cnt)), (2, (0, 4))] [] Z (fun o Z => o = .inl none ∧ mr_p 144 5 cnt S Z ∧ gI Z ∧ rmR S Z) := by
  have zC : Z 143 (-1) = 5 := (hz.2 143 (-1) (by decide) (by decide) (by decide)).trans hC
  have zl : Z 148 (-1) = cnt := (hz.2 148 (-1) (by decide) (by decide) (by decide)).trans (hl 4 (by decide))
  refine wa_iload_n (n := 2) rfl ?_
  refine wa_aload_n (n := 0) rfl ?_
  refine wb_alen 143 rfl (wy_pr rfl) (by rw [wt_143]; rfl) (v := 5) (zC) (fun r1 => ?_)
  refine wa_icmpge (w_rg0 (by omega) (by omega)) (w_rg0 (by omega) (by omega)) ⟨_, rfl⟩ (fun c2 => ?_) (fun c2 => ?_)
  · skip
    exact absurd c2 (by omega)
  · skip
    refine wa_aload_n (n := 0) rfl ?_
    refine wa_iload_n (n := 2) rfl ?_
    refine wa_aload_n (n := 0) rfl ?_
    refine wa_iload_n (n := 2) rfl ?_
    refine wb_aald5 143 4 rfl rfl (wy_pr rfl) wt_143 (by rw [show _ = _ from (zC)]; omega) wl_143_4 ?_
    refine wa_iload_n (n := 1) rfl ?_
    refine wa_iconst ?_
    refine wa_imul ?_
    refine wa_cs (M2 := fun _ => False) rfl at_JA_copyOf_2 ⟨_, rfl⟩ rfl rfl ⟨(Or.inr ⟨wy_pr rfl, fun q => q⟩), trivial, trivial, trivial⟩ ⟨trivial, (Or.inr ⟨wy_pr rfl, fun q => q⟩), trivial⟩ (fun _ _ q => False.elim q) (cp_I (S := Z) (a := 148) (n := (cnt * 2)) (len := cnt) (wy_pr rfl) wt_148 (zl) ⟨by omega, by omega, by omega⟩) (fun oq3 Sq3 _ q3 => ?_)
    rcases q3 with ⟨rfl, rfl⟩
    show wJ _ _ _ _ _ _ _ _ _ _
    refine wg_as (S := Z) (len := cnt) 4 143 148 rfl rfl (by have e : Z 143 (-1) = 5 := (zC); omega) rfl rfl wt_143 (by decide) wl_143_4 (by decide +kernel) wt_148 (by decide +kernel) hI (fun q => absurd q (by decide)) (by decide) ⟨by omega, by omega⟩ (zl) (fun _ => ⟨Or.inr (by decide), Or.inl (nN_ge _)⟩) ⟨(Or.inr ⟨wy_pr rfl, mS_no rfl⟩), trivial, trivial, trivial⟩ trivial (fun Z4 g5 gi6 => ?_)
    have rm7 := rmR_gr hrm g5 (by decide +kernel) (len := cnt) (zl) ⟨by omega, by omega⟩ ⟨fun q => by first | omega | exact absurd q (by decide), by show _ ≤ (100000000 : Int); omega⟩
    refine wa_iinc rfl rfl ?_
    refine wa_goto ⟨_, rfl⟩ ?_
    rw [show ((4 + 1) : Int) = 5 from rfl]
    exact wJ_S (mk_143_5 hC hc hl (mr_ps (lo := 144) (k := 4) (by decide) hz zl g5) gi6 rm7) ⟨rfl, rfl, rfl, trivial⟩
theorem mk_143_3 {cnt : Int} (hC : S 143 (-1) = 5) (hc : 16 ≤ cnt ∧ cnt ≤ 8388608) (hl : ∀ x : Nat, x < 5 → S (144 + x) (-1) = cnt) (hz : mr_p 144 3 cnt S Z) (hI : gI Z) (hrm : rmR S Z) : wJ (pe_GA xs) wY0 (mS [144, 145, 146, 147, 148]) (d + 2) t_X_makeRoom ((pe_at t_X_makeRoom.bl 1).getD (0, [])).2 [(0, (2, 143)), (1, (0, cnt)), (2, (0, 3))] [] Z (fun o Z => o = .inl none ∧ mr_p 144 5 cnt S Z ∧ gI Z ∧ rmR S Z) := by
  have zC : Z 143 (-1) = 5 := (hz.2 143 (-1) (by decide) (by decide) (by decide)).trans hC
  have zl : Z 147 (-1) = cnt := (hz.2 147 (-1) (by decide) (by decide) (by decide)).trans (hl 3 (by decide))
  refine wa_iload_n (n := 2) rfl ?_
  refine wa_aload_n (n := 0) rfl ?_
  refine wb_alen 143 rfl (wy_pr rfl) (by rw [wt_143]; rfl) (v := 5) (zC) (fun r1 => ?_)
  refine wa_icmpge (w_rg0 (by omega) (by omega)) (w_rg0 (by omega) (by omega)) ⟨_, rfl⟩ (fun c2 => ?_) (fun c2 => ?_)
  · skip
    exact absurd c2 (by omega)
  · skip
    refine wa_aload_n (n := 0) rfl ?_
    refine wa_iload_n (n := 2) rfl ?_
    refine wa_aload_n (n := 0) rfl ?_
    refine wa_iload_n (n := 2) rfl ?_
    refine wb_aald5 143 3 rfl rfl (wy_pr rfl) wt_143 (by rw [show _ = _ from (zC)]; omega) wl_143_3 ?_
    refine wa_iload_n (n := 1) rfl ?_
    refine wa_iconst ?_
    refine wa_imul ?_
    refine wa_cs (M2 := fun _ => False) rfl at_JA_copyOf_2 ⟨_, rfl⟩ rfl rfl ⟨(Or.inr ⟨wy_pr rfl, fun q => q⟩), trivial, trivial, trivial⟩ ⟨trivial, (Or.inr ⟨wy_pr rfl, fun q => q⟩), trivial⟩ (fun _ _ q => False.elim q) (cp_I (S := Z) (a := 147) (n := (cnt * 2)) (len := cnt) (wy_pr rfl) wt_147 (zl) ⟨by omega, by omega, by omega⟩) (fun oq3 Sq3 _ q3 => ?_)
    rcases q3 with ⟨rfl, rfl⟩
    show wJ _ _ _ _ _ _ _ _ _ _
    refine wg_as (S := Z) (len := cnt) 3 143 147 rfl rfl (by have e : Z 143 (-1) = 5 := (zC); omega) rfl rfl wt_143 (by decide) wl_143_3 (by decide +kernel) wt_147 (by decide +kernel) hI (fun q => absurd q (by decide)) (by decide) ⟨by omega, by omega⟩ (zl) (fun _ => ⟨Or.inr (by decide), Or.inl (nN_ge _)⟩) ⟨(Or.inr ⟨wy_pr rfl, mS_no rfl⟩), trivial, trivial, trivial⟩ trivial (fun Z4 g5 gi6 => ?_)
    have rm7 := rmR_gr hrm g5 (by decide +kernel) (len := cnt) (zl) ⟨by omega, by omega⟩ ⟨fun q => by first | omega | exact absurd q (by decide), by show _ ≤ (100000000 : Int); omega⟩
    refine wa_iinc rfl rfl ?_
    refine wa_goto ⟨_, rfl⟩ ?_
    rw [show ((3 + 1) : Int) = 4 from rfl]
    exact wJ_S (mk_143_4 hC hc hl (mr_ps (lo := 144) (k := 3) (by decide) hz zl g5) gi6 rm7) ⟨rfl, rfl, rfl, trivial⟩
theorem mk_143_2 {cnt : Int} (hC : S 143 (-1) = 5) (hc : 16 ≤ cnt ∧ cnt ≤ 8388608) (hl : ∀ x : Nat, x < 5 → S (144 + x) (-1) = cnt) (hz : mr_p 144 2 cnt S Z) (hI : gI Z) (hrm : rmR S Z) : wJ (pe_GA xs) wY0 (mS [144, 145, 146, 147, 148]) (d + 2) t_X_makeRoom ((pe_at t_X_makeRoom.bl 1).getD (0, [])).2 [(0, (2, 143)), (1, (0, cnt)), (2, (0, 2))] [] Z (fun o Z => o = .inl none ∧ mr_p 144 5 cnt S Z ∧ gI Z ∧ rmR S Z) := by
  have zC : Z 143 (-1) = 5 := (hz.2 143 (-1) (by decide) (by decide) (by decide)).trans hC
  have zl : Z 146 (-1) = cnt := (hz.2 146 (-1) (by decide) (by decide) (by decide)).trans (hl 2 (by decide))
  refine wa_iload_n (n := 2) rfl ?_
  refine wa_aload_n (n := 0) rfl ?_
  refine wb_alen 143 rfl (wy_pr rfl) (by rw [wt_143]; rfl) (v := 5) (zC) (fun r1 => ?_)
  refine wa_icmpge (w_rg0 (by omega) (by omega)) (w_rg0 (by omega) (by omega)) ⟨_, rfl⟩ (fun c2 => ?_) (fun c2 => ?_)
  · skip
    exact absurd c2 (by omega)
  · skip
    refine wa_aload_n (n := 0) rfl ?_
    refine wa_iload_n (n := 2) rfl ?_
    refine wa_aload_n (n := 0) rfl ?_
    refine wa_iload_n (n := 2) rfl ?_
    refine wb_aald5 143 2 rfl rfl (wy_pr rfl) wt_143 (by rw [show _ = _ from (zC)]; omega) wl_143_2 ?_
    refine wa_iload_n (n := 1) rfl ?_
    refine wa_iconst ?_
    refine wa_imul ?_
    refine wa_cs (M2 := fun _ => False) rfl at_JA_copyOf_2 ⟨_, rfl⟩ rfl rfl ⟨(Or.inr ⟨wy_pr rfl, fun q => q⟩), trivial, trivial, trivial⟩ ⟨trivial, (Or.inr ⟨wy_pr rfl, fun q => q⟩), trivial⟩ (fun _ _ q => False.elim q) (cp_I (S := Z) (a := 146) (n := (cnt * 2)) (len := cnt) (wy_pr rfl) wt_146 (zl) ⟨by omega, by omega, by omega⟩) (fun oq3 Sq3 _ q3 => ?_)
    rcases q3 with ⟨rfl, rfl⟩
    show wJ _ _ _ _ _ _ _ _ _ _
    refine wg_as (S := Z) (len := cnt) 2 143 146 rfl rfl (by have e : Z 143 (-1) = 5 := (zC); omega) rfl rfl wt_143 (by decide) wl_143_2 (by decide +kernel) wt_146 (by decide +kernel) hI (fun q => absurd q (by decide)) (by decide) ⟨by omega, by omega⟩ (zl) (fun _ => ⟨Or.inr (by decide), Or.inl (nN_ge _)⟩) ⟨(Or.inr ⟨wy_pr rfl, mS_no rfl⟩), trivial, trivial, trivial⟩ trivial (fun Z4 g5 gi6 => ?_)
    have rm7 := rmR_gr hrm g5 (by decide +kernel) (len := cnt) (zl) ⟨by omega, by omega⟩ ⟨fun q => by first | omega | exact absurd q (by decide), by show _ ≤ (100000000 : Int); omega⟩
    refine wa_iinc rfl rfl ?_
    refine wa_goto ⟨_, rfl⟩ ?_
    rw [show ((2 + 1) : Int) = 3 from rfl]
    exact wJ_S (mk_143_3 hC hc hl (mr_ps (lo := 144) (k := 2) (by decide) hz zl g5) gi6 rm7) ⟨rfl, rfl, rfl, trivial⟩
theorem mk_143_1 {cnt : Int} (hC : S 143 (-1) = 5) (hc : 16 ≤ cnt ∧ cnt ≤ 8388608) (hl : ∀ x : Nat, x < 5 → S (144 + x) (-1) = cnt) (hz : mr_p 144 1 cnt S Z) (hI : gI Z) (hrm : rmR S Z) : wJ (pe_GA xs) wY0 (mS [144, 145, 146, 147, 148]) (d + 2) t_X_makeRoom ((pe_at t_X_makeRoom.bl 1).getD (0, [])).2 [(0, (2, 143)), (1, (0, cnt)), (2, (0, 1))] [] Z (fun o Z => o = .inl none ∧ mr_p 144 5 cnt S Z ∧ gI Z ∧ rmR S Z) := by
  have zC : Z 143 (-1) = 5 := (hz.2 143 (-1) (by decide) (by decide) (by decide)).trans hC
  have zl : Z 145 (-1) = cnt := (hz.2 145 (-1) (by decide) (by decide) (by decide)).trans (hl 1 (by decide))
  refine wa_iload_n (n := 2) rfl ?_
  refine wa_aload_n (n := 0) rfl ?_
  refine wb_alen 143 rfl (wy_pr rfl) (by rw [wt_143]; rfl) (v := 5) (zC) (fun r1 => ?_)
  refine wa_icmpge (w_rg0 (by omega) (by omega)) (w_rg0 (by omega) (by omega)) ⟨_, rfl⟩ (fun c2 => ?_) (fun c2 => ?_)
  · skip
    exact absurd c2 (by omega)
  · skip
    refine wa_aload_n (n := 0) rfl ?_
    refine wa_iload_n (n := 2) rfl ?_
    refine wa_aload_n (n := 0) rfl ?_
    refine wa_iload_n (n := 2) rfl ?_
    refine wb_aald5 143 1 rfl rfl (wy_pr rfl) wt_143 (by rw [show _ = _ from (zC)]; omega) wl_143_1 ?_
    refine wa_iload_n (n := 1) rfl ?_
    refine wa_iconst ?_
    refine wa_imul ?_
    refine wa_cs (M2 := fun _ => False) rfl at_JA_copyOf_2 ⟨_, rfl⟩ rfl rfl ⟨(Or.inr ⟨wy_pr rfl, fun q => q⟩), trivial, trivial, trivial⟩ ⟨trivial, (Or.inr ⟨wy_pr rfl, fun q => q⟩), trivial⟩ (fun _ _ q => False.elim q) (cp_I (S := Z) (a := 145) (n := (cnt * 2)) (len := cnt) (wy_pr rfl) wt_145 (zl) ⟨by omega, by omega, by omega⟩) (fun oq3 Sq3 _ q3 => ?_)
    rcases q3 with ⟨rfl, rfl⟩
    show wJ _ _ _ _ _ _ _ _ _ _
    refine wg_as (S := Z) (len := cnt) 1 143 145 rfl rfl (by have e : Z 143 (-1) = 5 := (zC); omega) rfl rfl wt_143 (by decide) wl_143_1 (by decide +kernel) wt_145 (by decide +kernel) hI (fun q => absurd q (by decide)) (by decide) ⟨by omega, by omega⟩ (zl) (fun _ => ⟨Or.inr (by decide), Or.inl (nN_ge _)⟩) ⟨(Or.inr ⟨wy_pr rfl, mS_no rfl⟩), trivial, trivial, trivial⟩ trivial (fun Z4 g5 gi6 => ?_)
    have rm7 := rmR_gr hrm g5 (by decide +kernel) (len := cnt) (zl) ⟨by omega, by omega⟩ ⟨fun q => by first | omega | exact absurd q (by decide), by show _ ≤ (100000000 : Int); omega⟩
    refine wa_iinc rfl rfl ?_
    refine wa_goto ⟨_, rfl⟩ ?_
    rw [show ((1 + 1) : Int) = 2 from rfl]
    exact wJ_S (mk_143_2 hC hc hl (mr_ps (lo := 144) (k := 1) (by decide) hz zl g5) gi6 rm7) ⟨rfl, rfl, rfl, trivial⟩
theorem mk_143_0 {cnt : Int} (hC : S 143 (-1) = 5) (hc : 16 ≤ cnt ∧ cnt ≤ 8388608) (hl : ∀ x : Nat, x < 5 → S (144 + x) (-1) = cnt) (hz : mr_p 144 0 cnt S Z) (hI : gI Z) (hrm : rmR S Z) : wJ (pe_GA xs) wY0 (mS [144, 145, 146, 147, 148]) (d + 2) t_X_makeRoom ((pe_at t_X_makeRoom.bl 1).getD (0, [])).2 [(0, (2, 143)), (1, (0, cnt)), (2, (0, 0))] [] Z (fun o Z => o = .inl none ∧ mr_p 144 5 cnt S Z ∧ gI Z ∧ rmR S Z) := by
  have zC : Z 143 (-1) = 5 := (hz.2 143 (-1) (by decide) (by decide) (by decide)).trans hC
  have zl : Z 144 (-1) = cnt := (hz.2 144 (-1) (by decide) (by decide) (by decide)).trans (hl 0 (by decide))
  refine wa_iload_n (n := 2) rfl ?_
  refine wa_aload_n (n := 0) rfl ?_
  refine wb_alen 143 rfl (wy_pr rfl) (by rw [wt_143]; rfl) (v := 5) (zC) (fun r1 => ?_)
  refine wa_icmpge (w_rg0 (by omega) (by omega)) (w_rg0 (by omega) (by omega)) ⟨_, rfl⟩ (fun c2 => ?_) (fun c2 => ?_)
  · skip
    exact absurd c2 (by omega)
  · skip
    refine wa_aload_n (n := 0) rfl ?_
    refine wa_iload_n (n := 2) rfl ?_
    refine wa_aload_n (n := 0) rfl ?_
    refine wa_iload_n (n := 2) rfl ?_
    refine wb_aald5 143 0 rfl rfl (wy_pr rfl) wt_143 (by rw [show _ = _ from (zC)]; omega) wl_143_0 ?_
    refine wa_iload_n (n := 1) rfl ?_
    refine wa_iconst ?_
    refine wa_imul ?_
    refine wa_cs (M2 := fun _ => False) rfl at_JA_copyOf_2 ⟨_, rfl⟩ rfl rfl ⟨(Or.inr ⟨wy_pr rfl, fun q => q⟩), trivial, trivial, trivial⟩ ⟨trivial, (Or.inr ⟨wy_pr rfl, fun q => q⟩), trivial⟩ (fun _ _ q => False.elim q) (cp_I (S := Z) (a := 144) (n := (cnt * 2)) (len := cnt) (wy_pr rfl) wt_144 (zl) ⟨by omega, by omega, by omega⟩) (fun oq3 Sq3 _ q3 => ?_)
    rcases q3 with ⟨rfl, rfl⟩
    show wJ _ _ _ _ _ _ _ _ _ _
    refine wg_as (S := Z) (len := cnt) 0 143 144 rfl rfl (by have e : Z 143 (-1) = 5 := (zC); omega) rfl rfl wt_143 (by decide) wl_143_0 (by decide +kernel) wt_144 (by decide +kernel) hI (fun q => absurd q (by decide)) (by decide) ⟨by omega, by omega⟩ (zl) (fun _ => ⟨Or.inr (by decide), Or.inl (nN_ge _)⟩) ⟨(Or.inr ⟨wy_pr rfl, mS_no rfl⟩), trivial, trivial, trivial⟩ trivial (fun Z4 g5 gi6 => ?_)
    have rm7 := rmR_gr hrm g5 (by decide +kernel) (len := cnt) (zl) ⟨by omega, by omega⟩ ⟨fun q => by first | omega | exact absurd q (by decide), by show _ ≤ (100000000 : Int); omega⟩
    refine wa_iinc rfl rfl ?_
    refine wa_goto ⟨_, rfl⟩ ?_
    rw [show ((0 + 1) : Int) = 1 from rfl]
    exact wJ_S (mk_143_1 hC hc hl (mr_ps (lo := 144) (k := 0) (by decide) hz zl g5) gi6 rm7) ⟨rfl, rfl, rfl, trivial⟩
theorem mkr_143 {cnt : Int} (hC : S 143 (-1) = 5) (hI : gI S) (hc : 0 ≤ cnt ∧ cnt ≤ S 144 (-1)) (hL : 16 ≤ S 144 (-1) ∧ S 144 (-1) ≤ 8388608) (hl : ∀ x : Nat, x < 5 → S (144 + x) (-1) = S 144 (-1)) : wJ (pe_GA xs) wY0 (mS [144, 145, 146, 147, 148]) (d + 2) t_X_makeRoom ((pe_at t_X_makeRoom.bl 0).getD (0, [])).2 [(0, (2, 143)), (1, (0, cnt))] [] S (fun o Z => o = .inl none ∧ mr_ag 144 5 cnt S Z) := by
  have hrm := rmR_rfl S
  refine wa_iload_n (n := 1) rfl ?_
  refine wa_aload_n (n := 0) rfl ?_
  refine wa_iconst ?_
  refine wb_aald5 143 0 rfl rfl (wy_pr rfl) wt_143 (by rw [show _ = _ from (hC)]; omega) wl_143_0 ?_
  refine wb_alen 144 rfl (wy_pr rfl) (by rw [wt_144]; rfl) (v := (S 144 (-1))) rfl (fun r1 => ?_)
  refine wa_icmplt (w_rg0 (by omega) (by omega)) (w_rg0 (by omega) (by omega)) ⟨_, rfl⟩ (fun c2 => ?_) (fun c2 => ?_)
  · skip
    refine wa_return rfl ?_
    exact ⟨rfl, Or.inl ⟨by omega, rfl⟩⟩
  · skip
    refine wa_iconst ?_
    refine wa_istore_n (n := 2) rfl ?_
    refine wa_fall ⟨_, rfl⟩ ?_
    have he : cnt = S 144 (-1) := by omega
    exact wJ_mono (wJ_S (mk_143_0 hC (by omega) (fun x hx => (hl x hx).trans he.symm) (mr_p0 144 cnt S) hI hrm) ⟨rfl, rfl, rfl, trivial⟩) (fun o Z q => ⟨q.1, Or.inr ⟨he, q.2⟩⟩)
end Wax
