/-! PART gv: looksAtThing of the reference. -/
section Wgv
variable {xs : List (Nat × List Int32)} {M : Nat → Prop} {d : Nat} {S S0 Z A : wS} {H : List aH} {T : List aO} {sl : Nat → List Int} {s kd gk gb en nm nms ct : Int}
/-- what was found: guard, holder, which, shape -/
def ltQ (g ho wh sh : Int) (S Z : wS) : Prop := (Z 237 167 = g ∧ Z 237 169 = ho ∧ Z 237 170 = wh ∧ Z 237 171 = sh) ∧ (∀ (j : Nat) (x : Int), (j ≠ 237 ∨ (x ≠ 167 ∧ x ≠ 169 ∧ x ≠ 170 ∧ x ≠ 171)) → Z j x = S j x) ∧ w_ML Z
theorem wSh_en1 {u : Int} (h : wSh T H) (hu : u = -1 ∨ isO T u) : cEn (aPr T H) (T.length + 1) u := cEn_m _ _ _ (Nat.le_succ _) (wSh_en h hu)
theorem rlc_ok (hM : w_ML S) (ht : rTh S sl T) (hH : rHs S H) (hw : wSh T H) (hT : (T.length : Int) ≤ 8000) (h82 : S 237 82 ≤ 60000) (h74 : S 237 174 = gk) (h75 : S 237 175 = gb) (h77 : S 237 177 = en) (h69 : S 237 169 = -1) (h70 : S 237 170 = -1) (h71 : S 237 171 = -1) (hq : isO T gb) (hkd : kd = 4 ∨ kd = 6) (hgk : gk = (tO T gb).1) : wJ (pe_GA xs) wY0 M (d + 2) t_M_looksAtThing ((pe_at t_M_looksAtThing.bl 0).getD (0, [])).2 [(0, (2, 237)), (1, (0, s)), (2, (0, kd)), (3, (0, ct))] [] S (fun o Z => (gk = 5 ∧ o = .inl none ∧ ltQ (tO T gb).2.2.1 (-1) (-1) (-1) S Z) ∨ (gk = 4 ∧ o = .inr 238 ∧ hZ 5 S = Z)) := by
  have hq1 := hq.1
  have yy := r_th ht hq1.1 hq1.2
  have e19 : gk = 5 → S 319 gb = (tO T gb).2.2.1 := fun z => by rw [yy.2.2.1, ← hgk, if_pos z]
  have hg45 : gk = 4 ∨ gk = 5 := by rw [hgk]; exact hq.2
  refine wa_aload_n (n := 0) rfl ?_
  refine wb_gfl 237 rfl (wy_pr rfl) wt_237 wf_15_175 (v := gb) (h75) (fun r1 => ?_)
  refine wb_l2i_r (wb_l2i_id ⟨(by omega), (by omega)⟩) ?_
  refine wa_istore (n := 4) rfl ?_
  refine wa_iload_n (n := 2) rfl ?_
  refine wa_iconst ?_
  refine wa_icmpeq (w_rg0 (by omega) (by omega)) (w_rg0 (by omega) (by omega)) ⟨_, rfl⟩ (fun c2 => ?_) (fun c2 => ?_)
  · skip
    refine wa_aload_n (n := 0) rfl ?_
    refine wb_gfi 237 rfl (wy_pr rfl) wt_237 wf_15_174 (v := gk) (h74) (fun r3 => ?_)
    refine wa_iconst ?_
    refine wa_icmpeq (w_rg0 (by omega) (by omega)) (w_rg0 (by omega) (by omega)) ⟨_, rfl⟩ (fun c4 => ?_) (fun c4 => ?_)
    · skip
      refine wa_aload_n (n := 0) rfl ?_
      refine wa_aload_n (n := 0) rfl ?_
      refine wb_gf4 237 rfl (wy_pr rfl) wt_237 wf_15_75 (v := 319) wl_237_75 ?_
      refine wa_iload (n := 4) rfl ?_
      refine wb_iald 319 rfl (wy_pr rfl) wt_319 (n := 8000) ((ml_319 hM)) (by omega) (by omega) (v := (tO T gb).2.2.1) ((e19 (by omega))) (fun r5 => ?_)
      refine wb_pfi 237 rfl (wy_pr rfl) wt_237 wf_15_167 (n := 167) rfl ⟨(by omega), (by omega)⟩ ?_
      refine wa_return rfl ?_
      exact Or.inl ⟨by omega, rfl, ⟨w_up_same _ _ _ _, (w_up_at (by first | decide | omega)).trans h69, (w_up_at (by first | decide | omega)).trans h70, (w_up_at (by first | decide | omega)).trans h71⟩, fun j x hj => w_up_no (by omega), w_ML_up hM (by first | decide | omega)⟩
    · skip
      refine wa_aload_n (n := 0) rfl ?_
      refine wa_iconst ?_
      refine wa_cv 237 rfl (wy_pr rfl) wt_237 (M2 := fun _ => False) rfl at_M_error ⟨_, rfl⟩ rfl rfl ⟨trivial, (Or.inr ⟨wy_pr rfl, fun q => q⟩), trivial, trivial, trivial, trivial⟩ trivial (fun _ _ q => False.elim q) ?_ (fun _ _ _ q => q)
      refine wa_aload_n (n := 0) rfl ?_
      refine wb_gf4 237 rfl (wy_pr rfl) wt_237 wf_15_1 (v := 238) wl_237_1 ?_
      refine wa_iload_n (n := 1) rfl ?_
      refine wa_iconst ?_
      refine wa_cv 238 rfl (wy_pr rfl) wt_238 (M2 := fun _ => False) rfl at_MH_of ⟨_, rfl⟩ rfl rfl ⟨(Or.inr ⟨wy_pr rfl, fun q => q⟩), trivial, trivial⟩ trivial (fun _ _ q => False.elim q) ?_ (fun _ _ _ q => q)
      refine wa_aload_n (n := 0) rfl ?_
      refine wa_iload_n (n := 1) rfl ?_
      refine wb_pfi 238 rfl (wy_pr rfl) wt_238 wf_11_5 (n := 5) rfl ⟨(by omega), (by omega)⟩ ?_
      refine wa_aload_n (n := 0) rfl ?_
      refine wa_iload_n (n := 2) rfl ?_
      refine wb_pfi 238 rfl (wy_pr rfl) wt_238 wf_11_6 (n := 6) rfl ⟨(by omega), (by omega)⟩ ?_
      refine wa_aload_n (n := 0) rfl ?_
      refine wa_oreturn rfl ?_
      show wJ _ _ _ _ _ _ _ _ _ _
      refine wa_th (j := 238) ?_
      refine ⟨rfl, ?_⟩
      exact Or.inr ⟨by omega, rfl, rfl⟩
  · skip
    refine wa_iload_n (n := 2) rfl ?_
    refine wa_bipush (w_rg2 (by omega) (by omega)) ?_
    refine wa_icmpne (w_rg0 (by omega) (by omega)) (w_rg0 (by omega) (by omega)) ⟨_, rfl⟩ (fun c6 => ?_) (fun c6 => ?_)
    · skip
      exfalso; omega
    · skip
      refine wa_fall ⟨_, rfl⟩ ?_
      refine wa_aload_n (n := 0) rfl ?_
      refine wb_gfi 237 rfl (wy_pr rfl) wt_237 wf_15_174 (v := gk) (h74) (fun r7 => ?_)
      refine wa_iconst ?_
      refine wa_icmpeq (w_rg0 (by omega) (by omega)) (w_rg0 (by omega) (by omega)) ⟨_, rfl⟩ (fun c8 => ?_) (fun c8 => ?_)
      · skip
        refine wa_aload_n (n := 0) rfl ?_
        refine wa_aload_n (n := 0) rfl ?_
        refine wb_gf4 237 rfl (wy_pr rfl) wt_237 wf_15_75 (v := 319) wl_237_75 ?_
        refine wa_iload (n := 4) rfl ?_
        refine wb_iald 319 rfl (wy_pr rfl) wt_319 (n := 8000) ((ml_319 hM)) (by omega) (by omega) (v := (tO T gb).2.2.1) ((e19 (by omega))) (fun r9 => ?_)
        refine wb_pfi 237 rfl (wy_pr rfl) wt_237 wf_15_167 (n := 167) rfl ⟨(by omega), (by omega)⟩ ?_
        refine wa_return rfl ?_
        exact Or.inl ⟨by omega, rfl, ⟨w_up_same _ _ _ _, (w_up_at (by first | decide | omega)).trans h69, (w_up_at (by first | decide | omega)).trans h70, (w_up_at (by first | decide | omega)).trans h71⟩, fun j x hj => w_up_no (by omega), w_ML_up hM (by first | decide | omega)⟩
      · skip
        refine wa_aload_n (n := 0) rfl ?_
        refine wa_iconst ?_
        refine wa_cv 237 rfl (wy_pr rfl) wt_237 (M2 := fun _ => False) rfl at_M_error ⟨_, rfl⟩ rfl rfl ⟨trivial, (Or.inr ⟨wy_pr rfl, fun q => q⟩), trivial, trivial, trivial, trivial⟩ trivial (fun _ _ q => False.elim q) ?_ (fun _ _ _ q => q)
        refine wa_aload_n (n := 0) rfl ?_
        refine wb_gf4 237 rfl (wy_pr rfl) wt_237 wf_15_1 (v := 238) wl_237_1 ?_
        refine wa_iload_n (n := 1) rfl ?_
        refine wa_iconst ?_
        refine wa_cv 238 rfl (wy_pr rfl) wt_238 (M2 := fun _ => False) rfl at_MH_of ⟨_, rfl⟩ rfl rfl ⟨(Or.inr ⟨wy_pr rfl, fun q => q⟩), trivial, trivial⟩ trivial (fun _ _ q => False.elim q) ?_ (fun _ _ _ q => q)
        refine wa_aload_n (n := 0) rfl ?_
        refine wa_iload_n (n := 1) rfl ?_
        refine wb_pfi 238 rfl (wy_pr rfl) wt_238 wf_11_5 (n := 5) rfl ⟨(by omega), (by omega)⟩ ?_
        refine wa_aload_n (n := 0) rfl ?_
        refine wa_iload_n (n := 2) rfl ?_
        refine wb_pfi 238 rfl (wy_pr rfl) wt_238 wf_11_6 (n := 6) rfl ⟨(by omega), (by omega)⟩ ?_
        refine wa_aload_n (n := 0) rfl ?_
        refine wa_oreturn rfl ?_
        show wJ _ _ _ _ _ _ _ _ _ _
        refine wa_th (j := 238) ?_
        refine ⟨rfl, ?_⟩
        exact Or.inr ⟨by omega, rfl, rfl⟩
theorem rln_ok (hM : w_ML S) (ht : rTh S sl T) (hH : rHs S H) (hw : wSh T H) (hT : (T.length : Int) ≤ 8000) (h82 : S 237 82 ≤ 60000) (h74 : S 237 174 = gk) (h75 : S 237 175 = gb) (h77 : S 237 177 = en) (h69 : S 237 169 = -1) (h70 : S 237 170 = -1) (h71 : S 237 171 = -1) (hq : isO T gb) (hkd : kd = 2 ∨ kd = 3) (hen : en = -1) : wJ (pe_GA xs) wY0 M (d + 2) t_M_looksAtThing ((pe_at t_M_looksAtThing.bl 0).getD (0, [])).2 [(0, (2, 237)), (1, (0, s)), (2, (0, kd)), (3, (0, ct))] [] S (fun o Z => o = .inr 238 ∧ hZ 6 S = Z) := by
  have hq1 := hq.1
  refine wa_aload_n (n := 0) rfl ?_
  refine wb_gfl 237 rfl (wy_pr rfl) wt_237 wf_15_175 (v := gb) (h75) (fun r1 => ?_)
  refine wb_l2i_r (wb_l2i_id ⟨(by omega), (by omega)⟩) ?_
  refine wa_istore (n := 4) rfl ?_
  refine wa_iload_n (n := 2) rfl ?_
  refine wa_iconst ?_
  refine wa_icmpeq (w_rg0 (by omega) (by omega)) (w_rg0 (by omega) (by omega)) ⟨_, rfl⟩ (fun c2 => ?_) (fun c2 => ?_)
  · skip
    exfalso; omega
  · skip
    refine wa_iload_n (n := 2) rfl ?_
    refine wa_bipush (w_rg2 (by omega) (by omega)) ?_
    refine wa_icmpne (w_rg0 (by omega) (by omega)) (w_rg0 (by omega) (by omega)) ⟨_, rfl⟩ (fun c3 => ?_) (fun c3 => ?_)
    · skip
      refine wa_iload_n (n := 2) rfl ?_
      refine wa_iconst ?_
      refine wa_icmpeq (w_rg0 (by omega) (by omega)) (w_rg0 (by omega) (by omega)) ⟨_, rfl⟩ (fun c4 => ?_) (fun c4 => ?_)
      · skip
        refine wa_iconst ?_
        refine wa_goto ⟨_, rfl⟩ ?_
        refine wa_istore (n := 5) rfl ?_
        refine wa_iload (n := 5) rfl ?_
        refine wa_ifeq (w_rg0 (by omega) (by omega)) ⟨_, rfl⟩ (fun c5 => ?_) (fun c5 => ?_)
        · skip
          exact absurd c5 (by omega)
        · skip
          refine wa_aload_n (n := 0) rfl ?_
          refine wb_gfi 237 rfl (wy_pr rfl) wt_237 wf_15_177 (v := en) (h77) (fun r6 => ?_)
          refine wa_ifge (w_rg0 (by omega) (by omega)) ⟨_, rfl⟩ (fun c7 => ?_) (fun c7 => ?_)
          · skip
            exfalso; omega
          · skip
            refine wa_aload_n (n := 0) rfl ?_
            refine wa_bipush (w_rg2 (by omega) (by omega)) ?_
            refine wa_cv 237 rfl (wy_pr rfl) wt_237 (M2 := fun _ => False) rfl at_M_error ⟨_, rfl⟩ rfl rfl ⟨trivial, trivial, (Or.inr ⟨wy_pr rfl, fun q => q⟩), trivial, trivial, trivial, trivial⟩ trivial (fun _ _ q => False.elim q) ?_ (fun _ _ _ q => q)
            refine wa_aload_n (n := 0) rfl ?_
            refine wb_gf4 237 rfl (wy_pr rfl) wt_237 wf_15_1 (v := 238) wl_237_1 ?_
            refine wa_iload_n (n := 1) rfl ?_
            refine wa_iconst ?_
            refine wa_cv 238 rfl (wy_pr rfl) wt_238 (M2 := fun _ => False) rfl at_MH_of ⟨_, rfl⟩ rfl rfl ⟨(Or.inr ⟨wy_pr rfl, fun q => q⟩), trivial, trivial⟩ trivial (fun _ _ q => False.elim q) ?_ (fun _ _ _ q => q)
            refine wa_aload_n (n := 0) rfl ?_
            refine wa_iload_n (n := 1) rfl ?_
            refine wb_pfi 238 rfl (wy_pr rfl) wt_238 wf_11_5 (n := 5) rfl ⟨(by omega), (by omega)⟩ ?_
            refine wa_aload_n (n := 0) rfl ?_
            refine wa_iload_n (n := 2) rfl ?_
            refine wb_pfi 238 rfl (wy_pr rfl) wt_238 wf_11_6 (n := 6) rfl ⟨(by omega), (by omega)⟩ ?_
            refine wa_aload_n (n := 0) rfl ?_
            refine wa_oreturn rfl ?_
            show wJ _ _ _ _ _ _ _ _ _ _
            refine wa_th (j := 238) ?_
            refine ⟨rfl, ?_⟩
            exact ⟨rfl, rfl⟩
      · skip
        refine wa_iload_n (n := 2) rfl ?_
        refine wa_iconst ?_
        refine wa_icmpne (w_rg0 (by omega) (by omega)) (w_rg0 (by omega) (by omega)) ⟨_, rfl⟩ (fun c8 => ?_) (fun c8 => ?_)
        · skip
          exfalso; omega
        · skip
          refine wa_fall ⟨_, rfl⟩ ?_
          refine wa_iconst ?_
          refine wa_goto ⟨_, rfl⟩ ?_
          refine wa_istore (n := 5) rfl ?_
          refine wa_iload (n := 5) rfl ?_
          refine wa_ifeq (w_rg0 (by omega) (by omega)) ⟨_, rfl⟩ (fun c9 => ?_) (fun c9 => ?_)
          · skip
            exact absurd c9 (by omega)
          · skip
            refine wa_aload_n (n := 0) rfl ?_
            refine wb_gfi 237 rfl (wy_pr rfl) wt_237 wf_15_177 (v := en) (h77) (fun r10 => ?_)
            refine wa_ifge (w_rg0 (by omega) (by omega)) ⟨_, rfl⟩ (fun c11 => ?_) (fun c11 => ?_)
            · skip
              exfalso; omega
            · skip
              refine wa_aload_n (n := 0) rfl ?_
              refine wa_bipush (w_rg2 (by omega) (by omega)) ?_
              refine wa_cv 237 rfl (wy_pr rfl) wt_237 (M2 := fun _ => False) rfl at_M_error ⟨_, rfl⟩ rfl rfl ⟨trivial, trivial, (Or.inr ⟨wy_pr rfl, fun q => q⟩), trivial, trivial, trivial, trivial⟩ trivial (fun _ _ q => False.elim q) ?_ (fun _ _ _ q => q)
              refine wa_aload_n (n := 0) rfl ?_
              refine wb_gf4 237 rfl (wy_pr rfl) wt_237 wf_15_1 (v := 238) wl_237_1 ?_
              refine wa_iload_n (n := 1) rfl ?_
              refine wa_iconst ?_
              refine wa_cv 238 rfl (wy_pr rfl) wt_238 (M2 := fun _ => False) rfl at_MH_of ⟨_, rfl⟩ rfl rfl ⟨(Or.inr ⟨wy_pr rfl, fun q => q⟩), trivial, trivial⟩ trivial (fun _ _ q => False.elim q) ?_ (fun _ _ _ q => q)
              refine wa_aload_n (n := 0) rfl ?_
              refine wa_iload_n (n := 1) rfl ?_
              refine wb_pfi 238 rfl (wy_pr rfl) wt_238 wf_11_5 (n := 5) rfl ⟨(by omega), (by omega)⟩ ?_
              refine wa_aload_n (n := 0) rfl ?_
              refine wa_iload_n (n := 2) rfl ?_
              refine wb_pfi 238 rfl (wy_pr rfl) wt_238 wf_11_6 (n := 6) rfl ⟨(by omega), (by omega)⟩ ?_
              refine wa_aload_n (n := 0) rfl ?_
              refine wa_oreturn rfl ?_
              show wJ _ _ _ _ _ _ _ _ _ _
              refine wa_th (j := 238) ?_
              refine ⟨rfl, ?_⟩
              exact ⟨rfl, rfl⟩
    · skip
      exfalso; omega
/-- the holder so far, and which of its properties it is -/
def lgQ (gb up ix : Int) (S Z : wS) : Prop := (Z 237 169 = (if up = gb then -1 else up) ∧ Z 237 170 = (if up = -1 then -1 else ix)) ∧ (∀ (j : Nat) (x : Int), (j ≠ 237 ∨ (x ≠ 169 ∧ x ≠ 170)) → Z j x = S j x) ∧ w_ML Z
set_option maxHeartbeats 4000000 in
theorem rlg_l {el : Int} (ht0 : rTh S0 sl T) (hH0 : rHs S0 H) (hw : wSh T H) (hT : (T.length : Int) ≤ 8000) (h820 : S0 237 82 ≤ 60000) (hgb : 0 ≤ gb ∧ gb ≤ 8000) (hn : 0 ≤ nm ∧ nm ≤ 100000) : ∀ (f : Nat) (u : Int) (S : wS), cEn (aPr T H) f u → (u = -1 ∨ isO T u) → w_ML S → S 237 169 = -1 → S 237 170 = -1 → (∀ (j : Nat) (x : Int), (j ≠ 237 ∨ (x ≠ 169 ∧ x ≠ 170)) → S j x = S0 j x) → wJ (pe_GA xs) wY0 M (d + 1) t_M_looksAtThing ((pe_at t_M_looksAtThing.bl 15).getD (0, [])).2 [(0, (2, 237)), (1, (0, s)), (2, (0, kd)), (3, (0, ct)), (4, (0, gb)), (5, (0, el)), (6, (0, nm)), (7, (0, u))] [] S (fun o Z => o = .inl none ∧ lgQ gb (hUp (aPr T H) (aIx T nm) f u) (aIx T nm (hUp (aPr T H) (aIx T nm) f u)) S0 Z) := by
  intro f
  induction f with
  | zero =>
    intro u S hc hu hM h69 h70 hfr
    have hc2 : u = -1 := hc
    have e : hUp (aPr T H) (aIx T nm) 0 u = -1 := rfl
    rw [e]
    have hfin : lgQ gb (-1) (aIx T nm (-1)) S0 S := ⟨⟨by rw [if_neg (by omega)]; exact h69, by rw [if_pos rfl]; exact h70⟩, hfr, hM⟩
    refine wa_iload (n := 7) rfl ?_
    refine wa_iflt (w_rg0 (by omega) (by omega)) ⟨_, rfl⟩ (fun c1 => ?_) (fun c1 => ?_)
    · skip
      refine wa_return rfl ?_
      exact ⟨rfl, hfin⟩
    · skip
      exact absurd c1 (by omega)
  | succ f ih =>
    intro u S hc hu hM h69 h70 hfr
    by_cases cu : u = -1
    · rw [cu, hUp_n]
      have hfin : lgQ gb (-1) (aIx T nm (-1)) S0 S := ⟨⟨by rw [if_neg (by omega)]; exact h69, by rw [if_pos rfl]; exact h70⟩, hfr, hM⟩
      refine wa_iload (n := 7) rfl ?_
      refine wa_iflt (w_rg0 (by omega) (by omega)) ⟨_, rfl⟩ (fun c51 => ?_) (fun c51 => ?_)
      · skip
        refine wa_return rfl ?_
        exact ⟨rfl, hfin⟩
      · skip
        exact absurd c51 (by omega)
    have hu1 : isO T u := hu.elim (fun z => absurd z cu) id
    have eF : ∀ (j : Nat) (x : Int), j ≠ 237 → S j x = S0 j x := fun j x hj => hfr j x (Or.inl hj)
    have ht : rTh S sl T := rTh_mo ht0 (rTx_of (hfr 237 19 (by first | decide | omega)) (hfr 237 102 (by first | decide | omega)) (fun j x j0 j1 => eF j x (by omega))) (hfr 237 68 (by first | decide | omega)) (hfr 237 82 (by first | decide | omega)) (fun j x j0 j1 => eF j x (by omega))
    have hH : rHs S H := rHs_ag hH0 (hfr 237 87 (by first | decide | omega)) (fun j x j0 j1 => eF j x (by omega))
    have h82 : S 237 82 ≤ 60000 := by rw [hfr 237 82 (by first | decide | omega)]; exact h820
    have hs1 := wSh_sh hw hu1
    have e5 := (r_th ht hu1.1.1 hu1.1.2).2.1
    have e9 : S 329 (tO T u).2.1 = aPr T H u := (rHs_e hH hs1.1 hs1.2).1
    have hs2 := hu1.1
    have hpr := wSh_pr hw hu1
    have hpg : -1 ≤ aPr T H u ∧ aPr T H u < (T.length : Int) := by rcases hpr with z | z; omega; have := z.1; omega
    have hir := aIx_rg (T := T) (nm := nm) (k := u)
    have hH4 := hw.1.2.1
    have hl64 := (hw.2.2.2.1 u hu1).2
    refine wa_iload (n := 7) rfl ?_
    refine wa_iflt (w_rg0 (by omega) (by omega)) ⟨_, rfl⟩ (fun c101 => ?_) (fun c101 => ?_)
    · skip
      exfalso; omega
    · skip
      refine wa_aload_n (n := 0) rfl ?_
      refine wb_gfi 237 rfl (wy_pr rfl) wt_237 wf_15_170 (v := (-1)) (h70) (fun r102 => ?_)
      refine wa_ifge (w_rg0 (by omega) (by omega)) ⟨_, rfl⟩ (fun c103 => ?_) (fun c103 => ?_)
      · skip
        exact absurd c103 (by omega)
      · skip
        refine wa_aload_n (n := 0) rfl ?_
        refine wa_aload_n (n := 0) rfl ?_
        refine wa_iload (n := 7) rfl ?_
        refine wa_iload (n := 6) rfl ?_
        refine wa_cv 237 rfl (wy_pr rfl) wt_237 (M2 := fun _ => False) rfl at_M_own ⟨_, rfl⟩ rfl rfl ⟨(Or.inr ⟨wy_pr rfl, fun q => q⟩), trivial, trivial, trivial, trivial, trivial, trivial, trivial, trivial⟩ ⟨(Or.inr ⟨wy_pr rfl, fun q => q⟩), trivial⟩ (fun _ _ q => False.elim q) (r_ow hM ht ⟨hu1.1.1, hu1.1.2⟩ hT h82 (wSh_64 hw hu1) ⟨by omega, by omega⟩) (fun oq104 Sq104 hp105 q104 => ?_)
        rcases q104 with ⟨rfl, rfl⟩
        show wJ _ _ _ _ _ _ _ _ _ _
        refine wb_pfi 237 rfl (wy_pr rfl) wt_237 wf_15_170 (n := 170) rfl ⟨(by omega), (by omega)⟩ ?_
        refine wa_aload_n (n := 0) rfl ?_
        refine wa_aload_n (n := 0) rfl ?_
        refine wb_gfi 237 rfl (wy_pr rfl) wt_237 wf_15_170 (v := (aIx T nm u)) (w_up_same _ _ _ _) (fun r106 => ?_)
        refine wa_iflt (w_rg0 (by omega) (by omega)) ⟨_, rfl⟩ (fun c107 => ?_) (fun c107 => ?_)
        · skip
          refine wa_iconst ?_
          refine wa_fall ⟨_, rfl⟩ ?_
          refine wb_pfi 237 rfl (wy_pr rfl) wt_237 wf_15_169 (n := 169) rfl ⟨(by omega), (by omega)⟩ ?_
          refine wa_aload_n (n := 0) rfl ?_
          refine wa_iload (n := 7) rfl ?_
          refine wa_cv 237 rfl (wy_pr rfl) wt_237 (M2 := fun _ => False) rfl at_M_protoOf ⟨_, rfl⟩ rfl rfl ⟨(Or.inr ⟨wy_pr rfl, fun q => q⟩), trivial, trivial, trivial, trivial, trivial, trivial, trivial, trivial⟩ trivial (fun _ _ q => False.elim q) ?_ (fun _ _ _ q => q)
          refine wa_aload_n (n := 0) rfl ?_
          refine wb_gf4 237 rfl (wy_pr rfl) wt_237 wf_15_88 (v := 329) wl_237_88 ?_
          refine wa_aload_n (n := 0) rfl ?_
          refine wb_gf4 237 rfl (wy_pr rfl) wt_237 wf_15_71 (v := 315) wl_237_71 ?_
          refine wa_iload_n (n := 1) rfl ?_
          refine wb_iald 315 rfl (wy_pr rfl) wt_315 (n := 8000) ((w_up_slot (by decide)).trans ((w_up_slot (by decide)).trans ((ml_315 hM)))) (by omega) (by omega) (v := (tO T u).2.1) ((w_up_slot (by decide)).trans ((w_up_slot (by decide)).trans (e5))) (fun r108 => ?_)
          refine wb_iald 329 rfl (wy_pr rfl) wt_329 (n := 4001) ((w_up_slot (by decide)).trans ((w_up_slot (by decide)).trans ((ml_329 hM)))) (by omega) (by omega) (v := (aPr T H u)) ((w_up_slot (by decide)).trans ((w_up_slot (by decide)).trans (e9))) (fun r109 => ?_)
          refine wa_ireturn rfl ?_
          show wJ _ _ _ _ _ _ _ _ _ _
          refine wa_istore (n := 7) rfl ?_
          refine wa_goto ⟨_, rfl⟩ ?_
          have fT : ∀ (j : Nat) (x : Int), (j ≠ 237 ∨ (x ≠ 169 ∧ x ≠ 170)) → (w_up (w_up S 237 170 (aIx T nm u)) 237 169 (-1)) j x = S0 j x := fun j x hj => ((w_up_no (by omega)).trans (w_up_no (by omega))).trans (hfr j x hj)
          have mT : w_ML (w_up (w_up S 237 170 (aIx T nm u)) 237 169 (-1)) := w_ML_up (w_ML_up hM (by first | decide | omega)) (by first | decide | omega)
          by_cases ci : aIx T nm u = -1
          · rw [hUp_g (Pr := aPr T H) (ix := aIx T nm) cu ci]
            exact wJ_S (ih (aPr T H u) (w_up (w_up S 237 170 (aIx T nm u)) 237 169 (-1)) (hc.elim (fun z => absurd z cu) id) hpr mT (w_up_same _ _ _ _) ((w_up_at (by first | decide | omega)).trans ((w_up_same _ _ _ _).trans ci)) fT) ⟨rfl, rfl, rfl, rfl, rfl, rfl, rfl, rfl, trivial⟩
          · rw [hUp_h (Pr := aPr T H) (ix := aIx T nm) cu ci]
            have hfin : lgQ gb u (aIx T nm u) S0 (w_up (w_up S 237 170 (aIx T nm u)) 237 169 (-1)) := ⟨⟨(w_up_same _ _ _ _).trans (if_pos (by omega)).symm, ((w_up_at (by first | decide | omega)).trans (w_up_same _ _ _ _)).trans (if_neg cu).symm⟩, fT, mT⟩
            refine wa_iload (n := 7) rfl ?_
            refine wa_iflt (w_rg0 (by omega) (by omega)) ⟨_, rfl⟩ (fun c110 => ?_) (fun c110 => ?_)
            · skip
              refine wa_return rfl ?_
              exact ⟨rfl, hfin⟩
            · skip
              refine wa_aload_n (n := 0) rfl ?_
              refine wb_gfi 237 rfl (wy_pr rfl) wt_237 wf_15_170 (v := (aIx T nm u)) ((w_up_at (by decide)).trans (w_up_same _ _ _ _)) (fun r111 => ?_)
              refine wa_ifge (w_rg0 (by omega) (by omega)) ⟨_, rfl⟩ (fun c112 => ?_) (fun c112 => ?_)
              · skip
                refine wa_return rfl ?_
                exact ⟨rfl, hfin⟩
              · skip
                exfalso; omega
        · skip
          refine wa_iload (n := 7) rfl ?_
          refine wa_iload (n := 4) rfl ?_
          refine wa_icmpeq (w_rg0 (by omega) (by omega)) (w_rg0 (by omega) (by omega)) ⟨_, rfl⟩ (fun c113 => ?_) (fun c113 => ?_)
          · skip
            refine wa_iconst ?_
            refine wa_fall ⟨_, rfl⟩ ?_
            refine wb_pfi 237 rfl (wy_pr rfl) wt_237 wf_15_169 (n := 169) rfl ⟨(by omega), (by omega)⟩ ?_
            refine wa_aload_n (n := 0) rfl ?_
            refine wa_iload (n := 7) rfl ?_
            refine wa_cv 237 rfl (wy_pr rfl) wt_237 (M2 := fun _ => False) rfl at_M_protoOf ⟨_, rfl⟩ rfl rfl ⟨(Or.inr ⟨wy_pr rfl, fun q => q⟩), trivial, trivial, trivial, trivial, trivial, trivial, trivial, trivial⟩ trivial (fun _ _ q => False.elim q) ?_ (fun _ _ _ q => q)
            refine wa_aload_n (n := 0) rfl ?_
            refine wb_gf4 237 rfl (wy_pr rfl) wt_237 wf_15_88 (v := 329) wl_237_88 ?_
            refine wa_aload_n (n := 0) rfl ?_
            refine wb_gf4 237 rfl (wy_pr rfl) wt_237 wf_15_71 (v := 315) wl_237_71 ?_
            refine wa_iload_n (n := 1) rfl ?_
            refine wb_iald 315 rfl (wy_pr rfl) wt_315 (n := 8000) ((w_up_slot (by decide)).trans ((w_up_slot (by decide)).trans ((ml_315 hM)))) (by omega) (by omega) (v := (tO T u).2.1) ((w_up_slot (by decide)).trans ((w_up_slot (by decide)).trans (e5))) (fun r114 => ?_)
            refine wb_iald 329 rfl (wy_pr rfl) wt_329 (n := 4001) ((w_up_slot (by decide)).trans ((w_up_slot (by decide)).trans ((ml_329 hM)))) (by omega) (by omega) (v := (aPr T H u)) ((w_up_slot (by decide)).trans ((w_up_slot (by decide)).trans (e9))) (fun r115 => ?_)
            refine wa_ireturn rfl ?_
            show wJ _ _ _ _ _ _ _ _ _ _
            refine wa_istore (n := 7) rfl ?_
            refine wa_goto ⟨_, rfl⟩ ?_
            have fT : ∀ (j : Nat) (x : Int), (j ≠ 237 ∨ (x ≠ 169 ∧ x ≠ 170)) → (w_up (w_up S 237 170 (aIx T nm u)) 237 169 (-1)) j x = S0 j x := fun j x hj => ((w_up_no (by omega)).trans (w_up_no (by omega))).trans (hfr j x hj)
            have mT : w_ML (w_up (w_up S 237 170 (aIx T nm u)) 237 169 (-1)) := w_ML_up (w_ML_up hM (by first | decide | omega)) (by first | decide | omega)
            by_cases ci : aIx T nm u = -1
            · rw [hUp_g (Pr := aPr T H) (ix := aIx T nm) cu ci]
              exact wJ_S (ih (aPr T H u) (w_up (w_up S 237 170 (aIx T nm u)) 237 169 (-1)) (hc.elim (fun z => absurd z cu) id) hpr mT (w_up_same _ _ _ _) ((w_up_at (by first | decide | omega)).trans ((w_up_same _ _ _ _).trans ci)) fT) ⟨rfl, rfl, rfl, rfl, rfl, rfl, rfl, rfl, trivial⟩
            · rw [hUp_h (Pr := aPr T H) (ix := aIx T nm) cu ci]
              have hfin : lgQ gb u (aIx T nm u) S0 (w_up (w_up S 237 170 (aIx T nm u)) 237 169 (-1)) := ⟨⟨(w_up_same _ _ _ _).trans (if_pos (by omega)).symm, ((w_up_at (by first | decide | omega)).trans (w_up_same _ _ _ _)).trans (if_neg cu).symm⟩, fT, mT⟩
              refine wa_iload (n := 7) rfl ?_
              refine wa_iflt (w_rg0 (by omega) (by omega)) ⟨_, rfl⟩ (fun c116 => ?_) (fun c116 => ?_)
              · skip
                refine wa_return rfl ?_
                exact ⟨rfl, hfin⟩
              · skip
                refine wa_aload_n (n := 0) rfl ?_
                refine wb_gfi 237 rfl (wy_pr rfl) wt_237 wf_15_170 (v := (aIx T nm u)) ((w_up_at (by decide)).trans (w_up_same _ _ _ _)) (fun r117 => ?_)
                refine wa_ifge (w_rg0 (by omega) (by omega)) ⟨_, rfl⟩ (fun c118 => ?_) (fun c118 => ?_)
                · skip
                  refine wa_return rfl ?_
                  exact ⟨rfl, hfin⟩
                · skip
                  exfalso; omega
          · skip
            refine wa_iload (n := 7) rfl ?_
            refine wa_goto ⟨_, rfl⟩ ?_
            refine wb_pfi 237 rfl (wy_pr rfl) wt_237 wf_15_169 (n := 169) rfl ⟨(by omega), (by omega)⟩ ?_
            refine wa_aload_n (n := 0) rfl ?_
            refine wa_iload (n := 7) rfl ?_
            refine wa_cv 237 rfl (wy_pr rfl) wt_237 (M2 := fun _ => False) rfl at_M_protoOf ⟨_, rfl⟩ rfl rfl ⟨(Or.inr ⟨wy_pr rfl, fun q => q⟩), trivial, trivial, trivial, trivial, trivial, trivial, trivial, trivial⟩ trivial (fun _ _ q => False.elim q) ?_ (fun _ _ _ q => q)
            refine wa_aload_n (n := 0) rfl ?_
            refine wb_gf4 237 rfl (wy_pr rfl) wt_237 wf_15_88 (v := 329) wl_237_88 ?_
            refine wa_aload_n (n := 0) rfl ?_
            refine wb_gf4 237 rfl (wy_pr rfl) wt_237 wf_15_71 (v := 315) wl_237_71 ?_
            refine wa_iload_n (n := 1) rfl ?_
            refine wb_iald 315 rfl (wy_pr rfl) wt_315 (n := 8000) ((w_up_slot (by decide)).trans ((w_up_slot (by decide)).trans ((ml_315 hM)))) (by omega) (by omega) (v := (tO T u).2.1) ((w_up_slot (by decide)).trans ((w_up_slot (by decide)).trans (e5))) (fun r119 => ?_)
            refine wb_iald 329 rfl (wy_pr rfl) wt_329 (n := 4001) ((w_up_slot (by decide)).trans ((w_up_slot (by decide)).trans ((ml_329 hM)))) (by omega) (by omega) (v := (aPr T H u)) ((w_up_slot (by decide)).trans ((w_up_slot (by decide)).trans (e9))) (fun r120 => ?_)
            refine wa_ireturn rfl ?_
            show wJ _ _ _ _ _ _ _ _ _ _
            refine wa_istore (n := 7) rfl ?_
            refine wa_goto ⟨_, rfl⟩ ?_
            have fT : ∀ (j : Nat) (x : Int), (j ≠ 237 ∨ (x ≠ 169 ∧ x ≠ 170)) → (w_up (w_up S 237 170 (aIx T nm u)) 237 169 u) j x = S0 j x := fun j x hj => ((w_up_no (by omega)).trans (w_up_no (by omega))).trans (hfr j x hj)
            have mT : w_ML (w_up (w_up S 237 170 (aIx T nm u)) 237 169 u) := w_ML_up (w_ML_up hM (by first | decide | omega)) (by first | decide | omega)
            by_cases ci : aIx T nm u = -1
            · rw [hUp_g (Pr := aPr T H) (ix := aIx T nm) cu ci]
              exfalso; omega
            · rw [hUp_h (Pr := aPr T H) (ix := aIx T nm) cu ci]
              have hfin : lgQ gb u (aIx T nm u) S0 (w_up (w_up S 237 170 (aIx T nm u)) 237 169 u) := ⟨⟨(w_up_same _ _ _ _).trans (if_neg (by omega)).symm, ((w_up_at (by first | decide | omega)).trans (w_up_same _ _ _ _)).trans (if_neg cu).symm⟩, fT, mT⟩
              refine wa_iload (n := 7) rfl ?_
              refine wa_iflt (w_rg0 (by omega) (by omega)) ⟨_, rfl⟩ (fun c121 => ?_) (fun c121 => ?_)
              · skip
                refine wa_return rfl ?_
                exact ⟨rfl, hfin⟩
              · skip
                refine wa_aload_n (n := 0) rfl ?_
                refine wb_gfi 237 rfl (wy_pr rfl) wt_237 wf_15_170 (v := (aIx T nm u)) ((w_up_at (by decide)).trans (w_up_same _ _ _ _)) (fun r122 => ?_)
                refine wa_ifge (w_rg0 (by omega) (by omega)) ⟨_, rfl⟩ (fun c123 => ?_) (fun c123 => ?_)
                · skip
                  refine wa_return rfl ?_
                  exact ⟨rfl, hfin⟩
                · skip
                  exfalso; omega
theorem rlg_ok (hM : w_ML S) (ht : rTh S sl T) (hH : rHs S H) (hw : wSh T H) (hT : (T.length : Int) ≤ 8000) (h82 : S 237 82 ≤ 60000) (h74 : S 237 174 = gk) (h75 : S 237 175 = gb) (h77 : S 237 177 = en) (h69 : S 237 169 = -1) (h70 : S 237 170 = -1) (h71 : S 237 171 = -1) (hs : 0 ≤ s ∧ s < 4000) (h05 : S 305 s = nms) (hnm : nm = if kd = 2 ∨ kd = 3 then en else nms) (hq : isO T gb) (hkd : kd = 0 ∨ kd = 2 ∨ kd = 5) (hn : 0 ≤ nm ∧ nm ≤ 100000) : wJ (pe_GA xs) wY0 M (d + 2) t_M_looksAtThing ((pe_at t_M_looksAtThing.bl 0).getD (0, [])).2 [(0, (2, 237)), (1, (0, s)), (2, (0, kd)), (3, (0, ct))] [] S (fun o Z => o = .inl none ∧ ltQ (tO T gb).2.1 (if aUp T H nm gb = gb then -1 else aUp T H nm gb) (if aUp T H nm gb = -1 then -1 else aIx T nm (aUp T H nm gb)) (-1) S Z) := by
  have hq1 := hq.1
  have e15 := (r_th ht hq1.1 hq1.2).2.1
  have hsr := wSh_sh hw hq
  have hH4 := hw.1.2.1
  obtain ⟨sh, hsh⟩ : ∃ i : Int, i = (tO T gb).2.1 := ⟨_, rfl⟩
  rw [← hsh] at e15 hsr ⊢
  refine wa_aload_n (n := 0) rfl ?_
  refine wb_gfl 237 rfl (wy_pr rfl) wt_237 wf_15_175 (v := gb) (h75) (fun r301 => ?_)
  refine wb_l2i_r (wb_l2i_id ⟨(by omega), (by omega)⟩) ?_
  refine wa_istore (n := 4) rfl ?_
  refine wa_iload_n (n := 2) rfl ?_
  refine wa_iconst ?_
  refine wa_icmpeq (w_rg0 (by omega) (by omega)) (w_rg0 (by omega) (by omega)) ⟨_, rfl⟩ (fun c302 => ?_) (fun c302 => ?_)
  · skip
    exfalso; omega
  · skip
    refine wa_iload_n (n := 2) rfl ?_
    refine wa_bipush (w_rg2 (by omega) (by omega)) ?_
    refine wa_icmpne (w_rg0 (by omega) (by omega)) (w_rg0 (by omega) (by omega)) ⟨_, rfl⟩ (fun c303 => ?_) (fun c303 => ?_)
    · skip
      refine wa_iload_n (n := 2) rfl ?_
      refine wa_iconst ?_
      refine wa_icmpeq (w_rg0 (by omega) (by omega)) (w_rg0 (by omega) (by omega)) ⟨_, rfl⟩ (fun c304 => ?_) (fun c304 => ?_)
      · skip
        refine wa_iconst ?_
        refine wa_goto ⟨_, rfl⟩ ?_
        refine wa_istore (n := 5) rfl ?_
        refine wa_iload (n := 5) rfl ?_
        refine wa_ifeq (w_rg0 (by omega) (by omega)) ⟨_, rfl⟩ (fun c305 => ?_) (fun c305 => ?_)
        · skip
          exact absurd c305 (by omega)
        · skip
          refine wa_aload_n (n := 0) rfl ?_
          refine wb_gfi 237 rfl (wy_pr rfl) wt_237 wf_15_177 (v := en) (h77) (fun r306 => ?_)
          refine wa_ifge (w_rg0 (by omega) (by omega)) ⟨_, rfl⟩ (fun c307 => ?_) (fun c307 => ?_)
          · skip
            refine wa_iload (n := 5) rfl ?_
            refine wa_ifeq (w_rg0 (by omega) (by omega)) ⟨_, rfl⟩ (fun c308 => ?_) (fun c308 => ?_)
            · skip
              exact absurd c308 (by omega)
            · skip
              refine wa_aload_n (n := 0) rfl ?_
              refine wb_gfi 237 rfl (wy_pr rfl) wt_237 wf_15_177 (v := en) (h77) (fun r309 => ?_)
              refine wa_goto ⟨_, rfl⟩ ?_
              refine wa_istore (n := 6) rfl ?_
              refine wa_aload_n (n := 0) rfl ?_
              refine wa_aload_n (n := 0) rfl ?_
              refine wb_gf4 237 rfl (wy_pr rfl) wt_237 wf_15_71 (v := 315) wl_237_71 ?_
              refine wa_iload (n := 4) rfl ?_
              refine wb_iald 315 rfl (wy_pr rfl) wt_315 (n := 8000) ((ml_315 hM)) (by omega) (by omega) (v := sh) (e15) (fun r310 => ?_)
              refine wb_pfi 237 rfl (wy_pr rfl) wt_237 wf_15_167 (n := 167) rfl ⟨(by omega), (by omega)⟩ ?_
              refine wa_iload_n (n := 2) rfl ?_
              refine wa_iconst ?_
              refine wa_icmpeq (w_rg0 (by omega) (by omega)) (w_rg0 (by omega) (by omega)) ⟨_, rfl⟩ (fun c311 => ?_) (fun c311 => ?_)
              · skip
                exact absurd c311 (by omega)
              · skip
                refine wa_iload_n (n := 2) rfl ?_
                refine wa_iconst ?_
                refine wa_icmpne (w_rg0 (by omega) (by omega)) (w_rg0 (by omega) (by omega)) ⟨_, rfl⟩ (fun c312 => ?_) (fun c312 => ?_)
                · skip
                  refine wa_iload (n := 4) rfl ?_
                  refine wa_istore (n := 7) rfl ?_
                  refine wa_fall ⟨_, rfl⟩ ?_
                  have enm : en = nm := by rw [hnm]; first | exact (if_pos (by omega)).symm | exact (if_neg (by omega)).symm
                  have fT : ∀ (j : Nat) (x : Int), (j ≠ 237 ∨ x ≠ 167) → (w_up S 237 167 sh) j x = S j x := fun j x hj => w_up_no (by omega)
                  have htT : rTh (w_up S 237 167 sh) sl T := rTh_mo ht (rTx_of (fT 237 19 (by first | decide | omega)) (fT 237 102 (by first | decide | omega)) (fun j x j0 j1 => fT j x (by omega))) (fT 237 68 (by first | decide | omega)) (fT 237 82 (by first | decide | omega)) (fun j x j0 j1 => fT j x (by omega))
                  have hHT : rHs (w_up S 237 167 sh) H := rHs_ag hH (fT 237 87 (by first | decide | omega)) (fun j x j0 j1 => fT j x (by omega))
                  refine wJ_mono (wJ_S (rlg_l (el := 1) (S0 := (w_up S 237 167 sh)) htT hHT hw hT (by rw [fT 237 82 (by first | decide | omega)]; exact h82) ⟨hq1.1, by omega⟩ hn (T.length + 1) gb (w_up S 237 167 sh) (wSh_en1 hw (Or.inr hq)) (Or.inr hq) (w_ML_up hM (by first | decide | omega)) ((fT 237 169 (by first | decide | omega)).trans h69) ((fT 237 170 (by first | decide | omega)).trans h70) (fun _ _ _ => rfl)) ⟨rfl, rfl, rfl, rfl, rfl, rfl, by rw [← enm]; rfl, rfl, trivial⟩) (fun o Z hz => ⟨hz.1, ?_⟩)
                  obtain ⟨⟨z1, z2⟩, z3, z4⟩ := hz.2
                  exact ⟨⟨(z3 237 167 (by first | decide | omega)).trans (w_up_same _ _ _ _), z1, z2, (z3 237 171 (by first | decide | omega)).trans ((fT 237 171 (by first | decide | omega)).trans h71)⟩, fun j x hj => (z3 j x (by omega)).trans (fT j x (by omega)), z4⟩
                · skip
                  exact absurd c312 (by omega)
          · skip
            exfalso; omega
      · skip
        refine wa_iload_n (n := 2) rfl ?_
        refine wa_iconst ?_
        refine wa_icmpne (w_rg0 (by omega) (by omega)) (w_rg0 (by omega) (by omega)) ⟨_, rfl⟩ (fun c313 => ?_) (fun c313 => ?_)
        · skip
          refine wa_iconst ?_
          refine wa_fall ⟨_, rfl⟩ ?_
          refine wa_istore (n := 5) rfl ?_
          refine wa_iload (n := 5) rfl ?_
          refine wa_ifeq (w_rg0 (by omega) (by omega)) ⟨_, rfl⟩ (fun c314 => ?_) (fun c314 => ?_)
          · skip
            refine wa_iload (n := 5) rfl ?_
            refine wa_ifeq (w_rg0 (by omega) (by omega)) ⟨_, rfl⟩ (fun c315 => ?_) (fun c315 => ?_)
            · skip
              refine wa_aload_n (n := 0) rfl ?_
              refine wb_gf4 237 rfl (wy_pr rfl) wt_237 wf_15_50 (v := 305) wl_237_50 ?_
              refine wa_iload_n (n := 1) rfl ?_
              refine wb_iald 305 rfl (wy_pr rfl) wt_305 (n := 4000) ((ml_305 hM)) (by omega) (by omega) (v := nms) (h05) (fun r316 => ?_)
              refine wa_fall ⟨_, rfl⟩ ?_
              refine wa_istore (n := 6) rfl ?_
              refine wa_aload_n (n := 0) rfl ?_
              refine wa_aload_n (n := 0) rfl ?_
              refine wb_gf4 237 rfl (wy_pr rfl) wt_237 wf_15_71 (v := 315) wl_237_71 ?_
              refine wa_iload (n := 4) rfl ?_
              refine wb_iald 315 rfl (wy_pr rfl) wt_315 (n := 8000) ((ml_315 hM)) (by omega) (by omega) (v := sh) (e15) (fun r317 => ?_)
              refine wb_pfi 237 rfl (wy_pr rfl) wt_237 wf_15_167 (n := 167) rfl ⟨(by omega), (by omega)⟩ ?_
              refine wa_iload_n (n := 2) rfl ?_
              refine wa_iconst ?_
              refine wa_icmpeq (w_rg0 (by omega) (by omega)) (w_rg0 (by omega) (by omega)) ⟨_, rfl⟩ (fun c318 => ?_) (fun c318 => ?_)
              · skip
                exfalso; omega
              · skip
                refine wa_iload_n (n := 2) rfl ?_
                refine wa_iconst ?_
                refine wa_icmpne (w_rg0 (by omega) (by omega)) (w_rg0 (by omega) (by omega)) ⟨_, rfl⟩ (fun c319 => ?_) (fun c319 => ?_)
                · skip
                  refine wa_iload (n := 4) rfl ?_
                  refine wa_istore (n := 7) rfl ?_
                  refine wa_fall ⟨_, rfl⟩ ?_
                  have enm : nms = nm := by rw [hnm]; first | exact (if_pos (by omega)).symm | exact (if_neg (by omega)).symm
                  have fT : ∀ (j : Nat) (x : Int), (j ≠ 237 ∨ x ≠ 167) → (w_up S 237 167 sh) j x = S j x := fun j x hj => w_up_no (by omega)
                  have htT : rTh (w_up S 237 167 sh) sl T := rTh_mo ht (rTx_of (fT 237 19 (by first | decide | omega)) (fT 237 102 (by first | decide | omega)) (fun j x j0 j1 => fT j x (by omega))) (fT 237 68 (by first | decide | omega)) (fT 237 82 (by first | decide | omega)) (fun j x j0 j1 => fT j x (by omega))
                  have hHT : rHs (w_up S 237 167 sh) H := rHs_ag hH (fT 237 87 (by first | decide | omega)) (fun j x j0 j1 => fT j x (by omega))
                  refine wJ_mono (wJ_S (rlg_l (el := 0) (S0 := (w_up S 237 167 sh)) htT hHT hw hT (by rw [fT 237 82 (by first | decide | omega)]; exact h82) ⟨hq1.1, by omega⟩ hn (T.length + 1) gb (w_up S 237 167 sh) (wSh_en1 hw (Or.inr hq)) (Or.inr hq) (w_ML_up hM (by first | decide | omega)) ((fT 237 169 (by first | decide | omega)).trans h69) ((fT 237 170 (by first | decide | omega)).trans h70) (fun _ _ _ => rfl)) ⟨rfl, rfl, rfl, rfl, rfl, rfl, by rw [← enm]; rfl, rfl, trivial⟩) (fun o Z hz => ⟨hz.1, ?_⟩)
                  obtain ⟨⟨z1, z2⟩, z3, z4⟩ := hz.2
                  exact ⟨⟨(z3 237 167 (by first | decide | omega)).trans (w_up_same _ _ _ _), z1, z2, (z3 237 171 (by first | decide | omega)).trans ((fT 237 171 (by first | decide | omega)).trans h71)⟩, fun j x hj => (z3 j x (by omega)).trans (fT j x (by omega)), z4⟩
                · skip
                  exact absurd c319 (by omega)
            · skip
              exact absurd c315 (by omega)
          · skip
            exact absurd c314 (by omega)
        · skip
          refine wa_fall ⟨_, rfl⟩ ?_
          refine wa_iconst ?_
          refine wa_goto ⟨_, rfl⟩ ?_
          refine wa_istore (n := 5) rfl ?_
          refine wa_iload (n := 5) rfl ?_
          refine wa_ifeq (w_rg0 (by omega) (by omega)) ⟨_, rfl⟩ (fun c320 => ?_) (fun c320 => ?_)
          · skip
            exact absurd c320 (by omega)
          · skip
            refine wa_aload_n (n := 0) rfl ?_
            refine wb_gfi 237 rfl (wy_pr rfl) wt_237 wf_15_177 (v := en) (h77) (fun r321 => ?_)
            refine wa_ifge (w_rg0 (by omega) (by omega)) ⟨_, rfl⟩ (fun c322 => ?_) (fun c322 => ?_)
            · skip
              refine wa_iload (n := 5) rfl ?_
              refine wa_ifeq (w_rg0 (by omega) (by omega)) ⟨_, rfl⟩ (fun c323 => ?_) (fun c323 => ?_)
              · skip
                exact absurd c323 (by omega)
              · skip
                refine wa_aload_n (n := 0) rfl ?_
                refine wb_gfi 237 rfl (wy_pr rfl) wt_237 wf_15_177 (v := en) (h77) (fun r324 => ?_)
                refine wa_goto ⟨_, rfl⟩ ?_
                refine wa_istore (n := 6) rfl ?_
                refine wa_aload_n (n := 0) rfl ?_
                refine wa_aload_n (n := 0) rfl ?_
                refine wb_gf4 237 rfl (wy_pr rfl) wt_237 wf_15_71 (v := 315) wl_237_71 ?_
                refine wa_iload (n := 4) rfl ?_
                refine wb_iald 315 rfl (wy_pr rfl) wt_315 (n := 8000) ((ml_315 hM)) (by omega) (by omega) (v := sh) (e15) (fun r325 => ?_)
                refine wb_pfi 237 rfl (wy_pr rfl) wt_237 wf_15_167 (n := 167) rfl ⟨(by omega), (by omega)⟩ ?_
                refine wa_iload_n (n := 2) rfl ?_
                refine wa_iconst ?_
                refine wa_icmpeq (w_rg0 (by omega) (by omega)) (w_rg0 (by omega) (by omega)) ⟨_, rfl⟩ (fun c326 => ?_) (fun c326 => ?_)
                · skip
                  exact absurd c326 (by omega)
                · skip
                  refine wa_iload_n (n := 2) rfl ?_
                  refine wa_iconst ?_
                  refine wa_icmpne (w_rg0 (by omega) (by omega)) (w_rg0 (by omega) (by omega)) ⟨_, rfl⟩ (fun c327 => ?_) (fun c327 => ?_)
                  · skip
                    exact absurd c327 (by omega)
                  · skip
                    exfalso; omega
            · skip
              exfalso; omega
    · skip
      exfalso; omega
set_option maxHeartbeats 4000000 in
theorem rls_ok {r0 u4 : Int} (hM : w_ML S) (ht : rTh S sl T) (hH : rHs S H) (hw : wSh T H) (hT : (T.length : Int) ≤ 8000) (h82 : S 237 82 ≤ 60000) (h74 : S 237 174 = gk) (h75 : S 237 175 = gb) (h77 : S 237 177 = en) (h69 : S 237 169 = -1) (h70 : S 237 170 = -1) (h71 : S 237 171 = -1) (hs : 0 ≤ s ∧ s < 4000) (h05 : S 305 s = nms) (hnm : nm = if kd = 2 ∨ kd = 3 then en else nms) (hq : isO T gb) (hkd : kd = 1 ∨ kd = 3) (hn : 0 ≤ nm ∧ nm ≤ 100000) (hct : ct = 0 ∨ ct = 1) (h66 : S 237 66 = u4) (hu4 : 0 ≤ u4 ∧ u4 ≤ 4000) (hmu : (H.length : Int) ≤ u4 + 1) (hr0 : r0 = aFs (tO T gb).2.1 (qPr H (tO T gb).2.1) nm H 0) : wJ (pe_GA xs) wY0 M (d + 4) t_M_looksAtThing ((pe_at t_M_looksAtThing.bl 0).getD (0, [])).2 [(0, (2, 237)), (1, (0, s)), (2, (0, kd)), (3, (0, ct))] [] S (fun o Z => (aIx T nm gb ≠ -1 ∧ o = .inl none ∧ ltQ (tO T gb).2.1 (-1) (aIx T nm gb) (-1) S Z) ∨ (aIx T nm gb = -1 ∧ (ct = 0 ∨ 0 ≤ r0) ∧ o = .inl none ∧ ltQ (tO T gb).2.1 (-1) (-1) r0 S Z) ∨ (aIx T nm gb = -1 ∧ ct = 1 ∧ r0 = -1 ∧ 4000 ≤ u4 ∧ o = .inr 238 ∧ ∃ A : wS, ltQ (tO T gb).2.1 (-1) (-1) (-1) S A ∧ hZ 99 A = Z) ∨ (aIx T nm gb = -1 ∧ ct = 1 ∧ r0 = -1 ∧ u4 < 4000 ∧ o = .inl none ∧ ∃ A : wS, ltQ (tO T gb).2.1 (-1) (-1) (-1) S A ∧ w_up (msZ (tO T gb).2.1 (qPr H (tO T gb).2.1) nm (H.length : Int) u4 A) 237 171 (H.length : Int) = Z)) := by
  have hq1 := hq.1
  have e15 := (r_th ht hq1.1 hq1.2).2.1
  have hsr := wSh_sh hw hq
  have hH4 := hw.1.2.1
  have hpr := hw.2.2.2.2.2.1 (tO T gb).2.1 hsr.1 hsr.2
  have e29 := (rHs_e hH hsr.1 hsr.2).1
  have e32 := (rHs_e hH hsr.1 hsr.2).2.2.2
  have hcn := (wHs_c hw.1 (tO T gb).2.1 hsr.1 hsr.2).1
  obtain ⟨sh, hsh⟩ : ∃ i : Int, i = (tO T gb).2.1 := ⟨_, rfl⟩
  rw [← hsh] at e15 hsr hpr e29 e32 hcn hr0 ⊢
  obtain ⟨pr, hpe⟩ : ∃ i : Int, i = qPr H sh := ⟨_, rfl⟩
  have e29b : S 329 sh = pr := by rw [hpe]; exact e29
  rw [← hpe] at hpr hr0 ⊢
  have hpb : -1 ≤ pr ∧ pr < (T.length : Int) := by rcases hpr with z | z; omega; have := z.1; omega
  obtain ⟨i1, hi1⟩ : ∃ i : Int, i = aIx T nm gb := ⟨_, rfl⟩
  have hir := aIx_rg (T := T) (nm := nm) (k := gb)
  rw [← hi1] at hir ⊢
  have hl64 := (hw.2.2.2.1 gb hq).2
  have hrr := aFs_rg (H := H) (be := sh) (pr := pr) (nm := nm)
  rw [← hr0] at hrr
  refine wa_aload_n (n := 0) rfl ?_
  refine wb_gfl 237 rfl (wy_pr rfl) wt_237 wf_15_175 (v := gb) (h75) (fun r501 => ?_)
  refine wb_l2i_r (wb_l2i_id ⟨(by omega), (by omega)⟩) ?_
  refine wa_istore (n := 4) rfl ?_
  refine wa_iload_n (n := 2) rfl ?_
  refine wa_iconst ?_
  refine wa_icmpeq (w_rg0 (by omega) (by omega)) (w_rg0 (by omega) (by omega)) ⟨_, rfl⟩ (fun c502 => ?_) (fun c502 => ?_)
  · skip
    exfalso; omega
  · skip
    refine wa_iload_n (n := 2) rfl ?_
    refine wa_bipush (w_rg2 (by omega) (by omega)) ?_
    refine wa_icmpne (w_rg0 (by omega) (by omega)) (w_rg0 (by omega) (by omega)) ⟨_, rfl⟩ (fun c503 => ?_) (fun c503 => ?_)
    · skip
      refine wa_iload_n (n := 2) rfl ?_
      refine wa_iconst ?_
      refine wa_icmpeq (w_rg0 (by omega) (by omega)) (w_rg0 (by omega) (by omega)) ⟨_, rfl⟩ (fun c504 => ?_) (fun c504 => ?_)
      · skip
        refine wa_iconst ?_
        refine wa_goto ⟨_, rfl⟩ ?_
        refine wa_istore (n := 5) rfl ?_
        refine wa_iload (n := 5) rfl ?_
        refine wa_ifeq (w_rg0 (by omega) (by omega)) ⟨_, rfl⟩ (fun c505 => ?_) (fun c505 => ?_)
        · skip
          exact absurd c505 (by omega)
        · skip
          refine wa_aload_n (n := 0) rfl ?_
          refine wb_gfi 237 rfl (wy_pr rfl) wt_237 wf_15_177 (v := en) (h77) (fun r506 => ?_)
          refine wa_ifge (w_rg0 (by omega) (by omega)) ⟨_, rfl⟩ (fun c507 => ?_) (fun c507 => ?_)
          · skip
            refine wa_iload (n := 5) rfl ?_
            refine wa_ifeq (w_rg0 (by omega) (by omega)) ⟨_, rfl⟩ (fun c508 => ?_) (fun c508 => ?_)
            · skip
              exact absurd c508 (by omega)
            · skip
              refine wa_aload_n (n := 0) rfl ?_
              refine wb_gfi 237 rfl (wy_pr rfl) wt_237 wf_15_177 (v := en) (h77) (fun r509 => ?_)
              refine wa_goto ⟨_, rfl⟩ ?_
              refine wa_istore (n := 6) rfl ?_
              refine wa_aload_n (n := 0) rfl ?_
              refine wa_aload_n (n := 0) rfl ?_
              refine wb_gf4 237 rfl (wy_pr rfl) wt_237 wf_15_71 (v := 315) wl_237_71 ?_
              refine wa_iload (n := 4) rfl ?_
              refine wb_iald 315 rfl (wy_pr rfl) wt_315 (n := 8000) ((ml_315 hM)) (by omega) (by omega) (v := sh) (e15) (fun r510 => ?_)
              refine wb_pfi 237 rfl (wy_pr rfl) wt_237 wf_15_167 (n := 167) rfl ⟨(by omega), (by omega)⟩ ?_
              refine wa_iload_n (n := 2) rfl ?_
              refine wa_iconst ?_
              refine wa_icmpeq (w_rg0 (by omega) (by omega)) (w_rg0 (by omega) (by omega)) ⟨_, rfl⟩ (fun c511 => ?_) (fun c511 => ?_)
              · skip
                exact absurd c511 (by omega)
              · skip
                refine wa_iload_n (n := 2) rfl ?_
                refine wa_iconst ?_
                refine wa_icmpne (w_rg0 (by omega) (by omega)) (w_rg0 (by omega) (by omega)) ⟨_, rfl⟩ (fun c512 => ?_) (fun c512 => ?_)
                · skip
                  exfalso; omega
                · skip
                  exact absurd c512 (by omega)
          · skip
            exfalso; omega
      · skip
        refine wa_iload_n (n := 2) rfl ?_
        refine wa_iconst ?_
        refine wa_icmpne (w_rg0 (by omega) (by omega)) (w_rg0 (by omega) (by omega)) ⟨_, rfl⟩ (fun c513 => ?_) (fun c513 => ?_)
        · skip
          refine wa_iconst ?_
          refine wa_fall ⟨_, rfl⟩ ?_
          refine wa_istore (n := 5) rfl ?_
          refine wa_iload (n := 5) rfl ?_
          refine wa_ifeq (w_rg0 (by omega) (by omega)) ⟨_, rfl⟩ (fun c514 => ?_) (fun c514 => ?_)
          · skip
            refine wa_iload (n := 5) rfl ?_
            refine wa_ifeq (w_rg0 (by omega) (by omega)) ⟨_, rfl⟩ (fun c515 => ?_) (fun c515 => ?_)
            · skip
              refine wa_aload_n (n := 0) rfl ?_
              refine wb_gf4 237 rfl (wy_pr rfl) wt_237 wf_15_50 (v := 305) wl_237_50 ?_
              refine wa_iload_n (n := 1) rfl ?_
              refine wb_iald 305 rfl (wy_pr rfl) wt_305 (n := 4000) ((ml_305 hM)) (by omega) (by omega) (v := nms) (h05) (fun r516 => ?_)
              refine wa_fall ⟨_, rfl⟩ ?_
              refine wa_istore (n := 6) rfl ?_
              refine wa_aload_n (n := 0) rfl ?_
              refine wa_aload_n (n := 0) rfl ?_
              refine wb_gf4 237 rfl (wy_pr rfl) wt_237 wf_15_71 (v := 315) wl_237_71 ?_
              refine wa_iload (n := 4) rfl ?_
              refine wb_iald 315 rfl (wy_pr rfl) wt_315 (n := 8000) ((ml_315 hM)) (by omega) (by omega) (v := sh) (e15) (fun r517 => ?_)
              refine wb_pfi 237 rfl (wy_pr rfl) wt_237 wf_15_167 (n := 167) rfl ⟨(by omega), (by omega)⟩ ?_
              refine wa_iload_n (n := 2) rfl ?_
              refine wa_iconst ?_
              refine wa_icmpeq (w_rg0 (by omega) (by omega)) (w_rg0 (by omega) (by omega)) ⟨_, rfl⟩ (fun c518 => ?_) (fun c518 => ?_)
              · skip
                refine wa_aload_n (n := 0) rfl ?_
                refine wa_aload_n (n := 0) rfl ?_
                refine wa_iload (n := 4) rfl ?_
                refine wa_iload (n := 6) rfl ?_
                have fT : ∀ (j : Nat) (x : Int), (j ≠ 237 ∨ (x ≠ 167 ∧ x ≠ 170)) → (w_up S 237 167 sh) j x = S j x := fun j x hj => (w_up_no (by omega))
                have mT : w_ML (w_up S 237 167 sh) := w_ML_up (hM) (by first | decide | omega)
                have hHT : rHs (w_up S 237 167 sh) H := rHs_ag hH (fT 237 87 (by first | decide | omega)) (fun j x j0 j1 => fT j x (by omega))
                have htT : rTh (w_up S 237 167 sh) sl T := rTh_mo ht (rTx_of (fT 237 19 (by first | decide | omega)) (fT 237 102 (by first | decide | omega)) (fun j x j0 j1 => fT j x (by omega))) (fT 237 68 (by first | decide | omega)) (fT 237 82 (by first | decide | omega)) (fun j x j0 j1 => fT j x (by omega))
                have enm : nms = nm := by rw [hnm]; first | exact (if_pos (by omega)).symm | exact (if_neg (by omega)).symm
                refine wa_cv 237 rfl (wy_pr rfl) wt_237 (M2 := fun _ => False) rfl at_M_own ⟨_, rfl⟩ rfl rfl ⟨trivial, trivial, trivial, (Or.inr ⟨wy_pr rfl, fun q => q⟩), trivial, trivial, trivial, trivial⟩ ⟨(Or.inr ⟨wy_pr rfl, fun q => q⟩), trivial⟩ (fun _ _ q => False.elim q) (wJ_mono (r_ow (S := (w_up S 237 167 sh)) (nm := nms) mT htT ⟨hq1.1, hq1.2⟩ hT (by rw [fT 237 82 (by decide)]; exact h82) (wSh_64 hw hq) ⟨by omega, by omega⟩) (fun o Z hz => (⟨hz.1, by rw [hi1, ← enm]; exact hz.2⟩ : (w_up S 237 167 sh) = Z ∧ o = .inl (some (0, i1))))) (fun oq519 Sq519 hp520 q519 => ?_)
                rcases q519 with ⟨rfl, rfl⟩
                show wJ _ _ _ _ _ _ _ _ _ _
                refine wb_pfi 237 rfl (wy_pr rfl) wt_237 wf_15_170 (n := 170) rfl ⟨(by omega), (by omega)⟩ ?_
                refine wa_aload_n (n := 0) rfl ?_
                refine wb_gfi 237 rfl (wy_pr rfl) wt_237 wf_15_170 (v := i1) (w_up_same _ _ _ _) (fun r521 => ?_)
                refine wa_ifge (w_rg0 (by omega) (by omega)) ⟨_, rfl⟩ (fun c522 => ?_) (fun c522 => ?_)
                · skip
                  refine wa_return rfl ?_
                  exact Or.inl ⟨by omega, rfl, ⟨⟨((w_up_at (by first | decide | omega)).trans (w_up_same _ _ _ _)), ((w_up_at (by first | decide | omega)).trans ((w_up_at (by first | decide | omega)).trans (h69))), (w_up_same _ _ _ _), ((w_up_at (by first | decide | omega)).trans ((w_up_at (by first | decide | omega)).trans (h71)))⟩, fun j x hj => ((w_up_no (by omega)).trans (w_up_no (by omega))), w_ML_up (w_ML_up (hM) (by first | decide | omega)) (by first | decide | omega)⟩⟩
                · skip
                  refine wa_aload_n (n := 0) rfl ?_
                  refine wa_iload_n (n := 3) rfl ?_
                  refine wa_ifeq (w_rg0 (by omega) (by omega)) ⟨_, rfl⟩ (fun c523 => ?_) (fun c523 => ?_)
                  · skip
                    refine wa_aload_n (n := 0) rfl ?_
                    refine wa_aload_n (n := 0) rfl ?_
                    refine wb_gf4 237 rfl (wy_pr rfl) wt_237 wf_15_71 (v := 315) wl_237_71 ?_
                    refine wa_iload (n := 4) rfl ?_
                    refine wb_iald 315 rfl (wy_pr rfl) wt_315 (n := 8000) ((w_up_slot (by decide)).trans ((w_up_slot (by decide)).trans ((ml_315 hM)))) (by omega) (by omega) (v := sh) ((w_up_slot (by decide)).trans ((w_up_slot (by decide)).trans (e15))) (fun r524 => ?_)
                    refine wa_aload_n (n := 0) rfl ?_
                    refine wa_iload (n := 4) rfl ?_
                    refine wa_cv 237 rfl (wy_pr rfl) wt_237 (M2 := fun _ => False) rfl at_M_protoOf ⟨_, rfl⟩ rfl rfl ⟨trivial, trivial, trivial, (Or.inr ⟨wy_pr rfl, fun q => q⟩), trivial, trivial, trivial, trivial⟩ ⟨trivial, (Or.inr ⟨wy_pr rfl, fun q => q⟩), (Or.inr ⟨wy_pr rfl, fun q => q⟩), trivial⟩ (fun _ _ q => False.elim q) ?_ (fun _ _ _ q => q)
                    refine wa_aload_n (n := 0) rfl ?_
                    refine wb_gf4 237 rfl (wy_pr rfl) wt_237 wf_15_88 (v := 329) wl_237_88 ?_
                    refine wa_aload_n (n := 0) rfl ?_
                    refine wb_gf4 237 rfl (wy_pr rfl) wt_237 wf_15_71 (v := 315) wl_237_71 ?_
                    refine wa_iload_n (n := 1) rfl ?_
                    refine wb_iald 315 rfl (wy_pr rfl) wt_315 (n := 8000) ((w_up_slot (by decide)).trans ((w_up_slot (by decide)).trans ((ml_315 hM)))) (by omega) (by omega) (v := sh) ((w_up_slot (by decide)).trans ((w_up_slot (by decide)).trans (e15))) (fun r525 => ?_)
                    refine wb_iald 329 rfl (wy_pr rfl) wt_329 (n := 4001) ((w_up_slot (by decide)).trans ((w_up_slot (by decide)).trans ((ml_329 hM)))) (by omega) (by omega) (v := pr) ((w_up_slot (by decide)).trans ((w_up_slot (by decide)).trans (e29b))) (fun r526 => ?_)
                    refine wa_ireturn rfl ?_
                    show wJ _ _ _ _ _ _ _ _ _ _
                    refine wa_iload (n := 6) rfl ?_
                    have fT : ∀ (j : Nat) (x : Int), (j ≠ 237 ∨ (x ≠ 167 ∧ x ≠ 170)) → (w_up (w_up S 237 167 sh) 237 170 i1) j x = S j x := fun j x hj => ((w_up_no (by omega)).trans (w_up_no (by omega)))
                    have mT : w_ML (w_up (w_up S 237 167 sh) 237 170 i1) := w_ML_up (w_ML_up (hM) (by first | decide | omega)) (by first | decide | omega)
                    have hHT : rHs (w_up (w_up S 237 167 sh) 237 170 i1) H := rHs_ag hH (fT 237 87 (by first | decide | omega)) (fun j x j0 j1 => fT j x (by omega))
                    refine wa_cv 237 rfl (wy_pr rfl) wt_237 (M2 := fun _ => False) rfl at_M_findShape ⟨_, rfl⟩ rfl rfl ⟨trivial, trivial, trivial, (Or.inr ⟨wy_pr rfl, fun q => q⟩), trivial, trivial, trivial, trivial⟩ ⟨(Or.inr ⟨wy_pr rfl, fun q => q⟩), trivial⟩ (fun _ _ q => False.elim q) (wJ_mono (r_fs (S := (w_up (w_up S 237 167 sh) 237 170 i1)) (H := H) (be := sh) (pr := pr) (nm := nms) (n := (T.length : Int)) mT hHT hw.1 (fun z => by omega) ⟨by omega, by omega⟩ ⟨by omega, by omega⟩ ⟨by omega, by omega⟩) (fun o Z hz => (⟨hz.1, by rw [hr0, ← enm]; exact hz.2⟩ : (w_up (w_up S 237 167 sh) 237 170 i1) = Z ∧ o = .inl (some (0, r0))))) (fun oq527 Sq527 hp528 q527 => ?_)
                    rcases q527 with ⟨rfl, rfl⟩
                    show wJ _ _ _ _ _ _ _ _ _ _
                    refine wa_fall ⟨_, rfl⟩ ?_
                    refine wb_pfi 237 rfl (wy_pr rfl) wt_237 wf_15_171 (n := 171) rfl ⟨(by omega), (by omega)⟩ ?_
                    refine wa_fall ⟨_, rfl⟩ ?_
                    refine wa_return rfl ?_
                    exact Or.inr (Or.inl ⟨by omega, by omega, rfl, ⟨⟨((w_up_at (by first | decide | omega)).trans ((w_up_at (by first | decide | omega)).trans (w_up_same _ _ _ _))), ((w_up_at (by first | decide | omega)).trans ((w_up_at (by first | decide | omega)).trans ((w_up_at (by first | decide | omega)).trans (h69)))), ((w_up_at (by first | decide | omega)).trans (w_up_same _ _ _ _)).trans (show i1 = -1 by omega), (w_up_same _ _ _ _)⟩, fun j x hj => ((w_up_no (by omega)).trans ((w_up_no (by omega)).trans (w_up_no (by omega)))), w_ML_up (w_ML_up (w_ML_up (hM) (by first | decide | omega)) (by first | decide | omega)) (by first | decide | omega)⟩⟩)
                  · skip
                    refine wa_aload_n (n := 0) rfl ?_
                    refine wa_aload_n (n := 0) rfl ?_
                    refine wb_gf4 237 rfl (wy_pr rfl) wt_237 wf_15_71 (v := 315) wl_237_71 ?_
                    refine wa_iload (n := 4) rfl ?_
                    refine wb_iald 315 rfl (wy_pr rfl) wt_315 (n := 8000) ((w_up_slot (by decide)).trans ((w_up_slot (by decide)).trans ((ml_315 hM)))) (by omega) (by omega) (v := sh) ((w_up_slot (by decide)).trans ((w_up_slot (by decide)).trans (e15))) (fun r529 => ?_)
                    refine wa_aload_n (n := 0) rfl ?_
                    refine wa_iload (n := 4) rfl ?_
                    refine wa_cv 237 rfl (wy_pr rfl) wt_237 (M2 := fun _ => False) rfl at_M_protoOf ⟨_, rfl⟩ rfl rfl ⟨trivial, trivial, trivial, (Or.inr ⟨wy_pr rfl, fun q => q⟩), trivial, trivial, trivial, trivial⟩ ⟨trivial, (Or.inr ⟨wy_pr rfl, fun q => q⟩), (Or.inr ⟨wy_pr rfl, fun q => q⟩), trivial⟩ (fun _ _ q => False.elim q) ?_ (fun _ _ _ q => q)
                    refine wa_aload_n (n := 0) rfl ?_
                    refine wb_gf4 237 rfl (wy_pr rfl) wt_237 wf_15_88 (v := 329) wl_237_88 ?_
                    refine wa_aload_n (n := 0) rfl ?_
                    refine wb_gf4 237 rfl (wy_pr rfl) wt_237 wf_15_71 (v := 315) wl_237_71 ?_
                    refine wa_iload_n (n := 1) rfl ?_
                    refine wb_iald 315 rfl (wy_pr rfl) wt_315 (n := 8000) ((w_up_slot (by decide)).trans ((w_up_slot (by decide)).trans ((ml_315 hM)))) (by omega) (by omega) (v := sh) ((w_up_slot (by decide)).trans ((w_up_slot (by decide)).trans (e15))) (fun r530 => ?_)
                    refine wb_iald 329 rfl (wy_pr rfl) wt_329 (n := 4001) ((w_up_slot (by decide)).trans ((w_up_slot (by decide)).trans ((ml_329 hM)))) (by omega) (by omega) (v := pr) ((w_up_slot (by decide)).trans ((w_up_slot (by decide)).trans (e29b))) (fun r531 => ?_)
                    refine wa_ireturn rfl ?_
                    show wJ _ _ _ _ _ _ _ _ _ _
                    refine wa_iload (n := 6) rfl ?_
                    have fT : ∀ (j : Nat) (x : Int), (j ≠ 237 ∨ (x ≠ 167 ∧ x ≠ 170)) → (w_up (w_up S 237 167 sh) 237 170 i1) j x = S j x := fun j x hj => ((w_up_no (by omega)).trans (w_up_no (by omega)))
                    have mT : w_ML (w_up (w_up S 237 167 sh) 237 170 i1) := w_ML_up (w_ML_up (hM) (by first | decide | omega)) (by first | decide | omega)
                    have hHT : rHs (w_up (w_up S 237 167 sh) 237 170 i1) H := rHs_ag hH (fT 237 87 (by first | decide | omega)) (fun j x j0 j1 => fT j x (by omega))
                    have ltA : ltQ sh (-1) (-1) (-1) S (w_up (w_up S 237 167 sh) 237 170 i1) := ⟨⟨((w_up_at (by first | decide | omega)).trans (w_up_same _ _ _ _)), ((w_up_at (by first | decide | omega)).trans ((w_up_at (by first | decide | omega)).trans (h69))), (w_up_same _ _ _ _).trans (by omega), ((w_up_at (by first | decide | omega)).trans ((w_up_at (by first | decide | omega)).trans (h71)))⟩, fun j x hj => ((w_up_no (by omega)).trans (w_up_no (by omega))), mT⟩
                    refine wa_cv 237 rfl (wy_pr rfl) wt_237 (M2 := fun _ => False) rfl at_M_madeShape ⟨_, rfl⟩ rfl rfl ⟨trivial, trivial, trivial, (Or.inr ⟨wy_pr rfl, fun q => q⟩), trivial, trivial, trivial, trivial⟩ ⟨(Or.inr ⟨wy_pr rfl, fun q => q⟩), trivial⟩ (fun _ _ q => False.elim q) (r_ms (S := (w_up (w_up S 237 167 sh) 237 170 i1)) (H := H) (be := sh) (pr := pr) (nm := nms) (n := (T.length : Int)) (r := r0) (u4 := u4) mT hHT hw.1 (fun z => by omega) ⟨by omega, by omega⟩ ⟨by omega, by omega⟩ ⟨by omega, by omega⟩ (by rw [enm]; exact hr0) ((fT 237 66 (by decide)).trans h66) ⟨by omega, by omega, by omega⟩) (fun oq532 Sq532 hp533 q532 => ?_)
                    rcases q532 with ⟨hr1, rfl, rfl⟩ | ⟨hr1, hr2, rfl, rfl⟩ | ⟨hr1, hr2, rfl, rfl⟩
                    · skip
                      show wJ _ _ _ _ _ _ _ _ _ _
                      refine wa_goto ⟨_, rfl⟩ ?_
                      refine wb_pfi 237 rfl (wy_pr rfl) wt_237 wf_15_171 (n := 171) rfl ⟨(by omega), (by omega)⟩ ?_
                      refine wa_fall ⟨_, rfl⟩ ?_
                      refine wa_return rfl ?_
                      exact Or.inr (Or.inl ⟨by omega, by omega, rfl, ⟨⟨((w_up_at (by first | decide | omega)).trans ((w_up_at (by first | decide | omega)).trans (w_up_same _ _ _ _))), ((w_up_at (by first | decide | omega)).trans ((w_up_at (by first | decide | omega)).trans ((w_up_at (by first | decide | omega)).trans (h69)))), ((w_up_at (by first | decide | omega)).trans (w_up_same _ _ _ _)).trans (show i1 = -1 by omega), (w_up_same _ _ _ _)⟩, fun j x hj => ((w_up_no (by omega)).trans ((w_up_no (by omega)).trans (w_up_no (by omega)))), w_ML_up (w_ML_up (w_ML_up (hM) (by first | decide | omega)) (by first | decide | omega)) (by first | decide | omega)⟩⟩)
                    · skip
                      refine ⟨rfl, ?_⟩
                      exact Or.inr (Or.inr (Or.inl ⟨by omega, by omega, by omega, by omega, rfl, _, ltA, rfl⟩))
                    · skip
                      show wJ _ _ _ _ _ _ _ _ _ _
                      refine wa_goto ⟨_, rfl⟩ ?_
                      refine wb_pfi 237 rfl (wy_pr rfl) wt_237 wf_15_171 (n := 171) rfl ⟨(by omega), (by omega)⟩ ?_
                      refine wa_fall ⟨_, rfl⟩ ?_
                      refine wa_return rfl ?_
                      exact Or.inr (Or.inr (Or.inr ⟨by omega, by omega, by omega, by omega, rfl, _, ltA, by rw [enm]⟩))
              · skip
                refine wa_iload_n (n := 2) rfl ?_
                refine wa_iconst ?_
                refine wa_icmpne (w_rg0 (by omega) (by omega)) (w_rg0 (by omega) (by omega)) ⟨_, rfl⟩ (fun c534 => ?_) (fun c534 => ?_)
                · skip
                  exfalso; omega
                · skip
                  exact absurd c534 (by omega)
            · skip
              exact absurd c515 (by omega)
          · skip
            exact absurd c514 (by omega)
        · skip
          refine wa_fall ⟨_, rfl⟩ ?_
          refine wa_iconst ?_
          refine wa_goto ⟨_, rfl⟩ ?_
          refine wa_istore (n := 5) rfl ?_
          refine wa_iload (n := 5) rfl ?_
          refine wa_ifeq (w_rg0 (by omega) (by omega)) ⟨_, rfl⟩ (fun c535 => ?_) (fun c535 => ?_)
          · skip
            exact absurd c535 (by omega)
          · skip
            refine wa_aload_n (n := 0) rfl ?_
            refine wb_gfi 237 rfl (wy_pr rfl) wt_237 wf_15_177 (v := en) (h77) (fun r536 => ?_)
            refine wa_ifge (w_rg0 (by omega) (by omega)) ⟨_, rfl⟩ (fun c537 => ?_) (fun c537 => ?_)
            · skip
              refine wa_iload (n := 5) rfl ?_
              refine wa_ifeq (w_rg0 (by omega) (by omega)) ⟨_, rfl⟩ (fun c538 => ?_) (fun c538 => ?_)
              · skip
                exact absurd c538 (by omega)
              · skip
                refine wa_aload_n (n := 0) rfl ?_
                refine wb_gfi 237 rfl (wy_pr rfl) wt_237 wf_15_177 (v := en) (h77) (fun r539 => ?_)
                refine wa_goto ⟨_, rfl⟩ ?_
                refine wa_istore (n := 6) rfl ?_
                refine wa_aload_n (n := 0) rfl ?_
                refine wa_aload_n (n := 0) rfl ?_
                refine wb_gf4 237 rfl (wy_pr rfl) wt_237 wf_15_71 (v := 315) wl_237_71 ?_
                refine wa_iload (n := 4) rfl ?_
                refine wb_iald 315 rfl (wy_pr rfl) wt_315 (n := 8000) ((ml_315 hM)) (by omega) (by omega) (v := sh) (e15) (fun r540 => ?_)
                refine wb_pfi 237 rfl (wy_pr rfl) wt_237 wf_15_167 (n := 167) rfl ⟨(by omega), (by omega)⟩ ?_
                refine wa_iload_n (n := 2) rfl ?_
                refine wa_iconst ?_
                refine wa_icmpeq (w_rg0 (by omega) (by omega)) (w_rg0 (by omega) (by omega)) ⟨_, rfl⟩ (fun c541 => ?_) (fun c541 => ?_)
                · skip
                  exact absurd c541 (by omega)
                · skip
                  refine wa_iload_n (n := 2) rfl ?_
                  refine wa_iconst ?_
                  refine wa_icmpne (w_rg0 (by omega) (by omega)) (w_rg0 (by omega) (by omega)) ⟨_, rfl⟩ (fun c542 => ?_) (fun c542 => ?_)
                  · skip
                    exact absurd c542 (by omega)
                  · skip
                    refine wa_fall ⟨_, rfl⟩ ?_
                    refine wa_aload_n (n := 0) rfl ?_
                    refine wa_aload_n (n := 0) rfl ?_
                    refine wa_iload (n := 4) rfl ?_
                    refine wa_iload (n := 6) rfl ?_
                    have fT : ∀ (j : Nat) (x : Int), (j ≠ 237 ∨ (x ≠ 167 ∧ x ≠ 170)) → (w_up S 237 167 sh) j x = S j x := fun j x hj => (w_up_no (by omega))
                    have mT : w_ML (w_up S 237 167 sh) := w_ML_up (hM) (by first | decide | omega)
                    have hHT : rHs (w_up S 237 167 sh) H := rHs_ag hH (fT 237 87 (by first | decide | omega)) (fun j x j0 j1 => fT j x (by omega))
                    have htT : rTh (w_up S 237 167 sh) sl T := rTh_mo ht (rTx_of (fT 237 19 (by first | decide | omega)) (fT 237 102 (by first | decide | omega)) (fun j x j0 j1 => fT j x (by omega))) (fT 237 68 (by first | decide | omega)) (fT 237 82 (by first | decide | omega)) (fun j x j0 j1 => fT j x (by omega))
                    have enm : en = nm := by rw [hnm]; first | exact (if_pos (by omega)).symm | exact (if_neg (by omega)).symm
                    refine wa_cv 237 rfl (wy_pr rfl) wt_237 (M2 := fun _ => False) rfl at_M_own ⟨_, rfl⟩ rfl rfl ⟨trivial, trivial, trivial, (Or.inr ⟨wy_pr rfl, fun q => q⟩), trivial, trivial, trivial, trivial⟩ ⟨(Or.inr ⟨wy_pr rfl, fun q => q⟩), trivial⟩ (fun _ _ q => False.elim q) (wJ_mono (r_ow (S := (w_up S 237 167 sh)) (nm := en) mT htT ⟨hq1.1, hq1.2⟩ hT (by rw [fT 237 82 (by decide)]; exact h82) (wSh_64 hw hq) ⟨by omega, by omega⟩) (fun o Z hz => (⟨hz.1, by rw [hi1, ← enm]; exact hz.2⟩ : (w_up S 237 167 sh) = Z ∧ o = .inl (some (0, i1))))) (fun oq543 Sq543 hp544 q543 => ?_)
                    rcases q543 with ⟨rfl, rfl⟩
                    show wJ _ _ _ _ _ _ _ _ _ _
                    refine wb_pfi 237 rfl (wy_pr rfl) wt_237 wf_15_170 (n := 170) rfl ⟨(by omega), (by omega)⟩ ?_
                    refine wa_aload_n (n := 0) rfl ?_
                    refine wb_gfi 237 rfl (wy_pr rfl) wt_237 wf_15_170 (v := i1) (w_up_same _ _ _ _) (fun r545 => ?_)
                    refine wa_ifge (w_rg0 (by omega) (by omega)) ⟨_, rfl⟩ (fun c546 => ?_) (fun c546 => ?_)
                    · skip
                      refine wa_return rfl ?_
                      exact Or.inl ⟨by omega, rfl, ⟨⟨((w_up_at (by first | decide | omega)).trans (w_up_same _ _ _ _)), ((w_up_at (by first | decide | omega)).trans ((w_up_at (by first | decide | omega)).trans (h69))), (w_up_same _ _ _ _), ((w_up_at (by first | decide | omega)).trans ((w_up_at (by first | decide | omega)).trans (h71)))⟩, fun j x hj => ((w_up_no (by omega)).trans (w_up_no (by omega))), w_ML_up (w_ML_up (hM) (by first | decide | omega)) (by first | decide | omega)⟩⟩
                    · skip
                      refine wa_aload_n (n := 0) rfl ?_
                      refine wa_iload_n (n := 3) rfl ?_
                      refine wa_ifeq (w_rg0 (by omega) (by omega)) ⟨_, rfl⟩ (fun c547 => ?_) (fun c547 => ?_)
                      · skip
                        refine wa_aload_n (n := 0) rfl ?_
                        refine wa_aload_n (n := 0) rfl ?_
                        refine wb_gf4 237 rfl (wy_pr rfl) wt_237 wf_15_71 (v := 315) wl_237_71 ?_
                        refine wa_iload (n := 4) rfl ?_
                        refine wb_iald 315 rfl (wy_pr rfl) wt_315 (n := 8000) ((w_up_slot (by decide)).trans ((w_up_slot (by decide)).trans ((ml_315 hM)))) (by omega) (by omega) (v := sh) ((w_up_slot (by decide)).trans ((w_up_slot (by decide)).trans (e15))) (fun r548 => ?_)
                        refine wa_aload_n (n := 0) rfl ?_
                        refine wa_iload (n := 4) rfl ?_
                        refine wa_cv 237 rfl (wy_pr rfl) wt_237 (M2 := fun _ => False) rfl at_M_protoOf ⟨_, rfl⟩ rfl rfl ⟨trivial, trivial, trivial, (Or.inr ⟨wy_pr rfl, fun q => q⟩), trivial, trivial, trivial, trivial⟩ ⟨trivial, (Or.inr ⟨wy_pr rfl, fun q => q⟩), (Or.inr ⟨wy_pr rfl, fun q => q⟩), trivial⟩ (fun _ _ q => False.elim q) ?_ (fun _ _ _ q => q)
                        refine wa_aload_n (n := 0) rfl ?_
                        refine wb_gf4 237 rfl (wy_pr rfl) wt_237 wf_15_88 (v := 329) wl_237_88 ?_
                        refine wa_aload_n (n := 0) rfl ?_
                        refine wb_gf4 237 rfl (wy_pr rfl) wt_237 wf_15_71 (v := 315) wl_237_71 ?_
                        refine wa_iload_n (n := 1) rfl ?_
                        refine wb_iald 315 rfl (wy_pr rfl) wt_315 (n := 8000) ((w_up_slot (by decide)).trans ((w_up_slot (by decide)).trans ((ml_315 hM)))) (by omega) (by omega) (v := sh) ((w_up_slot (by decide)).trans ((w_up_slot (by decide)).trans (e15))) (fun r549 => ?_)
                        refine wb_iald 329 rfl (wy_pr rfl) wt_329 (n := 4001) ((w_up_slot (by decide)).trans ((w_up_slot (by decide)).trans ((ml_329 hM)))) (by omega) (by omega) (v := pr) ((w_up_slot (by decide)).trans ((w_up_slot (by decide)).trans (e29b))) (fun r550 => ?_)
                        refine wa_ireturn rfl ?_
                        show wJ _ _ _ _ _ _ _ _ _ _
                        refine wa_iload (n := 6) rfl ?_
                        have fT : ∀ (j : Nat) (x : Int), (j ≠ 237 ∨ (x ≠ 167 ∧ x ≠ 170)) → (w_up (w_up S 237 167 sh) 237 170 i1) j x = S j x := fun j x hj => ((w_up_no (by omega)).trans (w_up_no (by omega)))
                        have mT : w_ML (w_up (w_up S 237 167 sh) 237 170 i1) := w_ML_up (w_ML_up (hM) (by first | decide | omega)) (by first | decide | omega)
                        have hHT : rHs (w_up (w_up S 237 167 sh) 237 170 i1) H := rHs_ag hH (fT 237 87 (by first | decide | omega)) (fun j x j0 j1 => fT j x (by omega))
                        refine wa_cv 237 rfl (wy_pr rfl) wt_237 (M2 := fun _ => False) rfl at_M_findShape ⟨_, rfl⟩ rfl rfl ⟨trivial, trivial, trivial, (Or.inr ⟨wy_pr rfl, fun q => q⟩), trivial, trivial, trivial, trivial⟩ ⟨(Or.inr ⟨wy_pr rfl, fun q => q⟩), trivial⟩ (fun _ _ q => False.elim q) (wJ_mono (r_fs (S := (w_up (w_up S 237 167 sh) 237 170 i1)) (H := H) (be := sh) (pr := pr) (nm := en) (n := (T.length : Int)) mT hHT hw.1 (fun z => by omega) ⟨by omega, by omega⟩ ⟨by omega, by omega⟩ ⟨by omega, by omega⟩) (fun o Z hz => (⟨hz.1, by rw [hr0, ← enm]; exact hz.2⟩ : (w_up (w_up S 237 167 sh) 237 170 i1) = Z ∧ o = .inl (some (0, r0))))) (fun oq551 Sq551 hp552 q551 => ?_)
                        rcases q551 with ⟨rfl, rfl⟩
                        show wJ _ _ _ _ _ _ _ _ _ _
                        refine wa_fall ⟨_, rfl⟩ ?_
                        refine wb_pfi 237 rfl (wy_pr rfl) wt_237 wf_15_171 (n := 171) rfl ⟨(by omega), (by omega)⟩ ?_
                        refine wa_fall ⟨_, rfl⟩ ?_
                        refine wa_return rfl ?_
                        exact Or.inr (Or.inl ⟨by omega, by omega, rfl, ⟨⟨((w_up_at (by first | decide | omega)).trans ((w_up_at (by first | decide | omega)).trans (w_up_same _ _ _ _))), ((w_up_at (by first | decide | omega)).trans ((w_up_at (by first | decide | omega)).trans ((w_up_at (by first | decide | omega)).trans (h69)))), ((w_up_at (by first | decide | omega)).trans (w_up_same _ _ _ _)).trans (show i1 = -1 by omega), (w_up_same _ _ _ _)⟩, fun j x hj => ((w_up_no (by omega)).trans ((w_up_no (by omega)).trans (w_up_no (by omega)))), w_ML_up (w_ML_up (w_ML_up (hM) (by first | decide | omega)) (by first | decide | omega)) (by first | decide | omega)⟩⟩)
                      · skip
                        refine wa_aload_n (n := 0) rfl ?_
                        refine wa_aload_n (n := 0) rfl ?_
                        refine wb_gf4 237 rfl (wy_pr rfl) wt_237 wf_15_71 (v := 315) wl_237_71 ?_
                        refine wa_iload (n := 4) rfl ?_
                        refine wb_iald 315 rfl (wy_pr rfl) wt_315 (n := 8000) ((w_up_slot (by decide)).trans ((w_up_slot (by decide)).trans ((ml_315 hM)))) (by omega) (by omega) (v := sh) ((w_up_slot (by decide)).trans ((w_up_slot (by decide)).trans (e15))) (fun r553 => ?_)
                        refine wa_aload_n (n := 0) rfl ?_
                        refine wa_iload (n := 4) rfl ?_
                        refine wa_cv 237 rfl (wy_pr rfl) wt_237 (M2 := fun _ => False) rfl at_M_protoOf ⟨_, rfl⟩ rfl rfl ⟨trivial, trivial, trivial, (Or.inr ⟨wy_pr rfl, fun q => q⟩), trivial, trivial, trivial, trivial⟩ ⟨trivial, (Or.inr ⟨wy_pr rfl, fun q => q⟩), (Or.inr ⟨wy_pr rfl, fun q => q⟩), trivial⟩ (fun _ _ q => False.elim q) ?_ (fun _ _ _ q => q)
                        refine wa_aload_n (n := 0) rfl ?_
                        refine wb_gf4 237 rfl (wy_pr rfl) wt_237 wf_15_88 (v := 329) wl_237_88 ?_
                        refine wa_aload_n (n := 0) rfl ?_
                        refine wb_gf4 237 rfl (wy_pr rfl) wt_237 wf_15_71 (v := 315) wl_237_71 ?_
                        refine wa_iload_n (n := 1) rfl ?_
                        refine wb_iald 315 rfl (wy_pr rfl) wt_315 (n := 8000) ((w_up_slot (by decide)).trans ((w_up_slot (by decide)).trans ((ml_315 hM)))) (by omega) (by omega) (v := sh) ((w_up_slot (by decide)).trans ((w_up_slot (by decide)).trans (e15))) (fun r554 => ?_)
                        refine wb_iald 329 rfl (wy_pr rfl) wt_329 (n := 4001) ((w_up_slot (by decide)).trans ((w_up_slot (by decide)).trans ((ml_329 hM)))) (by omega) (by omega) (v := pr) ((w_up_slot (by decide)).trans ((w_up_slot (by decide)).trans (e29b))) (fun r555 => ?_)
                        refine wa_ireturn rfl ?_
                        show wJ _ _ _ _ _ _ _ _ _ _
                        refine wa_iload (n := 6) rfl ?_
                        have fT : ∀ (j : Nat) (x : Int), (j ≠ 237 ∨ (x ≠ 167 ∧ x ≠ 170)) → (w_up (w_up S 237 167 sh) 237 170 i1) j x = S j x := fun j x hj => ((w_up_no (by omega)).trans (w_up_no (by omega)))
                        have mT : w_ML (w_up (w_up S 237 167 sh) 237 170 i1) := w_ML_up (w_ML_up (hM) (by first | decide | omega)) (by first | decide | omega)
                        have hHT : rHs (w_up (w_up S 237 167 sh) 237 170 i1) H := rHs_ag hH (fT 237 87 (by first | decide | omega)) (fun j x j0 j1 => fT j x (by omega))
                        have ltA : ltQ sh (-1) (-1) (-1) S (w_up (w_up S 237 167 sh) 237 170 i1) := ⟨⟨((w_up_at (by first | decide | omega)).trans (w_up_same _ _ _ _)), ((w_up_at (by first | decide | omega)).trans ((w_up_at (by first | decide | omega)).trans (h69))), (w_up_same _ _ _ _).trans (by omega), ((w_up_at (by first | decide | omega)).trans ((w_up_at (by first | decide | omega)).trans (h71)))⟩, fun j x hj => ((w_up_no (by omega)).trans (w_up_no (by omega))), mT⟩
                        refine wa_cv 237 rfl (wy_pr rfl) wt_237 (M2 := fun _ => False) rfl at_M_madeShape ⟨_, rfl⟩ rfl rfl ⟨trivial, trivial, trivial, (Or.inr ⟨wy_pr rfl, fun q => q⟩), trivial, trivial, trivial, trivial⟩ ⟨(Or.inr ⟨wy_pr rfl, fun q => q⟩), trivial⟩ (fun _ _ q => False.elim q) (r_ms (S := (w_up (w_up S 237 167 sh) 237 170 i1)) (H := H) (be := sh) (pr := pr) (nm := en) (n := (T.length : Int)) (r := r0) (u4 := u4) mT hHT hw.1 (fun z => by omega) ⟨by omega, by omega⟩ ⟨by omega, by omega⟩ ⟨by omega, by omega⟩ (by rw [enm]; exact hr0) ((fT 237 66 (by decide)).trans h66) ⟨by omega, by omega, by omega⟩) (fun oq556 Sq556 hp557 q556 => ?_)
                        rcases q556 with ⟨hr1, rfl, rfl⟩ | ⟨hr1, hr2, rfl, rfl⟩ | ⟨hr1, hr2, rfl, rfl⟩
                        · skip
                          show wJ _ _ _ _ _ _ _ _ _ _
                          refine wa_goto ⟨_, rfl⟩ ?_
                          refine wb_pfi 237 rfl (wy_pr rfl) wt_237 wf_15_171 (n := 171) rfl ⟨(by omega), (by omega)⟩ ?_
                          refine wa_fall ⟨_, rfl⟩ ?_
                          refine wa_return rfl ?_
                          exact Or.inr (Or.inl ⟨by omega, by omega, rfl, ⟨⟨((w_up_at (by first | decide | omega)).trans ((w_up_at (by first | decide | omega)).trans (w_up_same _ _ _ _))), ((w_up_at (by first | decide | omega)).trans ((w_up_at (by first | decide | omega)).trans ((w_up_at (by first | decide | omega)).trans (h69)))), ((w_up_at (by first | decide | omega)).trans (w_up_same _ _ _ _)).trans (show i1 = -1 by omega), (w_up_same _ _ _ _)⟩, fun j x hj => ((w_up_no (by omega)).trans ((w_up_no (by omega)).trans (w_up_no (by omega)))), w_ML_up (w_ML_up (w_ML_up (hM) (by first | decide | omega)) (by first | decide | omega)) (by first | decide | omega)⟩⟩)
                        · skip
                          refine ⟨rfl, ?_⟩
                          exact Or.inr (Or.inr (Or.inl ⟨by omega, by omega, by omega, by omega, rfl, _, ltA, rfl⟩))
                        · skip
                          show wJ _ _ _ _ _ _ _ _ _ _
                          refine wa_goto ⟨_, rfl⟩ ?_
                          refine wb_pfi 237 rfl (wy_pr rfl) wt_237 wf_15_171 (n := 171) rfl ⟨(by omega), (by omega)⟩ ?_
                          refine wa_fall ⟨_, rfl⟩ ?_
                          refine wa_return rfl ?_
                          exact Or.inr (Or.inr (Or.inr ⟨by omega, by omega, by omega, by omega, rfl, _, ltA, by rw [enm]⟩))
            · skip
              exfalso; omega
    · skip
      exfalso; omega
end Wgv
