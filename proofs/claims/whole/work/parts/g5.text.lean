/-! PART g5: a text is printed: of the class, of the reference. -/
section Wg5
variable {xs : List (Nat × List Int32)} {M : Nat → Prop} {d : Nat} {S S0 Z A : wS} {v on s : Int} {l : List Int}
set_option maxHeartbeats 4000000 in
theorem xprt (h57 : S 157 (-1) = 64) (hI : gI S) (hvb : v = s * 4294967296 + (l.length : Int)) (hs : 0 ≤ s ∧ s + (l.length : Int) ≤ S 3 (-1)) (hp3 : S 3 (-1) ≤ 10000000) (he : ∀ i : Nat, i < l.length → S 3 (s + (i : Int)) = l.getD i 0) (h13 : S 72 13 = on) (hon : 0 ≤ on ∧ on ≤ 65536 ∧ on ≤ S 151 (-1)) (hlo : 16 ≤ S 151 (-1) ∧ S 151 (-1) ≤ 131072) : wJ (pe_GA xs) wY0 (mS [151]) (d + 6) t_XH_print ((pe_at t_XH_print.bl 0).getD (0, [])).2 [(0, (2, 72)), (1, (0, 3)), (2, (1, v))] [] S (fun o Z => (65536 < on + (l.length : Int) + 1 ∧ o = .inl (some (0, 0)) ∧ w_up S 72 19 64 = Z) ∨ (on + (l.length : Int) + 1 ≤ 65536 ∧ o = .inl (some (0, 1)) ∧ coA on l S Z)) := by
  have hg : wG = 1000000 := rfl
  have hRm := rmR_rfl S
  refine wa_aload_n (n := 0) rfl ?_
  refine wa_iload_n (n := 1) rfl ?_
  refine wa_lload_n (n := 2) rfl ?_
  refine wa_cv 72 rfl (wy_pr rfl) wt_72 (M2 := fun _ => False) rfl at_XH_show ⟨_, rfl⟩ rfl rfl ⟨(Or.inr ⟨wy_pr rfl, fun q => q⟩), trivial, trivial, trivial⟩ trivial (fun _ _ q => False.elim q) ?_ (fun _ _ _ q => q)
  refine wa_aload_n (n := 0) rfl ?_
  refine wa_aload_n (n := 0) rfl ?_
  refine wb_gf4 72 rfl (wy_pr rfl) wt_72 wf_2_18 (v := 157) wl_72_18 ?_
  refine wb_alen 157 rfl (wy_pr rfl) (by rw [wt_157]; rfl) (v := 64) (h57) (fun r1 => ?_)
  refine wb_pfi 72 rfl (wy_pr rfl) wt_72 wf_2_19 (n := 19) rfl ⟨(by omega), (by omega)⟩ ?_
  refine wa_iload_n (n := 1) rfl ?_
  refine wb_sw (w_rg0 (by omega) (by omega)) (tb := 6) rfl ⟨_, rfl⟩ ?_
  refine wa_lload_n (n := 2) rfl ?_
  refine wa_lreturn rfl ?_
  show wJ _ _ _ _ _ _ _ _ _ _
  refine wa_lstore (n := 4) rfl ?_
  refine wa_lload (n := 4) rfl ?_
  refine wa_cs (M2 := fun _ => False) rfl at_X_sliceSize ⟨_, rfl⟩ rfl rfl ⟨trivial, (Or.inr ⟨wy_pr rfl, fun q => q⟩), trivial, trivial, trivial⟩ trivial (fun _ _ q => False.elim q) ?_ (fun _ _ _ q => q)
  refine wa_lload_n (n := 0) rfl ?_
  refine wb_l2i_r (y := (l.length : Int)) (by rw [hvb]; exact sl_z ⟨by omega, by omega⟩ ⟨by omega, by omega⟩) ?_
  refine wa_ireturn rfl ?_
  show wJ _ _ _ _ _ _ _ _ _ _
  refine wa_istore (n := 6) rfl ?_
  refine wa_aload_n (n := 0) rfl ?_
  refine wb_gfi 72 rfl (wy_pr rfl) wt_72 wf_2_13 (v := on) ((w_up_at (by decide)).trans (h13)) (fun r2 => ?_)
  refine wa_iload (n := 6) rfl ?_
  refine wa_iadd ?_
  refine wa_iconst ?_
  refine wa_iadd ?_
  refine wa_istore (n := 7) rfl ?_
  refine wa_iload (n := 7) rfl ?_
  refine wb_ki (n := 65536) rfl ?_
  refine wa_icmple (w_rg0 (by omega) (by omega)) (w_rg0 (by omega) (by omega)) ⟨_, rfl⟩ (fun c3 => ?_) (fun c3 => ?_)
  · skip
    refine wa_iload (n := 7) rfl ?_
    refine wa_aload_n (n := 0) rfl ?_
    refine wb_gf4 72 rfl (wy_pr rfl) wt_72 wf_2_12 (v := 151) wl_72_12 ?_
    refine wb_alen 151 rfl (wy_pr rfl) (by rw [wt_151]; rfl) (v := (S 151 (-1))) ((w_up_slot (by decide)).trans (rfl)) (fun r4 => ?_)
    refine wa_icmple (w_rg0 (by omega) (by omega)) (w_rg0 (by omega) (by omega)) ⟨_, rfl⟩ (fun c5 => ?_) (fun c5 => ?_)
    · skip
      refine wa_aload_n (n := 0) rfl ?_
      refine wa_iload_n (n := 1) rfl ?_
      refine wa_cv 72 rfl (wy_pr rfl) wt_72 (M2 := fun _ => False) rfl at_XH_shownIn ⟨_, rfl⟩ rfl rfl ⟨trivial, trivial, trivial, (Or.inr ⟨wy_pr rfl, fun q => q⟩), trivial, trivial, trivial⟩ trivial (fun _ _ q => False.elim q) ?_ (fun _ _ _ q => q)
      refine wa_iload_n (n := 1) rfl ?_
      refine wa_iconst ?_
      refine wa_icmpne (w_rg0 (by omega) (by omega)) (w_rg0 (by omega) (by omega)) ⟨_, rfl⟩ (fun c6 => ?_) (fun c6 => ?_)
      · skip
        exact absurd c6 (by omega)
      · skip
        refine wa_aload_n (n := 0) rfl ?_
        refine wb_gf4 72 rfl (wy_pr rfl) wt_72 wf_2_0 (v := 2) wl_72_0 ?_
        refine wb_gf4 2 rfl (wy_pr rfl) wt_2 wf_9_0 (v := 3) wl_2_0 ?_
        refine wa_goto ⟨_, rfl⟩ ?_
        refine wa_areturn rfl ?_
        show wJ _ _ _ _ _ _ _ _ _ _
        refine wa_lload (n := 4) rfl ?_
        refine wa_cs (M2 := fun _ => False) rfl at_X_sliceStart ⟨_, rfl⟩ rfl rfl ⟨trivial, trivial, trivial, (Or.inr ⟨wy_pr rfl, fun q => q⟩), trivial, trivial, trivial⟩ ⟨(Or.inr ⟨wy_pr rfl, fun q => q⟩), trivial⟩ (fun _ _ q => False.elim q) ?_ (fun _ _ _ q => q)
        refine wa_lload_n (n := 0) rfl ?_
        refine wa_bipush (w_rg2 (by omega) (by omega)) ?_
        refine wa_lushr ?_
        refine wb_l2i_r (y := s) (by rw [hvb]; exact sl_s ⟨by omega, by omega⟩ ⟨by omega, by omega⟩) ?_
        refine wa_ireturn rfl ?_
        show wJ _ _ _ _ _ _ _ _ _ _
        refine wa_aload_n (n := 0) rfl ?_
        refine wb_gf4 72 rfl (wy_pr rfl) wt_72 wf_2_12 (v := 151) wl_72_12 ?_
        refine wa_aload_n (n := 0) rfl ?_
        refine wb_gfi 72 rfl (wy_pr rfl) wt_72 wf_2_13 (v := on) ((w_up_at (by decide)).trans (h13)) (fun r7 => ?_)
        refine wa_iload (n := 6) rfl ?_
        refine wb_acB (S := (w_up S 72 19 64)) 3 151 rfl rfl (wy_pr rfl) (wy_pr rfl) wt_3 wt_151 (gI_up hI (by omega) (by omega) (by omega)) (rmR_up hRm (by omega) (by decide)) (by decide) (by omega) (by omega) (by omega) (by have e : (w_up S 72 19 64) 3 (-1) = (S 3 (-1)) := ((w_up_slot (by decide)).trans (rfl)); omega) (by have e : (w_up S 72 19 64) 151 (-1) = (S 151 (-1)) := ((w_up_slot (by decide)).trans (rfl)); omega) (by omega) rfl (fun Z8 g9 gi10 rm11 => ?_)
        refine wa_aload_n (n := 0) rfl ?_
        refine wb_gf4 72 rfl (wy_pr rfl) wt_72 wf_2_12 (v := 151) wl_72_12 ?_
        refine wa_iload (n := 7) rfl ?_
        refine wa_iconst ?_
        refine wa_isub ?_
        refine wa_bipush (w_rg2 (by omega) (by omega)) ?_
        refine wb_bast 151 rfl (wy_pr rfl) wt_151 (n := (S 151 (-1))) (((g9.1 151 (-1) (by omega)).trans ((w_up_slot (by decide)).trans (rfl)))) (by omega) (by omega) ⟨(by omega), (by omega)⟩ ?_
        refine wa_aload_n (n := 0) rfl ?_
        refine wa_iload (n := 7) rfl ?_
        refine wb_pfi 72 rfl (wy_pr rfl) wt_72 wf_2_13 (n := 13) rfl ⟨(by omega), (by omega)⟩ ?_
        refine wa_iconst ?_
        refine wa_zreturn rfl (Or.inr rfl) ?_
        have oF1 : ∀ (j : Nat) (x : Int), (j ≠ 72 ∨ x ≠ 19) → (w_up S 72 19 64) j x = S j x := fun j x j0 => w_up_no (by omega)
        have e0 : ∀ (j : Nat) (i : Int), (j ≠ 151 ∨ i < on ∨ on + (l.length : Int) ≤ i) → Z8 j i = (w_up S 72 19 64) j i := g9.1
        have e2 : ∀ i : Int, 0 ≤ i → i < (l.length : Int) → Z8 151 (on + i) = (w_up S 72 19 64) 3 (s + i) := g9.2
        have zz : ∀ (j : Nat) (i : Int), j < 4000000 → j ≠ wG → j ≠ 151 → (w_up S 72 19 64) j i = (w_up S 72 19 64) j i := fun _ _ _ _ _ => rfl
        have zo : ∀ x : Int, 0 ≤ x → x < on → (w_up S 72 19 64) 151 x = S 151 x := fun x _ _ => oF1 151 x (Or.inl (by first | decide | omega))
        have zl : (w_up S 72 19 64) 151 (-1) = S 151 (-1) := oF1 151 (-1) (Or.inl (by first | decide | omega))
        have e1 : (w_up (w_up Z8 151 (((on + (l.length : Int)) + 1) - 1) 10) 72 13 ((on + (l.length : Int)) + 1)) 151 (-1) = (S 151 (-1)) := (w_up_slot (by first | decide | omega)).trans ((w_up_at (by omega)).trans ((e0 151 (-1) (by omega)).trans zl))
        refine Or.inr ⟨by omega, rfl, w_up_same _ _ _ _, fun q hq => ?_, ?_, fun x x0 x1 => (w_up_slot (by first | decide | omega)).trans ((w_up_at (by omega)).trans ((e0 151 x (by omega)).trans (zo x x0 x1))), fun j x j0 j1 j2 j3 j4 => (w_up_no (by omega)).trans ((w_up_slot j2).trans ((e0 j x (Or.inl j2)).trans ((zz j x j0 j1 j2).trans (oF1 j x (by omega))))), by rw [e1]; omega, (gI_up (gI_up gi10 (by omega) (by omega) (by omega)) (by omega) (by omega) (by omega)), (rmR_up (rmR_up rm11 (by omega) (by first | decide | omega)) (by omega) (by first | decide | omega))⟩
        · have y := e2 (q : Int) (by omega) (by omega)
          exact (w_up_slot (by first | decide | omega)).trans ((w_up_at (by omega)).trans (y.trans ((zz 3 _ (by first | decide | omega) (by first | decide | omega) (by first | decide | omega)).trans ((oF1 3 _ (Or.inl (by first | decide | omega))).trans (he q hq)))))
        · rw [w_up_slot (by first | decide | omega), show on + (l.length : Int) + 1 - 1 = on + (l.length : Int) by omega]; exact w_up_same _ _ _ _
    · skip
      refine wa_aload_n (n := 0) rfl ?_
      refine wa_aload_n (n := 0) rfl ?_
      refine wb_gf4 72 rfl (wy_pr rfl) wt_72 wf_2_12 (v := 151) wl_72_12 ?_
      refine wa_iload (n := 7) rfl ?_
      refine wa_aload_n (n := 0) rfl ?_
      refine wb_gf4 72 rfl (wy_pr rfl) wt_72 wf_2_12 (v := 151) wl_72_12 ?_
      refine wb_alen 151 rfl (wy_pr rfl) (by rw [wt_151]; rfl) (v := (S 151 (-1))) ((w_up_slot (by decide)).trans (rfl)) (fun r12 => ?_)
      refine wa_iconst ?_
      refine wa_imul ?_
      refine wa_cs (M2 := fun _ => False) rfl at_JM_max ⟨_, rfl⟩ rfl rfl ⟨trivial, trivial, trivial, (Or.inr ⟨wy_pr rfl, fun q => q⟩), trivial, trivial, trivial⟩ ⟨(Or.inr ⟨wy_pr rfl, fun q => q⟩), (Or.inr ⟨wy_pr rfl, fun q => q⟩), trivial⟩ (fun _ _ q => False.elim q) (mx_ok (S := (w_up S 72 19 64)) ⟨by omega, by omega⟩ ⟨by omega, by omega⟩) (fun oq14 Sq14 hp15 q14 => ?_)
      rcases q14 with ⟨rfl, rfl⟩
      show wJ _ _ _ _ _ _ _ _ _ _
      generalize hvv13 : (if ((on + (l.length : Int)) + 1) ≥ ((S 151 (-1)) * 2) then ((on + (l.length : Int)) + 1) else ((S 151 (-1)) * 2)) = v13
      have hwv13 : ((on + (l.length : Int)) + 1) ≤ v13 ∧ ((S 151 (-1)) * 2) ≤ v13 ∧ (v13 = ((on + (l.length : Int)) + 1) ∨ v13 = ((S 151 (-1)) * 2)) := by subst hvv13; split <;> omega
      refine wa_cs (M2 := fun _ => False) rfl at_JA_copyOf ⟨_, rfl⟩ rfl rfl ⟨trivial, trivial, trivial, (Or.inr ⟨wy_pr rfl, fun q => q⟩), trivial, trivial, trivial⟩ ⟨(Or.inr ⟨wy_pr rfl, fun q => q⟩), trivial⟩ (fun _ _ q => False.elim q) (cp_B (S := (w_up S 72 19 64)) (a := 151) (n := v13) (len := (S 151 (-1))) (wy_pr rfl) wt_151 ((w_up_slot (by decide)).trans (rfl)) ⟨by omega, by omega, by omega⟩) (fun oq16 Sq16 _ q16 => ?_)
      rcases q16 with ⟨rfl, rfl⟩
      show wJ _ _ _ _ _ _ _ _ _ _
      refine wg_pf (S := (w_up S 72 19 64)) (len := (S 151 (-1))) 2 72 151 rfl rfl rfl wt_72 wf_2_12 wl_72_12 (by decide +kernel) wt_151 (by first | decide | omega) (by decide +kernel) (gI_up hI (by omega) (by omega) (by omega)) (fun q => absurd q (by first | decide | omega)) (by first | decide | omega) ⟨by omega, by omega⟩ ((w_up_slot (by first | decide | omega)).trans (rfl)) (fun _ => ⟨Or.inr (by first | decide | omega), Or.inl (nN_ge _)⟩) ⟨trivial, trivial, trivial, (Or.inr ⟨wy_pr rfl, mS_no rfl⟩), trivial, trivial, trivial⟩ trivial (fun Z17 g18 gi19 => ?_)
      have rm20 := rmR_gr (rmR_up hRm (by omega) (by first | decide | omega)) g18 (by decide +kernel) (len := (S 151 (-1))) ((w_up_slot (by first | decide | omega)).trans (rfl)) ⟨by omega, by omega⟩ ⟨fun q => by first | omega | exact absurd q (by decide), by show _ ≤ (100000000 : Int); omega⟩
      refine wa_fall ⟨_, rfl⟩ ?_
      refine wa_aload_n (n := 0) rfl ?_
      refine wa_iload_n (n := 1) rfl ?_
      refine wa_cv 72 rfl (wy_pr rfl) wt_72 (M2 := fun _ => False) rfl at_XH_shownIn ⟨_, rfl⟩ rfl rfl ⟨trivial, trivial, trivial, (Or.inr ⟨wy_pr rfl, fun q => q⟩), trivial, trivial, trivial⟩ trivial (fun _ _ q => False.elim q) ?_ (fun _ _ _ q => q)
      refine wa_iload_n (n := 1) rfl ?_
      refine wa_iconst ?_
      refine wa_icmpne (w_rg0 (by omega) (by omega)) (w_rg0 (by omega) (by omega)) ⟨_, rfl⟩ (fun c21 => ?_) (fun c21 => ?_)
      · skip
        exact absurd c21 (by omega)
      · skip
        refine wa_aload_n (n := 0) rfl ?_
        refine wb_gf4 72 rfl (wy_pr rfl) wt_72 wf_2_0 (v := 2) wl_72_0 ?_
        refine wb_gf4 2 rfl (wy_pr rfl) wt_2 wf_9_0 (v := 3) wl_2_0 ?_
        refine wa_goto ⟨_, rfl⟩ ?_
        refine wa_areturn rfl ?_
        show wJ _ _ _ _ _ _ _ _ _ _
        refine wa_lload (n := 4) rfl ?_
        refine wa_cs (M2 := fun _ => False) rfl at_X_sliceStart ⟨_, rfl⟩ rfl rfl ⟨trivial, trivial, trivial, (Or.inr ⟨wy_pr rfl, fun q => q⟩), trivial, trivial, trivial⟩ ⟨(Or.inr ⟨wy_pr rfl, fun q => q⟩), trivial⟩ (fun _ _ q => False.elim q) ?_ (fun _ _ _ q => q)
        refine wa_lload_n (n := 0) rfl ?_
        refine wa_bipush (w_rg2 (by omega) (by omega)) ?_
        refine wa_lushr ?_
        refine wb_l2i_r (y := s) (by rw [hvb]; exact sl_s ⟨by omega, by omega⟩ ⟨by omega, by omega⟩) ?_
        refine wa_ireturn rfl ?_
        show wJ _ _ _ _ _ _ _ _ _ _
        refine wa_aload_n (n := 0) rfl ?_
        refine wb_gf4 72 rfl (wy_pr rfl) wt_72 wf_2_12 (v := 151) wl_72_12 ?_
        refine wa_aload_n (n := 0) rfl ?_
        refine wb_gfi 72 rfl (wy_pr rfl) wt_72 wf_2_13 (v := on) (((congrFun (g18.2.2.1 72 (by decide) (by decide) (by decide)) 13).trans ((w_up_at (by decide)).trans (h13)))) (fun r22 => ?_)
        refine wa_iload (n := 6) rfl ?_
        refine wb_acB (S := Z17) 3 151 rfl rfl (wy_pr rfl) (wy_pr rfl) wt_3 wt_151 gi19 rm20 (by decide) (by omega) (by omega) (by omega) (by have e : Z17 3 (-1) = (S 3 (-1)) := (((congrFun (g18.2.2.1 3 (by decide) (by decide) (by decide)) (-1)).trans ((w_up_slot (by decide)).trans (rfl)))); omega) (by have e : Z17 151 (-1) = v13 := (g18.1); omega) (by omega) rfl (fun Z23 g24 gi25 rm26 => ?_)
        refine wa_aload_n (n := 0) rfl ?_
        refine wb_gf4 72 rfl (wy_pr rfl) wt_72 wf_2_12 (v := 151) wl_72_12 ?_
        refine wa_iload (n := 7) rfl ?_
        refine wa_iconst ?_
        refine wa_isub ?_
        refine wa_bipush (w_rg2 (by omega) (by omega)) ?_
        refine wb_bast 151 rfl (wy_pr rfl) wt_151 (n := v13) (((g24.1 151 (-1) (by omega)).trans (g18.1))) (by omega) (by omega) ⟨(by omega), (by omega)⟩ ?_
        refine wa_aload_n (n := 0) rfl ?_
        refine wa_iload (n := 7) rfl ?_
        refine wb_pfi 72 rfl (wy_pr rfl) wt_72 wf_2_13 (n := 13) rfl ⟨(by omega), (by omega)⟩ ?_
        refine wa_iconst ?_
        refine wa_zreturn rfl (Or.inr rfl) ?_
        have oF1 : ∀ (j : Nat) (x : Int), (j ≠ 72 ∨ x ≠ 19) → (w_up S 72 19 64) j x = S j x := fun j x j0 => w_up_no (by omega)
        have e0 : ∀ (j : Nat) (i : Int), (j ≠ 151 ∨ i < on ∨ on + (l.length : Int) ≤ i) → Z23 j i = Z17 j i := g24.1
        have e2 : ∀ i : Int, 0 ≤ i → i < (l.length : Int) → Z23 151 (on + i) = Z17 3 (s + i) := g24.2
        have zz : ∀ (j : Nat) (i : Int), j < 4000000 → j ≠ wG → j ≠ 151 → Z17 j i = (w_up S 72 19 64) j i := fun j i j1 j2 j3 => congrFun (g18.2.2.1 j j3 j1 j2) i
        have za : (w_up S 72 19 64) 151 (-1) = S 151 (-1) := oF1 151 (-1) (Or.inl (by first | decide | omega))
        have zo : ∀ x : Int, 0 ≤ x → x < on → Z17 151 x = S 151 x := fun x x0 x1 => (g18.2.1 x x0 (by omega)).trans (oF1 151 x (Or.inl (by first | decide | omega)))
        have zl : Z17 151 (-1) = v13 := g18.1
        have e1 : (w_up (w_up Z23 151 (((on + (l.length : Int)) + 1) - 1) 10) 72 13 ((on + (l.length : Int)) + 1)) 151 (-1) = v13 := (w_up_slot (by first | decide | omega)).trans ((w_up_at (by omega)).trans ((e0 151 (-1) (by omega)).trans zl))
        refine Or.inr ⟨by omega, rfl, w_up_same _ _ _ _, fun q hq => ?_, ?_, fun x x0 x1 => (w_up_slot (by first | decide | omega)).trans ((w_up_at (by omega)).trans ((e0 151 x (by omega)).trans (zo x x0 x1))), fun j x j0 j1 j2 j3 j4 => (w_up_no (by omega)).trans ((w_up_slot j2).trans ((e0 j x (Or.inl j2)).trans ((zz j x j0 j1 j2).trans (oF1 j x (by omega))))), by rw [e1]; omega, (gI_up (gI_up gi25 (by omega) (by omega) (by omega)) (by omega) (by omega) (by omega)), (rmR_up (rmR_up rm26 (by omega) (by first | decide | omega)) (by omega) (by first | decide | omega))⟩
        · have y := e2 (q : Int) (by omega) (by omega)
          exact (w_up_slot (by first | decide | omega)).trans ((w_up_at (by omega)).trans (y.trans ((zz 3 _ (by first | decide | omega) (by first | decide | omega) (by first | decide | omega)).trans ((oF1 3 _ (Or.inl (by first | decide | omega))).trans (he q hq)))))
        · rw [w_up_slot (by first | decide | omega), show on + (l.length : Int) + 1 - 1 = on + (l.length : Int) by omega]; exact w_up_same _ _ _ _
  · skip
    refine wa_iconst ?_
    refine wa_zreturn rfl (Or.inl rfl) ?_
    exact Or.inl ⟨by omega, rfl, rfl⟩
theorem mst {p0 : Int} (hM : w_ML S) (hv : 0 ≤ v ∧ v < 16000) (h85 : S 285 v = (l.length : Int)) (h84 : S 284 v = p0) (hp0 : 0 ≤ p0 ∧ p0 + (l.length : Int) ≤ 269632) (he : ∀ i : Nat, i < l.length → S 283 (p0 + (i : Int)) = l.getD i 0) (h104 : S 237 104 = on) (hon : 0 ≤ on ∧ on ≤ 65536) : wJ (pe_GA xs) wY0 M (d + 7) t_M_shows ((pe_at t_M_shows.bl 0).getD (0, [])).2 [(0, (2, 237)), (1, (0, 3)), (2, (1, v))] [] S (fun o Z => (65536 < on + (l.length : Int) + 1 ∧ o = .inr 238 ∧ hZ 99 (w_up S 237 113 0) = Z) ∨ (on + (l.length : Int) + 1 ≤ 65536 ∧ o = .inl none ∧ ouA on l (w_up S 237 113 0) Z)) := by
  refine wa_iload_n (n := 1) rfl ?_
  refine wa_iconst ?_
  refine wa_icmpne (w_rg0 (by omega) (by omega)) (w_rg0 (by omega) (by omega)) ⟨_, rfl⟩ (fun c1 => ?_) (fun c1 => ?_)
  · skip
    exact absurd c1 (by omega)
  · skip
    refine wa_iconst ?_
    refine wa_goto ⟨_, rfl⟩ ?_
    refine wa_istore (n := 4) rfl ?_
    refine wa_iload (n := 4) rfl ?_
    refine wa_ifeq (w_rg0 (by omega) (by omega)) ⟨_, rfl⟩ (fun c2 => ?_) (fun c2 => ?_)
    · skip
      exact absurd c2 (by omega)
    · skip
      refine wa_lload_n (n := 2) rfl ?_
      refine wb_l2i_r (wb_l2i_id ⟨(by omega), (by omega)⟩) ?_
      refine wa_goto ⟨_, rfl⟩ ?_
      refine wa_istore (n := 5) rfl ?_
      refine wa_aload_n (n := 0) rfl ?_
      refine wa_iconst ?_
      refine wb_pfi 237 rfl (wy_pr rfl) wt_237 wf_15_113 (n := 113) rfl ⟨(by omega), (by omega)⟩ ?_
      refine wa_iload (n := 4) rfl ?_
      refine wa_ifne (w_rg0 (by omega) (by omega)) ⟨_, rfl⟩ (fun c3 => ?_) (fun c3 => ?_)
      · skip
        refine wa_iload (n := 4) rfl ?_
        refine wa_ifeq (w_rg0 (by omega) (by omega)) ⟨_, rfl⟩ (fun c4 => ?_) (fun c4 => ?_)
        · skip
          exact absurd c4 (by omega)
        · skip
          refine wa_aload_n (n := 0) rfl ?_
          refine wb_gf4 237 rfl (wy_pr rfl) wt_237 wf_15_23 (v := 285) wl_237_23 ?_
          refine wa_iload (n := 5) rfl ?_
          refine wb_iald 285 rfl (wy_pr rfl) wt_285 (n := 16000) ((w_up_slot (by decide)).trans ((ml_285 hM))) (by omega) (by omega) (v := (l.length : Int)) ((w_up_slot (by decide)).trans (h85)) (fun r5 => ?_)
          refine wa_goto ⟨_, rfl⟩ ?_
          refine wa_istore (n := 6) rfl ?_
          refine wa_aload_n (n := 0) rfl ?_
          refine wa_aload_n (n := 0) rfl ?_
          refine wb_gfi 237 rfl (wy_pr rfl) wt_237 wf_15_104 (v := on) ((w_up_at (by decide)).trans (h104)) (fun r6 => ?_)
          refine wa_iload (n := 6) rfl ?_
          refine wa_iadd ?_
          refine wa_iconst ?_
          refine wa_iadd ?_
          refine wb_ki (n := 65536) rfl ?_
          refine wa_icmpgt (w_rg0 (by omega) (by omega)) (w_rg0 (by omega) (by omega)) ⟨_, rfl⟩ (fun c7 => ?_) (fun c7 => ?_)
          · skip
            refine wa_iconst ?_
            refine wa_fall ⟨_, rfl⟩ ?_
            refine wa_cv 237 rfl (wy_pr rfl) wt_237 (M2 := fun _ => False) rfl at_M_room ⟨_, rfl⟩ rfl rfl ⟨trivial, trivial, trivial, (Or.inr ⟨wy_pr rfl, fun q => q⟩), trivial, trivial, trivial⟩ trivial (fun _ _ q => False.elim q) ?_ (fun _ _ _ q => q)
            refine wa_iload_n (n := 1) rfl ?_
            refine wa_ifne (w_rg0 (by omega) (by omega)) ⟨_, rfl⟩ (fun c8 => ?_) (fun c8 => ?_)
            · skip
              exact absurd c8 (by omega)
            · skip
              refine wa_aload_n (n := 0) rfl ?_
              refine wb_gf4 237 rfl (wy_pr rfl) wt_237 wf_15_1 (v := 238) wl_237_1 ?_
              refine wa_bipush (w_rg2 (by omega) (by omega)) ?_
              refine wa_iconst ?_
              refine wa_cv 238 rfl (wy_pr rfl) wt_238 (M2 := fun _ => False) rfl at_MH_of ⟨_, rfl⟩ rfl rfl ⟨(Or.inr ⟨wy_pr rfl, fun q => q⟩), trivial, trivial⟩ trivial (fun _ _ q => False.elim q) ?_ (fun _ _ _ q => q)
              refine wa_aload_n (n := 0) rfl ?_
              refine wa_iload_n (n := 1) rfl ?_
              refine wb_pfi 238 rfl (wy_pr rfl) wt_238 wf_11_5 (n := 5) rfl ⟨(by omega), (by omega)⟩ ?_
              refine wa_aload_n (n := 0) rfl ?_
              refine wa_iload_n (n := 2) rfl ?_
              refine wb_pfi 238 rfl (wy_pr rfl) wt_238 wf_11_6 (n := 6) rfl ⟨(by omega), (by omega)⟩ ?_
              refine wa_aload_n (n := 0) rfl ?_
              refine wa_oreturn rfl ?_
              show wJ _ _ _ _ _ _ _ _ _ _
              refine wa_th (j := 238) ?_
              refine ⟨rfl, ?_⟩
              exact Or.inl ⟨by omega, rfl, rfl⟩
          · skip
            refine wa_iconst ?_
            refine wa_goto ⟨_, rfl⟩ ?_
            refine wa_cv 237 rfl (wy_pr rfl) wt_237 (M2 := fun _ => False) rfl at_M_room ⟨_, rfl⟩ rfl rfl ⟨trivial, trivial, trivial, (Or.inr ⟨wy_pr rfl, fun q => q⟩), trivial, trivial, trivial⟩ trivial (fun _ _ q => False.elim q) ?_ (fun _ _ _ q => q)
            refine wa_iload_n (n := 1) rfl ?_
            refine wa_ifne (w_rg0 (by omega) (by omega)) ⟨_, rfl⟩ (fun c9 => ?_) (fun c9 => ?_)
            · skip
              refine wa_return rfl ?_
              show wJ _ _ _ _ _ _ _ _ _ _
              refine wa_iconst ?_
              refine wa_istore (n := 7) rfl ?_
              refine wa_fall ⟨_, rfl⟩ ?_
              refine wJ_mono (wJ_S (so1_l (k := 3) (v := v) (tx := v) (p0 := p0) (l := l) (S0 := (w_up S 237 113 0)) hv ((w_up_slot (by first | decide | omega)).trans h84) hp0 (fun i hi => (w_up_slot (by first | decide | omega)).trans (he i hi)) ((w_up_at (by first | decide | omega)).trans h104) ⟨by omega, by omega⟩ l.length 0 (w_up S 237 113 0) (by omega) ⟨fun k hk => absurd hk (Nat.not_lt_zero _), fun _ _ _ => rfl, w_ML_up hM (by first | decide | omega)⟩) ⟨rfl, rfl, rfl, rfl, rfl, rfl, rfl, trivial⟩) (fun o Z hz => Or.inr ⟨by omega, hz.1, hz.2⟩)
            · skip
              exact absurd c9 (by omega)
      · skip
        exact absurd c3 (by omega)
end Wg5
