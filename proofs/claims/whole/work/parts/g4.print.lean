/-! PART g4: print of the class: what a value prints comes to the output. -/
section Wg4
variable {xs : List (Nat × List Int32)} {M : Nat → Prop} {d : Nat} {S S0 Z A : wS} {k v on : Int} {l : List Int}
def coA (on : Int) (l : List Int) (S Z : wS) : Prop := Z 72 13 = on + (l.length : Int) + 1 ∧ (∀ k : Nat, k < l.length → Z 151 (on + (k : Int)) = l.getD k 0) ∧ Z 151 (on + (l.length : Int)) = 10 ∧ (∀ x : Int, 0 ≤ x → x < on → Z 151 x = S 151 x) ∧ (∀ (j : Nat) (x : Int), j < 4000000 → j ≠ wG → j ≠ 151 → (j ≠ 157 ∨ x < 0) → (j ≠ 72 ∨ (x ≠ 13 ∧ x ≠ 19)) → Z j x = S j x) ∧ (on + (l.length : Int) + 1 ≤ Z 151 (-1) ∧ S 151 (-1) ≤ Z 151 (-1) ∧ Z 151 (-1) ≤ 131072) ∧ gI Z ∧ rmR S Z
set_option maxHeartbeats 4000000 in
theorem xprn (hX : w_X xs) (h57 : S 157 (-1) = 64) (hI : gI S) (hk : k = 0 ∨ k = 1 ∨ k = 2 ∨ k = 4 ∨ k = 5 ∨ k = 6) (hv : -9223372036854775808 ≤ v ∧ v ≤ 9223372036854775807) (h13 : S 72 13 = on) (hon : 0 ≤ on ∧ on ≤ 65536 ∧ on ≤ S 151 (-1)) (hlo : 16 ≤ S 151 (-1) ∧ S 151 (-1) ≤ 131072) : wJ (pe_GA xs) wY0 (mS [151]) (d + 6) t_XH_print ((pe_at t_XH_print.bl 0).getD (0, [])).2 [(0, (2, 72)), (1, (0, k)), (2, (1, v))] [] S (fun o Z => (65536 < on + ((vL k v).length : Int) + 1 ∧ o = .inl (some (0, 0)) ∧ shA (vL k v) 64 (w_up S 72 19 64) Z) ∨ (on + ((vL k v).length : Int) + 1 ≤ 65536 ∧ o = .inl (some (0, 1)) ∧ coA on (vL k v) S Z)) := by
  have hlv := vL_len (k := k) (v := v)
  have hg : wG = 1000000 := rfl
  refine wa_aload_n (n := 0) rfl ?_
  refine wa_iload_n (n := 1) rfl ?_
  refine wa_lload_n (n := 2) rfl ?_
  refine wa_cv 72 rfl (wy_pr rfl) wt_72 (M2 := mS []) rfl at_XH_show ⟨_, rfl⟩ rfl rfl ⟨(Or.inr ⟨wy_pr rfl, mS_no rfl⟩), trivial, trivial, trivial⟩ trivial (fun _ _ q => mS_sub (by decide) q) (xshow (k := k) (v := v) hX h57 hI hk hv) (fun oq1 Sq1 hp2 q1 => ?_)
  rcases q1 with ⟨rfl, hsh⟩
  show wJ _ _ _ _ _ _ _ _ _ _
  have hshF0 := hsh.2.2.1
  have hshF : ∀ (j : Nat) (x : Int), (j ≠ 157 ∨ x < 64 - ((vL k v).length : Int) ∨ 64 ≤ x) → (j ≠ 72 ∨ x ≠ 19) → Sq1 j x = S j x := fun j x j0 j1 => (hshF0 j x j0 j1).trans (w_up_no (by omega))
  have hshG := hsh.2.2.2.1
  have hshR : rmR S Sq1 := rmR_tr (rmR_up (rmR_rfl S) (by first | decide | omega) (by first | decide | omega)) hsh.2.2.2.2
  refine wa_lstore (n := 4) rfl ?_
  refine wa_lload (n := 4) rfl ?_
  refine wa_cs (M2 := fun _ => False) rfl at_X_sliceSize ⟨_, rfl⟩ rfl rfl ⟨trivial, (Or.inr ⟨wy_pr rfl, fun q => q⟩), trivial, trivial, trivial⟩ trivial (fun _ _ q => False.elim q) ?_ (fun _ _ _ q => q)
  refine wa_lload_n (n := 0) rfl ?_
  refine wb_l2i_r (y := ((vL k v).length : Int)) (sl_z ⟨by omega, by omega⟩ ⟨by omega, by omega⟩) ?_
  refine wa_ireturn rfl ?_
  show wJ _ _ _ _ _ _ _ _ _ _
  refine wa_istore (n := 6) rfl ?_
  refine wa_aload_n (n := 0) rfl ?_
  refine wb_gfi 72 rfl (wy_pr rfl) wt_72 wf_2_13 (v := on) (((hshF 72 13 (Or.inl (by decide)) (by omega)).trans (h13))) (fun r3 => ?_)
  refine wa_iload (n := 6) rfl ?_
  refine wa_iadd ?_
  refine wa_iconst ?_
  refine wa_iadd ?_
  refine wa_istore (n := 7) rfl ?_
  refine wa_iload (n := 7) rfl ?_
  refine wb_ki (n := 65536) rfl ?_
  refine wa_icmple (w_rg0 (by omega) (by omega)) (w_rg0 (by omega) (by omega)) ⟨_, rfl⟩ (fun c4 => ?_) (fun c4 => ?_)
  · skip
    refine wa_iload (n := 7) rfl ?_
    refine wa_aload_n (n := 0) rfl ?_
    refine wb_gf4 72 rfl (wy_pr rfl) wt_72 wf_2_12 (v := 151) wl_72_12 ?_
    refine wb_alen 151 rfl (wy_pr rfl) (by rw [wt_151]; rfl) (v := (S 151 (-1))) (((hshF 151 (-1) (Or.inl (by decide)) (by omega)).trans (rfl))) (fun r5 => ?_)
    refine wa_icmple (w_rg0 (by omega) (by omega)) (w_rg0 (by omega) (by omega)) ⟨_, rfl⟩ (fun c6 => ?_) (fun c6 => ?_)
    · skip
      refine wa_aload_n (n := 0) rfl ?_
      refine wa_iload_n (n := 1) rfl ?_
      refine wa_cv 72 rfl (wy_pr rfl) wt_72 (M2 := fun _ => False) rfl at_XH_shownIn ⟨_, rfl⟩ rfl rfl ⟨trivial, trivial, trivial, (Or.inr ⟨wy_pr rfl, fun q => q⟩), trivial, trivial, trivial⟩ trivial (fun _ _ q => False.elim q) ?_ (fun _ _ _ q => q)
      refine wa_iload_n (n := 1) rfl ?_
      refine wa_iconst ?_
      refine wa_icmpne (w_rg0 (by omega) (by omega)) (w_rg0 (by omega) (by omega)) ⟨_, rfl⟩ (fun c7 => ?_) (fun c7 => ?_)
      · skip
        refine wa_aload_n (n := 0) rfl ?_
        refine wb_gf4 72 rfl (wy_pr rfl) wt_72 wf_2_18 (v := 157) wl_72_18 ?_
        refine wa_fall ⟨_, rfl⟩ ?_
        refine wa_areturn rfl ?_
        show wJ _ _ _ _ _ _ _ _ _ _
        refine wa_lload (n := 4) rfl ?_
        refine wa_cs (M2 := fun _ => False) rfl at_X_sliceStart ⟨_, rfl⟩ rfl rfl ⟨trivial, trivial, trivial, (Or.inr ⟨wy_pr rfl, fun q => q⟩), trivial, trivial, trivial⟩ ⟨(Or.inr ⟨wy_pr rfl, fun q => q⟩), trivial⟩ (fun _ _ q => False.elim q) ?_ (fun _ _ _ q => q)
        refine wa_lload_n (n := 0) rfl ?_
        refine wa_bipush (w_rg2 (by omega) (by omega)) ?_
        refine wa_lushr ?_
        refine wb_l2i_r (y := (64 - ((vL k v).length : Int))) (sl_s ⟨by omega, by omega⟩ ⟨by omega, by omega⟩) ?_
        refine wa_ireturn rfl ?_
        show wJ _ _ _ _ _ _ _ _ _ _
        refine wa_aload_n (n := 0) rfl ?_
        refine wb_gf4 72 rfl (wy_pr rfl) wt_72 wf_2_12 (v := 151) wl_72_12 ?_
        refine wa_aload_n (n := 0) rfl ?_
        refine wb_gfi 72 rfl (wy_pr rfl) wt_72 wf_2_13 (v := on) (((hshF 72 13 (Or.inl (by decide)) (by omega)).trans (h13))) (fun r8 => ?_)
        refine wa_iload (n := 6) rfl ?_
        refine wb_acB (S := Sq1) 157 151 rfl rfl (wy_pr rfl) (wy_pr rfl) wt_157 wt_151 hshG hshR (by decide) (by omega) (by omega) (by omega) (by have e : Sq1 157 (-1) = 64 := (((hshF 157 (-1) (Or.inr (Or.inl (by omega))) (by omega)).trans (h57))); omega) (by have e : Sq1 151 (-1) = (S 151 (-1)) := (((hshF 151 (-1) (Or.inl (by decide)) (by omega)).trans (rfl))); omega) (by omega) rfl (fun Z9 g10 gi11 rm12 => ?_)
        refine wa_aload_n (n := 0) rfl ?_
        refine wb_gf4 72 rfl (wy_pr rfl) wt_72 wf_2_12 (v := 151) wl_72_12 ?_
        refine wa_iload (n := 7) rfl ?_
        refine wa_iconst ?_
        refine wa_isub ?_
        refine wa_bipush (w_rg2 (by omega) (by omega)) ?_
        refine wb_bast 151 rfl (wy_pr rfl) wt_151 (n := (S 151 (-1))) (((g10.1 151 (-1) (by omega)).trans (((hshF 151 (-1) (Or.inl (by decide)) (by omega)).trans (rfl))))) (by omega) (by omega) ⟨(by omega), (by omega)⟩ ?_
        refine wa_aload_n (n := 0) rfl ?_
        refine wa_iload (n := 7) rfl ?_
        refine wb_pfi 72 rfl (wy_pr rfl) wt_72 wf_2_13 (n := 13) rfl ⟨(by omega), (by omega)⟩ ?_
        refine wa_iconst ?_
        refine wa_zreturn rfl (Or.inr rfl) ?_
        have e0 : ∀ (j : Nat) (i : Int), (j ≠ 151 ∨ i < on ∨ on + ((vL k v).length : Int) ≤ i) → Z9 j i = Sq1 j i := g10.1
        have e2 : ∀ i : Int, 0 ≤ i → i < ((vL k v).length : Int) → Z9 151 (on + i) = Sq1 157 (64 - ((vL k v).length : Int) + i) := g10.2
        have zz : ∀ (j : Nat) (i : Int), j < 4000000 → j ≠ wG → j ≠ 151 → Sq1 j i = Sq1 j i := fun _ _ _ _ _ => rfl
        have zo : ∀ x : Int, 0 ≤ x → x < on → Sq1 151 x = S 151 x := fun x _ _ => hshF 151 x (Or.inl (by first | decide | omega)) (Or.inl (by first | decide | omega))
        have zl : Sq1 151 (-1) = S 151 (-1) := hshF 151 (-1) (Or.inl (by first | decide | omega)) (Or.inl (by first | decide | omega))
        have e1 : (w_up (w_up Z9 151 (((on + ((vL k v).length : Int)) + 1) - 1) 10) 72 13 ((on + ((vL k v).length : Int)) + 1)) 151 (-1) = (S 151 (-1)) := (w_up_slot (by first | decide | omega)).trans ((w_up_at (by omega)).trans ((e0 151 (-1) (by omega)).trans zl))
        refine Or.inr ⟨by omega, rfl, w_up_same _ _ _ _, fun q hq => ?_, ?_, fun x x0 x1 => (w_up_slot (by first | decide | omega)).trans ((w_up_at (by omega)).trans ((e0 151 x (by omega)).trans (zo x x0 x1))), fun j x j0 j1 j2 j3 j4 => (w_up_no (by omega)).trans ((w_up_slot j2).trans ((e0 j x (Or.inl j2)).trans ((zz j x j0 j1 j2).trans (hshF j x (by omega) (by omega))))), by rw [e1]; omega, (gI_up (gI_up gi11 (by omega) (by omega) (by omega)) (by omega) (by omega) (by omega)), (rmR_up (rmR_up rm12 (by omega) (by first | decide | omega)) (by omega) (by first | decide | omega))⟩
        · have y := e2 (q : Int) (by omega) (by omega)
          exact (w_up_slot (by first | decide | omega)).trans ((w_up_at (by omega)).trans (y.trans ((zz 157 _ (by first | decide | omega) (by first | decide | omega) (by first | decide | omega)).trans (hsh.2.1 q hq))))
        · rw [w_up_slot (by first | decide | omega), show on + ((vL k v).length : Int) + 1 - 1 = on + ((vL k v).length : Int) by omega]; exact w_up_same _ _ _ _
      · skip
        exact absurd c7 (by omega)
    · skip
      refine wa_aload_n (n := 0) rfl ?_
      refine wa_aload_n (n := 0) rfl ?_
      refine wb_gf4 72 rfl (wy_pr rfl) wt_72 wf_2_12 (v := 151) wl_72_12 ?_
      refine wa_iload (n := 7) rfl ?_
      refine wa_aload_n (n := 0) rfl ?_
      refine wb_gf4 72 rfl (wy_pr rfl) wt_72 wf_2_12 (v := 151) wl_72_12 ?_
      refine wb_alen 151 rfl (wy_pr rfl) (by rw [wt_151]; rfl) (v := (S 151 (-1))) (((hshF 151 (-1) (Or.inl (by decide)) (by omega)).trans (rfl))) (fun r13 => ?_)
      refine wa_iconst ?_
      refine wa_imul ?_
      refine wa_cs (M2 := fun _ => False) rfl at_JM_max ⟨_, rfl⟩ rfl rfl ⟨trivial, trivial, trivial, (Or.inr ⟨wy_pr rfl, fun q => q⟩), trivial, trivial, trivial⟩ ⟨(Or.inr ⟨wy_pr rfl, fun q => q⟩), (Or.inr ⟨wy_pr rfl, fun q => q⟩), trivial⟩ (fun _ _ q => False.elim q) (mx_ok (S := Sq1) ⟨by omega, by omega⟩ ⟨by omega, by omega⟩) (fun oq15 Sq15 hp16 q15 => ?_)
      rcases q15 with ⟨rfl, rfl⟩
      show wJ _ _ _ _ _ _ _ _ _ _
      generalize hvv14 : (if ((on + ((vL k v).length : Int)) + 1) ≥ ((S 151 (-1)) * 2) then ((on + ((vL k v).length : Int)) + 1) else ((S 151 (-1)) * 2)) = v14
      have hwv14 : ((on + ((vL k v).length : Int)) + 1) ≤ v14 ∧ ((S 151 (-1)) * 2) ≤ v14 ∧ (v14 = ((on + ((vL k v).length : Int)) + 1) ∨ v14 = ((S 151 (-1)) * 2)) := by subst hvv14; split <;> omega
      refine wa_cs (M2 := fun _ => False) rfl at_JA_copyOf ⟨_, rfl⟩ rfl rfl ⟨trivial, trivial, trivial, (Or.inr ⟨wy_pr rfl, fun q => q⟩), trivial, trivial, trivial⟩ ⟨(Or.inr ⟨wy_pr rfl, fun q => q⟩), trivial⟩ (fun _ _ q => False.elim q) (cp_B (S := Sq1) (a := 151) (n := v14) (len := (S 151 (-1))) (wy_pr rfl) wt_151 (((hshF 151 (-1) (Or.inl (by decide)) (by omega)).trans (rfl))) ⟨by omega, by omega, by omega⟩) (fun oq17 Sq17 _ q17 => ?_)
      rcases q17 with ⟨rfl, rfl⟩
      show wJ _ _ _ _ _ _ _ _ _ _
      refine wg_pf (S := Sq1) (len := (S 151 (-1))) 2 72 151 rfl rfl rfl wt_72 wf_2_12 wl_72_12 (by decide +kernel) wt_151 (by first | decide | omega) (by decide +kernel) hshG (fun q => absurd q (by first | decide | omega)) (by first | decide | omega) ⟨by omega, by omega⟩ (((hshF 151 (-1) (Or.inl (by first | decide | omega)) (by omega)).trans (rfl))) (fun _ => ⟨Or.inr (by first | decide | omega), Or.inl (nN_ge _)⟩) ⟨trivial, trivial, trivial, (Or.inr ⟨wy_pr rfl, mS_no rfl⟩), trivial, trivial, trivial⟩ trivial (fun Z18 g19 gi20 => ?_)
      have rm21 := rmR_gr hshR g19 (by decide +kernel) (len := (S 151 (-1))) (((hshF 151 (-1) (Or.inl (by first | decide | omega)) (by omega)).trans (rfl))) ⟨by omega, by omega⟩ ⟨fun q => by first | omega | exact absurd q (by decide), by show _ ≤ (100000000 : Int); omega⟩
      refine wa_fall ⟨_, rfl⟩ ?_
      refine wa_aload_n (n := 0) rfl ?_
      refine wa_iload_n (n := 1) rfl ?_
      refine wa_cv 72 rfl (wy_pr rfl) wt_72 (M2 := fun _ => False) rfl at_XH_shownIn ⟨_, rfl⟩ rfl rfl ⟨trivial, trivial, trivial, (Or.inr ⟨wy_pr rfl, fun q => q⟩), trivial, trivial, trivial⟩ trivial (fun _ _ q => False.elim q) ?_ (fun _ _ _ q => q)
      refine wa_iload_n (n := 1) rfl ?_
      refine wa_iconst ?_
      refine wa_icmpne (w_rg0 (by omega) (by omega)) (w_rg0 (by omega) (by omega)) ⟨_, rfl⟩ (fun c22 => ?_) (fun c22 => ?_)
      · skip
        refine wa_aload_n (n := 0) rfl ?_
        refine wb_gf4 72 rfl (wy_pr rfl) wt_72 wf_2_18 (v := 157) wl_72_18 ?_
        refine wa_fall ⟨_, rfl⟩ ?_
        refine wa_areturn rfl ?_
        show wJ _ _ _ _ _ _ _ _ _ _
        refine wa_lload (n := 4) rfl ?_
        refine wa_cs (M2 := fun _ => False) rfl at_X_sliceStart ⟨_, rfl⟩ rfl rfl ⟨trivial, trivial, trivial, (Or.inr ⟨wy_pr rfl, fun q => q⟩), trivial, trivial, trivial⟩ ⟨(Or.inr ⟨wy_pr rfl, fun q => q⟩), trivial⟩ (fun _ _ q => False.elim q) ?_ (fun _ _ _ q => q)
        refine wa_lload_n (n := 0) rfl ?_
        refine wa_bipush (w_rg2 (by omega) (by omega)) ?_
        refine wa_lushr ?_
        refine wb_l2i_r (y := (64 - ((vL k v).length : Int))) (sl_s ⟨by omega, by omega⟩ ⟨by omega, by omega⟩) ?_
        refine wa_ireturn rfl ?_
        show wJ _ _ _ _ _ _ _ _ _ _
        refine wa_aload_n (n := 0) rfl ?_
        refine wb_gf4 72 rfl (wy_pr rfl) wt_72 wf_2_12 (v := 151) wl_72_12 ?_
        refine wa_aload_n (n := 0) rfl ?_
        refine wb_gfi 72 rfl (wy_pr rfl) wt_72 wf_2_13 (v := on) (((congrFun (g19.2.2.1 72 (by decide) (by decide) (by decide)) 13).trans (((hshF 72 13 (Or.inl (by decide)) (by omega)).trans (h13))))) (fun r23 => ?_)
        refine wa_iload (n := 6) rfl ?_
        refine wb_acB (S := Z18) 157 151 rfl rfl (wy_pr rfl) (wy_pr rfl) wt_157 wt_151 gi20 rm21 (by decide) (by omega) (by omega) (by omega) (by have e : Z18 157 (-1) = 64 := (((congrFun (g19.2.2.1 157 (by decide) (by decide) (by decide)) (-1)).trans (((hshF 157 (-1) (Or.inr (Or.inl (by omega))) (by omega)).trans (h57))))); omega) (by have e : Z18 151 (-1) = v14 := (g19.1); omega) (by omega) rfl (fun Z24 g25 gi26 rm27 => ?_)
        refine wa_aload_n (n := 0) rfl ?_
        refine wb_gf4 72 rfl (wy_pr rfl) wt_72 wf_2_12 (v := 151) wl_72_12 ?_
        refine wa_iload (n := 7) rfl ?_
        refine wa_iconst ?_
        refine wa_isub ?_
        refine wa_bipush (w_rg2 (by omega) (by omega)) ?_
        refine wb_bast 151 rfl (wy_pr rfl) wt_151 (n := v14) (((g25.1 151 (-1) (by omega)).trans (g19.1))) (by omega) (by omega) ⟨(by omega), (by omega)⟩ ?_
        refine wa_aload_n (n := 0) rfl ?_
        refine wa_iload (n := 7) rfl ?_
        refine wb_pfi 72 rfl (wy_pr rfl) wt_72 wf_2_13 (n := 13) rfl ⟨(by omega), (by omega)⟩ ?_
        refine wa_iconst ?_
        refine wa_zreturn rfl (Or.inr rfl) ?_
        have e0 : ∀ (j : Nat) (i : Int), (j ≠ 151 ∨ i < on ∨ on + ((vL k v).length : Int) ≤ i) → Z24 j i = Z18 j i := g25.1
        have e2 : ∀ i : Int, 0 ≤ i → i < ((vL k v).length : Int) → Z24 151 (on + i) = Z18 157 (64 - ((vL k v).length : Int) + i) := g25.2
        have zz : ∀ (j : Nat) (i : Int), j < 4000000 → j ≠ wG → j ≠ 151 → Z18 j i = Sq1 j i := fun j i j1 j2 j3 => congrFun (g19.2.2.1 j j3 j1 j2) i
        have za : Sq1 151 (-1) = S 151 (-1) := hshF 151 (-1) (Or.inl (by first | decide | omega)) (Or.inl (by first | decide | omega))
        have zo : ∀ x : Int, 0 ≤ x → x < on → Z18 151 x = S 151 x := fun x x0 x1 => (g19.2.1 x x0 (by omega)).trans (hshF 151 x (Or.inl (by first | decide | omega)) (Or.inl (by first | decide | omega)))
        have zl : Z18 151 (-1) = v14 := g19.1
        have e1 : (w_up (w_up Z24 151 (((on + ((vL k v).length : Int)) + 1) - 1) 10) 72 13 ((on + ((vL k v).length : Int)) + 1)) 151 (-1) = v14 := (w_up_slot (by first | decide | omega)).trans ((w_up_at (by omega)).trans ((e0 151 (-1) (by omega)).trans zl))
        refine Or.inr ⟨by omega, rfl, w_up_same _ _ _ _, fun q hq => ?_, ?_, fun x x0 x1 => (w_up_slot (by first | decide | omega)).trans ((w_up_at (by omega)).trans ((e0 151 x (by omega)).trans (zo x x0 x1))), fun j x j0 j1 j2 j3 j4 => (w_up_no (by omega)).trans ((w_up_slot j2).trans ((e0 j x (Or.inl j2)).trans ((zz j x j0 j1 j2).trans (hshF j x (by omega) (by omega))))), by rw [e1]; omega, (gI_up (gI_up gi26 (by omega) (by omega) (by omega)) (by omega) (by omega) (by omega)), (rmR_up (rmR_up rm27 (by omega) (by first | decide | omega)) (by omega) (by first | decide | omega))⟩
        · have y := e2 (q : Int) (by omega) (by omega)
          exact (w_up_slot (by first | decide | omega)).trans ((w_up_at (by omega)).trans (y.trans ((zz 157 _ (by first | decide | omega) (by first | decide | omega) (by first | decide | omega)).trans (hsh.2.1 q hq))))
        · rw [w_up_slot (by first | decide | omega), show on + ((vL k v).length : Int) + 1 - 1 = on + ((vL k v).length : Int) by omega]; exact w_up_same _ _ _ _
      · skip
        exact absurd c22 (by omega)
  · skip
    refine wa_iconst ?_
    refine wa_zreturn rfl (Or.inl rfl) ?_
    exact Or.inl ⟨by omega, rfl, hsh⟩
end Wg4
