/-! PART g9: print of the reference, by tasks. -/
section Wg9
variable {xs : List (Nat × List Int32)} {M : Nat → Prop} {d : Nat} {S Z A B : wS} {K : aK} {b t on : Int} {l o : List Int}
/-- nothing but what is spelled has changed -/
def spN (S Z : wS) : Prop := (∀ (j : Nat) (x : Int), j ≠ 345 → (j ≠ 237 ∨ x ≠ 113) → Z j x = S j x) ∧ w_ML Z
theorem spN_l (h : spL 0 l (w_up S 237 113 0) Z) : spN S Z := ⟨fun j x j0 j1 => (h.2.2.1 j x (Or.inl j0) j1).trans (w_up_no (by omega)), h.2.2.2⟩
theorem spN_t (hM : w_ML S) : spN S (w_up S 237 113 0) := ⟨fun j x _ j1 => w_up_no (by omega), w_ML_up hM (by first | decide | omega)⟩
def rMp (j : Nat) (x : Int) : Prop := j = 342 ∨ (j = 237 ∧ x = 104)
theorem yb0 {t c p h tp ky vy : Int} (hP : mP t c p h tp S) (hky : S 363 (2100 * t + h - 1) = ky) (hvy : S 364 (2100 * t + h - 1) = vy) (hh1 : 1 ≤ h) (hpr : wJ (pe_GA xs) wY0 (fun _ => False) (d + 9) t_M_shows ((pe_at t_M_shows.bl 0).getD (0, [])).2 [(0, (2, 237)), (1, (0, ky)), (2, (1, vy))] [] S (fun o Z => (65536 < on + (l.length : Int) + 1 ∧ ∃ A : wS, spN S A ∧ o = .inr 238 ∧ hZ 99 A = Z) ∨ (on + (l.length : Int) + 1 ≤ 65536 ∧ o = .inl none ∧ ∃ A : wS, spN S A ∧ ouA on l A Z))) : wJ (pe_GA xs) wY0 (fun _ => False) (d + 11) t_M_others ((pe_at t_M_others.bl 0).getD (0, [])).2 [(0, (2, 237)), (1, (0, 28)), (2, (0, 0))] [] S (fun o Z => (65536 < on + (l.length : Int) + 1 ∧ ∃ A : wS, spN S A ∧ o = .inr 238 ∧ hZ 99 A = Z) ∨ (on + (l.length : Int) + 1 ≤ 65536 ∧ o = .inl none ∧ ∃ A B : wS, spN S A ∧ ouA on l A B ∧ w_up (w_up B 363 (2100 * t + h - 1) 0) 364 (2100 * t + h - 1) 0 = Z)) := by
  obtain ⟨hM, ⟨mt, mt0, mt1⟩, mp, mf, ⟨mc, mc0, mc1⟩, ⟨mtp, mtq⟩, ⟨mpa, mp0, mp1⟩, mh, mh0, mh1⟩ := id hP
  have hky2 : S 363 (2100 * t + (h - 1)) = ky := by rw [show 2100 * t + (h - 1) = 2100 * t + h - 1 by omega]; exact hky
  have hvy2 : S 364 (2100 * t + (h - 1)) = vy := by rw [show 2100 * t + (h - 1) = 2100 * t + h - 1 by omega]; exact hvy
  refine wa_aload_n (n := 0) rfl ?_
  refine wa_cv 237 rfl (wy_pr rfl) wt_237 (M2 := fun _ => False) rfl at_M_h ⟨_, rfl⟩ rfl rfl ⟨(Or.inr ⟨wy_pr rfl, fun q => q⟩), trivial, trivial, trivial⟩ trivial (fun _ _ q => False.elim q) ?_ (fun _ _ _ q => q)
  refine wa_aload_n (n := 0) rfl ?_
  refine wb_gfi 237 rfl (wy_pr rfl) wt_237 wf_15_152 (v := (2100 * t)) (mp) (fun r1 => ?_)
  refine wa_aload_n (n := 0) rfl ?_
  refine wb_gf4 237 rfl (wy_pr rfl) wt_237 wf_15_134 (v := 359) wl_237_134 ?_
  refine wa_aload_n (n := 0) rfl ?_
  refine wb_gfi 237 rfl (wy_pr rfl) wt_237 wf_15_151 (v := t) (mt) (fun r2 => ?_)
  refine wb_iald 359 rfl (wy_pr rfl) wt_359 (n := 2) ((ml_359 hM)) (by omega) (by omega) (v := h) (mh) (fun r3 => ?_)
  refine wa_iadd ?_
  refine wa_ireturn rfl ?_
  show wJ _ _ _ _ _ _ _ _ _ _
  refine wa_iconst ?_
  refine wa_isub ?_
  refine wa_istore_n (n := 3) rfl ?_
  refine wa_iload_n (n := 1) rfl ?_
  refine wb_sw (w_rg0 (by omega) (by omega)) (tb := 12) rfl ⟨_, rfl⟩ ?_
  refine wa_aload_n (n := 0) rfl ?_
  refine wa_iload_n (n := 2) rfl ?_
  refine wa_cv 237 rfl (wy_pr rfl) wt_237 (M2 := fun _ => False) rfl at_M_builtins ⟨_, rfl⟩ rfl rfl ⟨trivial, (Or.inr ⟨wy_pr rfl, fun q => q⟩), trivial, trivial, trivial⟩ trivial (fun _ _ q => False.elim q) ?_ (fun _ _ _ q => q)
  refine wa_aload_n (n := 0) rfl ?_
  refine wa_cv 237 rfl (wy_pr rfl) wt_237 (M2 := fun _ => False) rfl at_M_h ⟨_, rfl⟩ rfl rfl ⟨(Or.inr ⟨wy_pr rfl, fun q => q⟩), trivial, trivial⟩ trivial (fun _ _ q => False.elim q) ?_ (fun _ _ _ q => q)
  refine wa_aload_n (n := 0) rfl ?_
  refine wb_gfi 237 rfl (wy_pr rfl) wt_237 wf_15_152 (v := (2100 * t)) (mp) (fun r4 => ?_)
  refine wa_aload_n (n := 0) rfl ?_
  refine wb_gf4 237 rfl (wy_pr rfl) wt_237 wf_15_134 (v := 359) wl_237_134 ?_
  refine wa_aload_n (n := 0) rfl ?_
  refine wb_gfi 237 rfl (wy_pr rfl) wt_237 wf_15_151 (v := t) (mt) (fun r5 => ?_)
  refine wb_iald 359 rfl (wy_pr rfl) wt_359 (n := 2) ((ml_359 hM)) (by omega) (by omega) (v := h) (mh) (fun r6 => ?_)
  refine wa_iadd ?_
  refine wa_ireturn rfl ?_
  show wJ _ _ _ _ _ _ _ _ _ _
  refine wa_iconst ?_
  refine wa_isub ?_
  refine wa_istore_n (n := 2) rfl ?_
  refine wa_iload_n (n := 2) rfl ?_
  refine wa_iconst ?_
  refine wa_isub ?_
  refine wa_istore_n (n := 3) rfl ?_
  refine wa_iload_n (n := 1) rfl ?_
  refine wb_sw (w_rg0 (by omega) (by omega)) (tb := 1) rfl ⟨_, rfl⟩ ?_
  refine wa_aload_n (n := 0) rfl ?_
  refine wa_aload_n (n := 0) rfl ?_
  refine wb_gf4 237 rfl (wy_pr rfl) wt_237 wf_15_138 (v := 363) wl_237_138 ?_
  refine wa_iload_n (n := 2) rfl ?_
  refine wb_iald 363 rfl (wy_pr rfl) wt_363 (n := 4200) ((ml_363 hM)) (by omega) (by omega) (v := ky) (hky) (fun r7 => ?_)
  refine wa_aload_n (n := 0) rfl ?_
  refine wb_gf4 237 rfl (wy_pr rfl) wt_237 wf_15_139 (v := 364) wl_237_139 ?_
  refine wa_iload_n (n := 2) rfl ?_
  refine wb_lald 364 rfl (wy_pr rfl) wt_364 (n := 4200) ((ml_364 hM)) (by omega) (by omega) (v := vy) (hvy) (fun r8 => ?_)
  refine wa_cv 237 rfl (wy_pr rfl) wt_237 (M2 := fun _ => False) rfl at_M_shows ⟨_, rfl⟩ rfl rfl ⟨trivial, trivial, (Or.inr ⟨wy_pr rfl, fun q => q⟩), trivial, trivial⟩ trivial (fun _ _ q => False.elim q) (hpr) (fun oq9 Sq9 hp10 q9 => ?_)
  rcases q9 with ⟨hno, A, hsp, rfl, rfl⟩ | ⟨hyes, rfl, A, hsp, hou⟩
  · skip
    refine ⟨rfl, ?_⟩
    refine ⟨rfl, ?_⟩
    exact Or.inl ⟨hno, A, hsp, rfl, rfl⟩
  · skip
    show wJ _ _ _ _ _ _ _ _ _ _
    have hoM := hou.2.2.2.2
    refine wa_aload_n (n := 0) rfl ?_
    refine wa_iload_n (n := 2) rfl ?_
    refine wa_iconst ?_
    refine wb_lconst (m := 0) rfl ?_
    refine wa_cv 237 rfl (wy_pr rfl) wt_237 (M2 := fun _ => False) rfl at_M_put ⟨_, rfl⟩ rfl rfl ⟨trivial, trivial, (Or.inr ⟨wy_pr rfl, fun q => q⟩), trivial, trivial⟩ trivial (fun _ _ q => False.elim q) ?_ (fun _ _ _ q => q)
    refine wa_aload_n (n := 0) rfl ?_
    refine wb_gf4 237 rfl (wy_pr rfl) wt_237 wf_15_138 (v := 363) wl_237_138 ?_
    refine wa_iload_n (n := 1) rfl ?_
    refine wa_iload_n (n := 2) rfl ?_
    refine wb_iast 363 rfl (wy_pr rfl) wt_363 (n := 4200) ((ml_363 hoM)) (by omega) (by omega) ⟨(by omega), (by omega)⟩ ?_
    refine wa_aload_n (n := 0) rfl ?_
    refine wb_gf4 237 rfl (wy_pr rfl) wt_237 wf_15_139 (v := 364) wl_237_139 ?_
    refine wa_iload_n (n := 1) rfl ?_
    refine wa_lload_n (n := 3) rfl ?_
    refine wb_last 364 rfl (wy_pr rfl) wt_364 (n := 4200) ((w_up_slot (by decide)).trans ((ml_364 hoM))) (by omega) (by omega) ⟨(by omega), (by omega)⟩ ?_
    refine wa_return rfl ?_
    show wJ _ _ _ _ _ _ _ _ _ _
    refine wa_goto ⟨_, rfl⟩ ?_
    refine wa_return rfl ?_
    show wJ _ _ _ _ _ _ _ _ _ _
    refine wa_goto ⟨_, rfl⟩ ?_
    refine wa_return rfl ?_
    exact Or.inr ⟨hyes, rfl, A, Sq9, hsp, hou, rfl⟩
end Wg9
