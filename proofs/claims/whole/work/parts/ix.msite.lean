/-! PART ix: a site in the reference: does, and invokes up to its entries, by tasks. -/
section Wix
variable {xs : List (Nat × List Int32)} {M : Nat → Prop} {d : Nat} {S Z : wS} {Rn Rt : wS → Prop} {Q : wO → wS → Prop}
theorem d27_d {t c p h tp g e a b : Int} (hP : mP t c p h tp S) (mg : S 365 tp = g) (mg1 : 0 ≤ g ∧ g < 400) (mpp : S 366 tp = p) (me : S 297 g = e) (me1 : 0 ≤ e ∧ e + p < 20000) (ho : S 301 (e + p) = 27) (ha : S 302 (e + p) = a) (hb : S 303 (e + p) = b) (hcal : wJ (pe_GA xs) wY0 (fun _ => False) (d + 11) t_M_invokes ((pe_at t_M_invokes.bl 0).getD (0, [])).2 [(0, (2, 237)), (1, (0, a))] [] S (fun o Z => (o = .inl none ∧ Rn Z) ∨ (o = .inr 238 ∧ Rt Z))) : wJ (pe_GA xs) wY0 (fun _ => False) (d + 12) t_M_does ((pe_at t_M_does.bl 0).getD (0, [])).2 [(0, (2, 237))] [] S (fun o Z => (o = .inl none ∧ Rn Z) ∨ (o = .inr 238 ∧ Rt Z)) := by
  obtain ⟨hM, ⟨mt, mt0, mt1⟩, mp, mf, ⟨mc, mc0, mc1⟩, ⟨mtp, mtq⟩, ⟨mpa, mp0, mp1⟩, mh, mh0, mh1⟩ := hP
  refine wa_aload_n (n := 0) rfl ?_
  refine wb_gf4 237 rfl (wy_pr rfl) wt_237 wf_15_140 (v := 365) wl_237_140 ?_
  refine wa_aload_n (n := 0) rfl ?_
  refine wb_gfi 237 rfl (wy_pr rfl) wt_237 wf_15_154 (v := tp) (mtp) (fun r1 => ?_)
  refine wb_iald 365 rfl (wy_pr rfl) wt_365 (n := 400) ((ml_365 hM)) (by omega) (by omega) (v := g) (mg) (fun r2 => ?_)
  refine wa_istore_n (n := 1) rfl ?_
  refine wa_aload_n (n := 0) rfl ?_
  refine wb_gf4 237 rfl (wy_pr rfl) wt_237 wf_15_39 (v := 297) wl_237_39 ?_
  refine wa_iload_n (n := 1) rfl ?_
  refine wb_iald 297 rfl (wy_pr rfl) wt_297 (n := 400) ((ml_297 hM)) (by omega) (by omega) (v := e) (me) (fun r3 => ?_)
  refine wa_aload_n (n := 0) rfl ?_
  refine wb_gf4 237 rfl (wy_pr rfl) wt_237 wf_15_141 (v := 366) wl_237_141 ?_
  refine wa_aload_n (n := 0) rfl ?_
  refine wb_gfi 237 rfl (wy_pr rfl) wt_237 wf_15_154 (v := tp) (mtp) (fun r4 => ?_)
  refine wb_iald 366 rfl (wy_pr rfl) wt_366 (n := 400) ((ml_366 hM)) (by omega) (by omega) (v := p) (mpp) (fun r5 => ?_)
  refine wa_iadd ?_
  refine wa_istore_n (n := 2) rfl ?_
  refine wa_aload_n (n := 0) rfl ?_
  refine wb_gf4 237 rfl (wy_pr rfl) wt_237 wf_15_44 (v := 301) wl_237_44 ?_
  refine wa_iload_n (n := 2) rfl ?_
  refine wb_iald 301 rfl (wy_pr rfl) wt_301 (n := 20000) ((ml_301 hM)) (by omega) (by omega) (v := 27) (ho) (fun r6 => ?_)
  refine wa_istore_n (n := 3) rfl ?_
  refine wa_aload_n (n := 0) rfl ?_
  refine wb_gf4 237 rfl (wy_pr rfl) wt_237 wf_15_45 (v := 302) wl_237_45 ?_
  refine wa_iload_n (n := 2) rfl ?_
  refine wb_iald 302 rfl (wy_pr rfl) wt_302 (n := 20000) ((ml_302 hM)) (by omega) (by omega) (v := a) (ha) (fun r7 => ?_)
  refine wa_istore (n := 4) rfl ?_
  refine wa_iload_n (n := 3) rfl ?_
  refine wa_bipush (w_rg2 (by omega) (by omega)) ?_
  refine wa_icmpne (w_rg0 (by omega) (by omega)) (w_rg0 (by omega) (by omega)) ⟨_, rfl⟩ (fun c8 => ?_) (fun c8 => ?_)
  · skip
    exact absurd c8 (by omega)
  · skip
    refine wa_aload_n (n := 0) rfl ?_
    refine wa_iload (n := 4) rfl ?_
    refine wa_cv 237 rfl (wy_pr rfl) wt_237 (M2 := fun _ => False) rfl at_M_invokes ⟨_, rfl⟩ rfl rfl ⟨trivial, trivial, trivial, trivial, (Or.inr ⟨wy_pr rfl, fun q => q⟩), trivial⟩ trivial (fun _ _ q => False.elim q) (hcal) (fun oq9 Sq9 hp10 q9 => ?_)
    rcases q9 with ⟨rfl, hz⟩ | ⟨rfl, hz⟩
    · skip
      show wJ _ _ _ _ _ _ _ _ _ _
      refine wa_goto ⟨_, rfl⟩ ?_
      refine wa_return rfl ?_
      exact Or.inl ⟨rfl, hz⟩
    · skip
      refine ⟨rfl, ?_⟩
      exact Or.inr ⟨rfl, hz⟩
end Wix
