/-! PART j8: acting at a site by tasks: a property is set: of the reference. -/
section Wj8
variable {xs : List (Nat × List Int32)} {M : Nat → Prop} {d : Nat} {Y : wS} {K : aK} {T : List aO} {L : List aC} {G : Int → aV} {sl : Nat → List Int} {t s kd gk gb wh es nm : Int} {ba : Nat} {Q : wO → wS → Prop}
theorem rsA (hM : w_ML Y) (hs : 0 ≤ s ∧ s < 4000) (h75 : Y 237 175 = gb) (hgb : 0 ≤ gb ∧ gb < 8000) (hkd : kd = 1 ∨ kd = 3) (hnm : nm = if kd = 1 then Y 305 s else Y 237 177) (hcal : wJ (pe_GA xs) wY0 (fun _ => False) (d + 7) t_M_sets ((pe_at t_M_sets.bl 0).getD (0, [])).2 [(0, (2, 237)), (1, (0, gb)), (2, (0, nm))] [] Y Q) (hQ : ∀ (o : wO) (Z : wS), Q o Z → o = .inl none ∨ o = .inr 238) : wJ (pe_GA xs) wY0 M (d + 8) t_M_actsOnThing ((pe_at t_M_actsOnThing.bl 0).getD (0, [])).2 [(0, (2, 237)), (1, (0, s)), (2, (0, kd))] [] Y Q := by
  rcases hkd with hk | hk
  · subst hk
    have hn2 : nm = (Y 305 s) := hnm
    subst hn2
    refine wa_aload_n (n := 0) rfl ?_
    refine wb_gfl 237 rfl (wy_pr rfl) wt_237 wf_15_175 (v := gb) (h75) (fun r101 => ?_)
    refine wb_l2i_r (y := gb) (wb_l2i_id ⟨by omega, by omega⟩) ?_
    refine wa_istore_n (n := 3) rfl ?_
    refine wa_iload_n (n := 2) rfl ?_
    refine wa_iconst ?_
    refine wa_icmpne (w_rg0 (by omega) (by omega)) (w_rg0 (by omega) (by omega)) ⟨_, rfl⟩ (fun c102 => ?_) (fun c102 => ?_)
    · skip
      refine wa_iload_n (n := 2) rfl ?_
      refine wa_bipush (w_rg2 (by omega) (by omega)) ?_
      refine wa_icmpne (w_rg0 (by omega) (by omega)) (w_rg0 (by omega) (by omega)) ⟨_, rfl⟩ (fun c103 => ?_) (fun c103 => ?_)
      · skip
        refine wa_iload_n (n := 2) rfl ?_
        refine wa_iconst ?_
        refine wa_icmpeq (w_rg0 (by omega) (by omega)) (w_rg0 (by omega) (by omega)) ⟨_, rfl⟩ (fun c104 => ?_) (fun c104 => ?_)
        · skip
          refine wa_aload_n (n := 0) rfl ?_
          refine wa_iload_n (n := 3) rfl ?_
          refine wa_iload_n (n := 2) rfl ?_
          refine wa_iconst ?_
          refine wa_icmpne (w_rg0 (by omega) (by omega)) (w_rg0 (by omega) (by omega)) ⟨_, rfl⟩ (fun c105 => ?_) (fun c105 => ?_)
          · skip
            exact absurd c105 (by omega)
          · skip
            refine wa_aload_n (n := 0) rfl ?_
            refine wb_gf4 237 rfl (wy_pr rfl) wt_237 wf_15_50 (v := 305) wl_237_50 ?_
            refine wa_iload_n (n := 1) rfl ?_
            refine wb_iald 305 rfl (wy_pr rfl) wt_305 (n := 4000) ((ml_305 hM)) (by omega) (by omega) (v := (Y 305 s)) rfl (fun r106 => ?_)
            refine wa_goto ⟨_, rfl⟩ ?_
            refine wa_cv 237 rfl (wy_pr rfl) wt_237 (M2 := fun _ => False) rfl at_M_sets ⟨_, rfl⟩ rfl rfl ⟨trivial, (Or.inr ⟨wy_pr rfl, fun q => q⟩), trivial, trivial, trivial⟩ trivial (fun _ _ q => False.elim q) (wJ_mono hcal (fun o Z hq => show (o = .inl none ∧ Q (.inl none) Z) ∨ (o = .inr 238 ∧ Q (.inr 238) Z) from (hQ o Z hq).elim (fun e => Or.inl ⟨e, e ▸ hq⟩) (fun e => Or.inr ⟨e, e ▸ hq⟩))) (fun oq107 Sq107 hp108 q107 => ?_)
            rcases q107 with ⟨rfl, hz⟩ | ⟨rfl, hz⟩
            · skip
              show wJ _ _ _ _ _ _ _ _ _ _
              refine wa_return rfl ?_
              exact hz
            · skip
              refine ⟨rfl, ?_⟩
              exact hz
        · skip
          exact absurd c104 (by omega)
      · skip
        exact absurd c103 (by omega)
    · skip
      exact absurd c102 (by omega)
  · subst hk
    have hn2 : nm = (Y 237 177) := hnm
    subst hn2
    refine wa_aload_n (n := 0) rfl ?_
    refine wb_gfl 237 rfl (wy_pr rfl) wt_237 wf_15_175 (v := gb) (h75) (fun r301 => ?_)
    refine wb_l2i_r (y := gb) (wb_l2i_id ⟨by omega, by omega⟩) ?_
    refine wa_istore_n (n := 3) rfl ?_
    refine wa_iload_n (n := 2) rfl ?_
    refine wa_iconst ?_
    refine wa_icmpne (w_rg0 (by omega) (by omega)) (w_rg0 (by omega) (by omega)) ⟨_, rfl⟩ (fun c302 => ?_) (fun c302 => ?_)
    · skip
      refine wa_iload_n (n := 2) rfl ?_
      refine wa_bipush (w_rg2 (by omega) (by omega)) ?_
      refine wa_icmpne (w_rg0 (by omega) (by omega)) (w_rg0 (by omega) (by omega)) ⟨_, rfl⟩ (fun c303 => ?_) (fun c303 => ?_)
      · skip
        refine wa_iload_n (n := 2) rfl ?_
        refine wa_iconst ?_
        refine wa_icmpeq (w_rg0 (by omega) (by omega)) (w_rg0 (by omega) (by omega)) ⟨_, rfl⟩ (fun c304 => ?_) (fun c304 => ?_)
        · skip
          exact absurd c304 (by omega)
        · skip
          refine wa_iload_n (n := 2) rfl ?_
          refine wa_iconst ?_
          refine wa_icmpne (w_rg0 (by omega) (by omega)) (w_rg0 (by omega) (by omega)) ⟨_, rfl⟩ (fun c305 => ?_) (fun c305 => ?_)
          · skip
            exact absurd c305 (by omega)
          · skip
            refine wa_fall ⟨_, rfl⟩ ?_
            refine wa_aload_n (n := 0) rfl ?_
            refine wa_iload_n (n := 3) rfl ?_
            refine wa_iload_n (n := 2) rfl ?_
            refine wa_iconst ?_
            refine wa_icmpne (w_rg0 (by omega) (by omega)) (w_rg0 (by omega) (by omega)) ⟨_, rfl⟩ (fun c306 => ?_) (fun c306 => ?_)
            · skip
              refine wa_aload_n (n := 0) rfl ?_
              refine wb_gfi 237 rfl (wy_pr rfl) wt_237 wf_15_177 (v := (Y 237 177)) rfl (fun r307 => ?_)
              refine wa_fall ⟨_, rfl⟩ ?_
              refine wa_cv 237 rfl (wy_pr rfl) wt_237 (M2 := fun _ => False) rfl at_M_sets ⟨_, rfl⟩ rfl rfl ⟨trivial, (Or.inr ⟨wy_pr rfl, fun q => q⟩), trivial, trivial, trivial⟩ trivial (fun _ _ q => False.elim q) (wJ_mono hcal (fun o Z hq => show (o = .inl none ∧ Q (.inl none) Z) ∨ (o = .inr 238 ∧ Q (.inr 238) Z) from (hQ o Z hq).elim (fun e => Or.inl ⟨e, e ▸ hq⟩) (fun e => Or.inr ⟨e, e ▸ hq⟩))) (fun oq308 Sq308 hp309 q308 => ?_)
              rcases q308 with ⟨rfl, hz⟩ | ⟨rfl, hz⟩
              · skip
                show wJ _ _ _ _ _ _ _ _ _ _
                refine wa_return rfl ?_
                exact hz
              · skip
                refine ⟨rfl, ?_⟩
                exact hz
            · skip
              exact absurd c306 (by omega)
      · skip
        exact absurd c303 (by omega)
    · skip
      exact absurd c302 (by omega)
/-- slots' values are written -/
def rMv (j : Nat) (x : Int) : Prop := (j = 325 ∨ j = 326) ∧ 0 ≤ x
theorem rsx (hP : mP t (K.2.1.length : Int) (K.2.1.getD (K.2.1.length - 1) (0, 0, 0, (0, 0, []), 0, 0, 0)).2.1 (K.1.length : Int) (200 * t + (K.2.1.length : Int) - 1) Y) (hK : rTk t Y K) (hW : rWd Y sl T L G) (ht : 0 ≤ t ∧ t ≤ 1) (hKl : 0 < K.2.1.length ∧ K.2.1.length ≤ 200 ∧ K.1.length ≤ 2001) (hT : (T.length : Int) ≤ 8000) (h82 : Y 237 82 ≤ 60000) (hll : ∀ q : Nat, q < T.length → (sl q).length ≤ 60000) (h73 : Y 237 173 = 2100 * t + (ba : Int)) (hba : ba < K.1.length) (h74 : Y 237 174 = gk) (h75 : Y 237 175 = gb) (h76 : Y 237 176 = es) (hgb : 0 ≤ gb ∧ gb < (T.length : Int)) (h70 : Y 237 170 = wh) (h71 : Y 237 171 = -1) (hwh : 0 ≤ wh ∧ wh < ((tO T gb).2.2.2.2.2.2.length : Int)) (hs : 0 ≤ s ∧ s < 4000) (hkd : kd = 1 ∨ kd = 3) (hnm : nm = if kd = 1 then Y 305 s else Y 237 177) (hnr : 0 ≤ nm ∧ nm ≤ 100000) (hvk : 0 ≤ (K.1.getD (K.1.length - 1) (0, 0, [])).1 ∧ (K.1.getD (K.1.length - 1) (0, 0, [])).1 ≤ 8) (hvb : -9223372036854775808 ≤ Y 364 (2100 * t + (K.1.length : Int) - 1) ∧ Y 364 (2100 * t + (K.1.length : Int) - 1) ≤ 9223372036854775807) : wJ (pe_GA xs) wY0 M (d + 8) t_M_actsOnThing ((pe_at t_M_actsOnThing.bl 0).getD (0, [])).2 [(0, (2, 237)), (1, (0, s)), (2, (0, kd))] [] Y (fun o Z => o = .inl none ∧ rTk t Z (kP K (K.1.length - ba) (K.1.getD (K.1.length - 1) (0, 0, []))) ∧ rWd Z sl (tSp T gb wh.toNat (K.1.getD (K.1.length - 1) (0, 0, []))) L G ∧ rTm t rMv Y Z) := by
  have hu : rVl Y (Y 363 (2100 * t + (K.1.length : Int) - 1)) (Y 364 (2100 * t + (K.1.length : Int) - 1)) (K.1.getD (K.1.length - 1) (0, 0, [])) := by
    have z := hK.1.2 (K.1.length - 1) (by omega)
    rw [show 2100 * t + ((K.1.length - 1 : Nat) : Int) = 2100 * t + (K.1.length : Int) - 1 by omega] at z
    exact z
  obtain ⟨⟨z1, z2⟩, z3, -⟩ := slot_v (hd := gb) hW hgb h82 hwh
  have hWA : rWd (w_up (w_up Y 325 ((sl gb.toNat).getD wh.toNat 0) (Y 363 (2100 * t + (K.1.length : Int) - 1))) 326 ((sl gb.toNat).getD wh.toNat 0) (Y 364 (2100 * t + (K.1.length : Int) - 1))) sl (tSp T gb wh.toNat (K.1.getD (K.1.length - 1) (0, 0, []))) L G := rWd_sp hW hgb.1 hgb.2 (by omega) hu
  have eA : rTx Y (w_up (w_up Y 325 ((sl gb.toNat).getD wh.toNat 0) (Y 363 (2100 * t + (K.1.length : Int) - 1))) 326 ((sl gb.toNat).getD wh.toNat 0) (Y 364 (2100 * t + (K.1.length : Int) - 1))) := rTx_of rfl rfl (fun j x j0 j1 => (w_up_slot (by omega)).trans (w_up_slot (by omega)))
  have hKA : rTk t (w_up (w_up Y 325 ((sl gb.toNat).getD wh.toNat 0) (Y 363 (2100 * t + (K.1.length : Int) - 1))) 326 ((sl gb.toNat).getD wh.toNat 0) (Y 364 (2100 * t + (K.1.length : Int) - 1))) K := rTk_fr hK eA (fun j x j0 j1 => (w_up_slot (by omega)).trans (w_up_slot (by omega)))
  refine rsA hP.1 hs h75 ⟨hgb.1, by omega⟩ hkd hnm (wJ_mono (rss_ok (d := d) (l := sl gb.toNat) (sl := (sl gb.toNat).getD wh.toNat 0) (r := -1) (wh := wh) hP h73 ⟨by omega, by omega⟩ h74 h75 ⟨hgb.1, by omega⟩ h76 h71 (by omega) rfl rfl (by rw [hu.1]; exact hvk) hvb h70 rfl ⟨hwh.1, z1, hll _ (by omega), z2, rfl⟩ hnr) (fun o Z hq => ?_)) (fun o Z hq => Or.inl hq.1)
  obtain ⟨rfl, rfl⟩ := hq
  refine ⟨rfl, rTk_gv hKA ht hKl.1 (by omega) (rVl_mo hu eA), gvZ_w hWA, fun j x o n => ?_⟩
  refine (gvZ_f (Y := (w_up (w_up Y 325 ((sl gb.toNat).getD wh.toNat 0) (Y 363 (2100 * t + (K.1.length : Int) - 1))) 326 ((sl gb.toNat).getD wh.toNat 0) (Y 364 (2100 * t + (K.1.length : Int) - 1)))) ht ⟨hKl.1, hKl.2.1⟩ (by omega) j x o).trans ?_
  unfold rMv at n
  exact (w_up_no (by omega)).trans (w_up_no (by omega))
end Wj8
