/-! PART c7: the reference's beginsPart, into. -/
section Wc7
variable {xs : List (Nat × List Int32)} {M : Nat → Prop} {d : Nat} {A B C S Z S0 : wS} {Q : wO → wS → Prop} {T : Int → Int} {n f0 u dp b0 b1 : Int} {N X : List (List Int)} {c i k pm : Nat} {I : List pz_I} {F : List pz_F} {PA : Nat → Int}
variable {cur a : Int}
theorem rl_none {w : Int} (h : ∀ x ∈ I, x.2.2.2 ≠ w) : rl f0 w I = [] ∧ ru f0 w I = 0 := by
  have h1 : ∀ I : List pz_I, (∀ x ∈ I, x.2.2.2 ≠ w) → rl f0 w I = [] := fun I => by
    refine li_end (p := fun I => (∀ x ∈ I, x.2.2.2 ≠ w) → rl f0 w I = []) (fun _ => rfl) (fun l x ih hl => ?_) I
    rw [rl_no (hl x (List.mem_append.mpr (Or.inr (List.mem_singleton.mpr rfl))))]
    exact ih (fun y hy => hl y (List.mem_append.mpr (Or.inl hy)))
  refine ⟨h1 I h, ?_⟩
  unfold ru
  rw [h1 I h, pz_h_0 h]
  rfl
/-- a new part is there -/
theorem rB_nw {Z1 Z : wS} (h : rB S0 f0 I F PA pm S) (hp : pm < 400) (hpO : pO pm 0 0 [] [] [] [] 0 Z1) (hph : phP pm Z1 = 0) (hf : pf_f pm S Z1) (hZ : Z = w_up (w_up Z1 286 (pm : Int) (nP pm : Int)) 237 25 ((pm : Int) + 1)) : rB S0 f0 I F PA (pm + 1) Z ∧ phA (pm + 1) Z + 125 = phA pm S := by
  obtain ⟨b1', b2, b3, b4, ⟨b5, b6⟩, b7, b8, b9⟩ := h
  have hn4 : nP 400 = 2025600 := rfl
  have hnk : nP pm = 2000000 + 64 * pm := rfl
  have hw : wG = 1000000 := rfl
  have fr : ∀ (j : Nat) (y : Int), j ≠ wG → (j < nP pm ∨ nP pm + 64 ≤ j) → (j ≠ 286 ∨ y ≠ (pm : Int)) → (j ≠ 237 ∨ y ≠ 25) → Z j y = S j y := fun j y j1 j2 j3 j4 => by rw [hZ]; exact (w_up_no (by omega)).trans ((w_up_no (by omega)).trans (hf j y j1 j2))
  have ez : ∀ (j : Nat) (y : Int), nP pm ≤ j → j < nP pm + 64 → Z j y = Z1 j y := fun j y j1 j2 => by rw [hZ]; exact (w_up_no (by omega)).trans (w_up_no (by omega))
  have eP : ∀ q : Nat, q < 400 → q ≠ pm → ∀ (j : Nat) (y : Int), nP q ≤ j → j < nP q + 64 → Z j y = S j y := fun q q1 q2 j y j1 j2 => fr j y (by unfold nP at *; omega) (by unfold nP at *; omega) (by unfold nP at *; omega) (by unfold nP at *; omega)
  have eI : ∀ (r : Nat) (j : Nat) (y : Int), r < 3 → (j = 287 + 2 * r ∨ ∃ g : Nat, g ≤ 11 ∧ j = fs r g) → Z j y = S j y := fun r j y hr hj => by
    have := fs_rg hr hj
    exact fr j y (by omega) (by omega) (by omega) (by omega)
  obtain ⟨i1, d1⟩ := iI_ag (Z := Z) b7 (fun j y => eI 0 j y (by decide))
  obtain ⟨i2, d2⟩ := iI_ag (Z := Z) b8 (fun j y => eI 1 j y (by decide))
  obtain ⟨i3, d3⟩ := iI_ag (Z := Z) b9 (fun j y => eI 2 j y (by decide))
  obtain ⟨z1, z2⟩ := pO_ag hpO ez
  refine ⟨⟨fun q hq => (rPt_ag (b1' q hq) (eP q (by omega) (by omega))).1, fun q q1 q2 => ?_, fun q q1 q2 c hc z => b3 q (by omega) q2 c hc ⟨by rw [← eP q (by omega) (by omega) (nP q + c) (-1) (by omega) (by omega)]; exact z.1, z.2⟩, ⟨by omega, by omega⟩, ⟨fun q hq => ?_, (fr 286 (-1) (by decide) (by omega) (by omega) (by decide)).trans b6⟩, i1, i2, i3⟩, ?_⟩
  · by_cases e : q = pm
    · subst e; exact ⟨_, _, _, _, _, _, _, z1⟩
    · exact (rSh_ag (b2 q q1 (by omega)) (eP q (by omega) e)).1
  · by_cases e : q = pm
    · subst e; rw [hZ]; exact (w_up_slot (by decide)).trans (w_up_same _ _ _ _)
    · exact (fr 286 _ (by decide) (by omega) (by omega) (by omega)).trans (b5 q (by omega))
  · unfold phA
    rw [d1, d2, d3]
    show phs Z pm + phP pm Z + _ + _ + _ + 125 * (400 - ((pm + 1 : Nat) : Int)) + 125 = _
    rw [z2, hph, phs_ag pm (fun q q1 => by
      by_cases e2 : q < F.length
      · exact (rPt_ag (b1' q e2) (eP q (by omega) (by omega))).2
      · exact (rSh_ag (b2 q (by omega) q1) (eP q (by omega) (by omega))).2)]
    omega
/-- the next part is begun -/
theorem rB_bg {Z1 Z : wS} (h : rB S0 f0 I F PA pm S) (hp : F.length < pm) (hown : ∀ x ∈ I, x.2.2.2 ≠ f0 + (F.length : Int)) (hPA : PA F.length = 0) (hpO : pO F.length (aro f0 a) 0 [] [] [] [] 0 Z1) (hph : phP F.length Z1 ≤ phP F.length S) (hf : pf_f F.length S Z1) (hZ : Z = w_up Z1 237 26 ((F.length : Int) + 1)) : rB S0 f0 I (F ++ [(a, 0, [])]) PA pm Z ∧ phA pm Z ≤ phA pm S := by
  obtain ⟨b1', b2, b3, b4, ⟨b5, b6⟩, b7, b8, b9⟩ := h
  have hn4 : nP 400 = 2025600 := rfl
  have hnk : nP F.length = 2000000 + 64 * F.length := rfl
  have hw : wG = 1000000 := rfl
  have hlen : (F ++ [((a, 0, []) : pz_F)]).length = F.length + 1 := by rw [List.length_append]; rfl
  have fr : ∀ (j : Nat) (y : Int), j ≠ wG → (j < nP F.length ∨ nP F.length + 64 ≤ j) → (j ≠ 237 ∨ y ≠ 26) → Z j y = S j y := fun j y j1 j2 j3 => by rw [hZ]; exact (w_up_no (by omega)).trans (hf j y j1 j2)
  have ez : ∀ (j : Nat) (y : Int), nP F.length ≤ j → j < nP F.length + 64 → Z j y = Z1 j y := fun j y j1 j2 => by rw [hZ]; exact w_up_no (by omega)
  have eP : ∀ q : Nat, q < 400 → q ≠ F.length → ∀ (j : Nat) (y : Int), nP q ≤ j → j < nP q + 64 → Z j y = S j y := fun q q1 q2 j y j1 j2 => fr j y (by unfold nP at *; omega) (by unfold nP at *; omega) (by unfold nP at *; omega)
  have eI : ∀ (r : Nat) (j : Nat) (y : Int), r < 3 → (j = 287 + 2 * r ∨ ∃ g : Nat, g ≤ 11 ∧ j = fs r g) → Z j y = S j y := fun r j y hr hj => by
    have := fs_rg hr hj
    exact fr j y (by omega) (by omega) (by omega)
  obtain ⟨i1, d1⟩ := iI_ag (Z := Z) b7 (fun j y => eI 0 j y (by decide))
  obtain ⟨i2, d2⟩ := iI_ag (Z := Z) b8 (fun j y => eI 1 j y (by decide))
  obtain ⟨i3, d3⟩ := iI_ag (Z := Z) b9 (fun j y => eI 2 j y (by decide))
  obtain ⟨z1, z2⟩ := pO_ag hpO ez
  obtain ⟨r1, r2⟩ := rl_none (f0 := f0) hown
  refine ⟨⟨fun q hq => ?_, fun q q1 q2 => (rSh_ag (b2 q (by omega) q2) (eP q (by omega) (by omega))).1, fun q q1 q2 c hc z => b3 q q1 q2 c hc ⟨by rw [← eP q (by omega) (by omega) (nP q + c) (-1) (by omega) (by omega)]; exact z.1, z.2⟩, ⟨by omega, by omega⟩, ⟨fun q hq => (fr 286 _ (by decide) (by omega) (by omega)).trans (b5 q hq), (fr 286 (-1) (by decide) (by omega) (by decide)).trans b6⟩, i1, i2, i3⟩, ?_⟩
  · rw [hlen] at hq
    by_cases e : q = F.length
    · subst e
      refine ⟨[], by rw [r1]; rfl, fun j hj => absurd hj (Nat.not_lt_zero _), ?_⟩
      rw [r1, r2, gD_r, hPA]
      exact z1
    · obtain ⟨l0, q1, q2, q3⟩ := b1' q (by omega)
      refine ⟨l0, q1, q2, ?_⟩
      rw [gD_l (by omega)]
      exact (pO_ag q3 (eP q (by omega) e)).1
  · unfold phA
    rw [d1, d2, d3, phs_one (q := F.length) (S := S) pm hp (fun q q1 q2 => by
      by_cases e2 : q < F.length
      · exact (rPt_ag (b1' q e2) (eP q (by omega) q2)).2
      · exact (rSh_ag (b2 q (by omega) q1) (eP q (by omega) q2)).2), z2]
    omega
theorem bp_1 (hB : rB S0 f0 I F PA pm S) (hp : F.length < pm) (h26 : S 237 26 = (F.length : Int)) (h27 : S 237 27 = cur) : wJ (pe_GA xs) wY0 M (d + 1) t_M_beginsPart ((pe_at t_M_beginsPart.bl 1).getD (0, [])).2 [(0, (2, 237)), (1, (0, (F.length : Int)))] [] S (fun q Z => q = .inl (some (0, (F.length : Int))) ∧ ∃ Z1 : wS, pf_f F.length S Z1 ∧ ((∀ x : Int, Z1 wG x = S wG x) ∧ phP F.length Z1 ≤ phP F.length S) ∧ pO F.length (if F.length = 0 then -1 else cur) 0 [] [] [] [] 0 Z1 ∧ Z = w_up Z1 237 26 ((F.length : Int) + 1)) := by
  obtain ⟨b1', b2, b3, b4, ⟨b5, b6⟩, -⟩ := hB
  obtain ⟨ar, pa, vs, lo, la, lb, un, hpO⟩ := b2 F.length (Nat.le_refl _) hp
  have hx := b5 F.length hp
  have hnk : nP F.length = 2000000 + 64 * F.length := rfl
  have hw : wG = 1000000 := rfl
  refine wa_aload_n (n := 0) rfl ?_
  refine wb_gf4 237 rfl (wy_pr rfl) wt_237 wf_15_24 (v := 286) wl_237_24 ?_
  refine wa_iload_n (n := 1) rfl ?_
  refine wb_aaldO 286 rfl (wy_pr rfl) wt_286 (by omega) (n := 400) (b6) (by omega) (v := (nP F.length : Int)) (hx) ?_
  refine wa_iload_n (n := 1) rfl ?_
  refine wa_ifne (w_rg0 (by omega) (by omega)) ⟨_, rfl⟩ (fun c101 => ?_) (fun c101 => ?_)
  · skip
    refine wa_aload_n (n := 0) rfl ?_
    refine wb_gfi 237 rfl (wy_pr rfl) wt_237 wf_15_27 (v := cur) (h27) (fun r102 => ?_)
    refine wa_fall ⟨_, rfl⟩ ?_
    refine wa_cv (nP F.length) rfl hpO.2.1.1 (wt_P0 (by omega)) (M2 := fun _ => False) rfl at_MP_begin ⟨_, rfl⟩ rfl rfl ⟨(Or.inr ⟨wy_pr rfl, fun q => q⟩), trivial, trivial⟩ trivial (fun _ _ q => False.elim q) (bg_r (f := F.length) (aa := cur) (by omega) hpO ⟨by omega, by omega⟩) (fun oq103 Sq103 hp104 q103 => ?_)
    rcases q103 with ⟨rfl, pf, hrm, hz⟩
    show wJ _ _ _ _ _ _ _ _ _ _
    refine wa_aload_n (n := 0) rfl ?_
    refine wa_dup (by decide) ?_
    refine wb_gfi 237 rfl (wy_pr rfl) wt_237 wf_15_26 (v := (F.length : Int)) (((pf 237 26 (by decide) (Or.inl (by omega))).trans h26)) (fun r105 => ?_)
    refine wa_iconst ?_
    refine wa_iadd ?_
    refine wb_pfi 237 rfl (wy_pr rfl) wt_237 wf_15_26 (n := 26) rfl ⟨(by omega), (by omega)⟩ ?_
    refine wa_iload_n (n := 1) rfl ?_
    refine wa_ireturn rfl ?_
    refine ⟨rfl, Sq103, pf, hrm, ?_, rfl⟩
    first | (rw [if_pos (by omega)]; exact hz) | (rw [if_neg (by omega)]; exact hz)
  · skip
    refine wa_iconst ?_
    refine wa_goto ⟨_, rfl⟩ ?_
    refine wa_cv (nP F.length) rfl hpO.2.1.1 (wt_P0 (by omega)) (M2 := fun _ => False) rfl at_MP_begin ⟨_, rfl⟩ rfl rfl ⟨(Or.inr ⟨wy_pr rfl, fun q => q⟩), trivial, trivial⟩ trivial (fun _ _ q => False.elim q) (bg_r (f := F.length) (aa := (-1)) (by omega) hpO ⟨by omega, by omega⟩) (fun oq106 Sq106 hp107 q106 => ?_)
    rcases q106 with ⟨rfl, pf, hrm, hz⟩
    show wJ _ _ _ _ _ _ _ _ _ _
    refine wa_aload_n (n := 0) rfl ?_
    refine wa_dup (by decide) ?_
    refine wb_gfi 237 rfl (wy_pr rfl) wt_237 wf_15_26 (v := (F.length : Int)) (((pf 237 26 (by decide) (Or.inl (by omega))).trans h26)) (fun r108 => ?_)
    refine wa_iconst ?_
    refine wa_iadd ?_
    refine wb_pfi 237 rfl (wy_pr rfl) wt_237 wf_15_26 (n := 26) rfl ⟨(by omega), (by omega)⟩ ?_
    refine wa_iload_n (n := 1) rfl ?_
    refine wa_ireturn rfl ?_
    refine ⟨rfl, Sq106, pf, hrm, ?_, rfl⟩
    first | (rw [if_pos (by omega)]; exact hz) | (rw [if_neg (by omega)]; exact hz)
theorem bp_r (hB : rB S0 f0 I F PA pm S) (h26 : S 237 26 = (F.length : Int)) (h25 : S 237 25 = (pm : Int)) (h27 : S 237 27 = cur) (hl : F.length < 400) (hown : ∀ x ∈ I, x.2.2.2 ≠ f0 + (F.length : Int)) (hPA : PA F.length = 0) (hav : aro f0 a = (if F.length = 0 then -1 else cur)) : wJ (pe_GA xs) wY0 M (d + 3) t_M_beginsPart ((pe_at t_M_beginsPart.bl 0).getD (0, [])).2 [(0, (2, 237))] [] S (fun q Z => q = .inl (some (0, (F.length : Int))) ∧ ∃ pm2 : Nat, rB S0 f0 I (F ++ [(a, 0, [])]) PA pm2 Z ∧ Z 237 26 = (F.length : Int) + 1 ∧ Z 237 25 = (pm2 : Int) ∧ (∀ (j : Nat) (x : Int), j ≠ wG → (j < 2000000 ∨ 4000000 ≤ j) → j ≠ 286 → (j ≠ 237 ∨ (x ≠ 25 ∧ x ≠ 26)) → Z j x = S j x) ∧ Z 286 (-1) = S 286 (-1) ∧ (Z wG 0 + phA pm2 Z ≤ S wG 0 + phA pm S ∧ 8 * Z wG 1 - Z wG 0 ≤ 8 * S wG 1 - S wG 0)) := by
  have hnk : nP F.length = 2000000 + 64 * F.length := rfl
  have hw : wG = 1000000 := rfl
  have b4 := hB.2.2.2.1
  refine wa_aload_n (n := 0) rfl ?_
  refine wb_gfi 237 rfl (wy_pr rfl) wt_237 wf_15_26 (v := (F.length : Int)) (h26) (fun r101 => ?_)
  refine wa_istore_n (n := 1) rfl ?_
  refine wa_iload_n (n := 1) rfl ?_
  refine wa_aload_n (n := 0) rfl ?_
  refine wb_gfi 237 rfl (wy_pr rfl) wt_237 wf_15_25 (v := (pm : Int)) (h25) (fun r102 => ?_)
  refine wa_icmpne (w_rg0 (by omega) (by omega)) (w_rg0 (by omega) (by omega)) ⟨_, rfl⟩ (fun c103 => ?_) (fun c103 => ?_)
  · skip
    refine wJ_mono (wJ_S (bp_1 (d := d + 2) hB (by omega) h26 h27) ⟨rfl, rfl, trivial⟩) (fun q Z hz => ?_)
    obtain ⟨q1, Z1, pf, ⟨g1, g2⟩, hz1, hz2⟩ := hz
    rw [← hav] at hz1
    obtain ⟨e1, e2⟩ := rB_bg hB (by omega) hown hPA hz1 g2 pf hz2
    have eG : ∀ x : Int, Z wG x = S wG x := fun x => by rw [hz2]; exact (w_up_slot (by decide)).trans (g1 x)
    refine ⟨q1, pm, e1, by rw [hz2]; exact w_up_same _ _ _ _, by rw [hz2]; exact (w_up_at (by decide)).trans ((pf 237 25 (by decide) (Or.inl (by omega))).trans h25), fun j x j1 j2 j3 j4 => by rw [hz2]; exact (w_up_no (by omega)).trans (pf j x j1 (by omega)), by rw [hz2]; exact (w_up_slot (by decide)).trans (pf 286 (-1) (by decide) (Or.inl (by omega))), ?_, ?_⟩
    · rw [eG]; omega
    · rw [eG, eG]; omega
  · skip
    refine wa_aload_n (n := 0) rfl ?_
    refine wb_gf4 237 rfl (wy_pr rfl) wt_237 wf_15_24 (v := 286) wl_237_24 ?_
    refine wa_iload_n (n := 1) rfl ?_
    have epm : F.length = pm := by omega
    have hl2 : pm < 400 := by omega
    have hab : ∀ c : Nat, c < 64 → ¬ w_pr wY0 S (nP F.length + c) := fun c hc => by rw [epm]; exact hB.2.2.1 pm (Nat.le_refl _) hl2 c hc
    have hab2 : ∀ c : Nat, c < 64 → S (nP F.length + c) (-1) < 0 := fun c hc => by
      refine Classical.byContradiction (fun q => hab c hc ⟨Or.inr (by omega), nP_G⟩)
    refine wb_nO (S := S) (g := g14) (vs := pe_dv_14) (m := 8) (nP F.length) rfl rfl (hab 0 (by decide)) (by omega) (by omega) (by decide) (fun ad2 => wc_14 (wt_P0 (by omega)) ad2) ⟨trivial, (Or.inr ⟨wy_pr rfl, fun q => q⟩), trivial⟩ ⟨trivial, (Or.inr ⟨wy_pr rfl, fun q => q⟩), trivial⟩ (fun Y0 m0 mp0 mq0 => ?_)
    refine wa_dup (by decide) ?_
    refine wa_ci (nP F.length) rfl (M2 := fun _ => False) rfl at_MP_init ⟨_, rfl⟩ rfl rfl ⟨trivial, (Or.inr ⟨wy_pr rfl, fun q => q⟩), trivial⟩ ⟨(Or.inr ⟨mp0, fun q => q⟩), trivial, (Or.inr ⟨wy_pr rfl, fun q => q⟩), trivial⟩ (fun _ _ q => False.elim q) (pi_r (f := F.length) (by omega) mp0 m0.1 (fun c c1 c2 => by rw [m0.2.1 _ (by omega) nP_G]; exact hab2 c c2)) (fun oq104 Sq104 hp105 q104 => ?_)
    rcases q104 with ⟨rfl, hpi, hpf, ⟨hr0, hr1⟩, hph⟩
    show wJ _ _ _ _ _ _ _ _ _ _
    have pfz : pf_f F.length S Sq104 := fun j x j1 j2 => (hpf j x j1 j2).trans (congrFun (m0.2.1 j (by omega) j1) x)
    obtain ⟨-, -, s0, s1⟩ := m0
    refine wa_aaO 286 (nP F.length) 14 rfl rfl (wy_pr rfl) (hp105 _ mp0) wt_286 ⟨by decide, by decide⟩ (wt_P0 (by omega)) (by omega) (by rw [show _ = _ from (((pfz 286 (-1) (by decide) (Or.inl (by omega))).trans hB.2.2.2.2.1.2))]; omega) ?_
    refine wa_aload_n (n := 0) rfl ?_
    refine wa_dup (by decide) ?_
    refine wb_gfi 237 rfl (wy_pr rfl) wt_237 wf_15_25 (v := (pm : Int)) ((w_up_slot (by decide)).trans (((pfz 237 25 (by decide) (Or.inl (by omega))).trans h25))) (fun r106 => ?_)
    refine wa_iconst ?_
    refine wa_iadd ?_
    refine wb_pfi 237 rfl (wy_pr rfl) wt_237 wf_15_25 (n := 25) rfl ⟨(by omega), (by omega)⟩ ?_
    refine wa_fall ⟨_, rfl⟩ ?_
    obtain ⟨e3, e4⟩ := rB_nw (Z := (w_up (w_up Sq104 286 (F.length : Int) (nP F.length : Int)) 237 25 ((pm : Int) + 1))) hB hl2 (by rw [epm] at hpi; exact hpi) (by rw [epm] at hph; exact hph) (by rw [epm] at pfz; exact pfz) (by rw [← epm])
    have k26 : (w_up (w_up Sq104 286 (F.length : Int) (nP F.length : Int)) 237 25 ((pm : Int) + 1)) 237 26 = (F.length : Int) := (w_up_at (by decide)).trans ((w_up_slot (by decide)).trans ((pfz 237 26 (by decide) (Or.inl (by omega))).trans h26))
    have k27 : (w_up (w_up Sq104 286 (F.length : Int) (nP F.length : Int)) 237 25 ((pm : Int) + 1)) 237 27 = cur := (w_up_at (by decide)).trans ((w_up_slot (by decide)).trans ((pfz 237 27 (by decide) (Or.inl (by omega))).trans h27))
    refine wJ_mono (wJ_S (bp_1 (d := d + 2) (S := (w_up (w_up Sq104 286 (F.length : Int) (nP F.length : Int)) 237 25 ((pm : Int) + 1))) e3 (by omega) k26 k27) ⟨rfl, rfl, trivial⟩) (fun q Z hz => ?_)
    obtain ⟨q1, Z1, pf, ⟨g1, g2⟩, hz1, hz2⟩ := hz
    rw [← hav] at hz1
    obtain ⟨e1, e2⟩ := rB_bg e3 (by omega) hown hPA hz1 g2 pf hz2
    have eT : ∀ x : Int, (w_up (w_up Sq104 286 (F.length : Int) (nP F.length : Int)) 237 25 ((pm : Int) + 1)) wG x = Sq104 wG x := fun x => (w_up_slot (by decide)).trans (w_up_slot (by decide))
    have eG : ∀ x : Int, Z wG x = Sq104 wG x := fun x => by rw [hz2]; exact (w_up_slot (by decide)).trans ((g1 x).trans (eT x))
    have ff : ∀ (j : Nat) (x : Int), j ≠ wG → (j < 2000000 ∨ 4000000 ≤ j) → (j ≠ 286 ∨ x ≠ (F.length : Int)) → (j ≠ 237 ∨ (x ≠ 25 ∧ x ≠ 26)) → Z j x = S j x := fun j x j1 j2 j3 j4 => by rw [hz2]; exact (w_up_no (by omega)).trans ((pf j x j1 (by omega)).trans ((w_up_no (by omega)).trans ((w_up_no (by omega)).trans (pfz j x j1 (by omega)))))
    refine ⟨q1, pm + 1, e1, by rw [hz2]; exact w_up_same _ _ _ _, by rw [hz2]; exact (w_up_at (by decide)).trans ((pf 237 25 (by decide) (Or.inl (by omega))).trans (w_up_same _ _ _ _)), fun j x j1 j2 j3 j4 => ff j x j1 j2 (Or.inl j3) j4, ff 286 (-1) (by decide) (by decide) (Or.inr (by omega)) (Or.inl (by decide)), ?_, ?_⟩
    · rw [eG]; omega
    · rw [eG, eG]; omega
end Wc7
