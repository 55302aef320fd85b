/-! PART bz: the reference's emits and newSite. -/
section Wbz
variable {xs : List (Nat × List Int32)} {M : Nat → Prop} {d : Nat} {A B C S Z S0 : wS} {Q : wO → wS → Prop} {T : Int → Int} {n f0 u dp b0 b1 : Int} {N X : List (List Int)} {c i k pm : Nat} {I : List pz_I} {F : List pz_F} {PA : Nat → Int}
variable {f : Nat} {ar pa un op a b m : Int} {vs lo la lb : List Int} {x : pz_I}
theorem em0 (hf : f ≤ 1000) (h28 : S 237 28 = (nP f : Int)) (h : pO f ar pa vs lo la lb un S) (h59 : S 237 59 = m) (hm : 0 ≤ m ∧ m ≤ 1000000) (ho : -2147483648 ≤ op ∧ op ≤ 2147483647) (ha : -2147483648 ≤ a ∧ a ≤ 2147483647) (hb : -2147483648 ≤ b ∧ b ≤ 2147483647) (hu : 0 ≤ un ∧ un ≤ 1000000) (hl : (lo.length : Int) ≤ 1000000 ∧ (la.length : Int) ≤ 1000000 ∧ (lb.length : Int) ≤ 1000000) : wJ (pe_GA xs) wY0 M (d + 2) t_M_emits ((pe_at t_M_emits.bl 0).getD (0, [])).2 [(0, (2, 237)), (1, (0, op)), (2, (0, a)), (3, (0, b))] [] S (fun q Z => q = .inl none ∧ ∃ Z1 : wS, pf_f f S Z1 ∧ (Z1 wG 0 + phP f Z1 ≤ S wG 0 + phP f S + 12 ∧ S wG 0 ≤ Z1 wG 0 ∧ 32 * (Z1 wG 1 - S wG 1) ≤ Z1 wG 0 - S wG 0 ∧ S wG 1 ≤ Z1 wG 1) ∧ ((20000 ≤ m ∧ pO f ar pa vs lo la lb (un + 1) Z1) ∨ (m < 20000 ∧ pO f ar pa vs (lo ++ [op]) (la ++ [a]) (lb ++ [b]) un Z1)) ∧ Z = (if op = -1 then w_up (w_up Z1 237 59 (m + 1)) 237 60 a else w_up Z1 237 59 (m + 1))) := by
  have hnp : 2000000 ≤ nP f := by unfold nP; omega
  refine wa_aload_n (n := 0) rfl ?_
  refine wb_gf5 237 rfl (wy_pr rfl) wt_237 wf_15_28 (v := (nP f : Int)) (h28) (fun r101 => ?_)
  refine wa_iload_n (n := 1) rfl ?_
  refine wa_iload_n (n := 2) rfl ?_
  refine wa_iload_n (n := 3) rfl ?_
  refine wa_aload_n (n := 0) rfl ?_
  refine wb_gfi 237 rfl (wy_pr rfl) wt_237 wf_15_59 (v := m) (h59) (fun r102 => ?_)
  refine wa_sipush (by omega) ?_
  refine wa_icmpge (w_rg0 (by omega) (by omega)) (w_rg0 (by omega) (by omega)) ⟨_, rfl⟩ (fun c103 => ?_) (fun c103 => ?_)
  · skip
    refine wa_iconst ?_
    refine wa_fall ⟨_, rfl⟩ ?_
    refine wa_cv (nP f) rfl h.2.1.1 (wt_P0 hf) (M2 := fun _ => False) rfl at_MP_add ⟨_, rfl⟩ rfl rfl ⟨(Or.inr ⟨wy_pr rfl, fun q => q⟩), trivial, trivial, trivial, trivial⟩ trivial (fun _ _ q => False.elim q) (ad_r (kp := 0) hf h ho ha hb (Or.inl rfl) hu hl) (fun oq104 Sq104 hp105 q104 => ?_)
    rcases q104 with ⟨rfl, hfr, hrm, hz⟩
    show wJ _ _ _ _ _ _ _ _ _ _
    have hz2 := (hz.resolve_right (fun q => absurd q.1 (by decide))).2
    refine wa_aload_n (n := 0) rfl ?_
    refine wa_dup (by decide) ?_
    refine wb_gfi 237 rfl (wy_pr rfl) wt_237 wf_15_59 (v := m) (((hfr 237 59 (by decide) (Or.inl (by omega))).trans h59)) (fun r106 => ?_)
    refine wa_iconst ?_
    refine wa_iadd ?_
    refine wb_pfi 237 rfl (wy_pr rfl) wt_237 wf_15_59 (n := 59) rfl ⟨(by omega), (by omega)⟩ ?_
    refine wa_iload_n (n := 1) rfl ?_
    refine wa_iconst ?_
    refine wa_icmpne (w_rg0 (by omega) (by omega)) (w_rg0 (by omega) (by omega)) ⟨_, rfl⟩ (fun c107 => ?_) (fun c107 => ?_)
    · skip
      refine wa_return rfl ?_
      refine ⟨rfl, Sq104, hfr, hrm, Or.inl ⟨by omega, hz2⟩, ?_⟩
      first | rw [if_pos (by omega)] | rw [if_neg (by omega)]
    · skip
      refine wa_aload_n (n := 0) rfl ?_
      refine wa_iload_n (n := 2) rfl ?_
      refine wb_pfi 237 rfl (wy_pr rfl) wt_237 wf_15_60 (n := 60) rfl ⟨(by omega), (by omega)⟩ ?_
      refine wa_fall ⟨_, rfl⟩ ?_
      refine wa_return rfl ?_
      refine ⟨rfl, Sq104, hfr, hrm, Or.inl ⟨by omega, hz2⟩, ?_⟩
      first | rw [if_pos (by omega)] | rw [if_neg (by omega)]
  · skip
    refine wa_iconst ?_
    refine wa_goto ⟨_, rfl⟩ ?_
    refine wa_cv (nP f) rfl h.2.1.1 (wt_P0 hf) (M2 := fun _ => False) rfl at_MP_add ⟨_, rfl⟩ rfl rfl ⟨(Or.inr ⟨wy_pr rfl, fun q => q⟩), trivial, trivial, trivial, trivial⟩ trivial (fun _ _ q => False.elim q) (ad_r (kp := 1) hf h ho ha hb (Or.inr rfl) hu hl) (fun oq108 Sq108 hp109 q108 => ?_)
    rcases q108 with ⟨rfl, hfr, hrm, hz⟩
    show wJ _ _ _ _ _ _ _ _ _ _
    have hz2 := (hz.resolve_left (fun q => absurd q.1 (by decide))).2
    refine wa_aload_n (n := 0) rfl ?_
    refine wa_dup (by decide) ?_
    refine wb_gfi 237 rfl (wy_pr rfl) wt_237 wf_15_59 (v := m) (((hfr 237 59 (by decide) (Or.inl (by omega))).trans h59)) (fun r110 => ?_)
    refine wa_iconst ?_
    refine wa_iadd ?_
    refine wb_pfi 237 rfl (wy_pr rfl) wt_237 wf_15_59 (n := 59) rfl ⟨(by omega), (by omega)⟩ ?_
    refine wa_iload_n (n := 1) rfl ?_
    refine wa_iconst ?_
    refine wa_icmpne (w_rg0 (by omega) (by omega)) (w_rg0 (by omega) (by omega)) ⟨_, rfl⟩ (fun c111 => ?_) (fun c111 => ?_)
    · skip
      refine wa_return rfl ?_
      refine ⟨rfl, Sq108, hfr, hrm, Or.inr ⟨by omega, hz2⟩, ?_⟩
      first | rw [if_pos (by omega)] | rw [if_neg (by omega)]
    · skip
      refine wa_aload_n (n := 0) rfl ?_
      refine wa_iload_n (n := 2) rfl ?_
      refine wb_pfi 237 rfl (wy_pr rfl) wt_237 wf_15_60 (n := 60) rfl ⟨(by omega), (by omega)⟩ ?_
      refine wa_fall ⟨_, rfl⟩ ?_
      refine wa_return rfl ?_
      refine ⟨rfl, Sq108, hfr, hrm, Or.inr ⟨by omega, hz2⟩, ?_⟩
      first | rw [if_pos (by omega)] | rw [if_neg (by omega)]
theorem wy_o : ∀ q ∈ wy_n, q.1 < 287 ∨ (292 < q.1 ∧ q.1 < 400) := by decide +kernel
theorem rL_ag2 (h : rL T n i S) (e : ∀ (j : Nat) (y : Int), ((y = -1 ∧ (j < 287 ∨ (292 < j ∧ j < 400))) ∨ j = 239 ∨ j = 240 ∨ (281 ≤ j ∧ j ≤ 285) ∨ (j = 237 ∧ y ≤ 20)) → Z j y = S j y) : rL T n i Z := by
  obtain ⟨h1, h2, h3, h4, h5, h6, h7⟩ := h
  have e239 : Z 239 = S 239 := funext fun x => e 239 x (by omega)
  have e240 : Z 240 = S 240 := funext fun x => e 240 x (by omega)
  have e4 : Z 237 4 = S 237 4 := e 237 4 (by omega)
  have e5 : Z 237 5 = S 237 5 := e 237 5 (by omega)
  refine ⟨e239.trans h1, e4.trans h2, e5.trans h3, fun q hq => (e q.1 (-1) (Or.inl ⟨rfl, wy_o q hq⟩)).trans (h4 q hq), by rw [e4]; exact h5, by rw [e4]; exact h6, ?_⟩
  unfold lx_St lx_tl at h7 ⊢
  rw [e 237 6 (by omega), e 237 7 (by omega), e 237 8 (by omega), e 237 9 (by omega), e 237 10 (by omega), e 237 12 (by omega), e4, e5, e239, e240]
  exact h7
theorem mN_ag2 {L : List (List Int)} (h : mN L S) (e : ∀ (j : Nat) (y : Int), ((y = -1 ∧ (j < 287 ∨ (292 < j ∧ j < 400))) ∨ j = 239 ∨ j = 240 ∨ (281 ≤ j ∧ j ≤ 285) ∨ (j = 237 ∧ y ≤ 20)) → Z j y = S j y) : mN L Z := by
  have e1 : Z 281 = S 281 := funext fun x => e 281 x (by omega)
  have e2 : Z 282 = S 282 := funext fun x => e 282 x (by omega)
  unfold mN at h ⊢
  rw [e1, e2, e 237 16 (by omega)]
  exact h
theorem mX_ag2 {L : List (List Int)} (h : mX L S) (e : ∀ (j : Nat) (y : Int), ((y = -1 ∧ (j < 287 ∨ (292 < j ∧ j < 400))) ∨ j = 239 ∨ j = 240 ∨ (281 ≤ j ∧ j ≤ 285) ∨ (j = 237 ∧ y ≤ 20)) → Z j y = S j y) : mX L Z := by
  have e1 : Z 283 = S 283 := funext fun x => e 283 x (by omega)
  have e2 : Z 284 = S 284 := funext fun x => e 284 x (by omega)
  have e3 : Z 285 = S 285 := funext fun x => e 285 x (by omega)
  unfold mX at h ⊢
  rw [e1, e2, e3, e 237 19 (by omega), e 237 20 (by omega)]
  exact h
/-- one more instruction has come -/
theorem rQ_ap {Z : wS} (h1 : rL T n i S) (h2 : mN (NL T n N i) S) (h3 : mX (XL T n X i) S) (h4 : rFv f0 u I F (NL T n N i).length) (h5 : rFr (xTb T n X) S0 S) (hc : rCt f0 u dp I F pm S) (hB : rB S0 f0 I F PA pm S) (hR : rRm b0 b1 i I F pm S) (hu : u = f0 + (k : Int)) (hx : x.2.2.2 = u) (hl1 : la.length = (rl f0 (f0 + (k : Int)) I).length) (hl2 : ∀ j : Nat, j < la.length → (((rl f0 (f0 + (k : Int)) I).getD j (0, 0, 0)).2.1 = -9 ∨ ¬ pz_lo I) → la.getD j 0 = gA S0 k j ((rl f0 (f0 + (k : Int)) I).getD j (0, 0, 0)).2.1) {av : Int} (hav : I.length < 20000 → av = gA S0 k (rl f0 (f0 + (k : Int)) I).length (renc f0 (pz_s I) x).2.1) (hl9 : I.length + 1 ≤ 1 * i + 16)
    (hP : (20000 ≤ (I.length : Int) ∧ pO k (aro f0 (F.getD k (-1, 0, [])).1) (PA k) (F.getD k (-1, 0, [])).2.2.reverse ((rl f0 (f0 + (k : Int)) I).map (fun z => z.1)) la ((rl f0 (f0 + (k : Int)) I).map (fun z => z.2.2)) (ru f0 (f0 + (k : Int)) I + 1) Z) ∨ ((I.length : Int) < 20000 ∧ pO k (aro f0 (F.getD k (-1, 0, [])).1) (PA k) (F.getD k (-1, 0, [])).2.2.reverse ((rl f0 (f0 + (k : Int)) I).map (fun z => z.1) ++ [(renc f0 (pz_s I) x).1]) (la ++ [av]) ((rl f0 (f0 + (k : Int)) I).map (fun z => z.2.2) ++ [(renc f0 (pz_s I) x).2.2]) (ru f0 (f0 + (k : Int)) I) Z))
    (hs : iI 287 (fs 0) 4000 (sk1 (I ++ [x])) Z ∧ iI 289 (fs 1) 4000 (sk2 (I ++ [x])) Z ∧ iI 291 (fs 2) 4000 (sk3 (I ++ [x])) Z)
    (fr : ∀ (j : Nat) (y : Int), j ≠ wG → (j < nP k ∨ nP k + 64 ≤ j) → (j < 287 ∨ 292 < j) → (j < nP 400 ∨ nP 400 + 64 ≤ j) → (j ≠ 237 ∨ (y ≠ 59 ∧ y ≠ 60 ∧ y ≠ 61)) → Z j y = S j y) (e59 : Z 237 59 = (I.length : Int) + 1)
    (rm : Z wG 0 + (phP k Z + phi 287 Z + phi 289 Z + phi 291 Z) ≤ S wG 0 + (phP k S + phi 287 S + phi 289 S + phi 291 S) + 12 ∧ 8 * Z wG 1 - Z wG 0 ≤ 8 * S wG 1 - S wG 0) : rQ T n N X f0 b0 b1 S0 u dp i (I ++ [x]) F PA Z := by
  obtain ⟨⟨c1, c2⟩, c3, c4, c5, c6, c7⟩ := hc
  obtain ⟨b1', b2, b3, b4, ⟨b5, b6⟩, b7, b8, b9⟩ := hB
  obtain ⟨r1, r2⟩ := hR
  obtain ⟨v1, v2, v3, v4⟩ := h4
  have hkF : k < F.length := by omega
  have hk4 : k < 400 := by omega
  have hn : 2000000 ≤ nP k ∧ nP k + 64 ≤ nP 400 := by unfold nP; omega
  have hn4 : nP 400 = 2025600 := rfl
  have hw : wG = 1000000 := rfl
  have el : ∀ (j : Nat) (y : Int), ((y = -1 ∧ j < 400) ∨ j = 239 ∨ j = 240 ∨ (281 ≤ j ∧ j ≤ 285) ∨ (j = 237 ∧ y ≤ 20)) → (j < 287 ∨ 292 < j) → Z j y = S j y := fun j y hj hj2 => fr j y (by omega) (by omega) hj2 (by omega) (by omega)
  have el2 : ∀ (j : Nat) (y : Int), ((y = -1 ∧ (j < 287 ∨ (292 < j ∧ j < 400))) ∨ j = 239 ∨ j = 240 ∨ (281 ≤ j ∧ j ≤ 285) ∨ (j = 237 ∧ y ≤ 20)) → Z j y = S j y := fun j y hj => fr j y (by omega) (by omega) (by omega) (by omega) (by omega)
  have hlen : ((I ++ [x]).length : Int) = (I.length : Int) + 1 := by rw [List.length_append]; rfl
  have e237 : ∀ y : Int, y ≠ 59 → y ≠ 60 → y ≠ 61 → Z 237 y = S 237 y := fun y y1 y2 y3 => fr 237 y (by decide) (by omega) (by decide) (by omega) (Or.inr ⟨y1, y2, y3⟩)
  have eP : ∀ q : Nat, q < 400 → q ≠ k → ∀ (j : Nat) (y : Int), nP q ≤ j → j < nP q + 64 → Z j y = S j y := fun q q1 q2 j y j1 j2 => fr j y (by unfold nP at *; omega) (by unfold nP at *; omega) (by unfold nP at *; omega) (by unfold nP at *; omega) (Or.inl (by unfold nP at *; omega))
  have ho : ∀ q : Nat, q ≠ k → x.2.2.2 ≠ f0 + (q : Int) := fun q hq => by rw [hx, hu]; omega
  have hxk : x.2.2.2 = f0 + (k : Int) := hx.trans hu
  refine ⟨rL_ag2 h1 el2, ⟨mN_ag2 h2 el2, mX_ag2 h3 el2⟩, ⟨v1, v2, fun z hz => ?_, v4⟩, fun j y j1 j2 j3 j4 j5 => (fr j y j1 (by omega) (by omega) (by omega) (by omega)).trans (h5 j y j1 j2 j3 j4 j5), pm, ⟨⟨(e237 27 (by decide) (by decide) (by decide)).trans c1, (e237 28 (by decide) (by decide) (by decide)).trans c2⟩, (e237 29 (by decide) (by decide) (by decide)).trans c3, (e237 26 (by decide) (by decide) (by decide)).trans c4, (e237 25 (by decide) (by decide) (by decide)).trans c5, (e237 34 (by decide) (by decide) (by decide)).trans c6, by rw [hlen]; exact e59⟩, ⟨fun q hq => ?_, fun q q1 q2 => (rSh_ag (b2 q q1 q2) (eP q (by omega) (by omega))).1, fun q q1 q2 c hc z => b3 q q1 q2 c hc ⟨by rw [← eP q (by omega) (by omega) (nP q + c) (-1) (by omega) (by omega)]; exact z.1, z.2⟩, b4, ⟨fun q hq => (fr 286 _ (by decide) (by omega) (by decide) (by omega) (Or.inl (by decide))).trans (b5 q hq), (fr 286 _ (by decide) (by omega) (by decide) (by omega) (Or.inl (by decide))).trans b6⟩, hs.1, hs.2.1, hs.2.2⟩, ?_, ?_⟩
  · rcases List.mem_append.mp hz with q | q
    · exact v3 z q
    · rw [List.mem_singleton.mp q, hx]; exact v2
  · by_cases e : q = k
    · subst e
      rcases hP with ⟨p1, p2⟩ | ⟨p1, p2⟩
      · refine ⟨la, by rw [rl_ov (by omega)]; exact hl1, fun j j1 hno => by rw [rl_ov (by omega)] at hno ⊢; exact hl2 j j1 (hno.imp id (fun hn z => hn (lo_ap z))), ?_⟩
        rw [rl_ov (by omega), ru_ov hxk (by omega)]
        exact p2
      · refine ⟨la ++ [av], ?_, fun j j1 hno => ?_, ?_⟩
        · rw [rl_in hxk (by omega), List.length_append, List.length_append, hl1]; rfl
        · rw [rl_in hxk (by omega)] at hno ⊢
          rw [List.length_append] at j1
          have hl9 : [av].length = 1 := rfl
          by_cases e2 : j < la.length
          · rw [gD_l (by omega)] at hno
            rw [gD_l e2, gD_l (by omega)]
            exact hl2 j e2 (hno.imp id (fun hn z => hn (lo_ap z)))
          · have e3 : j = la.length := by omega
            rw [e3, gD_r, hl1, gD_r]
            exact hav (by omega)
        · rw [rl_in hxk (by omega), ru_in hxk (by omega), List.map_append, List.map_append]
          exact p2
    · obtain ⟨l2, q1, q2, q3⟩ := b1' q hq
      refine ⟨l2, by rw [rl_no (ho q e)]; exact q1, fun j j1 hno => by rw [rl_no (ho q e)] at hno ⊢; exact q2 j j1 (hno.imp id (fun hn z => hn (lo_ap z))), ?_⟩
      rw [rl_no (ho q e), ru_no (ho q e)]
      exact (pO_ag q3 (eP q (by omega) e)).1
  · have e1 : phs Z pm = phs S pm + (phP k Z - phP k S) := phs_one pm (by omega) (fun q q1 q2 => by
      by_cases e2 : q < F.length
      · exact (rPt_ag (b1' q e2) (eP q (by omega) q2)).2
      · exact (rSh_ag (b2 q (by omega) q1) (eP q (by omega) q2)).2)
    unfold phA at r1 ⊢
    rw [e1, hlen]
    omega
  · exact ⟨by have := r2.1; omega, by rw [List.length_append]; exact hl9⟩
/-- the function's own part -/
theorem rQ_pt (h : rQ T n N X f0 b0 b1 S0 u dp i I F PA S) : ∃ (k : Nat) (la : List Int) (pm : Nat), (u = f0 + (k : Int) ∧ k < 400 ∧ k < F.length) ∧ (la.length = (rl f0 (f0 + (k : Int)) I).length ∧ (∀ j : Nat, j < la.length → (((rl f0 (f0 + (k : Int)) I).getD j (0, 0, 0)).2.1 = -9 ∨ ¬ pz_lo I) → la.getD j 0 = gA S0 k j ((rl f0 (f0 + (k : Int)) I).getD j (0, 0, 0)).2.1)) ∧ pO k (aro f0 (F.getD k (-1, 0, [])).1) (PA k) (F.getD k (-1, 0, [])).2.2.reverse ((rl f0 (f0 + (k : Int)) I).map (fun z => z.1)) la ((rl f0 (f0 + (k : Int)) I).map (fun z => z.2.2)) (ru f0 (f0 + (k : Int)) I) S ∧ (S 237 28 = (nP k : Int) ∧ S 237 59 = (I.length : Int)) ∧ rCt f0 u dp I F pm S ∧ rB S0 f0 I F PA pm S ∧ rRm b0 b1 i I F pm S := by
  obtain ⟨h1, h2, h4, h5, pm, hc, hB, hR⟩ := h
  obtain ⟨v1, v2, v3, v4⟩ := h4
  have hk : u = f0 + (((u - f0).toNat : Nat) : Int) := by omega
  obtain ⟨la, l1, l2, l3⟩ := hB.1 (u - f0).toNat (by omega)
  exact ⟨(u - f0).toNat, la, pm, ⟨hk, by omega, by omega⟩, ⟨l1, l2⟩, l3, ⟨hc.1.2, hc.2.2.2.2.2⟩, hc, hB, hR⟩
theorem emg (h : rQ T n N X f0 b0 b1 S0 u dp i I F PA S) (hI : (I.length : Int) ≤ 900000 ∧ I.length + 1 ≤ 1 * i + 16) (hx : x.2.2.2 = u) (h27 : x.1 ≠ 27) (he : (renc f0 (pz_s I) x).1 = op ∧ (renc f0 (pz_s I) x).2.2 = b) (he2 : I.length < 20000 → a = gA S0 (u - f0).toNat (pz_h I u).toNat (renc f0 (pz_s I) x).2.1) (ho : -2147483648 ≤ op ∧ op ≤ 2147483647) (ha : -2147483648 ≤ a ∧ a ≤ 2147483647) (hb : -2147483648 ≤ b ∧ b ≤ 2147483647) : wJ (pe_GA xs) wY0 M (d + 2) t_M_emits ((pe_at t_M_emits.bl 0).getD (0, [])).2 [(0, (2, 237)), (1, (0, op)), (2, (0, a)), (3, (0, b))] [] S (fun q Z => q = .inl none ∧ rQ T n N X f0 b0 b1 S0 u dp i (I ++ [x]) F PA Z ∧ Z 237 61 = S 237 61 ∧ Z 237 60 = if op = -1 then a else S 237 60) := by
  obtain ⟨hI, hI9⟩ := hI
  obtain ⟨k, la, pm, ⟨hu, hk4, hkF⟩, ⟨l1, l2⟩, hp, ⟨h28, h59⟩, hc, hB, hR⟩ := rQ_pt h
  have hr := ru_rg f0 (f0 + (k : Int)) I
  have hrl := (rl_len f0 (f0 + (k : Int)) I).1
  have hph := pz_h_rg I (f0 + (k : Int))
  have lm1 : (((rl f0 (f0 + (k : Int)) I).map (fun z => z.1)).length : Int) ≤ 1000000 := by rw [List.length_map]; omega
  have lm2 : (((rl f0 (f0 + (k : Int)) I).map (fun z => z.2.2)).length : Int) ≤ 1000000 := by rw [List.length_map]; omega
  have hnp : 2000000 ≤ nP k ∧ nP k + 64 ≤ nP 400 := by unfold nP; omega
  have hw : wG = 1000000 := rfl
  refine wJ_mono (em0 (f := k) (by omega) h28 hp h59 ⟨by omega, by omega⟩ ho ha hb ⟨hr.1, by omega⟩ ⟨lm1, by omega, lm2⟩) (fun q Z hz => ?_)
  obtain ⟨q1, Z1, pf, ⟨m1, m2, m3, m4⟩, hP, hZ⟩ := hz
  have fz : ∀ (j : Nat) (y : Int), (j ≠ 237 ∨ (y ≠ 59 ∧ y ≠ 60)) → Z j y = Z1 j y := fun j y hj => by
    rw [hZ]; split
    · exact (w_up_no (by omega)).trans (w_up_no (by omega))
    · exact w_up_no (by omega)
  have eP : ∀ (j : Nat) (y : Int), nP k ≤ j → j < nP k + 64 → Z j y = Z1 j y := fun j y j1 j2 => fz j y (Or.inl (by omega))
  have fr : ∀ (j : Nat) (y : Int), j ≠ wG → (j < nP k ∨ nP k + 64 ≤ j) → (j ≠ 237 ∨ (y ≠ 59 ∧ y ≠ 60)) → Z j y = S j y := fun j y j1 j2 j3 => (fz j y j3).trans (pf j y j1 j2)
  have eI : ∀ (r : Nat) (j : Nat) (y : Int), r < 3 → (j = 287 + 2 * r ∨ ∃ g : Nat, g ≤ 11 ∧ j = fs r g) → Z j y = S j y := fun r j y hr hj => by
    have h4 : nP 400 = 2025600 := rfl
    refine fr j y ?_ ?_ ?_
    all_goals
      rcases hj with q | ⟨g, q1, q2⟩
      · omega
      · unfold fs at q2
        by_cases e2 : g = 0
        · rw [if_pos e2] at q2; omega
        · rw [if_neg e2] at q2; omega
  obtain ⟨b1', b2, b3, b4, b5, b7, b8, b9⟩ := hB
  obtain ⟨k1, k2, k3⟩ := sk_no (I := I) h27
  obtain ⟨i1, p1⟩ := iI_ag (Z := Z) b7 (fun j y => eI 0 j y (by decide))
  obtain ⟨i2, p2⟩ := iI_ag (Z := Z) b8 (fun j y => eI 1 j y (by decide))
  obtain ⟨i3, p3⟩ := iI_ag (Z := Z) b9 (fun j y => eI 2 j y (by decide))
  have r1 : (renc f0 (pz_s I) x).1 = op := he.1
  have r3 : (renc f0 (pz_s I) x).2.2 = b := he.2
  have r2 : I.length < 20000 → a = gA S0 k (rl f0 (f0 + (k : Int)) I).length (renc f0 (pz_s I) x).2.1 := fun hl => by
    have e1 : (u - f0).toNat = k := by omega
    have e2 := (rl_len f0 (f0 + (k : Int)) I).2 (by omega)
    have e3 : (rl f0 (f0 + (k : Int)) I).length = (pz_h I u).toNat := by rw [hu]; omega
    rw [e3, ← e1]
    exact he2 hl
  have e59 : Z 237 59 = (I.length : Int) + 1 := by
    rw [hZ]; split
    · exact (w_up_at (by decide)).trans (w_up_same _ _ _ _)
    · exact w_up_same _ _ _ _
  have eG : ∀ y : Int, Z wG y = Z1 wG y := fun y => fz wG y (Or.inl (by decide))
  have ephi : phP k Z = phP k Z1 := by
    rcases hP with ⟨-, q⟩ | ⟨-, q⟩
    · exact (pO_ag q eP).2
    · exact (pO_ag q eP).2
  refine ⟨q1, rQ_ap h.1 h.2.1.1 h.2.1.2 h.2.2.1 h.2.2.2.1 hc ⟨b1', b2, b3, b4, b5, b7, b8, b9⟩ hR hu hx l1 l2 r2 hI9 ?_ ⟨by rw [k1]; exact i1, by rw [k2]; exact i2, by rw [k3]; exact i3⟩ (fun j y j1 j2 j3 j4 j5 => fr j y j1 j2 (by omega)) e59 ⟨?_, ?_⟩, ?_, ?_⟩
  · rw [r1, r3]
    rcases hP with ⟨q1, q2⟩ | ⟨q1, q2⟩
    · exact Or.inl ⟨q1, (pO_ag q2 eP).1⟩
    · exact Or.inr ⟨q1, (pO_ag q2 eP).1⟩
  · rw [eG, ephi, p1, p2, p3]; omega
  · rw [eG, eG]; omega
  · exact (fz 237 61 (Or.inr (by decide))).trans (pf 237 61 (by decide) (Or.inl (by omega)))
  · rw [hZ]; split
    · exact w_up_same _ _ _ _
    · exact (w_up_at (by decide)).trans (pf 237 60 (by decide) (Or.inl (by omega)))
theorem emw (h : rQ T n N X f0 b0 b1 S0 u dp i I F PA S) (hI : (I.length : Int) ≤ 900000 ∧ I.length + 1 ≤ 1 * i + 16) (hx : x.2.2.2 = u) (h27 : x.1 ≠ 27) (he : renc f0 (pz_s I) x = (op, a, b)) (ho : -2147483648 ≤ op ∧ op ≤ 2147483647) (ha : -2 ≤ a ∧ a ≤ 2147483647) (hb : -2147483648 ≤ b ∧ b ≤ 2147483647) : wJ (pe_GA xs) wY0 M (d + 2) t_M_emits ((pe_at t_M_emits.bl 0).getD (0, [])).2 [(0, (2, 237)), (1, (0, op)), (2, (0, a)), (3, (0, b))] [] S (fun q Z => q = .inl none ∧ rQ T n N X f0 b0 b1 S0 u dp i (I ++ [x]) F PA Z ∧ Z 237 61 = S 237 61 ∧ Z 237 60 = if op = -1 then a else S 237 60) :=
  emg h hI hx h27 ⟨by rw [he], by rw [he]⟩ (fun _ => by rw [he]; exact (gA_n (by omega)).symm) ho ⟨by omega, ha.2⟩ hb
end Wbz
