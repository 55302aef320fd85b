/-! PART d8: all rules keep the heights. -/
section Wd8
variable {K V P : Nat → Int} {f u dp dp2 x t t0 v l h h2 d nn nx m m2 e1 e2 : Int} {J : List Int} {i i2 j p n b : Nat} {I I0 I1 I2 I3 L X Y M N : List pz_I} {F F0 F1 F2 F3 : List pz_F} {o : pz_O} {z w : pz_I} {Q Q2 : Nat → Prop} {H H0 H1 H2 H3 D D0 D1 D2 D3 : Nat → Int}
theorem TS_d {d2 : Int} (g : TS nn nx f u Q H D I F h d) (e : d = d2) : TS nn nx f u Q H D I F h d2 := e ▸ g
theorem TS_h {h2 : Int} (g : TS nn nx f u Q H D I F h d) (e : h = h2) : TS nn nx f u Q H D I F h2 d := e ▸ g
theorem w_SS (h : pz_SS K (RT nn nx f) i dp u I F o) : (RT nn nx f) 0 0 [] i dp u I F o := by
  rintro i2 I2 F2 t rfl
  unfold pz_SS at h
  by_cases c : K i = 0 ∨ K i = 13
  · rw [if_pos c] at h
    have this := inr_e h
    simp only [Prod.mk.injEq] at this
    obtain ⟨-, rfl, rfl, -⟩ := this
    exact TZ_of TT_rfl
  · rw [if_neg c] at h
    obtain ⟨a, b, c, d, h1, h2⟩ := q_r h
    have r1 : TZ nn nx f dp u _ _ _ _ := h1 _ _ _ _ rfl
    have r2 : TZ nn nx f dp u _ _ _ _ := h2 _ _ _ _ rfl
    exact TZ_tr r1 r2
theorem w_ST40 (hV : tV nn nx K V) (h : pz_ST40 K V P f (RT nn nx f) i dp u I F (.inr (i2, I2, F2, t))) : TT nn nx f 0 0 dp u I F I2 F2 := by
  unfold pz_ST40 at h
  obtain ⟨a, b, c, y, h1, h2⟩ := q_r h
  obtain ⟨rfl, hF, hy⟩ := dc_T hV h1
  by_cases e : K a = 20
  · rw [if_pos e] at h2
    obtain ⟨a2, b2, c2, d2, h3, h4⟩ := q_r h2
    obtain ⟨rfl, rfl⟩ := tk_T h4
    have r4 : TT nn nx f 1 0 dp u _ _ _ _ := h3 _ _ _ _ rfl
    exact TT_e (TT_x (o := 5) (A := 0) (B := 0) (e2 := -1) (TT_x (o := 4) (A := y) (B := 0) (e2 := 0) (TT_tr (TT_F (m := 0) (dp := dp) hF.1 hF.2) r4 (Or.inr (Int.le_refl _)) (Int.le_refl _)) (show ¬ tjm 4 by unfold tjm; decide) (show (1 : Int) ≤ 0 + (0 + 1) by omega) rfl (show (0 : Int) ≤ 0 + (0 + 1) + 0 by omega) rfl (ts_3 (Or.inr rfl) hy)) (show ¬ tjm 5 by unfold tjm; decide) (show (1 : Int) ≤ 0 + (0 + 1 + 0) by omega) rfl (show (0 : Int) ≤ 0 + (0 + 1 + 0) + -1 by omega) rfl (ts_o (o := 5) (by decide))) (by decide)
  · rw [if_neg e] at h2
    obtain ⟨rfl, rfl⟩ := tk_T h2
    exact TT_F hF.1 hF.2
theorem w_ST41 (hV : tV nn nx K V) (h : pz_ST41 K V P f (RT nn nx f) i dp u I F (.inr (i2, I2, F2, t))) : TT nn nx f 0 0 dp u I F I2 F2 := by
  unfold pz_ST41 pz_fa at h
  by_cases e : 400 ≤ f + F.length
  · rw [if_pos e] at h; exact absurd h (by simp)
  rw [if_neg e] at h
  obtain ⟨a, b, c, y, h1, h2⟩ := q_r h
  obtain ⟨rfl, hF, hy⟩ := dc_T hV h1
  obtain ⟨a2, b2, c2, g2, h3, h4⟩ := q_r h2
  obtain ⟨hg, hf2, hr⟩ := fn_T h3
  have this := inr_e h4
  simp only [Prod.mk.injEq] at this
  obtain ⟨-, rfl, rfl, -⟩ := this
  intro Q H D h d g gd gm
  have hf3 := hf2.resolve_right (fun q => by
    rcases q with q | q
    · exact q ⟨g.1.1, by have := g.1.2; rw [hF.2]; exact this, fun y hy => by have := g.2.1 y hy; rw [hF.2]; exact this⟩
    · have := (TS_nn g).2.1; omega)
  exact TT_e (TT_x (o := 5) (A := 0) (B := 0) (e2 := -1) (TT_x (o := 4) (A := y) (B := 0) (e2 := 0) (TT_x (o := 24) (A := g2) (B := 0) (e2 := 1) (TT_tr (TT_F (m := 0) (dp := dp) hF.1 hF.2) hr (Or.inr (Int.le_refl _)) (Int.le_refl _)) (show ¬ tjm 24 by unfold tjm; decide) (show (0 : Int) ≤ 0 + (0 + 0) by omega) rfl (show (0 : Int) ≤ 0 + (0 + 0) + 1 by omega) rfl (ts_24 ⟨by rw [hg]; omega, by rw [hg]; omega, by rw [hg, show (f + (c.length : Int) - f).toNat = c.length by omega]; exact hf3.2⟩)) (show ¬ tjm 4 by unfold tjm; decide) (show (1 : Int) ≤ 0 + (0 + 0 + 1) by omega) rfl (show (0 : Int) ≤ 0 + (0 + 0 + 1) + 0 by omega) rfl (ts_3 (Or.inr rfl) hy)) (show ¬ tjm 5 by unfold tjm; decide) (show (1 : Int) ≤ 0 + (0 + 0 + 1 + 0) by omega) rfl (show (0 : Int) ≤ 0 + (0 + 0 + 1 + 0) + -1 by omega) rfl (ts_o (o := 5) (by decide))) (show (0 : Int) + 0 + 1 + 0 + -1 = 0 by decide) Q H D h d g gd gm
theorem w_ST44 (h : pz_ST44 K P (RT nn nx f) i dp u I F (.inr (i2, I2, F2, t))) : TZ nn nx f dp u I F I2 F2 := by
  unfold pz_ST44 at h
  obtain ⟨a, I1, F1, d1, h1, h2⟩ := q_r h
  obtain ⟨a2, I3, F3, d2, h3, h4⟩ := q_r h2
  have this := inr_e h4
  simp only [Prod.mk.injEq] at this
  obtain ⟨-, e2, e3, -⟩ := this
  rw [e2, e3]
  intro Q H D d g00 gd
  obtain ⟨h, hh0⟩ : ∃ h : Int, h = 0 := ⟨0, rfl⟩
  have g := TS_h g00 hh0.symm
  have hn := TS_nn g
  obtain ⟨H1, D1, g1, t1⟩ := cd_T h1 Q H D h d g (by omega) hn.1
  obtain ⟨Hz, Dz, gz, tz⟩ := TS_p (z := (21, 0, 0, u)) (h2 := h) g1 rfl (show (1 : Int) ≤ h + 1 by omega) hn.1 (fun _ => show h = h + 1 + -1 by omega) (show 0 ≤ d + 0 ∧ d + 0 ≤ 50 by omega) (ts_o (o := 21) (by decide))
  replace gz := TS_d gz (show d + tdd 21 = d from Int.add_zero d)
  obtain ⟨b1, b2⟩ := bk_T h3
  obtain ⟨H3, D3, g3, t3⟩ := b1 _ Hz Dz d (TS_h gz hh0) (by omega)
  replace g3 := TS_h g3 hh0.symm
  have tI : TG nn nx f u I F H D I3 F3 H3 D3 := TG_tr g.1.2 (TG_tr g.1.2 t1 tz) t3
  have hA := on_len u I
  have hle := TG_on tI
  have hag := tI.2.2.2.2 (on u I).length (Nat.le_refl _)
  have hAt : (pz_h I u).toNat = (on u I).length := by omega
  obtain ⟨H4, D4, g4, t4⟩ := TS_ap (z := (20, pz_h I u, 0, u)) (h2 := h) (Q2 := fun p => Q p ∨ p = (on u I1).length) g3 rfl (show (0 : Int) ≤ h from hn.1) hn.1 (fun q => absurd rfl q) (show 0 ≤ d + 0 ∧ d + 0 ≤ 50 by omega) (ts_o (o := 20) (by decide)) (fun _ _ => ⟨show 0 ≤ pz_h I u by omega, show pz_h I u ≤ _ by omega, show H3 (pz_h I u).toNat = h + 0 by rw [hAt, hag.1, g.2.2.2.1.1]; omega, show D3 (pz_h I u).toNat = d by rw [hAt, hag.2, g.2.2.2.1.2]⟩) (fun _ _ q => q) (fun p q => by have := g3.2.2.2.2 p q; omega) (fun q => absurd q (by dsimp only; decide)) (fun q => absurd q (by dsimp only; decide))
  replace g4 := TS_d g4 (show d + tdd 20 = d from Int.add_zero d)
  have t04 := TG_tr g.1.2 tI t4
  obtain ⟨L, hL⟩ := t3.1
  have hp : ∃ L : List pz_I, I3 ++ [(20, pz_h I u, 0, u)] = I1 ++ [(21, 0, 0, u)] ++ L := ⟨L ++ [(20, pz_h I u, 0, u)], by rw [hL, List.append_assoc]⟩
  have ag := (TG_tr g1.1.2 (TG_tr g1.1.2 tz t3) t4).2.2.2.2 (on u I1).length (Nat.le_refl _)
  refine ⟨H4, D4, TS_h (h := h) ?_ hh0, TG_am t04 hp (TG_ln t1) rfl g.1.2⟩
  exact TS_am g4 hp rfl (show tjm 21 by unfold tjm; decide) (show H4 _ + -1 = h by rw [ag.1, g1.2.2.2.1.1]; omega) (by rw [ag.2, g1.2.2.2.1.2]) (fun p q1 q2 => q1.resolve_right q2) (fun p q => by have := g.2.2.2.2 p q; have := TG_on t04; omega)
theorem w_ret (r : TT nn nx f 1 0 dp u I F I1 F1) : TZ nn nx f dp u I F (I1 ++ [(29, 0, 0, u)]) F1 := fun Q H D d g gd => by
  obtain ⟨H1, D1, g1, t1⟩ := r Q H D 0 d g gd (Int.le_refl _)
  obtain ⟨H2, D2, g2, t2⟩ := TS_a (z := (29, 0, 0, u)) (h2 := 0) g1 rfl (show ¬ tjm 29 by unfold tjm; decide) (show (1 : Int) ≤ 0 + 1 by decide) (show (0 : Int) + 1 + -1 = 0 by decide) (Int.le_refl _) rfl (ts_o (o := 29) (by decide)) (fun _ => rfl)
  exact ⟨H2, D2, g2, TG_tr g.1.2 t1 t2⟩
theorem w_ST45 (h : pz_ST45 K P (RT nn nx f) i dp u I F (.inr (i2, I2, F2, t))) : TZ nn nx f dp u I F I2 F2 := by
  unfold pz_ST45 at h
  by_cases e : K i = 45 ∧ K (i + 1) = 17
  · rw [if_pos e] at h
    have this := inr_e h
    simp only [Prod.mk.injEq] at this
    obtain ⟨-, rfl, rfl, -⟩ := this
    exact w_ret (TT_a (o := 0) (A := 0) (B := 0) (m := 0) (e1 := 1) (show ¬ tjm 0 by unfold tjm; decide) (show (0 : Int) ≤ 0 by decide) rfl (by decide) rfl ts_n)
  · rw [if_neg e] at h
    obtain ⟨a, b, c, d, h1, h2⟩ := q_r h
    obtain ⟨a2, b2, c2, d2, h3, h4⟩ := q_r h2
    obtain ⟨rfl, rfl⟩ := tk_T h3
    have r4 : TT nn nx f 1 0 dp u _ _ _ _ := h1 _ _ _ _ rfl
    have this := inr_e h4
    simp only [Prod.mk.injEq] at this
    obtain ⟨-, rfl, rfl, -⟩ := this
    by_cases e3 : K i = 45
    · rw [if_pos e3]
      exact w_ret r4
    · rw [if_neg e3]
      exact TZ_of (TT_e (TT_x (o := 30) (A := 0) (B := 0) (e2 := -1) r4 (show ¬ tjm 30 by unfold tjm; decide) (show (1 : Int) ≤ 0 + 1 by omega) rfl (show (0 : Int) ≤ 0 + 1 + -1 by omega) rfl (ts_o (o := 30) (by decide))) (by decide))
theorem w_ST47 (hV : tV nn nx K V) (h : pz_ST47 K V P f (RT nn nx f) i dp u I F (.inr (i2, I2, F2, t))) : TZ nn nx f dp u I F I2 F2 := by
  unfold pz_ST47 at h
  obtain ⟨a, I1, F1, d1, h1, h2⟩ := q_r h
  obtain ⟨a3, I3, F3, d3, h3, h4⟩ := q_r h2
  obtain ⟨e31, e32⟩ := tk_T h3
  obtain ⟨a4, I4, F4, d4, h5, h6⟩ := q_r h4
  obtain ⟨e41, e42, -⟩ := op_T h5
  obtain ⟨a5, I5, F5, y, h7, h8⟩ := q_r h6
  obtain ⟨e51, hF, hy⟩ := dc_T hV h7
  obtain ⟨a6, I6, F6, d6, h9, h10⟩ := q_r h8
  obtain ⟨e61, e62⟩ := tk_T h9
  obtain ⟨a7, I7, F7, d7, h11, h12⟩ := q_r h10
  have this := inr_e h12
  simp only [Prod.mk.injEq] at this
  obtain ⟨-, e2, e3, -⟩ := this
  rw [e2, e3]
  rw [e62] at h11
  rw [e61, e51, e41, e31] at h11
  rw [e42, e32] at hF
  intro Q H D d g00 gd
  obtain ⟨h, hh0⟩ : ∃ h : Int, h = 0 := ⟨0, rfl⟩
  have g := TS_h g00 hh0.symm
  have hn := TS_nn g
  obtain ⟨b1, b2⟩ := bk_T h1
  obtain ⟨Hz, Dz, gz, tz⟩ := TS_p (z := (31, 0, 0, u)) (h2 := h) g rfl (show (0 : Int) ≤ h from hn.1) hn.1 (fun _ => show h = h + 0 by omega) (show 0 ≤ d + 1 ∧ d + 1 ≤ 50 by omega) (ts_o (o := 31) (by decide)) (h31 := fun _ => hh0)
  replace gz := TS_d gz (show d + tdd 31 = d + 1 from rfl)
  obtain ⟨H1, D1, g1, t1⟩ := b1 _ Hz Dz (d + 1) (TS_h gz hh0) (by omega)
  replace g1 := TS_h g1 hh0.symm
  obtain ⟨H2, D2, g2, t2⟩ := TS_ap (z := (32, 0, 0, u)) (h2 := h) (Q2 := fun p => Q p ∨ p = (on u I).length) g1 rfl (show (0 : Int) ≤ h from hn.1) hn.1 (fun _ => show h = h + 0 by omega) (show 0 ≤ d + 1 + -1 ∧ d + 1 + -1 ≤ 50 by omega) (ts_o (o := 32) (by decide)) (fun q => absurd q (show ¬ tjm 32 by unfold tjm; decide)) (fun _ _ q => q) (fun p q => by have := g1.2.2.2.2 p q; omega) (fun q => absurd q (by dsimp only; decide)) (fun q => absurd q (by dsimp only; decide))
  replace g2 := TS_d g2 (show d + 1 + tdd 32 = d from Int.add_neg_cancel_right d 1)
  obtain ⟨H3, D3, g3, t3⟩ := TS_p (z := (20, 0, 0, u)) (h2 := h + 1) g2 rfl (show (0 : Int) ≤ h from hn.1) (by omega) (fun q => absurd rfl q) (show 0 ≤ d + 0 ∧ d + 0 ≤ 50 by omega) (ts_o (o := 20) (by decide))
  replace g3 := TS_d g3 (show d + tdd 20 = d from Int.add_zero d)
  obtain ⟨L1, hL1⟩ := t1.1
  have hp1 : ∃ L : List pz_I, I1 ++ [(32, 0, 0, u)] ++ [(20, 0, 0, u)] = I ++ [(31, 0, 0, u)] ++ L := ⟨L1 ++ [(32, 0, 0, u)] ++ [(20, 0, 0, u)], by rw [hL1]; simp only [List.append_assoc]⟩
  have tM := TG_tr g.1.2 (TG_tr g.1.2 (TG_tr g.1.2 tz t1) t2) t3
  have ag0 := tM.2.2.2.2 (on u I).length (Nat.le_refl _)
  have hle := TG_on tM
  have hl2 : (on u (I1 ++ [(32, 0, 0, u)])).length < (on u (I1 ++ [(32, 0, 0, u)] ++ [(20, 0, 0, u)])).length := by
    rw [on_1 (I := I1 ++ [(32, 0, 0, u)]) (z := ((20, 0, 0, u) : pz_I)) rfl, List.length_append]
    exact Nat.lt_succ_self _
  have g4 := TS_am (Q := fun p => Q p ∨ p = (on u (I1 ++ [(32, 0, 0, u)])).length) g3 hp1 rfl (show tjm 31 by unfold tjm; decide) (show H3 _ + 1 = h + 1 by rw [ag0.1, g.2.2.2.1.1]) (by rw [ag0.2, g.2.2.2.1.2]) (fun p q1 q2 => by
    rcases q1 with (q | q) | q
    · exact Or.inl q
    · exact absurd q q2
    · exact Or.inr q) (fun p q => by
    rcases q with q | q
    · have := g.2.2.2.2 p q; omega
    · omega)
  have tM4 := TG_am (v := pz_h (I1 ++ [(32, 0, 0, u)] ++ [(20, 0, 0, u)]) u) tM hp1 (Nat.le_refl _) rfl g.1.2
  have hI1 : I.length < (I1 ++ [((32, 0, 0, u) : pz_I)]).length := by
    rw [hL1, List.length_append, List.length_append, List.length_append]
    show I.length < I.length + 1 + L1.length + 1
    omega
  have eM : pz_a (I1 ++ [(32, 0, 0, u)] ++ [(20, 0, 0, u)]) I.length (pz_h (I1 ++ [(32, 0, 0, u)] ++ [(20, 0, 0, u)]) u) = pz_a (I1 ++ [(32, 0, 0, u)]) I.length (pz_h (I1 ++ [(32, 0, 0, u)] ++ [(20, 0, 0, u)]) u) ++ [(20, 0, 0, u)] := pa_lft hI1
  obtain ⟨c1, c2⟩ := bk_T h11
  have run := (TT_x (o := 5) (A := 0) (B := 0) (e2 := -1) (TT_x (o := 4) (A := y) (B := 0) (e2 := 0) (TT_F (I := pz_a (I1 ++ [(32, 0, 0, u)] ++ [(20, 0, 0, u)]) I.length (pz_h (I1 ++ [(32, 0, 0, u)] ++ [(20, 0, 0, u)]) u)) (m := 1) (dp := dp) (u := u) (nn := nn) (nx := nx) (f := f) hF.1 hF.2) (show ¬ tjm 4 by unfold tjm; decide) (show (1 : Int) ≤ 1 + 0 by omega) rfl (show (0 : Int) ≤ 1 + 0 + 0 by omega) rfl (ts_3 (Or.inr rfl) hy)) (show ¬ tjm 5 by unfold tjm; decide) (show (1 : Int) ≤ 1 + (0 + 0) by omega) rfl (show (0 : Int) ≤ 1 + (0 + 0) + -1 by omega) rfl (ts_o (o := 5) (by decide)))
  obtain ⟨H6, D6, g6, t6⟩ := run _ H3 D3 (h + 1) d g4 gd (by omega)
  replace g6 := TS_h g6 (show h + 1 + (0 + 0 + -1) = 0 by omega)
  obtain ⟨H5, D5, g5, t56⟩ := c1 _ H6 D6 d g6 (by omega)
  replace g5 := TS_h g5 hh0.symm
  have t5 := TG_tr g4.1.2 t6 t56
  have hN : (pz_a (I1 ++ [(32, 0, 0, u)]) I.length (pz_h (I1 ++ [(32, 0, 0, u)] ++ [(20, 0, 0, u)]) u)).length = I1.length + 1 := by rw [pa_len, List.length_append]; rfl
  have hp2 : ∃ L : List pz_I, I7 = pz_a (I1 ++ [(32, 0, 0, u)]) I.length (pz_h (I1 ++ [(32, 0, 0, u)] ++ [(20, 0, 0, u)]) u) ++ [(20, 0, 0, u)] ++ L := by
    obtain ⟨L, hL⟩ := t5.1
    exact ⟨L, by rw [hL, eM]⟩
  have ag5 := t5.2.2.2.2 (on u (I1 ++ [(32, 0, 0, u)])).length (by rw [on_pl]; omega)
  have ag3 := t3.2.2.2.2 (on u (I1 ++ [(32, 0, 0, u)])).length (Nat.le_refl _)
  have t05 := TG_tr g.1.2 tM4 t5
  rw [← hN]
  refine ⟨H5, D5, TS_h (h := h) ?_ hh0, TG_am t05 hp2 (by rw [hN]; rw [List.length_append] at hI1; exact Nat.le_of_lt hI1) rfl g.1.2⟩
  exact TS_am g5 hp2 rfl (show tjm 20 by unfold tjm; decide) (show H5 _ + 0 = h by rw [on_pl, ag5.1, ag3.1, g2.2.2.2.1.1]; omega) (by rw [on_pl, ag5.2, ag3.2, g2.2.2.2.1.2]) (fun p q1 q2 => by
    rcases q1 with q | q
    · exact q
    · rw [on_pl] at q2; exact absurd q q2) (fun p q => by have := g.2.2.2.2 p q; have := TG_on t05; omega)
theorem w_STe (h : pz_STe K P (RT nn nx f) i dp u I F (.inr (i2, I2, F2, t))) : TT nn nx f 0 0 dp u I F I2 F2 := by
  unfold pz_STe pz_fa at h
  by_cases e : K i = 12
  · rw [if_pos e] at h; exact absurd h (by simp)
  rw [if_neg e] at h
  obtain ⟨a, b, c, d, h1, h2⟩ := q_r h
  obtain ⟨a2, b2, c2, d2, h3, h4⟩ := q_r h2
  obtain ⟨rfl, rfl⟩ := tk_T h3
  have r4 : TT nn nx f 1 0 dp u _ _ _ _ := h1 _ _ _ _ rfl
  have this := inr_e h4
  simp only [Prod.mk.injEq] at this
  obtain ⟨-, rfl, rfl, -⟩ := this
  exact TT_e (TT_x (o := 5) (A := 0) (B := 0) (e2 := -1) r4 (show ¬ tjm 5 by unfold tjm; decide) (show (1 : Int) ≤ 0 + 1 by omega) rfl (show (0 : Int) ≤ 0 + 1 + -1 by omega) rfl (ts_o (o := 5) (by decide))) (by decide)
theorem w_ST (hV : tV nn nx K V) (h : pz_ST K V P f (RT nn nx f) i dp u I F o) : (RT nn nx f) 1 0 [] i dp u I F o := by
  rintro i2 I2 F2 t rfl
  unfold pz_ST at h
  show TZ nn nx f dp u I F I2 F2
  by_cases e1 : K i = 40
  · rw [if_pos e1] at h; exact TZ_of (w_ST40 hV h)
  rw [if_neg e1] at h
  by_cases e2 : K i = 41
  · rw [if_pos e2] at h; exact TZ_of (w_ST41 hV h)
  rw [if_neg e2] at h
  by_cases e3 : K i = 42
  · rw [if_pos e3] at h
    have r3 : T3 nn nx f dp u [] _ _ _ _ := h _ _ _ _ rfl
    exact TZ_3 r3
  rw [if_neg e3] at h
  by_cases e4 : K i = 44
  · rw [if_pos e4] at h; exact w_ST44 h
  rw [if_neg e4] at h
  by_cases e5 : K i = 45 ∨ K i = 46
  · rw [if_pos e5] at h; exact w_ST45 h
  rw [if_neg e5] at h
  by_cases e6 : K i = 47
  · rw [if_pos e6] at h; exact w_ST47 hV h
  rw [if_neg e6] at h
  exact TZ_of (w_STe h)
theorem w_PM (h : pz_PM K V P f (RT nn nx f) x i dp u I F o) : (RT nn nx f) 2 x [] i dp u I F o := by
  rintro i2 I2 F2 t rfl
  unfold pz_PM pz_fa at h
  show TT nn nx f 0 0 dp u I F I2 F2
  by_cases e1 : K i ≠ 5 ∧ K i ≠ 6
  · rw [if_pos e1] at h; exact absurd h (by simp)
  rw [if_neg e1] at h
  by_cases e2 : vix (pz_f f F u).2.2 (V i) ≠ -1
  · rw [if_pos e2] at h; exact absurd h (by simp)
  rw [if_neg e2] at h
  by_cases e3 : x = 8
  · rw [if_pos e3] at h; exact absurd h (by simp)
  rw [if_neg e3] at h
  by_cases e4 : K i = 6
  · rw [if_pos e4] at h; exact absurd h (by simp)
  rw [if_neg e4] at h
  by_cases e5 : K (i + 1) = 16
  · rw [if_pos e5] at h
    exact TT_tr (TT_F (m := 0) (dp := dp) tyE_v.1 tyE_v.2) (r2_T h) (Or.inr (Int.le_refl _)) (Int.le_refl _)
  · rw [if_neg e5] at h
    have this := inr_e h
    simp only [Prod.mk.injEq] at this
    obtain ⟨-, rfl, rfl, -⟩ := this
    exact TT_F tyE_v.1 tyE_v.2
end Wd8
