/-! PART d9: choice, values: the heights. -/
section Wd9
variable {K V P : Nat → Int} {f u dp dp2 x t t0 v l h h2 d nn nx m m2 e1 e2 : Int} {J : List Int} {i i2 j p n b : Nat} {I I0 I1 I2 I3 L X Y M N : List pz_I} {F F0 F1 F2 F3 : List pz_F} {o : pz_O} {z w : pz_I} {Q Q2 : Nat → Prop} {H H0 H1 H2 H3 D D0 D1 D2 D3 : Nat → Int}
theorem w_CH (h : pz_CH K P (RT nn nx f) J i dp u I F o) : (RT nn nx f) 3 0 J i dp u I F o := by
  rintro i2 I2 F2 t rfl
  show T3 nn nx f dp u J I F I2 F2
  unfold pz_CH at h
  obtain ⟨a, I1, F1, d1, h1, h2⟩ := q_r h
  obtain ⟨a2, I3, F3, d2, h3, h4⟩ := q_r h2
  intro Q H D h d hh0 g gd hJ
  have hn := TS_nn g
  obtain ⟨H1, D1, g1, t1⟩ := cd_T h1 Q H D h d g (by omega) hn.1
  obtain ⟨Hz, Dz, gz, tz⟩ := TS_p (z := (21, 0, 0, u)) (h2 := h) g1 rfl (show (1 : Int) ≤ h + 1 by omega) hn.1 (fun _ => show h = h + 1 + -1 by omega) (show 0 ≤ d + 0 ∧ d + 0 ≤ 50 by omega) (ts_o (o := 21) (by decide))
  replace gz := TS_d gz (show d + tdd 21 = d from Int.add_zero d)
  obtain ⟨b1, b2⟩ := bk_T h3
  obtain ⟨H3, D3, g3, t3⟩ := b1 _ Hz Dz d (TS_h gz hh0) (by omega)
  replace g3 := TS_h g3 hh0.symm
  have tI : TG nn nx f u I F H D I3 F3 H3 D3 := TG_tr g.1.2 (TG_tr g.1.2 t1 tz) t3
  have tI1 := TG_tr g1.1.2 tz t3
  obtain ⟨L, hL⟩ := t3.1
  have hJl : ∀ y ∈ J, y.toNat < I.length := fun y hy => (hJ y hy).1
  by_cases e : K a2 = 43
  · rw [if_pos e] at h4
    obtain ⟨H4, D4, g4, t4⟩ := TS_p (z := (20, -9, 0, u)) (h2 := h) g3 rfl (show (0 : Int) ≤ h from hn.1) hn.1 (fun q => absurd rfl q) (show 0 ≤ d + 0 ∧ d + 0 ≤ 50 by omega) (ts_o (o := 20) (by decide))
    replace g4 := TS_d g4 (show d + tdd 20 = d from Int.add_zero d)
    have hp : ∃ L : List pz_I, I3 ++ [(20, -9, 0, u)] = I1 ++ [(21, 0, 0, u)] ++ L := ⟨L ++ [(20, -9, 0, u)], by rw [hL, List.append_assoc]⟩
    have t04 := TG_tr g.1.2 tI t4
    have ag1 := (TG_tr g1.1.2 tI1 t4).2.2.2.2 (on u I1).length (Nat.le_refl _)
    have hl3 : (on u I3).length < (on u (I3 ++ [(20, -9, 0, u)])).length := by
      rw [on_1 (I := I3) (z := ((20, -9, 0, u) : pz_I)) rfl, List.length_append]
      exact Nat.lt_succ_self _
    have hlI := TG_on tI
    have g5 := TS_am (Q := fun p => Q p ∨ p = (on u I3).length) g4 hp rfl (show tjm 21 by unfold tjm; decide) (show H4 _ + -1 = h by rw [ag1.1, g1.2.2.2.1.1]; omega) (by rw [ag1.2, g1.2.2.2.1.2]) (fun p q1 q2 => by
      rcases q1 with (q | q) | q
      · exact Or.inl q
      · exact absurd q q2
      · exact Or.inr q) (fun p q => by
      rcases q with q | q
      · have := g.2.2.2.2 p q; omega
      · omega)
    have t05 := TG_am (v := pz_h (I3 ++ [(20, -9, 0, u)]) u) t04 hp (TG_ln t1) rfl g.1.2
    have hI13 : I1.length < I3.length := by
      rw [hL, List.length_append, List.length_append]
      show I1.length < I1.length + 1 + L.length
      omega
    have eM : pz_a (I3 ++ [(20, -9, 0, u)]) I1.length (pz_h (I3 ++ [(20, -9, 0, u)]) u) = pz_a I3 I1.length (pz_h (I3 ++ [(20, -9, 0, u)]) u) ++ [(20, -9, 0, u)] := pa_lft hI13
    have hlen : (pz_a I3 I1.length (pz_h (I3 ++ [(20, -9, 0, u)]) u)).length = I3.length := pa_len
    have ag4 := t4.2.2.2.2 (on u I3).length (Nat.le_refl _)
    have hnat : ((I3.length : Nat) : Int).toNat = I3.length := Int.toNat_natCast _
    have htk : (pz_a (I3 ++ [(20, -9, 0, u)]) I1.length (pz_h (I3 ++ [(20, -9, 0, u)]) u)).take I3.length = pz_a I3 I1.length (pz_h (I3 ++ [(20, -9, 0, u)]) u) := by rw [eM]; exact List.take_left' hlen
    have hgt : (pz_a (I3 ++ [(20, -9, 0, u)]) I1.length (pz_h (I3 ++ [(20, -9, 0, u)]) u)).getD I3.length (0, 0, 0, 0) = (20, -9, 0, u) := by
      rw [eM]
      have := gD_m (z := (20, -9, 0, u)) (pz_a I3 I1.length (pz_h (I3 ++ [(20, -9, 0, u)]) u)) []
      rw [hlen] at this
      exact this
    have hon : (on u (pz_a I3 I1.length (pz_h (I3 ++ [(20, -9, 0, u)]) u))).length = (on u I3).length := on_pl
    have hJ5 : ∀ y ∈ ((I3.length : Int) :: J), tJ u H4 D4 (pz_a (I3 ++ [(20, -9, 0, u)]) I1.length (pz_h (I3 ++ [(20, -9, 0, u)]) u)) h d y := fun y hy => by
      rcases List.mem_cons.mp hy with q | q
      · rw [q]
        unfold tJ
        rw [hnat, htk, hgt, hon]
        refine ⟨by rw [pa_len, List.length_append]; exact Nat.lt_succ_self _, rfl, rfl, ?_, ?_⟩
        · rw [ag4.1, g3.2.2.2.1.1]
        · rw [ag4.2, g3.2.2.2.1.2]
      · exact tJ_pre (hJ y q) t05.1 t05.2.2.2.2
    obtain ⟨S5, hS5⟩ := t05.1
    have hpos : ∀ y ∈ J, (on u ((pz_a (I3 ++ [(20, -9, 0, u)]) I1.length (pz_h (I3 ++ [(20, -9, 0, u)]) u)).take y.toNat)).length = (on u (I.take y.toNat)).length := fun y hy => by
      rw [hS5, List.take_append_of_le_length (Nat.le_of_lt (hJl y hy))]
    by_cases e2 : K (a2 + 1) = 42
    · rw [if_pos e2] at h4
      have r3 : T3 nn nx f dp u ((I3.length : Int) :: J) _ _ _ _ := h4 _ _ _ _ rfl
      obtain ⟨v, H6, D6, g6, ⟨L6, p6⟩, t6⟩ := r3 _ H4 D4 h d hh0 g5 gd hJ5
      have hlI6 := TG_on t05
      refine ⟨v, H6, D6, TS_Qm g6 (fun p q => ?_) (fun p q => ?_), ?_, TR_tr g.1.2 hlI6 t05.2 t6⟩
      · obtain ⟨q1, q2⟩ := q
        rcases q1 with q1 | q1
        · exact ⟨q1, fun y hy => by have := q2 y (List.mem_cons_of_mem _ hy); rw [hpos y hy] at this; exact this⟩
        · have := q2 (I3.length : Int) (List.mem_cons_self ..)
          rw [hnat, htk, hon] at this
          exact absurd q1 this
      · have := g.2.2.2.2 p q.1
        have h7 := g6.2.2.2.2 p ⟨Or.inl q.1, fun y hy => by
          rcases List.mem_cons.mp hy with r | r
          · rw [r, hnat, htk, hon]; omega
          · rw [hpos y r]; exact q.2 y r⟩
        exact h7
      · rw [p6]
        show ∃ L0 : List pz_I, pz_aa (pz_a (pz_a (I3 ++ [(20, -9, 0, u)]) I1.length (pz_h (I3 ++ [(20, -9, 0, u)]) u)) ((I3.length : Int).toNat) v) v J ++ L6 = pz_aa I v J ++ L0
        have hI3 : I.length ≤ I3.length := TG_ln tI
        rw [hnat, hS5, pa_app hI3, aa_app J I hJl]
        exact ⟨pz_a S5 (I3.length - I.length) v ++ L6, List.append_assoc _ _ _⟩
    · rw [if_neg e2] at h4
      obtain ⟨a7, I7, F7, d7, h5, h6⟩ := q_r h4
      have this := inr_e h6
      simp only [Prod.mk.injEq] at this
      obtain ⟨-, e7, e8, -⟩ := this
      rw [e7, e8]
      obtain ⟨c1, c2⟩ := bk_T h5
      obtain ⟨H7, D7, g7, t7⟩ := c1 _ H4 D4 d (TS_h g5 hh0) (by omega)
      replace g7 := TS_h g7 hh0.symm
      have t07 := TG_tr g.1.2 t05 t7
      have hJ7 : ∀ y ∈ ((I3.length : Int) :: J), tJ u H7 D7 I7 h d y := fun y hy => tJ_pre (hJ5 y hy) t7.1 t7.2.2.2.2
      obtain ⟨S7, hS7⟩ := t7.1
      have hpos7 : ∀ y ∈ ((I3.length : Int) :: J), (on u (I7.take y.toNat)).length = (on u ((pz_a (I3 ++ [(20, -9, 0, u)]) I1.length (pz_h (I3 ++ [(20, -9, 0, u)]) u)).take y.toNat)).length := fun y hy => by
        rw [hS7, List.take_append_of_le_length (Nat.le_of_lt (hJ5 y hy).1)]
      have hle7 := TG_on t07
      refine ⟨pz_h I7 u, H7, D7, TS_aa _ I7 _ g7 rfl hJ7 (fun p q1 q2 => ?_) (fun p q => by have := g.2.2.2.2 p q.1; omega), ?_, TR_aa g.1.2 t07.2 hJ7⟩
      · rcases q1 with q1 | q1
        · exact ⟨q1, fun y hy => by have := q2 y (List.mem_cons_of_mem _ hy); rw [hpos7 y (List.mem_cons_of_mem _ hy), hpos y hy] at this; exact this⟩
        · have := q2 (I3.length : Int) (List.mem_cons_self ..)
          rw [hpos7 _ (List.mem_cons_self ..), hnat, htk, hon] at this
          exact absurd q1 this
      · show ∃ L0 : List pz_I, pz_aa (pz_a I7 ((I3.length : Int).toNat) (pz_h I7 u)) (pz_h I7 u) J = pz_aa I (pz_h I7 u) J ++ L0
        have hI3 : I.length ≤ I3.length := TG_ln tI
        obtain ⟨S8, hS8⟩ := t07.1
        rw [hnat]
        conv => enter [1, L0, 1, 1, 1]; rw [hS8]
        rw [pa_app hI3, aa_app J I hJl]
        exact ⟨_, rfl⟩
  · rw [if_neg e] at h4
    have this := inr_e h4
    simp only [Prod.mk.injEq] at this
    obtain ⟨-, e7, e8, -⟩ := this
    rw [e7, e8]
    have hp : ∃ L : List pz_I, I3 = I1 ++ [(21, 0, 0, u)] ++ L := ⟨L, hL⟩
    have ag1 := tI1.2.2.2.2 (on u I1).length (Nat.le_refl _)
    have hlI := TG_on tI
    have g5 := TS_am (Q := Q) g3 hp rfl (show tjm 21 by unfold tjm; decide) (show H3 _ + -1 = h by rw [ag1.1, g1.2.2.2.1.1]; omega) (by rw [ag1.2, g1.2.2.2.1.2]) (fun p q1 q2 => q1.resolve_right q2) (fun p q => by have := g.2.2.2.2 p q; omega)
    have t05 := TG_am (v := pz_h I3 u) tI hp (TG_ln t1) rfl g.1.2
    have hJ5 : ∀ y ∈ J, tJ u H3 D3 (pz_a I3 I1.length (pz_h I3 u)) h d y := fun y hy => tJ_pre (hJ y hy) t05.1 t05.2.2.2.2
    obtain ⟨S5, hS5⟩ := t05.1
    have hpos : ∀ y ∈ J, (on u ((pz_a I3 I1.length (pz_h I3 u)).take y.toNat)).length = (on u (I.take y.toNat)).length := fun y hy => by
      rw [hS5, List.take_append_of_le_length (Nat.le_of_lt (hJl y hy))]
    have hle5 := TG_on t05
    refine ⟨pz_h I3 u, H3, D3, TS_aa _ _ _ g5 ph_pl.symm hJ5 (fun p q1 q2 => ⟨q1, fun y hy => by have := q2 y hy; rw [hpos y hy] at this; exact this⟩) (fun p q => by have := g.2.2.2.2 p q.1; omega), ?_, TR_aa g.1.2 t05.2 hJ5⟩
    rw [hS5, aa_app J I hJl]
    exact ⟨_, rfl⟩
theorem w_VA (h : pz_VA K P (RT nn nx f) i dp u I F o) : (RT nn nx f) 4 0 [] i dp u I F o := by
  rintro i2 I2 F2 t rfl
  show TT nn nx f 1 0 dp u I F I2 F2
  unfold pz_VA pz_fa at h
  obtain ⟨a, I1, F1, t1, h1, h2⟩ := q_r h
  have r5 : T5 nn nx f dp u I F I1 F1 t1 := h1 _ _ _ _ rfl
  by_cases e : K a ≠ 20
  · rw [if_pos e] at h2
    have this := inr_e h2
    simp only [Prod.mk.injEq] at this
    obtain ⟨-, rfl, rfl, -⟩ := this
    exact TT_5 r5
  rw [if_neg e] at h2
  by_cases e0 : t1 = 0
  · rw [if_pos e0] at h2; exact absurd h2 (by simp)
  rw [if_neg e0] at h2
  by_cases e2 : 50 ≤ dp
  · rw [if_pos e2] at h2; exact absurd h2 (by simp)
  rw [if_neg e2] at h2
  obtain ⟨a3, I3, F3, d3, h3, h4⟩ := q_r h2
  have r4 : TT nn nx f 1 0 (dp + 1) u I1.dropLast F1 I3 F3 := h3 _ _ _ _ rfl
  have this := inr_e h4
  simp only [Prod.mk.injEq] at this
  obtain ⟨-, e7, e8, -⟩ := this
  rw [e7, e8]
  intro Q H D h d g gd gm
  obtain ⟨H1, D1, g1, tg1, l1⟩ := r5 Q H D h d g gd
  rcases l1 with l1 | ⟨I0, z, gg, hI, hb, hz, g0, hs, hc⟩
  · exact absurd l1 e0
  rw [hI] at r4 tg1 ⊢
  rw [List.dropLast_concat] at r4
  have hla : (I0 ++ [z]).getD ((I0 ++ [z]).length - 1) (0, 0, 0, 0) = z := by
    rw [List.length_append]
    exact gD_m I0 []
  rw [hla]
  have tg0 := TG_dl tg1 hb hz g.1.2
  obtain ⟨H3, D3, g3, t3⟩ := r4 Q H1 D1 gg d g0 (by omega) (TS_nn g0).1
  have hg0 := (TS_nn g0).1
  have hn := TS_nn g
  have hs3 := tsI_mo (z := (z.1, z.2.1, z.2.2.1, u)) hs t3.2.1
  rcases hc with ⟨q1, q2, q3⟩ | ⟨q1, q2, q3, q4⟩ | ⟨q1, q2, q3, q4⟩
  · rw [if_pos q1]
    obtain ⟨H4, D4, g4, t4⟩ := TS_a (z := (4, z.2.1, 0, u)) (h2 := h + 1) g3 rfl (show ¬ tjm 4 by unfold tjm; decide) (show (1 : Int) ≤ gg + 1 by omega) (show gg + 1 + 0 = h + 1 by omega) (by omega) rfl (ts_3 (Or.inr rfl) (hs3.2.2.1 (Or.inl q2)))
    exact ⟨H4, D4, g4, TG_tr g.1.2 (TG_tr g.1.2 tg0 t3) t4⟩
  · rw [if_neg (by omega), if_pos q1]
    obtain ⟨H4, D4, g4, t4⟩ := TS_a (z := (27, 1, z.2.2.1, u)) (h2 := h + 1) g3 rfl (show ¬ tjm 27 by unfold tjm; decide) (show (2 : Int) ≤ gg + 1 by omega) (show gg + 1 + -1 = h + 1 by omega) (by omega) rfl (ts_27 (A := 1) ⟨by decide, by decide, by decide, fun _ => (hs3.2.2.2.2.2.1 q2).2.2.2.1 (Or.inl (by rw [q3]; rfl)), by decide, (hs3.2.2.2.2.2.1 q2).2.2.2.2.2⟩)
    exact ⟨H4, D4, g4, TG_tr g.1.2 (TG_tr g.1.2 tg0 t3) t4⟩
  · rw [if_neg (by omega), if_neg (by omega)]
    obtain ⟨H4, D4, g4, t4⟩ := TS_a (z := (27, 3, z.2.2.1, u)) (h2 := h + 1) g3 rfl (show ¬ tjm 27 by unfold tjm; decide) (show (3 : Int) ≤ gg + 1 by omega) (show gg + 1 + -2 = h + 1 by omega) (by omega) rfl (ts_27 (A := 3) ⟨by decide, by decide, by decide, fun q => absurd q (by decide), by decide, (hs3.2.2.2.2.2.1 q2).2.2.2.2.2⟩)
    exact ⟨H4, D4, g4, TG_tr g.1.2 (TG_tr g.1.2 tg0 t3) t4⟩
theorem w_Ex (h : pz_E (RT nn nx f) l i dp u I F o) : (RT nn nx f) 5 l [] i dp u I F o := by
  rintro i2 I2 F2 t rfl
  show T5 nn nx f dp u I F I2 F2 t
  unfold pz_E at h
  by_cases e : l = 7
  · rw [if_pos e] at h; exact h _ _ _ _ rfl
  · rw [if_neg e] at h
    obtain ⟨a, b, c, d, h1, h2⟩ := q_r h
    have r5 : T5 nn nx f dp u _ _ _ _ d := h1 _ _ _ _ rfl
    have r6 : T6 nn nx f dp u _ _ _ _ d t := h2 _ _ _ _ rfl
    exact T5_6 r5 r6
/-- || and && -/
theorem w_or {o1 : Int} (ho : o1 = 22 ∨ o1 = 23) (r : TT nn nx f 1 0 dp u (I ++ [(o1, 0, 0, u)]) F I2 F2) : TT nn nx f 0 1 dp u I F (pz_a I2 I.length (pz_h I2 u)) F2 := by
  intro Q H D h d g gd gm
  have hn := TS_nn g
  have h1 : tne o1 0 = 1 ∧ tde o1 0 = -1 ∧ tdd o1 = 0 ∧ tdj o1 = 0 := by rcases ho with rfl | rfl <;> decide
  obtain ⟨Hz, Dz, gz, tz⟩ := TS_p (z := (o1, 0, 0, u)) (h2 := h - 1) g rfl (show tne o1 0 ≤ h by omega) (by omega) (fun _ => show h - 1 = h + tde o1 0 by omega) (show 0 ≤ d + tdd o1 ∧ d + tdd o1 ≤ 50 by omega) (ts_o (o := o1) (by omega))
  replace gz := TS_d gz (show d + tdd o1 = d by omega)
  obtain ⟨H3, D3, g3, t3⟩ := r _ Hz Dz (h - 1) d gz gd (by omega)
  replace g3 := TS_h g3 (show h - 1 + 1 = h by omega)
  have tI := TG_tr g.1.2 tz t3
  have ag := tI.2.2.2.2 (on u I).length (Nat.le_refl _)
  have hle := TG_on tI
  refine ⟨H3, D3, ?_, TG_am tI t3.1 (Nat.le_refl _) rfl g.1.2⟩
  rw [Int.add_zero]
  exact TS_am g3 t3.1 rfl (show tjm o1 by unfold tjm; omega) (show H3 _ + tdj o1 = h by rw [ag.1, g.2.2.2.1.1]; omega) (by rw [ag.2, g.2.2.2.1.2]) (fun p q1 q2 => q1.resolve_right q2) (fun p q => by have := g.2.2.2.2 p q; omega)
theorem or_T {k : Int} (h : 3 ≤ pz_lv k) : (¬ tjm (pz_or k)) ∧ tne (pz_or k) 0 = 2 ∧ tde (pz_or k) 0 = -1 ∧ tdd (pz_or k) = 0 ∧ (0 ≤ pz_or k ∧ pz_or k ≤ 33 ∧ pz_or k ≠ 0 ∧ pz_or k ≠ 1 ∧ pz_or k ≠ 2 ∧ pz_or k ≠ 3 ∧ pz_or k ≠ 4 ∧ pz_or k ≠ 24 ∧ pz_or k ≠ 25 ∧ pz_or k ≠ 27 ∧ pz_or k ≠ 28) ∧ pz_or k ≠ 29 := by
  have hk : k = 29 ∨ k = 30 ∨ k = 21 ∨ k = 31 ∨ k = 22 ∨ k = 32 ∨ k = 23 ∨ k = 24 ∨ k = 25 ∨ k = 26 ∨ k = 27 := by
    refine Classical.byContradiction (fun q => ?_)
    unfold pz_lv at h
    repeat' split at h
    all_goals omega
  unfold tjm
  rcases hk with rfl | rfl | rfl | rfl | rfl | rfl | rfl | rfl | rfl | rfl | rfl <;> decide
theorem w_L (hl : 1 ≤ l) (h : pz_L K (RT nn nx f) l t0 i dp u I F o) : (RT nn nx f) 6 l [t0] i dp u I F o := by
  rintro i2 I2 F2 t rfl
  show T6 nn nx f dp u I F I2 F2 t0 t
  unfold pz_L at h
  by_cases e : pz_lv (K i) ≠ l
  · rw [if_pos e] at h
    have this := inr_e h
    simp only [Prod.mk.injEq] at this
    obtain ⟨-, rfl, rfl, rfl⟩ := this
    exact T6_rfl
  rw [if_neg e] at h
  by_cases e2 : l ≤ 2
  · rw [if_pos e2] at h
    obtain ⟨a, b, c, d, h1, h2⟩ := q_r h
    have r5 : T5 nn nx f dp u _ _ _ _ d := h1 _ _ _ _ rfl
    have r6 : T6 nn nx f dp u _ _ _ _ 0 t := h2 _ _ _ _ rfl
    exact T6_0 (w_or (by by_cases q : l = 1; · rw [if_pos q]; exact Or.inl rfl
                         · rw [if_neg q]; exact Or.inr rfl) (TT_5 r5)) r6
  · rw [if_neg e2] at h
    obtain ⟨a, b, c, d, h1, h2⟩ := q_r h
    have r5 : T5 nn nx f dp u _ _ _ _ d := h1 _ _ _ _ rfl
    have r6 : T6 nn nx f dp u _ _ _ _ 0 t := h2 _ _ _ _ rfl
    obtain ⟨o1, o2, o3, o4, o5, o6⟩ := or_T (k := K i) (by omega)
    exact T6_0 (TT_e (TT_x (o := pz_or (K i)) (A := 0) (B := 0) (e2 := -1) (TT_m (m2 := 1) (TT_5 r5) (Or.inr (Int.le_refl _)) (Int.le_refl _)) o1 (by rw [o2]; decide) o3 (by decide) o4 (ts_o o5) o6) (by decide)) r6
theorem w_FR (h : pz_FR K P (RT nn nx f) i dp u I F o) : (RT nn nx f) 7 0 [] i dp u I F o := by
  rintro i2 I2 F2 t rfl
  show T5 nn nx f dp u I F I2 F2 t
  unfold pz_FR pz_fa at h
  by_cases e : K i = 24 ∨ K i = 28
  · rw [if_pos e] at h
    by_cases e2 : 50 ≤ dp
    · rw [if_pos e2] at h; exact absurd h (by simp)
    rw [if_neg e2] at h
    obtain ⟨a, b, c, d, h1, h2⟩ := q_r h
    have r7 : T5 nn nx f (dp + 1) u _ _ _ _ d := h1 _ _ _ _ rfl
    have this := inr_e h2
    simp only [Prod.mk.injEq] at this
    obtain ⟨-, rfl, rfl, rfl⟩ := this
    have r8 := TT_m (m2 := 0) (dp2 := dp) (TT_5 r7) (Or.inr (Int.le_refl _)) (by omega)
    by_cases e3 : K i = 24
    · rw [if_pos e3]
      exact T5_0 (TT_e (TT_x (o := 12) (A := 0) (B := 0) (e2 := 0) r8 (show ¬ tjm 12 by unfold tjm; decide) (show (1 : Int) ≤ 0 + 1 by omega) rfl (show (0 : Int) ≤ 0 + 1 + 0 by omega) rfl (ts_o (o := 12) (by decide))) (by decide))
    · rw [if_neg e3]
      exact T5_0 (TT_e (TT_x (o := 13) (A := 0) (B := 0) (e2 := 0) r8 (show ¬ tjm 13 by unfold tjm; decide) (show (1 : Int) ≤ 0 + 1 by omega) rfl (show (0 : Int) ≤ 0 + 1 + 0 by omega) rfl (ts_o (o := 13) (by decide))) (by decide))
  · rw [if_neg e] at h; exact h _ _ _ _ rfl
theorem w_BH (h : pz_BH (RT nn nx f) i dp u I F o) : (RT nn nx f) 8 0 [] i dp u I F o := by
  rintro i2 I2 F2 t rfl
  show T5 nn nx f dp u I F I2 F2 t
  unfold pz_BH at h
  obtain ⟨a, b, c, d, h1, h2⟩ := q_r h
  have r9 : T5 nn nx f dp u _ _ _ _ d := h1 _ _ _ _ rfl
  have r10 : T6 nn nx f dp u _ _ _ _ d t := h2 _ _ _ _ rfl
  exact T5_6 r9 r10
theorem es_27 {k e B g : Int} (hk : k = 4 ∨ k = 5 ∨ k = 6) (he : 0 ≤ e ∧ e ≤ 8) (hB : k = 5 → 0 ≤ B ∧ B < nn) (hB2 : B = -1 ∨ (0 ≤ B ∧ B < nn)) : tes (k + 16 * e) = e ∧ tsI nn nx f F 27 (k + 16 * e) B g := by
  have h1 : (k + 16 * e) % 16 = k := by omega
  have h2 : (k + 16 * e) / 16 = e := by omega
  refine ⟨?_, ts_27 ⟨by omega, by omega, by omega, fun q => hB (by omega), by omega, hB2⟩⟩
  unfold tes
  rw [h1, h2, if_neg (by omega), if_neg (by omega), if_neg (by omega)]
/-- a call's values, then its site -/
theorem w_es {k e B : Int} (hk : k = 4 ∨ k = 5 ∨ k = 6) (he : 0 ≤ e ∧ e ≤ 8) (hB : k = 5 → 0 ≤ B ∧ B < nn) (hB2 : B = -1 ∨ (0 ≤ B ∧ B < nn)) (r : TT nn nx f e 0 dp2 u I F I2 F2) (hd : dp ≤ dp2) : TT nn nx f 0 1 dp u I F (I2 ++ [(27, k + 16 * e, B, u)]) F2 := by
  obtain ⟨a1, a2⟩ := es_27 (nn := nn) (nx := nx) (f := f) (F := F2) (g := u) hk he hB hB2
  exact TT_e (TT_x (o := 27) (A := k + 16 * e) (B := B) (e2 := -e) (TT_m (m2 := 1) (dp2 := dp) r (Or.inr (Int.le_refl _)) hd) (show ¬ tjm 27 by unfold tjm; decide) (show tes (k + 16 * e) + 1 ≤ 1 + e by omega) (show -(tes (k + 16 * e)) = -e by omega) (by omega) rfl a2) (by omega)
end Wd9
