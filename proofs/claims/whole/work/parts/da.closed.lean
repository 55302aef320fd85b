/-! PART da: first, behind, lists of values; the relation is closed. -/
section Wda
variable {K V P : Nat → Int} {f u dp dp2 x t t0 v l h h2 d nn nx m m2 e1 e2 : Int} {J : List Int} {i i2 j p n b : Nat} {I I0 I1 I2 I3 L X Y M N : List pz_I} {F F0 F1 F2 F3 : List pz_F} {o : pz_O} {z w : pz_I} {Q Q2 : Nat → Prop} {H H0 H1 H2 H3 D D0 D1 D2 D3 : Nat → Int}
theorem w_FI49 (h : pz_FI49 K P (RT nn nx f) i dp u I F (.inr (i2, I2, F2, t))) : T5 nn nx f dp u I F I2 F2 t := by
  unfold pz_FI49 at h
  obtain ⟨a, b, c, d, h1, h2⟩ := q_r h
  obtain ⟨a2, b2, c2, d2, h3, h4⟩ := q_r h2
  obtain ⟨a3, b3, c3, d3, h5, h6⟩ := q_r h4
  have r9 : T5 nn nx f dp u _ _ _ _ d := h1 _ _ _ _ rfl
  have r14 : TT nn nx f 0 1 dp u _ _ _ _ := h3 _ _ _ _ rfl
  obtain ⟨k1, k2⟩ := es_T h5
  have this := inr_e h6
  simp only [Prod.mk.injEq] at this
  obtain ⟨-, rfl, rfl, rfl⟩ := this
  exact T5_0 (TT_e (TT_tr (TT_tr (TT_5 r9) r14 (Or.inl (by decide)) (Int.le_refl _)) (w_es (dp := dp) (k := 6) (Or.inr (Or.inr rfl)) k1 (fun q => absurd q (by decide)) (Or.inl rfl) k2 (by omega)) (Or.inl (by decide)) (Int.le_refl _)) (by decide))
theorem w_FI54 (hK : 54 ≤ K i ∧ K i < 62) (h : pz_FI54 K P (RT nn nx f) i dp u I F (.inr (i2, I2, F2, t))) : T5 nn nx f dp u I F I2 F2 t := by
  unfold pz_FI54 pz_fa at h
  obtain ⟨a, b, c, d, h1, h2⟩ := q_r h
  obtain ⟨k1, k2⟩ := es_T h1
  by_cases e : d ≠ pz_wa (K i)
  · rw [if_pos e] at h2; exact absurd h2 (by simp)
  rw [if_neg e] at h2
  have this := inr_e h2
  simp only [Prod.mk.injEq] at this
  obtain ⟨-, rfl, rfl, rfl⟩ := this
  have hw : twa (K i - 54) = d := by
    have e2 : d = pz_wa (K i) := Classical.byContradiction e
    rw [e2]
    unfold twa pz_wa
    by_cases q : K i = 57 ∨ K i = 58 ∨ K i = 59
    · rw [if_pos q, if_pos (by omega)]
    · rw [if_neg q, if_neg (by omega)]
  exact T5_0 (TT_e (TT_x (o := 28) (A := K i - 54) (B := 0) (e2 := 1 - d) (TT_m (m2 := 0) (dp2 := dp) k2 (Or.inr (Int.le_refl _)) (by omega)) (show ¬ tjm 28 by unfold tjm; decide) (show twa (K i - 54) ≤ 0 + d by omega) (show 1 - twa (K i - 54) = 1 - d by omega) (by omega) rfl (ts_28 (by omega))) (by omega))
theorem w_FI14 (h : pz_FI14 K P (RT nn nx f) i dp u I F (.inr (i2, I2, F2, t))) : T5 nn nx f dp u I F I2 F2 t := by
  unfold pz_FI14 at h
  obtain ⟨a, b, c, d, h1, h2⟩ := q_r h
  obtain ⟨e11, e12, -⟩ := op_T h1
  rw [e11, e12] at h2
  obtain ⟨a2, b2, c2, d2, h3, h4⟩ := q_r h2
  obtain ⟨a3, b3, c3, d3, h5, h6⟩ := q_r h4
  obtain ⟨e51, e52⟩ := tk_T h5
  have this := inr_e h6
  simp only [Prod.mk.injEq] at this
  obtain ⟨-, e61, e62, e63⟩ := this
  rw [e61, e62, e63, e51, e52]
  have r : 0 ≤ d2 ∧ TT nn nx f d2 0 dp u I F b2 c2 := by
    by_cases e : K a = 15
    · have h7 : (if K a = 15 then (Sum.inr (a2, b2, c2, d2) : pz_O) = .inr (a, _, _, 0) else (RT nn nx f) 12 0 [] a (dp + 1) u _ _ (.inr (a2, b2, c2, d2))) := h3
      rw [if_pos e] at h7
      have this := inr_e h7
      simp only [Prod.mk.injEq] at this
      obtain ⟨-, rfl, rfl, rfl⟩ := this
      exact ⟨Int.le_refl _, TT_rfl⟩
    · have h7 : (if K a = 15 then (Sum.inr (a2, b2, c2, d2) : pz_O) = .inr (a, _, _, 0) else (RT nn nx f) 12 0 [] a (dp + 1) u _ _ (.inr (a2, b2, c2, d2))) := h3
      rw [if_neg e] at h7
      obtain ⟨q1, q2⟩ := h7 _ _ _ _ rfl (Int.le_refl _)
      exact ⟨by omega, TT_e (TT_m (m2 := 0) q2 (Or.inr (Int.le_refl _)) (by omega)) (by omega)⟩
  exact T5_0 (TT_e (TT_x (o := 25) (A := d2) (B := 0) (e2 := 1 - d2) r.2 (show ¬ tjm 25 by unfold tjm; decide) (show d2 ≤ 0 + d2 by omega) rfl (by omega) rfl (ts_25 r.1)) (by omega))
theorem w_FI12 (h : pz_FI12 K P (RT nn nx f) i dp u I F (.inr (i2, I2, F2, t))) : T5 nn nx f dp u I F I2 F2 t := by
  unfold pz_FI12 at h
  obtain ⟨a, b, c, d, h1, h2⟩ := q_r h
  obtain ⟨e11, e12, -⟩ := op_T h1
  rw [e11, e12] at h2
  obtain ⟨a2, b2, c2, d2, h3, h4⟩ := q_r h2
  obtain ⟨a3, b3, c3, d3, h5, h6⟩ := q_r h4
  obtain ⟨e51, e52⟩ := tk_T h5
  have this := inr_e h6
  simp only [Prod.mk.injEq] at this
  obtain ⟨-, e61, e62, e63⟩ := this
  rw [e61, e62, e63, e51, e52]
  by_cases e : K a = 13
  · have h7 : (if K a = 13 then (Sum.inr (a2, b2, c2, d2) : pz_O) = .inr (a, _, _, 0) else (RT nn nx f) 13 0 [] a (dp + 1) u _ _ (.inr (a2, b2, c2, d2))) := h3
    rw [if_pos e] at h7
    have this := inr_e h7
    simp only [Prod.mk.injEq] at this
    obtain ⟨-, rfl, rfl, rfl⟩ := this
    exact T5_0 (TT_a (o := 26) (A := 0) (B := 0) (m := 0) (e1 := 1) (show ¬ tjm 26 by unfold tjm; decide) (show (0 : Int) ≤ 0 by omega) rfl (show (0 : Int) ≤ 0 + 1 by omega) rfl (ts_o (o := 26) (by decide)))
  · have h7 : (if K a = 13 then (Sum.inr (a2, b2, c2, d2) : pz_O) = .inr (a, _, _, 0) else (RT nn nx f) 13 0 [] a (dp + 1) u _ _ (.inr (a2, b2, c2, d2))) := h3
    rw [if_neg e] at h7
    have r13 : TT nn nx f 0 1 (dp + 1) u _ _ _ _ := h7 _ _ _ _ rfl
    exact T5_0 (TT_e (TT_tr (dp2 := dp + 1) (TT_a (o := 26) (A := 0) (B := 0) (m := 0) (e1 := 1) (show ¬ tjm 26 by unfold tjm; decide) (show (0 : Int) ≤ 0 by omega) rfl (show (0 : Int) ≤ 0 + 1 by omega) rfl (ts_o (o := 26) (by decide))) r13 (Or.inl (by decide)) (by omega)) (by decide))
theorem w_FI (hV : tV nn nx K V) (h : pz_FI K V P f (RT nn nx f) x i dp u I F o) : (RT nn nx f) 9 x [] i dp u I F o := by
  rintro i2 I2 F2 t rfl
  show T5 nn nx f dp u I F I2 F2 t
  unfold pz_FI pz_fa at h
  by_cases e1 : K i = 2
  · rw [if_pos e1] at h
    have this := inr_e h
    simp only [Prod.mk.injEq] at this
    obtain ⟨-, rfl, rfl, rfl⟩ := this
    exact T5_0 (TT_a (o := 0) (A := 3) (B := V i) (m := 0) (e1 := 1) (show ¬ tjm 0 by unfold tjm; decide) (show (0 : Int) ≤ 0 by omega) rfl (show (0 : Int) ≤ 0 + 1 by omega) rfl (ts_0 ⟨by decide, by decide, fun q => absurd q (by decide)⟩))
  rw [if_neg e1] at h
  by_cases e2 : K i = 3
  · rw [if_pos e2] at h
    have this := inr_e h
    simp only [Prod.mk.injEq] at this
    obtain ⟨-, rfl, rfl, rfl⟩ := this
    exact T5_0 (TT_a (o := 0) (A := 4) (B := V i) (m := 0) (e1 := 1) (show ¬ tjm 0 by unfold tjm; decide) (show (0 : Int) ≤ 0 by omega) rfl (show (0 : Int) ≤ 0 + 1 by omega) rfl (ts_0 ⟨by decide, by decide, fun _ => (hV i).2 e2⟩))
  rw [if_neg e2] at h
  by_cases e3 : K i = 4
  · rw [if_pos e3] at h; exact absurd h (by simp)
  rw [if_neg e3] at h
  by_cases e4 : K i = 5
  · rw [if_pos e4] at h
    have this := inr_e h
    simp only [Prod.mk.injEq] at this
    obtain ⟨-, rfl, rfl, rfl⟩ := this
    have hs : tsI nn nx f F2 3 (V i) 0 u := ts_3 (Or.inl rfl) ((hV i).1 e4)
    intro Q H D h d g gd
    have hn := TS_nn g
    obtain ⟨H2, D2, g2, t2⟩ := TS_a (z := (3, V i, 0, u)) (h2 := h + 1) g rfl (show ¬ tjm 3 by unfold tjm; decide) (show (0 : Int) ≤ h by omega) rfl (by omega) rfl hs
    exact ⟨H2, D2, g2, t2, Or.inr ⟨I, (3, V i, 0, u), h, rfl, Nat.le_refl _, rfl, TS_cg g t2.2.2.2.2, hs, Or.inl ⟨rfl, rfl, by omega⟩⟩⟩
  rw [if_neg e4] at h
  by_cases e5 : K i = 6
  · rw [if_pos e5] at h; exact absurd h (by simp)
  rw [if_neg e5] at h
  by_cases e6 : K i = 10
  · rw [if_pos e6] at h
    obtain ⟨a, b, c, d, h1, h2⟩ := q_r h
    have this := inr_e h2
    simp only [Prod.mk.injEq] at this
    obtain ⟨-, rfl, rfl, rfl⟩ := this
    exact T5_0 (TT_m (m2 := 0) (cd_T h1) (Or.inr (Int.le_refl _)) (by omega))
  rw [if_neg e6] at h
  by_cases e7 : K i = 14
  · rw [if_pos e7] at h; exact w_FI14 h
  rw [if_neg e7] at h
  by_cases e8 : K i = 12
  · rw [if_pos e8] at h; exact w_FI12 h
  rw [if_neg e8] at h
  by_cases e9 : K i = 41
  · rw [if_pos e9] at h
    by_cases q : 400 ≤ f + F.length
    · rw [if_pos q] at h; exact absurd h (by simp)
    rw [if_neg q] at h
    obtain ⟨a, b, c, g2, h1, h2⟩ := q_r h
    obtain ⟨hg, hf2, hr⟩ := fn_T h1
    have this := inr_e h2
    simp only [Prod.mk.injEq] at this
    obtain ⟨-, rfl, rfl, rfl⟩ := this
    intro Q H D h d g gd
    have hf3 := hf2.resolve_right (fun q => by
      rcases q with q | q
      · exact q ⟨g.1.1, g.1.2, g.2.1⟩
      · have := (TS_nn g).2.1; omega)
    exact T5_0 (TT_e (TT_x (o := 24) (A := g2) (B := 0) (e2 := 1) hr (show ¬ tjm 24 by unfold tjm; decide) (show (0 : Int) ≤ 0 + 0 by omega) rfl (show (0 : Int) ≤ 0 + 0 + 1 by omega) rfl (ts_24 ⟨by rw [hg]; omega, by rw [hg]; omega, by rw [hg, show (f + (F.length : Int) - f).toNat = F.length by omega]; exact hf3.2⟩)) (by decide)) Q H D h d g gd
  rw [if_neg e9] at h
  by_cases e10 : K i = 50
  · rw [if_pos e10] at h
    have this := inr_e h
    simp only [Prod.mk.injEq] at this
    obtain ⟨-, rfl, rfl, rfl⟩ := this
    exact T5_0 (TT_a (o := 33) (A := 0) (B := 0) (m := 0) (e1 := 1) (show ¬ tjm 33 by unfold tjm; decide) (show (0 : Int) ≤ 0 by omega) rfl (show (0 : Int) ≤ 0 + 1 by omega) rfl (ts_o (o := 33) (by decide)))
  rw [if_neg e10] at h
  by_cases e11 : K i = 51 ∨ K i = 52 ∨ K i = 53
  · rw [if_pos e11] at h
    have this := inr_e h
    simp only [Prod.mk.injEq] at this
    obtain ⟨-, rfl, rfl, rfl⟩ := this
    have hA : ∃ A : Int, (if K i = 51 then (0 : Int) else if K i = 53 then 1 else 2) = A ∧ 0 ≤ A ∧ A ≤ 2 := by
      by_cases q : K i = 51
      · exact ⟨0, if_pos q, by decide, by decide⟩
      · by_cases q2 : K i = 53
        · exact ⟨1, by rw [if_neg q, if_pos q2], by decide, by decide⟩
        · exact ⟨2, by rw [if_neg q, if_neg q2], by decide, by decide⟩
    obtain ⟨A, hA1, hA2⟩ := hA
    rw [hA1]
    exact T5_0 (TT_a (o := 0) (A := A) (B := 0) (m := 0) (e1 := 1) (show ¬ tjm 0 by unfold tjm; decide) (show (0 : Int) ≤ 0 by omega) rfl (show (0 : Int) ≤ 0 + 1 by omega) rfl (ts_0 ⟨by omega, by omega, fun q => by omega⟩))
  rw [if_neg e11] at h
  by_cases e12 : K i = 49
  · rw [if_pos e12] at h
    by_cases q : x = 0
    · rw [if_pos q] at h; exact absurd h (by simp)
    · rw [if_neg q] at h; exact w_FI49 h
  rw [if_neg e12] at h
  by_cases e13 : 54 ≤ K i ∧ K i < 62
  · rw [if_pos e13] at h; exact w_FI54 e13 h
  · rw [if_neg e13] at h; exact absurd h (by simp)
theorem w_BL (hV : tV nn nx K V) (h : pz_BL K V P (RT nn nx f) t0 i dp u I F o) : (RT nn nx f) 10 0 [t0] i dp u I F o := by
  rintro i2 I2 F2 t rfl
  show T6 nn nx f dp u I F I2 F2 t0 t
  unfold pz_BL at h
  by_cases e1 : K i = 18
  · rw [if_pos e1] at h
    obtain ⟨a, b, c, y, h1, h2⟩ := q_r h
    obtain ⟨rfl, rfl, hy⟩ := nm_T hV h1
    by_cases e2 : K a = 10
    · rw [if_pos e2] at h2
      obtain ⟨a3, b3, c3, d3, h3, h4⟩ := q_r h2
      obtain ⟨k1, k2⟩ := es_T h3
      have r : T6 nn nx f dp u _ _ _ _ 0 t := h4 _ _ _ _ rfl
      exact T6_0 (w_es (Or.inr (Or.inl rfl)) k1 (fun _ => hy) (Or.inr hy) k2 (by omega)) r
    · rw [if_neg e2] at h2
      have r : T6 nn nx f dp u _ _ _ _ 2 t := h2 _ _ _ _ rfl
      exact T6_z (e1 := 0) (A := 0) (Int.le_refl _) TT_rfl (Or.inl ⟨rfl, rfl, rfl⟩) (ts_27 (A := 0) ⟨by decide, by decide, by decide, fun _ => hy, by decide, Or.inr hy⟩) r
  rw [if_neg e1] at h
  by_cases e3 : K i = 14
  · rw [if_pos e3] at h
    obtain ⟨a, b, c, d, h1, h2⟩ := q_r h
    obtain ⟨I0, rfl, k2⟩ := el_T h1
    have r : T6 nn nx f dp u _ _ _ _ 3 t := h2 _ _ _ _ rfl
    exact T6_z (e1 := 1) (A := 2) (dp2 := dp + 1) (by omega) (TT_m (m2 := 1) k2 (Or.inr (Int.le_refl _)) (Int.le_refl _)) (Or.inr ⟨rfl, rfl, rfl⟩) (ts_27 (A := 2) ⟨by decide, by decide, by decide, fun q => absurd q (by decide), by decide, Or.inl rfl⟩) r
  rw [if_neg e3] at h
  by_cases e4 : K i = 10
  · rw [if_pos e4] at h
    obtain ⟨a3, b3, c3, d3, h3, h4⟩ := q_r h
    obtain ⟨k1, k2⟩ := es_T h3
    have r : T6 nn nx f dp u _ _ _ _ 0 t := h4 _ _ _ _ rfl
    exact T6_0 (w_es (Or.inl rfl) k1 (fun q => absurd q (by decide)) (Or.inl rfl) k2 (by omega)) r
  · rw [if_neg e4] at h
    have this := inr_e h
    simp only [Prod.mk.injEq] at this
    obtain ⟨-, rfl, rfl, rfl⟩ := this
    exact T6_rfl
theorem w_VL (h : pz_VL K P (RT nn nx f) x i dp u I F o) : (RT nn nx f) 11 x [] i dp u I F o := by
  rintro i2 I2 F2 t rfl hx
  unfold pz_VL pz_fa at h
  show (x < t ∧ t ≤ 8) ∧ TT nn nx f (t - x) 0 dp u I F I2 F2
  by_cases e1 : x = 8
  · rw [if_pos e1] at h
    rcases h with ⟨-, h⟩ | ⟨-, h⟩
    · exact absurd h (by simp)
    · split at h <;> exact absurd h (by simp)
  rw [if_neg e1] at h
  obtain ⟨a, b, c, d, h1, h2⟩ := q_r h
  have r4 : TT nn nx f 1 0 dp u _ _ _ _ := h1 _ _ _ _ rfl
  by_cases e2 : K a = 16
  · rw [if_pos e2] at h2
    obtain ⟨q1, q2⟩ := h2 _ _ _ _ rfl (show 0 ≤ x + 1 ∧ x + 1 ≤ 8 by omega)
    exact ⟨by omega, TT_e (TT_tr r4 q2 (Or.inr (Int.le_refl _)) (Int.le_refl _)) (by omega)⟩
  · rw [if_neg e2] at h2
    by_cases e3 : K a = 11
    · rw [if_pos e3] at h2
      have this := inr_e h2
      simp only [Prod.mk.injEq] at this
      obtain ⟨-, rfl, rfl, rfl⟩ := this
      exact ⟨by omega, TT_e r4 (by omega)⟩
    · rw [if_neg e3] at h2; exact absurd h2 (by simp)
theorem w_LI (h : pz_LI K (RT nn nx f) x i dp u I F o) : (RT nn nx f) 12 x [] i dp u I F o := by
  rintro i2 I2 F2 t rfl hx
  unfold pz_LI at h
  show x < t ∧ TT nn nx f (t - x) 0 dp u I F I2 F2
  obtain ⟨a, b, c, d, h1, h2⟩ := q_r h
  have r4 : TT nn nx f 1 0 dp u _ _ _ _ := h1 _ _ _ _ rfl
  by_cases e2 : K a = 16
  · rw [if_pos e2] at h2
    obtain ⟨q1, q2⟩ := h2 _ _ _ _ rfl (show 0 ≤ x + 1 by omega)
    exact ⟨by omega, TT_e (TT_tr r4 q2 (Or.inr (Int.le_refl _)) (Int.le_refl _)) (by omega)⟩
  · rw [if_neg e2] at h2
    have this := inr_e h2
    simp only [Prod.mk.injEq] at this
    obtain ⟨-, rfl, rfl, rfl⟩ := this
    exact ⟨by omega, TT_e r4 (by omega)⟩
theorem w_OB (hV : tV nn nx K V) (h : pz_OB K V P (RT nn nx f) i dp u I F o) : (RT nn nx f) 13 0 [] i dp u I F o := by
  rintro i2 I2 F2 t rfl
  show TT nn nx f 0 1 dp u I F I2 F2
  unfold pz_OB at h
  obtain ⟨a, b, c, y, h1, h2⟩ := q_r h
  obtain ⟨rfl, rfl, hy⟩ := nm_T hV h1
  obtain ⟨a2, b2, c2, d2, h3, h4⟩ := q_r h2
  obtain ⟨rfl, rfl⟩ := tk_T h3
  obtain ⟨a3, b3, c3, d3, h5, h6⟩ := q_r h4
  have r4 : TT nn nx f 1 0 dp u _ _ _ _ := h5 _ _ _ _ rfl
  have one := TT_e (TT_x (o := 5) (A := 0) (B := 0) (e2 := -1) (TT_x (o := 27) (A := 1) (B := y) (e2 := -1) (TT_tr (TT_a (o := 6) (A := 0) (B := 0) (m := 1) (e1 := 1) (show ¬ tjm 6 by unfold tjm; decide) (show (1 : Int) ≤ 1 by omega) rfl (show (0 : Int) ≤ 1 + 1 by omega) rfl (ts_o (o := 6) (by decide))) r4 (Or.inr (Int.le_refl _)) (Int.le_refl _)) (show ¬ tjm 27 by unfold tjm; decide) (show (2 : Int) ≤ 1 + (1 + 1) by omega) rfl (show (0 : Int) ≤ 1 + (1 + 1) + -1 by omega) rfl (ts_27 (A := 1) ⟨by decide, by decide, by decide, fun _ => hy, by decide, Or.inr hy⟩)) (show ¬ tjm 5 by unfold tjm; decide) (show (1 : Int) ≤ 1 + (1 + 1 + -1) by omega) rfl (show (0 : Int) ≤ 1 + (1 + 1 + -1) + -1 by omega) rfl (ts_o (o := 5) (by decide))) (show (1 : Int) + 1 + -1 + -1 = 0 by decide)
  by_cases e2 : K a3 = 16
  · rw [if_pos e2] at h6
    have r13 : TT nn nx f 0 1 dp u _ _ _ _ := h6 _ _ _ _ rfl
    exact TT_e (TT_tr one r13 (Or.inl (by decide)) (Int.le_refl _)) (by decide)
  · rw [if_neg e2] at h6
    have this := inr_e h6
    simp only [Prod.mk.injEq] at this
    obtain ⟨-, rfl, rfl, -⟩ := this
    exact one
theorem w_Mm (hV : tV nn nx K V) (h : pz_ML K V P (RT nn nx f) i dp u I F o) : (RT nn nx f) 14 0 [] i dp u I F o := by
  rintro i2 I2 F2 t rfl
  show TT nn nx f 0 1 dp u I F I2 F2
  unfold pz_ML at h
  by_cases e1 : K i = 18
  · rw [if_pos e1] at h
    obtain ⟨a, b, c, y, h1, h2⟩ := q_r h
    obtain ⟨rfl, rfl, hy⟩ := nm_T hV h1
    have r14 : TT nn nx f 0 1 dp u _ _ _ _ := h2 _ _ _ _ rfl
    exact TT_e (TT_tr (TT_a (o := 27) (A := 0) (B := y) (m := 1) (e1 := 0) (show ¬ tjm 27 by unfold tjm; decide) (show (1 : Int) ≤ 1 by omega) rfl (show (0 : Int) ≤ 1 + 0 by omega) rfl (ts_27 (A := 0) ⟨by decide, by decide, by decide, fun _ => hy, by decide, Or.inr hy⟩)) r14 (Or.inl (by decide)) (Int.le_refl _)) (by decide)
  rw [if_neg e1] at h
  by_cases e3 : K i = 14
  · rw [if_pos e3] at h
    obtain ⟨a, b, c, d, h1, h2⟩ := q_r h
    obtain ⟨I0, rfl, k2⟩ := el_T h1
    have r14 : TT nn nx f 0 1 dp u _ _ _ _ := h2 _ _ _ _ rfl
    exact TT_e (TT_tr (TT_x (o := 27) (A := 2) (B := -1) (e2 := -1) (TT_m (m2 := 1) (dp2 := dp) k2 (Or.inr (Int.le_refl _)) (by omega)) (show ¬ tjm 27 by unfold tjm; decide) (show (2 : Int) ≤ 1 + 1 by omega) rfl (show (0 : Int) ≤ 1 + 1 + -1 by omega) rfl (ts_27 (A := 2) ⟨by decide, by decide, by decide, fun q => absurd q (by decide), by decide, Or.inl rfl⟩)) r14 (Or.inl (by decide)) (Int.le_refl _)) (by decide)
  · rw [if_neg e3] at h
    have this := inr_e h
    simp only [Prod.mk.injEq] at this
    obtain ⟨-, rfl, rfl, -⟩ := this
    exact TT_rfl
theorem w_L0 (h : pz_L K (RT nn nx f) l t0 i dp u I F o) (hl : ¬ 1 ≤ l) : (RT nn nx f) 6 l [t0] i dp u I F o := by
  rintro i2 I2 F2 t rfl
  show T6 nn nx f dp u I F I2 F2 t0 t
  unfold pz_L at h
  by_cases e : pz_lv (K i) ≠ l
  · rw [if_pos e] at h
    have this := inr_e h
    simp only [Prod.mk.injEq] at this
    obtain ⟨-, rfl, rfl, rfl⟩ := this
    exact T6_rfl
  rw [if_neg e, if_pos (by omega)] at h
  obtain ⟨a, b, c, d, h1, h2⟩ := q_r h
  have r5 : T5 nn nx f dp u _ _ _ _ d := h1 _ _ _ _ rfl
  have r6 : T6 nn nx f dp u _ _ _ _ 0 t := h2 _ _ _ _ rfl
  exact T6_0 (w_or (by rw [if_neg (by omega)]; exact Or.inr rfl) (TT_5 r5)) r6
/-- the grammar keeps the heights -/
theorem RT_C (hV : tV nn nx K V) : pz_C K V P f (RT nn nx f) := ⟨fun _ _ _ _ _ _ h => w_SS h, fun _ _ _ _ _ _ h => w_ST hV h, fun _ _ _ _ _ _ _ h => w_PM h, fun _ _ _ _ _ _ _ h => w_CH h, fun _ _ _ _ _ _ h => w_VA h, fun _ _ _ _ _ _ _ h => w_Ex h, fun l _ _ _ _ _ _ _ h => by
  by_cases e : 1 ≤ l
  · exact w_L e h
  · exact w_L0 h e, fun _ _ _ _ _ _ h => w_FR h, fun _ _ _ _ _ _ h => w_BH h, fun _ _ _ _ _ _ _ h => w_FI hV h, fun _ _ _ _ _ _ _ h => w_BL hV h, fun _ _ _ _ _ _ _ h => w_VL h, fun _ _ _ _ _ _ _ h => w_LI h, fun _ _ _ _ _ _ h => w_OB hV h, fun _ _ _ _ _ _ h => w_Mm hV h⟩
/-- a whole unit -/
theorem unit_T (h : (RT nn nx f) 0 0 [] 0 0 f [] [(-1, 0, [])] (.inr (i2, I2, F2, t))) : tyE [(-1, 0, [])] F2 ∧ (∀ y ∈ I2, y.2.2.2 < f + (F2.length : Int)) ∧ ∀ k : Nat, k < F2.length → tyF nn nx f F2 (on (f + (k : Int)) (I2 ++ [(0, 0, 0, f)] ++ [(29, 0, 0, f)])) := by
  have r := r0_T h
  have g0 : TS nn nx f f (fun _ => False) (fun _ => 0) (fun _ => 0) [] [(-1, 0, [])] 0 0 := ⟨⟨Int.le_refl _, by show f < f + 1; omega⟩, fun y hy => absurd hy List.not_mem_nil, ⟨fun _ _ => ⟨Int.le_refl _, Int.le_refl _, by show (0 : Int) ≤ 50; decide⟩, fun p hp => absurd hp (Nat.not_lt_zero _)⟩, ⟨rfl, rfl⟩, fun p q => False.elim q⟩
  obtain ⟨H2, D2, g2, t2⟩ := r _ _ _ 0 g0 (Int.le_refl _)
  have hty := tyF_mk g2 ⟨(t2.2.2.2.2 0 (Nat.zero_le _)).1, (t2.2.2.2.2 0 (Nat.zero_le _)).2⟩
  refine ⟨t2.2.1, g2.2.1, fun k hk => ?_⟩
  by_cases e : k = 0
  · subst e
    rw [show f + ((0 : Nat) : Int) = f by omega]
    exact hty
  · have hw : on (f + (k : Int)) (I2 ++ [(0, 0, 0, f)] ++ [(29, 0, 0, f)]) = on (f + (k : Int)) I2 := (on_0 (z := (29, 0, 0, f)) (show ¬ f = f + (k : Int) by omega)).trans (on_0 (z := (0, 0, 0, f)) (show ¬ f = f + (k : Int) by omega))
    rw [hw]
    exact t2.2.2.2.1 k (show 1 ≤ k by omega) hk
end Wda
