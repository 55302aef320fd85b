/-! PART d7: jumps of a choice; the relation. -/
section Wd7
variable {K V P : Nat → Int} {f u dp dp2 x t t0 v l h h2 d nn nx m m2 e1 e2 : Int} {J : List Int} {i i2 j p n b : Nat} {I I0 I1 I2 I3 L X Y M N : List pz_I} {F F0 F1 F2 F3 : List pz_F} {o : pz_O} {z w : pz_I} {Q Q2 : Nat → Prop} {H H0 H1 H2 H3 D D0 D1 D2 D3 : Nat → Int}
theorem pre_g (hp : ∃ L : List pz_I, M = I1 ++ [z] ++ L) : I1.length < M.length ∧ M.getD I1.length (0, 0, 0, 0) = z ∧ M.take I1.length = I1 := by
  obtain ⟨L, rfl⟩ := hp
  rw [List.append_assoc]
  refine ⟨by rw [List.length_append, List.length_append]; show _ < _ + (1 + _); omega, gD_m I1 L, List.take_left' rfl⟩
theorem TS_am (gM : TS nn nx f u Q2 H D M F h d) (hp : ∃ L : List pz_I, M = I1 ++ [z] ++ L) (hz : z.2.2.2 = u) (hjm : tjm z.1) (hj : H (on u I1).length + tdj z.1 = h) (hd : D (on u I1).length = d) (hQ : ∀ p : Nat, Q2 p → p ≠ (on u I1).length → Q p) (hQ2 : ∀ p : Nat, Q p → p < (on u M).length) : TS nn nx f u Q H D (pz_a M I1.length (pz_h M u)) F h d := by
  obtain ⟨a1, a2, a3⟩ := pre_g hp
  exact TS_pi gM a1 (by rw [a2]; exact hz) (by rw [a2]; exact hjm) (by rw [a2, a3]; exact hj) (by rw [a3]; exact hd) (by rw [a3]; exact hQ) hQ2
theorem TG_am (g : TG nn nx f u I0 F0 H0 D0 M F H D) (hp : ∃ L : List pz_I, M = I1 ++ [z] ++ L) (h0 : I0.length ≤ I1.length) (hz : z.2.2.2 = u) (hu : u < f + (F0.length : Int)) : TG nn nx f u I0 F0 H0 D0 (pz_a M I1.length v) F H D := by
  obtain ⟨a1, a2, a3⟩ := pre_g hp
  exact TG_pi g a1 h0 (by rw [a2]; exact hz) hu
theorem on_sl (hw : j < X.length → w.2.2.2 = (X.getD j (0, 0, 0, 0)).2.2.2) : (on u (X.set j w)).length = (on u X).length := by
  by_cases q : j < X.length
  · obtain ⟨a1, a2⟩ := sp_at q
    have hw := hw q
    have e : X.set j w = X.take j ++ w :: X.drop (j + 1) := by
      conv => lhs; rw [a1]
      rw [List.set_append_right _ _ (by omega), a2, Nat.sub_self]; rfl
    rw [e]
    conv => rhs; rw [a1]
    rw [on_add, on_add, List.length_append, List.length_append]
    by_cases r : w.2.2.2 = u
    · rw [on_own r, on_own (by rw [← hw]; exact r)]; rfl
    · rw [on_not r, on_not (by rw [← hw]; exact r)]
  · rw [List.set_eq_of_length_le (by omega)]
theorem on_pl : (on u (pz_a I j v)).length = (on u I).length := on_sl (fun _ => rfl)
theorem ph_pl : pz_h (pz_a I j v) u = pz_h I u := by rw [← on_len, ← on_len, on_pl]
theorem on_pt {y : Nat} : (on u ((pz_a I j v).take y)).length = (on u (I.take y)).length := by
  unfold pz_a
  rw [List.take_set]
  refine on_sl (fun q => ?_)
  rw [List.length_take] at q
  have : (I.take y).getD j (0, 0, 0, 0) = I.getD j (0, 0, 0, 0) := by rw [List.getD_eq_getElem?_getD, List.getElem?_take_of_lt (by omega), ← List.getD_eq_getElem?_getD]
  rw [this]
theorem gD_pa {y : Nat} : ((pz_a I j v).getD y (0, 0, 0, 0)).1 = (I.getD y (0, 0, 0, 0)).1 ∧ ((pz_a I j v).getD y (0, 0, 0, 0)).2.2 = (I.getD y (0, 0, 0, 0)).2.2 := by
  unfold pz_a
  by_cases e : j = y
  · subst e
    by_cases q : j < I.length
    · rw [List.getD_eq_getElem?_getD, List.getElem?_set_self q]; exact ⟨rfl, rfl⟩
    · rw [List.set_eq_of_length_le (by omega)]; exact ⟨rfl, rfl⟩
  · rw [List.getD_eq_getElem?_getD, List.getElem?_set_ne e, ← List.getD_eq_getElem?_getD]; exact ⟨rfl, rfl⟩
/-- a jump of a choice, not aimed yet -/
def tJ (u : Int) (H D : Nat → Int) (I : List pz_I) (h d y : Int) : Prop := y.toNat < I.length ∧ (I.getD y.toNat (0, 0, 0, 0)).1 = 20 ∧ (I.getD y.toNat (0, 0, 0, 0)).2.2.2 = u ∧ H (on u (I.take y.toNat)).length = h ∧ D (on u (I.take y.toNat)).length = d
theorem tJ_pa {y : Int} (g : tJ u H D I h d y) : tJ u H D (pz_a I j v) h d y := by
  obtain ⟨a1, a2, a3, a4, a5⟩ := g
  obtain ⟨b1, b2⟩ := gD_pa (I := I) (j := j) (v := v) (y := y.toNat)
  exact ⟨by rw [pa_len]; exact a1, b1.trans a2, by rw [b2]; exact a3, by rw [on_pt]; exact a4, by rw [on_pt]; exact a5⟩
theorem tJ_pre {y : Int} (g : tJ u H D I h d y) (hp : ∃ L : List pz_I, M = I ++ L) (e : ∀ p : Nat, p ≤ (on u I).length → H2 p = H p ∧ D2 p = D p) : tJ u H2 D2 M h d y := by
  obtain ⟨L, rfl⟩ := hp
  obtain ⟨a1, a2, a3, a4, a5⟩ := g
  have t : (I ++ L).take y.toNat = I.take y.toNat := List.take_append_of_le_length (by omega)
  have l : (on u (I.take y.toNat)).length ≤ (on u I).length := by
    conv => rhs; rw [← List.take_append_drop y.toNat I]
    rw [on_add, List.length_append]; omega
  refine ⟨by rw [List.length_append]; omega, by rw [gD_a _ _ a1]; exact a2, by rw [gD_a _ _ a1]; exact a3, ?_, ?_⟩
  · rw [t, (e _ l).1]; exact a4
  · rw [t, (e _ l).2]; exact a5
theorem TS_Qm (g : TS nn nx f u Q H D I F h d) (e : ∀ p : Nat, Q p → Q2 p) (e2 : ∀ p : Nat, Q2 p → p < (on u I).length) : TS nn nx f u Q2 H D I F h d := by
  obtain ⟨a1, a2, a3, a4, a5⟩ := g
  exact ⟨a1, a2, tyd_Q a3 (fun p _ => e p), a4, e2⟩
/-- all jumps of a choice are aimed -/
theorem TS_aa : ∀ (J : List Int) (M : List pz_I) (Q2 : Nat → Prop), TS nn nx f u Q2 H D M F h d → v = pz_h M u → (∀ y ∈ J, tJ u H D M h d y) → (∀ p : Nat, Q2 p → (∀ y ∈ J, p ≠ (on u (M.take y.toNat)).length) → Q p) → (∀ p : Nat, Q p → p < (on u M).length) → TS nn nx f u Q H D (pz_aa M v J) F h d
  | [], M, Q2, g, _, _, hq, hq2 => TS_Qm g (fun p q => hq p q (fun y hy => absurd hy List.not_mem_nil)) hq2
  | j :: J, M, Q2, g, hv, hJ, hq, hq2 => by
    obtain ⟨a1, a2, a3, a4, a5⟩ := hJ j (List.mem_cons_self ..)
    have g2 : TS nn nx f u (fun p => Q2 p ∧ p ≠ (on u (M.take j.toNat)).length) H D (pz_a M j.toNat v) F h d := by
      rw [hv]
      exact TS_pi g a1 a3 (by rw [a2]; unfold tjm; decide) (by rw [a2, a4]; show h + 0 = h; omega) a5 (fun p q1 q2 => ⟨q1, q2⟩) (fun p q => g.2.2.2.2 p q.1)
    exact TS_aa J (pz_a M j.toNat v) _ g2 (by rw [ph_pl]; exact hv) (fun y hy => tJ_pa (hJ y (List.mem_cons_of_mem _ hy))) (fun p q1 q2 => hq p q1.1 (fun y hy => by
      rcases List.mem_cons.mp hy with r | r
      · rw [r]; exact q1.2
      · have := q2 y r
        rw [on_pt] at this
        exact this)) (fun p q => by rw [on_pl]; exact hq2 p q)
theorem aa_app : ∀ (J : List Int) (I : List pz_I), (∀ y ∈ J, y.toNat < I.length) → pz_aa (I ++ L) v J = pz_aa I v J ++ L
  | [], _, _ => rfl
  | j :: J, I, hJ => by
    show pz_aa (pz_a (I ++ L) j.toNat v) v J = pz_aa (pz_a I j.toNat v) v J ++ L
    rw [pa_lft (hJ j (List.mem_cons_self ..))]
    exact aa_app J _ (fun y hy => by rw [pa_len]; exact hJ y (List.mem_cons_of_mem _ hy))
theorem aa_on {w : Int} (hw : w ≠ u) : ∀ (J : List Int) (I : List pz_I), (∀ y ∈ J, tJ u H D I h d y) → on w (pz_aa I v J) = on w I
  | [], _, _ => rfl
  | j :: J, I, hJ => by
    show on w (pz_aa (pz_a I j.toNat v) v J) = _
    obtain ⟨a1, -, a3, -⟩ := hJ j (List.mem_cons_self ..)
    rw [aa_on hw J _ (fun y hy => tJ_pa (hJ y (List.mem_cons_of_mem _ hy)))]
    exact on_pw a1 (by rw [a3]; omega)
/-- what has stayed, but for the list's beginning -/
def TR (nn nx f u : Int) (I : List pz_I) (F : List pz_F) (H D : Nat → Int) (I2 : List pz_I) (F2 : List pz_F) (H2 D2 : Nat → Int) : Prop := tyE F F2 ∧ (∀ w : Int, w ≠ u → w < f + (F.length : Int) → on w I2 = on w I) ∧ (∀ k : Nat, F.length ≤ k → k < F2.length → tyF nn nx f F2 (on (f + (k : Int)) I2)) ∧ ∀ p : Nat, p ≤ (on u I).length → H2 p = H p ∧ D2 p = D p
theorem TR_tr (hu : u < f + (F.length : Int)) (hl : (on u I).length ≤ (on u I1).length) (h : TR nn nx f u I F H D I1 F1 H1 D1) (g : TR nn nx f u I1 F1 H1 D1 I2 F2 H2 D2) : TR nn nx f u I F H D I2 F2 H2 D2 := by
  obtain ⟨a2, a3, a4, a5⟩ := h
  obtain ⟨b2, b3, b4, b5⟩ := g
  have hF := a2.1
  refine ⟨tyE_tr a2 b2, fun w w1 w2 => (b3 w w1 (by omega)).trans (a3 w w1 w2), fun k k1 k2 => ?_, fun p hp => ?_⟩
  · by_cases e : k < F1.length
    · rw [b3 (f + (k : Int)) (by omega) (by omega)]
      exact tyF_mo (a4 k k1 e) b2
    · exact b4 k (by omega) k2
  · obtain ⟨c1, c2⟩ := b5 p (by omega)
    obtain ⟨c3, c4⟩ := a5 p hp
    exact ⟨c1.trans c3, c2.trans c4⟩
theorem TR_aa (hu : u < f + (F0.length : Int)) (g : TR nn nx f u I0 F0 H0 D0 I F H D) (hJ : ∀ y ∈ J, tJ u H D I h d y) : TR nn nx f u I0 F0 H0 D0 (pz_aa I v J) F H D := by
  obtain ⟨a2, a3, a4, a5⟩ := g
  exact ⟨a2, fun w w1 w2 => (aa_on w1 J I hJ).trans (a3 w w1 w2), fun k k1 k2 => by rw [aa_on (by omega) J I hJ]; exact a4 k k1 k2, a5⟩
/-- a choice's rest -/
def T3 (nn nx f dp u : Int) (J : List Int) (I : List pz_I) (F : List pz_F) (I2 : List pz_I) (F2 : List pz_F) : Prop := ∀ (Q : Nat → Prop) (H D : Nat → Int) (h d : Int), h = 0 → TS nn nx f u Q H D I F h d → d ≤ dp → (∀ y ∈ J, tJ u H D I h d y) → ∃ (v : Int) (H2 D2 : Nat → Int), TS nn nx f u (fun p => Q p ∧ ∀ y ∈ J, p ≠ (on u (I.take y.toNat)).length) H2 D2 I2 F2 h d ∧ (∃ L : List pz_I, I2 = pz_aa I v J ++ L) ∧ TR nn nx f u I F H D I2 F2 H2 D2
/-- a statement's run: nothing lies on the pile -/
def TZ (nn nx f dp u : Int) (I : List pz_I) (F : List pz_F) (I2 : List pz_I) (F2 : List pz_F) : Prop := ∀ (Q : Nat → Prop) (H D : Nat → Int) (d : Int), TS nn nx f u Q H D I F 0 d → d ≤ dp → ∃ H2 D2 : Nat → Int, TS nn nx f u Q H2 D2 I2 F2 0 d ∧ TG nn nx f u I F H D I2 F2 H2 D2
theorem TZ_of (a : TT nn nx f 0 0 dp u I F I2 F2) : TZ nn nx f dp u I F I2 F2 := fun Q H D d g gd => a Q H D 0 d g gd (Int.le_refl _)
theorem TZ_tr (a : TZ nn nx f dp u I F I1 F1) (b : TZ nn nx f dp u I1 F1 I2 F2) : TZ nn nx f dp u I F I2 F2 := fun Q H D d g gd => by
  obtain ⟨H1, D1, g1, t1⟩ := a Q H D d g gd
  obtain ⟨H2, D2, g2, t2⟩ := b Q H1 D1 d g1 gd
  exact ⟨H2, D2, g2, TG_tr g.1.2 t1 t2⟩
theorem TZ_3 (a : T3 nn nx f dp u [] I F I2 F2) : TZ nn nx f dp u I F I2 F2 := fun Q H D d g gd => by
  obtain ⟨v, H2, D2, g2, t2⟩ := a Q H D 0 d rfl g gd (fun y hy => absurd hy List.not_mem_nil)
  refine ⟨H2, D2, ?_, t2⟩
  exact TS_Qm g2 (fun p q => q.1) (fun p q => g2.2.2.2.2 p ⟨q, fun y hy => absurd hy List.not_mem_nil⟩)
/-- how the grammar keeps the heights -/
def RT (nn nx f : Int) : pz_R := fun k x J _ dp u I F o => ∀ (i2 : Nat) (I2 : List pz_I) (F2 : List pz_F) (t : Int), o = .inr (i2, I2, F2, t) → match k with
  | 3 => T3 nn nx f dp u J I F I2 F2
  | 4 => TT nn nx f 1 0 dp u I F I2 F2
  | 5 => T5 nn nx f dp u I F I2 F2 t
  | 6 => T6 nn nx f dp u I F I2 F2 (J.headD 0) t
  | 7 => T5 nn nx f dp u I F I2 F2 t
  | 8 => T5 nn nx f dp u I F I2 F2 t
  | 9 => T5 nn nx f dp u I F I2 F2 t
  | 10 => T6 nn nx f dp u I F I2 F2 (J.headD 0) t
  | 11 => (0 ≤ x ∧ x ≤ 8) → (x < t ∧ t ≤ 8) ∧ TT nn nx f (t - x) 0 dp u I F I2 F2
  | 12 => 0 ≤ x → x < t ∧ TT nn nx f (t - x) 0 dp u I F I2 F2
  | 13 => TT nn nx f 0 1 dp u I F I2 F2
  | 14 => TT nn nx f 0 1 dp u I F I2 F2
  | 2 => TT nn nx f 0 0 dp u I F I2 F2
  | _ => TZ nn nx f dp u I F I2 F2
theorem bk_T (h : pz_bk K P (RT nn nx f) i dp u I F (.inr (i2, I2, F2, t))) : TZ nn nx f (dp + 1) u I F I2 F2 ∧ dp < 50 := by
  unfold pz_bk at h
  obtain ⟨a, b, c, d, h1, h2⟩ := q_r h
  obtain ⟨a2, b2, c2, d2, h3, h4⟩ := q_r h2
  obtain ⟨rfl, rfl, hd⟩ := op_T h1
  obtain ⟨rfl, rfl⟩ := tk_T h4
  exact ⟨h3 _ _ _ _ rfl, hd⟩
theorem cd_T (h : pz_cd K P (RT nn nx f) i dp u I F (.inr (i2, I2, F2, t))) : TT nn nx f 1 0 (dp + 1) u I F I2 F2 := by
  unfold pz_cd at h
  obtain ⟨a, b, c, d, h1, h2⟩ := q_r h
  obtain ⟨a2, b2, c2, d2, h3, h4⟩ := q_r h2
  obtain ⟨rfl, rfl, hd⟩ := op_T h1
  obtain ⟨rfl, rfl⟩ := tk_T h4
  exact h3 _ _ _ _ rfl
theorem el_T (h : pz_el K P (RT nn nx f) i dp u I F (.inr (i2, I2, F2, t))) : ∃ I0 : List pz_I, I2 = I0 ++ [(27, 2, -1, u)] ∧ TT nn nx f 1 0 (dp + 1) u I F I0 F2 := by
  unfold pz_el at h
  obtain ⟨a, b, c, d, h1, h2⟩ := q_r h
  obtain ⟨a2, b2, c2, d2, h3, h4⟩ := q_r h2
  obtain ⟨rfl, rfl, hd⟩ := op_T h1
  obtain ⟨rfl, rfl⟩ := tk_T h4
  exact ⟨b2, rfl, h3 _ _ _ _ rfl⟩
theorem es_T (h : pz_es K P (RT nn nx f) i dp u I F (.inr (i2, I2, F2, t))) : (0 ≤ t ∧ t ≤ 8) ∧ TT nn nx f t 0 (dp + 1) u I F I2 F2 := by
  unfold pz_es at h
  obtain ⟨a, b, c, d, h1, h2⟩ := q_r h
  obtain ⟨rfl, rfl, hd⟩ := op_T h1
  by_cases e2 : K a = 11
  · rw [if_pos e2] at h2
    have := inr_e h2
    simp at this
    obtain ⟨-, rfl, rfl, rfl⟩ := this
    exact ⟨by decide, TT_rfl⟩
  · rw [if_neg e2] at h2
    obtain ⟨h3, h4⟩ := h2 _ _ _ _ rfl (by decide)
    exact ⟨by omega, TT_e h4 (by omega)⟩
theorem r2_T (h : (RT nn nx f) 2 x J i dp u I F (.inr (i2, I2, F2, t))) : TT nn nx f 0 0 dp u I F I2 F2 := h _ _ _ _ rfl
theorem r0_T (h : (RT nn nx f) 0 x J i dp u I F (.inr (i2, I2, F2, t))) : TZ nn nx f dp u I F I2 F2 := h _ _ _ _ rfl
/-- a whole function -/
theorem fn_T (h : pz_fn K P f (RT nn nx f) i dp u I F (.inr (i2, I2, F2, t))) : t = f + (F.length : Int) ∧ (F.length < F2.length ∧ (F2.getD F.length (-1, 0, [])).1 = u ∨ ¬ (f ≤ u ∧ u < f + (F.length : Int) ∧ ∀ y ∈ I, y.2.2.2 < f + (F.length : Int)) ∨ dp < 0) ∧ TT nn nx f 0 0 dp u I F I2 F2 := by
  unfold pz_fn at h
  obtain ⟨a, b, c, d, h1, h2⟩ := q_r h
  obtain ⟨rfl, rfl, hd⟩ := op_T h1
  obtain ⟨a2, b2, c2, d2, h3, h4⟩ := q_r h2
  have r2 : TT nn nx f 0 0 dp (f + (F.length : Int)) b (F ++ [(u, 0, [])]) b2 c2 := by
    by_cases e3 : K a = 11
    · have h5 : (if K a = 11 then (Sum.inr (a2, b2, c2, d2) : pz_O) = .inr (a, b, F ++ [(u, 0, [])], 0) else (RT nn nx f) 2 0 [] a dp (f + F.length) b (F ++ [(u, 0, [])]) (.inr (a2, b2, c2, d2))) := h3
      rw [if_pos e3] at h5
      have := inr_e h5
      simp at this
      obtain ⟨-, rfl, rfl, -⟩ := this
      exact TT_rfl
    · have h5 : (if K a = 11 then (Sum.inr (a2, b2, c2, d2) : pz_O) = .inr (a, b, F ++ [(u, 0, [])], 0) else (RT nn nx f) 2 0 [] a dp (f + F.length) b (F ++ [(u, 0, [])]) (.inr (a2, b2, c2, d2))) := h3
      rw [if_neg e3] at h5
      exact r2_T h5
  obtain ⟨a3, b3, c3, d3, h5, h6⟩ := q_r h4
  obtain ⟨rfl, rfl⟩ := tk_T h5
  obtain ⟨a4, b4, c4, d4, h7, h8⟩ := q_r h6
  obtain ⟨rfl, rfl, -⟩ := op_T h7
  obtain ⟨a5, b5, c5, d5, h9, h10⟩ := q_r h8
  obtain ⟨a6, b6, c6, d6, h11, h12⟩ := q_r h10
  obtain ⟨rfl, rfl⟩ := tk_T h11
  have := inr_e h12
  simp only [Prod.mk.injEq] at this
  obtain ⟨-, rfl, rfl, rfl⟩ := this
  have r0 := r0_T h9
  have rr := TT_tr (dp2 := dp + 1) r2 (TT_F (m := 0) (tyE_p (f := f) (u := f + (F.length : Int))).1 (tyE_p (f := f) (u := f + (F.length : Int))).2) (Or.inr (Int.le_refl _)) (by omega)
  have hF1 : (F ++ [((u, 0, []) : pz_F)]).length = F.length + 1 := by rw [List.length_append]; rfl
  have hgd : ((F ++ [((u, 0, []) : pz_F)]).getD F.length (-1, 0, [])).1 = u := by rw [List.getD_eq_getElem?_getD, List.getElem?_append_right (Nat.le_refl _), Nat.sub_self]; rfl
  have key : (f ≤ u ∧ u < f + (F.length : Int) ∧ ∀ y ∈ b, y.2.2.2 < f + (F.length : Int)) → 0 ≤ dp → ∃ H2 D2 : Nat → Int, TS nn nx f (f + (F.length : Int)) (fun _ => False) H2 D2 b6 F2 0 0 ∧ TG nn nx f (f + (F.length : Int)) b (F ++ [(u, 0, [])]) (fun _ => 0) (fun _ => 0) b6 F2 H2 D2 := by
    intro hu hdp
    have h0 : on (f + (F.length : Int)) b = [] := on_e hu.2.2
    have g0 : TS nn nx f (f + (F.length : Int)) (fun _ => False) (fun _ => 0) (fun _ => 0) b (F ++ [(u, 0, [])]) 0 0 := by
      refine ⟨⟨by omega, by rw [hF1]; omega⟩, fun y hy => by have := hu.2.2 y hy; rw [hF1]; omega, ?_, ⟨rfl, rfl⟩, fun p q => False.elim q⟩
      rw [h0]
      exact ⟨fun _ _ => ⟨Int.le_refl _, Int.le_refl _, by show (0 : Int) ≤ 50; decide⟩, fun p hp => absurd hp (Nat.not_lt_zero _)⟩
    obtain ⟨H1, D1, g1, t1⟩ := rr _ _ _ 0 0 g0 (by omega) (Int.le_refl _)
    obtain ⟨H2, D2, g2, t2⟩ := r0 _ H1 D1 0 g1 (by omega)
    exact ⟨H2, D2, g2, TG_tr g0.1.2 t1 t2⟩
  refine ⟨rfl, ?_, fun Q H D h d g gd gm => ?_⟩
  · by_cases e : (f ≤ u ∧ u < f + (F.length : Int) ∧ ∀ y ∈ b, y.2.2.2 < f + (F.length : Int))
    · by_cases e2 : 0 ≤ dp
      · obtain ⟨H2, D2, -, t2⟩ := key e e2
        have e3 := t2.2.1
        rw [tyE, hF1] at e3
        exact Or.inl ⟨by omega, (e3.2 F.length (by omega)).trans hgd⟩
      · exact Or.inr (Or.inr (by omega))
    · exact Or.inr (Or.inl e)
  · have hnn := TS_nn g
    obtain ⟨H2, D2, g2, t2⟩ := key ⟨g.1.1, g.1.2, g.2.1⟩ (by omega)
    have h0 : on (f + (F.length : Int)) b = [] := on_e g.2.1
    have hty := tyF_mk g2 ⟨(t2.2.2.2.2 0 (Nat.zero_le _)).1, (t2.2.2.2.2 0 (Nat.zero_le _)).2⟩
    have e3 := t2.2.1
    have eF : tyE F F2 := by
      refine tyE_tr ⟨by rw [hF1]; omega, fun k hk => ?_⟩ e3
      rw [List.getD_eq_getElem?_getD, List.getElem?_append_left hk, ← List.getD_eq_getElem?_getD]
    rw [tyE, hF1] at e3
    have hw : ∀ w : Int, w ≠ f + (F.length : Int) → on w (b6 ++ [(0, 0, 0, f + (F.length : Int))] ++ [(29, 0, 0, f + (F.length : Int))]) = on w b6 := fun w hw => (on_0 (z := (29, 0, 0, f + (F.length : Int))) (fun q => hw q.symm)).trans (on_0 (z := (0, 0, 0, f + (F.length : Int))) (fun q => hw q.symm))
    have hwb : ∀ w : Int, w ≠ f + (F.length : Int) → w < f + (F.length : Int) → on w b6 = on w b := fun w w1 w2 => t2.2.2.1 w w1 (by rw [hF1]; omega)
    have hub : on u (b6 ++ [(0, 0, 0, f + (F.length : Int))] ++ [(29, 0, 0, f + (F.length : Int))]) = on u b := (hw u (by have := g.1.2; omega)).trans (hwb u (by have := g.1.2; omega) g.1.2)
    refine ⟨H, D, ?_, ⟨?_, eF, fun w w1 w2 => (hw w (by omega)).trans (hwb w (by omega) w2), fun k k1 k2 => ?_, fun _ _ => ⟨rfl, rfl⟩⟩⟩
    · rw [Int.add_zero]
      obtain ⟨c1, c2, c3, c4, c5⟩ := g
      refine ⟨⟨c1.1, by have := eF.1; omega⟩, fun y hy => ?_, ?_, ?_, ?_⟩
      · rcases List.mem_append.mp hy with q | q
        · rcases List.mem_append.mp q with q | q
          · exact g2.2.1 y q
          · rw [List.mem_singleton.mp q]; exact g2.1.2
        · rw [List.mem_singleton.mp q]; exact g2.1.2
      · rw [hub]; exact tyd_mo c3 eF
      · rw [hub]; exact c4
      · rw [hub]; exact c5
    · obtain ⟨L, hL⟩ := t2.1
      exact ⟨L ++ [(0, 0, 0, f + (F.length : Int))] ++ [(29, 0, 0, f + (F.length : Int))], by rw [hL, List.append_assoc, List.append_assoc, List.append_assoc]⟩
    · by_cases e : k = F.length
      · rw [e]; exact hty
      · rw [hw _ (by omega)]
        exact t2.2.2.2.1 k (by rw [hF1]; omega) k2
end Wd7
