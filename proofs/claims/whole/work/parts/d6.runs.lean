/-! PART d6: runs that keep the heights. -/
section Wd6
variable {K V P : Nat → Int} {f u dp dp2 x t t0 v l h h2 d nn nx m m2 e1 e2 : Int} {J : List Int} {i i2 j p n b : Nat} {I I0 I1 I2 I3 L X Y : List pz_I} {F F0 F1 F2 F3 : List pz_F} {o : pz_O} {z w : pz_I} {Q Q2 : Nat → Prop} {H H0 H1 H2 H3 D D0 D1 D2 D3 : Nat → Int}
theorem sp_at (hj : j < I.length) : I = I.take j ++ I.getD j (0, 0, 0, 0) :: I.drop (j + 1) ∧ (I.take j).length = j := by
  refine ⟨?_, by rw [List.length_take]; omega⟩
  rw [List.getD_eq_getElem?_getD, List.getElem?_eq_getElem hj]
  show I = I.take j ++ I[j] :: I.drop (j + 1)
  rw [List.getElem_cons_drop, List.take_append_drop]
/-- a jump is aimed, by its index -/
theorem TS_pi (g : TS nn nx f u Q2 H D I F h d) (hl : j < I.length) (hz : (I.getD j (0, 0, 0, 0)).2.2.2 = u) (hjm : tjm (I.getD j (0, 0, 0, 0)).1) (hj : H (on u (I.take j)).length + tdj (I.getD j (0, 0, 0, 0)).1 = h) (hd : D (on u (I.take j)).length = d) (hQ : ∀ p : Nat, Q2 p → p ≠ (on u (I.take j)).length → Q p) (hQ2 : ∀ p : Nat, Q p → p < (on u I).length) : TS nn nx f u Q H D (pz_a I j (pz_h I u)) F h d := by
  obtain ⟨a1, a2⟩ := sp_at hl
  have e : pz_a I j (pz_h I u) = I.take j ++ ((I.getD j (0, 0, 0, 0)).1, pz_h I u, (I.getD j (0, 0, 0, 0)).2.2) :: I.drop (j + 1) := by
    have := pa_m (I1 := I.take j) (z := I.getD j (0, 0, 0, 0)) (L := I.drop (j + 1)) (pz_h I u)
    rw [← a1, a2] at this
    exact this
  have g2 : TS nn nx f u Q2 H D (I.take j ++ I.getD j (0, 0, 0, 0) :: I.drop (j + 1)) F h d := by rw [← a1]; exact g
  have := TS_pa (Q := Q) g2 hz hjm hj hd hQ (by rw [← a1]; exact hQ2)
  rw [← a1] at this
  rw [e]
  exact this
theorem on_pw {w : Int} (hl : j < I.length) (hz : (I.getD j (0, 0, 0, 0)).2.2.2 ≠ w) : on w (pz_a I j v) = on w I := by
  obtain ⟨a1, a2⟩ := sp_at hl
  have e : pz_a I j v = I.take j ++ ((I.getD j (0, 0, 0, 0)).1, v, (I.getD j (0, 0, 0, 0)).2.2) :: I.drop (j + 1) := by
    have := pa_m (I1 := I.take j) (z := I.getD j (0, 0, 0, 0)) (L := I.drop (j + 1)) v
    rw [← a1, a2] at this
    exact this
  rw [e]
  conv => rhs; rw [a1]
  rw [on_add, on_add, on_not (z := ((I.getD j (0, 0, 0, 0)).1, v, (I.getD j (0, 0, 0, 0)).2.2)) hz, on_not hz]
theorem pa_len : (pz_a I j v).length = I.length := List.length_set
theorem pa_app (hj : I.length ≤ j) : pz_a (I ++ L) j v = I ++ pz_a L (j - I.length) v := by
  unfold pz_a
  rw [List.set_append_right _ _ hj]
  have e : (I ++ L).getD j (0, 0, 0, 0) = L.getD (j - I.length) (0, 0, 0, 0) := by rw [List.getD_eq_getElem?_getD, List.getElem?_append_right hj, ← List.getD_eq_getElem?_getD]
  rw [e]
theorem pa_lft (hj : j < I.length) : pz_a (I ++ L) j v = pz_a I j v ++ L := by
  unfold pz_a
  rw [List.set_append_left _ _ hj, gD_a _ _ hj]
theorem TG_pi (g : TG nn nx f u I0 F0 H0 D0 I F H D) (hl : j < I.length) (h0 : I0.length ≤ j) (hz : (I.getD j (0, 0, 0, 0)).2.2.2 = u) (hu : u < f + (F0.length : Int)) : TG nn nx f u I0 F0 H0 D0 (pz_a I j v) F H D := by
  obtain ⟨⟨L, a1⟩, a2, a3, a4, a5⟩ := g
  refine ⟨⟨pz_a L (j - I0.length) v, by rw [a1, pa_app h0]⟩, a2, fun w w1 w2 => (on_pw hl (by rw [hz]; omega)).trans (a3 w w1 w2), fun k k1 k2 => ?_, a5⟩
  rw [on_pw hl (by rw [hz]; omega)]
  exact a4 k k1 k2
/-- a run: so much higher, from at least m -/
def TT (nn nx f e m dp u : Int) (I : List pz_I) (F : List pz_F) (I2 : List pz_I) (F2 : List pz_F) : Prop := ∀ (Q : Nat → Prop) (H D : Nat → Int) (h d : Int), TS nn nx f u Q H D I F h d → d ≤ dp → m ≤ h → ∃ H2 D2 : Nat → Int, TS nn nx f u Q H2 D2 I2 F2 (h + e) d ∧ TG nn nx f u I F H D I2 F2 H2 D2
theorem TT_rfl : TT nn nx f 0 m dp u I F I F := fun Q H D h d g _ _ => ⟨H, D, by rw [Int.add_zero]; exact g, TG_rfl⟩
theorem TT_tr (a : TT nn nx f e1 m dp u I F I1 F1) (b : TT nn nx f e2 m2 dp2 u I1 F1 I2 F2) (hm : m2 ≤ m + e1 ∨ m2 ≤ 0) (hd : dp ≤ dp2) : TT nn nx f (e1 + e2) m dp u I F I2 F2 := fun Q H D h d g gd gm => by
  obtain ⟨H1, D1, g1, t1⟩ := a Q H D h d g gd gm
  obtain ⟨H2, D2, g2, t2⟩ := b Q H1 D1 _ d g1 (by omega) (by have := (TS_nn g1).1; omega)
  exact ⟨H2, D2, by rw [← Int.add_assoc]; exact g2, TG_tr g.1.2 t1 t2⟩
theorem TT_e (a : TT nn nx f e1 m dp u I F I2 F2) (he : e1 = e2) : TT nn nx f e2 m dp u I F I2 F2 := he ▸ a
theorem TT_m (a : TT nn nx f e1 m dp u I F I2 F2) (hm : m ≤ m2 ∨ m ≤ 0) (hd : dp2 ≤ dp) : TT nn nx f e1 m2 dp2 u I F I2 F2 := fun Q H D h d g gd gm => a Q H D h d g (by omega) (by have := (TS_nn g).1; omega)
/-- an instruction more -/
theorem TT_a {o A B : Int} (hj : ¬ tjm o) (hn : tne o A ≤ m) (hh : tde o A = e1) (h0 : 0 ≤ m + e1) (hd : tdd o = 0) (hs : tsI nn nx f F o A B u) (h29 : o ≠ 29 := by first | decide | omega) : TT nn nx f e1 m dp u I F (I ++ [(o, A, B, u)]) F := fun Q H D h d g gd gm => by
  obtain ⟨H2, D2, g2, t2⟩ := TS_a (z := (o, A, B, u)) (h2 := h + e1) g rfl hj (show tne o A ≤ h by omega) (show h + tde o A = h + e1 by rw [hh]) (by omega) hd hs (fun q => absurd q h29)
  exact ⟨H2, D2, g2, t2⟩
/-- behind a run -/
theorem TT_x {o A B : Int} (a : TT nn nx f e1 m dp u I F I1 F1) (hj : ¬ tjm o) (hn : tne o A ≤ m + e1) (hh : tde o A = e2) (h0 : 0 ≤ m + e1 + e2) (hd : tdd o = 0) (hs : tsI nn nx f F1 o A B u) (h29 : o ≠ 29 := by first | decide | omega) : TT nn nx f (e1 + e2) m dp u I F (I1 ++ [(o, A, B, u)]) F1 :=
  TT_tr (dp2 := dp) a (TT_a (m := m + e1) hj hn hh h0 hd hs h29) (Or.inl (Int.le_refl _)) (Int.le_refl _)
theorem TG_F (e : tyE F F2) (hl : F2.length = F.length) : TG nn nx f u I F H D I F2 H D := ⟨⟨[], (List.append_nil I).symm⟩, e, fun _ _ _ => rfl, fun k q1 q2 => absurd q2 (by omega), fun _ _ => ⟨rfl, rfl⟩⟩
theorem TT_F (e : tyE F F2) (hl : F2.length = F.length) : TT nn nx f 0 m dp u I F I F2 := fun Q H D h d g _ _ => ⟨H, D, by rw [Int.add_zero]; exact TS_F g e, TG_F e hl⟩
theorem gDF_set {k a : Nat} {g : pz_F} (hg : g.1 = (F.getD a (-1, 0, [])).1) : ((F.set a g).getD k (-1, 0, [])).1 = (F.getD k (-1, 0, [])).1 := by
  rw [List.getD_eq_getElem?_getD, List.getD_eq_getElem?_getD, List.getElem?_set]
  by_cases e : a = k
  · subst e
    rw [if_pos rfl]
    by_cases q : a < F.length
    · rw [if_pos q]
      show g.1 = _
      rw [hg, List.getD_eq_getElem?_getD]
    · rw [if_neg q, List.getElem?_eq_none (by omega)]
  · rw [if_neg e]
theorem tyE_v {y : Int} : tyE F (pz_v f F u y) ∧ (pz_v f F u y).length = F.length := ⟨⟨by unfold pz_v; rw [List.length_set]; exact Nat.le_refl _, fun k _ => gDF_set rfl⟩, List.length_set⟩
theorem tyE_p : tyE F (pz_p f F u) ∧ (pz_p f F u).length = F.length := ⟨⟨by unfold pz_p; rw [List.length_set]; exact Nat.le_refl _, fun k _ => gDF_set rfl⟩, List.length_set⟩
theorem tk_T {c : Int} (h : (Sum.inr (i2, I2, F2, t) : pz_O) = pz_tk K P c i I F) : I2 = I ∧ F2 = F := by
  unfold pz_tk pz_fa at h
  by_cases e : K i = c
  · rw [if_pos e] at h; have := inr_e h; simp at this; exact ⟨this.2.1, this.2.2.1⟩
  · rw [if_neg e] at h; exact absurd h (by simp)
theorem op_T {c : Int} (h : (Sum.inr (i2, I2, F2, t) : pz_O) = pz_op K P c dp i I F) : I2 = I ∧ F2 = F ∧ dp < 50 := by
  unfold pz_op pz_fa at h
  by_cases e : K i ≠ c
  · rw [if_pos e] at h; exact absurd h (by simp)
  · rw [if_neg e] at h
    by_cases e2 : 50 ≤ dp
    · rw [if_pos e2] at h; exact absurd h (by simp)
    · rw [if_neg e2] at h; have := inr_e h; simp at this; exact ⟨this.2.1, this.2.2.1, by omega⟩
/-- what the words' values are -/
def tV (nn nx : Int) (K V : Nat → Int) : Prop := ∀ i : Nat, (K i = 5 → 0 ≤ V i ∧ V i < nn) ∧ (K i = 3 → 0 ≤ V i ∧ V i < nx)
theorem nm_T (hV : tV nn nx K V) (h : (Sum.inr (i2, I2, F2, t) : pz_O) = pz_nm K V P i I F) : I2 = I ∧ F2 = F ∧ 0 ≤ t ∧ t < nn := by
  unfold pz_nm pz_fa at h
  by_cases e : K i ≠ 5 ∧ K i ≠ 6
  · rw [if_pos e] at h; exact absurd h (by simp)
  · rw [if_neg e] at h
    by_cases e2 : K i = 6
    · rw [if_pos e2] at h; exact absurd h (by simp)
    · rw [if_neg e2] at h; have := inr_e h; simp at this; exact ⟨this.2.1, this.2.2.1, by rw [this.2.2.2]; exact (hV i).1 (by omega)⟩
theorem dc_T (hV : tV nn nx K V) (h : (Sum.inr (i2, I2, F2, t) : pz_O) = pz_dc K V P f i u I F) : I2 = I ∧ (tyE F F2 ∧ F2.length = F.length) ∧ 0 ≤ t ∧ t < nn := by
  unfold pz_dc pz_fa at h
  by_cases e : K i ≠ 5 ∧ K i ≠ 6
  · rw [if_pos e] at h; exact absurd h (by simp)
  rw [if_neg e] at h
  by_cases e2 : K i = 6
  · rw [if_pos e2] at h; exact absurd h (by simp)
  rw [if_neg e2] at h
  have h0 := (hV i).1 (by omega)
  by_cases e3 : (pz_f f F u).1 ≠ -1 ∧ vix (pz_f f F u).2.2 (V i) = -1
  · rw [if_pos e3] at h
    by_cases e4 : (pz_f f F u).2.2.length = 60
    · rw [if_pos e4] at h; exact absurd h (by simp)
    · rw [if_neg e4] at h; have := inr_e h; simp at this; exact ⟨this.2.1, by rw [this.2.2.1]; exact tyE_v, by rw [this.2.2.2]; exact h0⟩
  · rw [if_neg e3] at h; have := inr_e h; simp at this; exact ⟨this.2.1, by rw [this.2.2.1]; exact ⟨tyE_rfl, rfl⟩, by rw [this.2.2.2]; exact h0⟩
/-- what may be assigned to -/
def tl (nn nx f : Int) (b : Nat) (Q : Nat → Prop) (H D : Nat → Int) (I : List pz_I) (F : List pz_F) (u h d t : Int) : Prop := t = 0 ∨ ∃ (I0 : List pz_I) (z : pz_I) (g : Int), I = I0 ++ [z] ∧ b ≤ I0.length ∧ z.2.2.2 = u ∧ TS nn nx f u Q H D I0 F g d ∧ tsI nn nx f F z.1 z.2.1 z.2.2.1 u ∧ ((t = 1 ∧ z.1 = 3 ∧ g = h - 1) ∨ (t = 2 ∧ z.1 = 27 ∧ z.2.1 = 0 ∧ g = h) ∨ (t = 3 ∧ z.1 = 27 ∧ z.2.1 = 2 ∧ g = h + 1))
def T5 (nn nx f dp u : Int) (I : List pz_I) (F : List pz_F) (I2 : List pz_I) (F2 : List pz_F) (t : Int) : Prop := ∀ (Q : Nat → Prop) (H D : Nat → Int) (h d : Int), TS nn nx f u Q H D I F h d → d ≤ dp → ∃ H2 D2 : Nat → Int, TS nn nx f u Q H2 D2 I2 F2 (h + 1) d ∧ TG nn nx f u I F H D I2 F2 H2 D2 ∧ tl nn nx f I.length Q H2 D2 I2 F2 u (h + 1) d t
def T6 (nn nx f dp u : Int) (I : List pz_I) (F : List pz_F) (I2 : List pz_I) (F2 : List pz_F) (t0 t : Int) : Prop := ∀ (Q : Nat → Prop) (H D : Nat → Int) (h d : Int) (b : Nat), b ≤ I.length → TS nn nx f u Q H D I F h d → d ≤ dp → 1 ≤ h → tl nn nx f b Q H D I F u h d t0 → ∃ H2 D2 : Nat → Int, TS nn nx f u Q H2 D2 I2 F2 h d ∧ TG nn nx f u I F H D I2 F2 H2 D2 ∧ tl nn nx f b Q H2 D2 I2 F2 u h d t
theorem T5_0 (a : TT nn nx f 1 0 dp u I F I2 F2) : T5 nn nx f dp u I F I2 F2 0 := fun Q H D h d g gd => by
  obtain ⟨H2, D2, g2, t2⟩ := a Q H D h d g gd (TS_nn g).1
  exact ⟨H2, D2, g2, t2, Or.inl rfl⟩
theorem TT_5 (a : T5 nn nx f dp u I F I2 F2 t) : TT nn nx f 1 0 dp u I F I2 F2 := fun Q H D h d g gd _ => by
  obtain ⟨H2, D2, g2, t2, -⟩ := a Q H D h d g gd
  exact ⟨H2, D2, g2, t2⟩
theorem TG_ln (g : TG nn nx f u I F H D I2 F2 H2 D2) : I.length ≤ I2.length := by
  obtain ⟨⟨L, rfl⟩, -⟩ := g
  rw [List.length_append]; omega
/-- first what may be assigned to, then what stands behind -/
theorem T5_6 (a : T5 nn nx f dp u I F I1 F1 t0) (b : T6 nn nx f dp u I1 F1 I2 F2 t0 t) : T5 nn nx f dp u I F I2 F2 t := fun Q H D h d g gd => by
  obtain ⟨H1, D1, g1, t1, l1⟩ := a Q H D h d g gd
  obtain ⟨H2, D2, g2, t2, l2⟩ := b Q H1 D1 (h + 1) d I.length (TG_ln t1) g1 gd (by have := (TS_nn g).1; omega) l1
  exact ⟨H2, D2, g2, TG_tr g.1.2 t1 t2, l2⟩
/-- a run, then what stands behind -/
theorem T6_0 (a : TT nn nx f 0 1 dp u I F I1 F1) (b : T6 nn nx f dp u I1 F1 I2 F2 0 t) : T6 nn nx f dp u I F I2 F2 t0 t := fun Q H D h d b0 hb g gd g1 _ => by
  obtain ⟨H1, D1, g2, t1⟩ := a Q H D h d g gd g1
  rw [Int.add_zero] at g2
  obtain ⟨H2, D2, g3, t2, l2⟩ := b Q H1 D1 h d b0 (Nat.le_trans hb (TG_ln t1)) g2 gd g1 (Or.inl rfl)
  exact ⟨H2, D2, g3, TG_tr g.1.2 t1 t2, l2⟩
theorem T6_rfl : T6 nn nx f dp u I F I F t t := fun Q H D h d b _ g _ _ q => ⟨H, D, g, TG_rfl, q⟩
/-- a run, one more that may be assigned to, then what stands behind -/
theorem T6_z {A B : Int} (hd : dp ≤ dp2) (a : TT nn nx f e1 1 dp2 u I F I1 F1) (he : (e1 = 0 ∧ t0 = 2 ∧ A = 0) ∨ (e1 = 1 ∧ t0 = 3 ∧ A = 2)) (hs : tsI nn nx f F1 27 A B u) (b : T6 nn nx f dp u (I1 ++ [(27, A, B, u)]) F1 I2 F2 t0 t) {s0 : Int} : T6 nn nx f dp u I F I2 F2 s0 t := fun Q H D h d b0 hb g gd g1 _ => by
  obtain ⟨H1, D1, g2, t1⟩ := a Q H D h d g (by omega) g1
  have hA : tes A = e1 := by
    rcases he with ⟨q, -, rfl⟩ | ⟨q, -, rfl⟩ <;> rw [q] <;> decide
  obtain ⟨H2, D2, g3, t2⟩ := TS_a (z := (27, A, B, u)) (h2 := h) g2 rfl (show ¬ tjm 27 by unfold tjm; decide) (show tes A + 1 ≤ h + e1 by omega) (show h + e1 + -(tes A) = h by omega) (by omega) rfl hs
  have hx := TS_cg g2 t2.2.2.2.2
  obtain ⟨H3, D3, g4, t3, l3⟩ := b Q H2 D2 h d b0 (by have := TG_ln t1; rw [List.length_append]; omega) g3 gd g1 (Or.inr ⟨I1, (27, A, B, u), h + e1, rfl, by have := TG_ln t1; omega, rfl, hx, hs, by
    rcases he with ⟨q, q2, q3⟩ | ⟨q, q2, q3⟩
    · exact Or.inr (Or.inl ⟨q2, rfl, q3, by omega⟩)
    · exact Or.inr (Or.inr ⟨q2, rfl, q3, by omega⟩)⟩)
  exact ⟨H3, D3, g4, TG_tr g.1.2 (TG_tr g.1.2 t1 t2) t3, l3⟩
end Wd6
