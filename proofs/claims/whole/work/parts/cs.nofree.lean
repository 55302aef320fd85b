/-! PART cs: no jump stays free in a unit. -/
section Wcs
variable {K V P : Nat → Int} {f u dp x t t0 v l : Int} {J : List Int} {i i2 j : Nat} {I I2 I3 L : List pz_I} {F F2 : List pz_F} {o : pz_O} {z : pz_I} {p : pz_O → Prop} {q : pz_O} {k : Nat → List pz_I → List pz_F → Int → pz_O → Prop}
/-- an instruction as one may come: no free jump; which it is; a function's number -/
def nz (g : Int) (x : pz_I) : Prop := x.2.1 ≠ -9 ∧ 0 ≤ x.1 ∧ (x.1 = 24 → g ≤ x.2.1 ∧ x.2.1 < 400) ∧ ((x.1 = 3 ∨ x.1 = 4) → x.2.2.1 = 0) ∧ (x.1 = 27 → 0 ≤ x.2.1 ∧ x.2.1 < 1000)
theorem nzz (h : z.2.1 ≠ -9) (h1 : 0 ≤ z.1 ∧ z.1 ≠ 24 ∧ ((z.1 = 3 ∨ z.1 = 4) → z.2.2.1 = 0) ∧ (z.1 = 27 → 0 ≤ z.2.1 ∧ z.2.1 < 1000)) : nz f z := ⟨h, h1.1, fun q => absurd q h1.2.1, h1.2.2⟩
def nK (f : Int) (L : List pz_I) : Prop := ∀ x ∈ L, nz f x
/-- what has come holds no free jump -/
def n9 (f : Int) (I I2 : List pz_I) : Prop := ∃ L : List pz_I, I2 = I ++ L ∧ nK f L
def n9t (f : Int) (I I2 : List pz_I) (t : Int) : Prop := ∃ L : List pz_I, I2 = I ++ L ∧ nK f L ∧ (t ≠ 0 → L ≠ [])
def n9s (f : Int) (I I2 : List pz_I) (t t0 : Int) : Prop := ∃ L : List pz_I, I2 = I ++ L ∧ nK f L ∧ (t ≠ 0 → L ≠ [] ∨ t = t0)
theorem nK_ap {L L2 : List pz_I} (h : nK f L) (h2 : nK f L2) : nK f (L ++ L2) := fun x hx => by
  rcases List.mem_append.mp hx with q | q
  · exact h x q
  · exact h2 x q
theorem nK_1 (h : nz f z) : nK f [z] := fun x hx => by rw [List.mem_singleton.mp hx]; exact h
theorem nK_nil : nK f [] := fun x hx => absurd hx List.not_mem_nil
theorem n9_rfl : n9 f I I := ⟨[], (List.append_nil I).symm, nK_nil⟩
theorem n9_tr (h : n9 f I I2) (h2 : n9 f I2 I3) : n9 f I I3 := by
  obtain ⟨L, rfl, a⟩ := h
  obtain ⟨L2, rfl, b⟩ := h2
  exact ⟨L ++ L2, List.append_assoc _ _ _, nK_ap a b⟩
theorem n9_ap (h : n9 f I I2) (hz : nz f z) : n9 f I (I2 ++ [z]) := n9_tr h ⟨[z], rfl, nK_1 hz⟩
theorem n9_1 (hz : nz f z) (h : n9 f (I ++ [z]) I2) : n9 f I I2 := n9_tr ⟨[z], rfl, nK_1 hz⟩ h
theorem n9_len (h : n9 f I I2) : I.length ≤ I2.length := by
  obtain ⟨L, rfl, -⟩ := h
  rw [List.length_append]; omega
theorem nK_set {w : pz_I} (h : nK f L) (hw : nz f w) : nK f (L.set j w) := fun x hx => by
  rcases List.mem_or_eq_of_mem_set hx with q | q
  · exact h x q
  · rw [q]; exact hw
theorem n9_gd (h : n9 f (I ++ [z]) I2) : I2.getD I.length (0, 0, 0, 0) = z := by
  obtain ⟨L, rfl, -⟩ := h
  rw [List.getD_eq_getElem?_getD, List.getElem?_append_left (by rw [List.length_append]; exact Nat.lt_succ_self _), ← List.getD_eq_getElem?_getD, gD_r]
theorem n9_lt (h : n9 f (I ++ [z]) I2) : I.length < I2.length := by
  have := n9_len h
  rw [List.length_append] at this
  exact this
theorem n9_pre (h : n9 f I I2) (hj : j < I.length) : I2.getD j (0, 0, 0, 0) = I.getD j (0, 0, 0, 0) := by
  obtain ⟨L, rfl, -⟩ := h
  rw [List.getD_eq_getElem?_getD, List.getElem?_append_left hj, ← List.getD_eq_getElem?_getD]
theorem or_r9 {k : Int} (h : 3 ≤ pz_lv k) : 0 ≤ pz_or k ∧ pz_or k ≠ 24 ∧ pz_or k ≠ 27 := by
  have hk : k = 29 ∨ k = 30 ∨ k = 21 ∨ k = 31 ∨ k = 22 ∨ k = 32 ∨ k = 23 ∨ k = 24 ∨ k = 25 ∨ k = 26 ∨ k = 27 := by
    refine Classical.byContradiction (fun q => ?_)
    unfold pz_lv at h
    repeat' split at h
    all_goals omega
  rcases hk with rfl | rfl | rfl | rfl | rfl | rfl | rfl | rfl | rfl | rfl | rfl <;> decide
theorem n9_aj (h : n9 f I I2) (hj : I.length ≤ j) (hv : 0 ≤ v) (hg : 0 ≤ (I2.getD j (0, 0, 0, 0)).1 ∧ (I2.getD j (0, 0, 0, 0)).1 ≠ 24 ∧ (((I2.getD j (0, 0, 0, 0)).1 = 3 ∨ (I2.getD j (0, 0, 0, 0)).1 = 4) → (I2.getD j (0, 0, 0, 0)).2.2.1 = 0) ∧ (I2.getD j (0, 0, 0, 0)).1 ≠ 27) : n9 f I (pz_a I2 j v) := by
  obtain ⟨L, rfl, a⟩ := h
  unfold pz_a
  rw [List.set_append_right _ _ hj]
  exact ⟨_, rfl, nK_set a (nzz (by show v ≠ -9; omega) ⟨hg.1, hg.2.1, hg.2.2.1, fun q => absurd q hg.2.2.2⟩)⟩
theorem n9_of_t (h : n9t f I I2 t) : n9 f I I2 := ⟨h.choose, h.choose_spec.1, h.choose_spec.2.1⟩
theorem n9_of_s (h : n9s f I I2 t t0) : n9 f I I2 := ⟨h.choose, h.choose_spec.1, h.choose_spec.2.1⟩
theorem n9t_0 (h : n9 f I I2) : n9t f I I2 0 := by
  obtain ⟨L, a, b⟩ := h
  exact ⟨L, a, b, fun q => absurd rfl q⟩
theorem n9t_ap (h : n9 f I I2) (hz : nz f z) : n9t f I (I2 ++ [z]) t := by
  obtain ⟨L, rfl, b⟩ := h
  exact ⟨L ++ [z], List.append_assoc _ _ _, nK_ap b (nK_1 hz), fun _ => by simp⟩
theorem n9s_t (h : n9t f I I2 t0) (h2 : n9s f I2 I3 t t0) : n9t f I I3 t := by
  obtain ⟨L, rfl, a, b⟩ := h
  obtain ⟨L2, rfl, c, d⟩ := h2
  refine ⟨L ++ L2, List.append_assoc _ _ _, nK_ap a c, fun q e => ?_⟩
  obtain ⟨e1, e2⟩ := List.append_eq_nil_iff.mp e
  rcases d q with d | d
  · exact d e2
  · exact b (fun z => q (d.trans z)) e1
/-- what stands behind goes on from something new -/
theorem n9s_n (h : n9t f I I2 l) (h2 : n9s f I2 I3 t l) : n9s f I I3 t t0 := by
  obtain ⟨L, a, b, c⟩ := n9s_t h h2
  exact ⟨L, a, b, fun q => Or.inl (c q)⟩
theorem n9s_rfl : n9s f I I t t := ⟨[], (List.append_nil I).symm, nK_nil, fun _ => Or.inr rfl⟩
theorem q_r (h : pz_q p k (.inr (i2, I2, F2, t))) : ∃ i I F t2, p (.inr (i, I, F, t2)) ∧ k i I F t2 (.inr (i2, I2, F2, t)) := by
  rcases h with ⟨v, a, b⟩ | h
  · exact absurd b (by simp)
  · exact h
theorem inr_e {a b : Nat × List pz_I × List pz_F × Int} (h : (Sum.inr a : pz_O) = .inr b) : a = b := by injection h
theorem tk_I {c : Int} (h : (Sum.inr (i2, I2, F2, t) : pz_O) = pz_tk K P c i I F) : I2 = I := by
  unfold pz_tk pz_fa at h
  by_cases e : K i = c
  · rw [if_pos e] at h; have := inr_e h; simp at this; exact this.2.1
  · rw [if_neg e] at h; exact absurd h (by simp)
theorem op_I {c : Int} (h : (Sum.inr (i2, I2, F2, t) : pz_O) = pz_op K P c dp i I F) : I2 = I := by
  unfold pz_op pz_fa at h
  by_cases e : K i ≠ c
  · rw [if_pos e] at h; exact absurd h (by simp)
  · rw [if_neg e] at h
    by_cases e2 : 50 ≤ dp
    · rw [if_pos e2] at h; exact absurd h (by simp)
    · rw [if_neg e2] at h; have := inr_e h; simp at this; exact this.2.1
theorem nm_I (hV : ∀ i : Nat, K i = 5 → 0 ≤ V i) (h : (Sum.inr (i2, I2, F2, t) : pz_O) = pz_nm K V P i I F) : I2 = I ∧ 0 ≤ t := by
  unfold pz_nm pz_fa at h
  by_cases e : K i ≠ 5 ∧ K i ≠ 6
  · rw [if_pos e] at h; exact absurd h (by simp)
  · rw [if_neg e] at h
    by_cases e2 : K i = 6
    · rw [if_pos e2] at h; exact absurd h (by simp)
    · rw [if_neg e2] at h; have := inr_e h; simp at this; exact ⟨this.2.1, by rw [this.2.2.2]; exact hV i (by omega)⟩
theorem dc_I (hV : ∀ i : Nat, K i = 5 → 0 ≤ V i) (h : (Sum.inr (i2, I2, F2, t) : pz_O) = pz_dc K V P f i u I F) : I2 = I ∧ 0 ≤ t ∧ F2.length = F.length := by
  unfold pz_dc pz_fa at h
  by_cases e : K i ≠ 5 ∧ K i ≠ 6
  · rw [if_pos e] at h; exact absurd h (by simp)
  rw [if_neg e] at h
  by_cases e2 : K i = 6
  · rw [if_pos e2] at h; exact absurd h (by simp)
  rw [if_neg e2] at h
  have h0 := hV i (by omega)
  by_cases e3 : (pz_f f F u).1 ≠ -1 ∧ vix (pz_f f F u).2.2 (V i) = -1
  · rw [if_pos e3] at h
    by_cases e4 : (pz_f f F u).2.2.length = 60
    · rw [if_pos e4] at h; exact absurd h (by simp)
    · rw [if_neg e4] at h; have := inr_e h; simp at this; exact ⟨this.2.1, by rw [this.2.2.2]; exact h0, by rw [this.2.2.1]; unfold pz_v; rw [List.length_set]⟩
  · rw [if_neg e3] at h; have := inr_e h; simp at this; exact ⟨this.2.1, by rw [this.2.2.2]; exact h0, by rw [this.2.2.1]⟩
/-- what has come, by the kind of thing -/
def R9 (f : Int) : pz_R := fun k x J _ _ _ I _ o => ∀ (i2 : Nat) (I2 : List pz_I) (F2 : List pz_F) (t : Int), o = .inr (i2, I2, F2, t) → match k with
  | 2 => I2 = I
  | 3 => (∀ y ∈ J, y.toNat < I.length) → ∃ v : Int, 0 ≤ v ∧ n9 f (pz_aa I v J) I2
  | 5 => n9t f I I2 t
  | 6 => n9s f I I2 t (J.headD 0)
  | 7 => n9t f I I2 t
  | 8 => n9t f I I2 t
  | 9 => n9t f I I2 t
  | 10 => n9s f I I2 t (J.headD 0)
  | 11 => (0 ≤ x ∧ x ≤ 8) → n9 f I I2 ∧ 0 ≤ t ∧ t ≤ 8
  | 12 => 0 ≤ x → n9 f I I2 ∧ 0 ≤ t
  | _ => n9 f I I2
theorem gn_0 (h : (R9 f) 0 x J i dp u I F (.inr (i2, I2, F2, t))) : n9 f I I2 := h _ _ _ _ rfl
theorem gn_1 (h : (R9 f) 1 x J i dp u I F (.inr (i2, I2, F2, t))) : n9 f I I2 := h _ _ _ _ rfl
theorem gn_2 (h : (R9 f) 2 x J i dp u I F (.inr (i2, I2, F2, t))) : I2 = I := h _ _ _ _ rfl
theorem gn_4 (h : (R9 f) 4 x J i dp u I F (.inr (i2, I2, F2, t))) : n9 f I I2 := h _ _ _ _ rfl
theorem gn_5 (h : (R9 f) 5 x J i dp u I F (.inr (i2, I2, F2, t))) : n9t f I I2 t := h _ _ _ _ rfl
theorem gn_6 (h : (R9 f) 6 x [t0] i dp u I F (.inr (i2, I2, F2, t))) : n9s f I I2 t t0 := h _ _ _ _ rfl
theorem gn_7 (h : (R9 f) 7 x J i dp u I F (.inr (i2, I2, F2, t))) : n9t f I I2 t := h _ _ _ _ rfl
theorem gn_8 (h : (R9 f) 8 x J i dp u I F (.inr (i2, I2, F2, t))) : n9t f I I2 t := h _ _ _ _ rfl
theorem gn_9 (h : (R9 f) 9 x J i dp u I F (.inr (i2, I2, F2, t))) : n9t f I I2 t := h _ _ _ _ rfl
theorem gn_10 (h : (R9 f) 10 x [t0] i dp u I F (.inr (i2, I2, F2, t))) : n9s f I I2 t t0 := h _ _ _ _ rfl
theorem gn_11 (hx : 0 ≤ x ∧ x ≤ 8) (h : (R9 f) 11 x J i dp u I F (.inr (i2, I2, F2, t))) : n9 f I I2 ∧ 0 ≤ t ∧ t ≤ 8 := h _ _ _ _ rfl hx
theorem gn_12 (hx : 0 ≤ x) (h : (R9 f) 12 x J i dp u I F (.inr (i2, I2, F2, t))) : n9 f I I2 ∧ 0 ≤ t := h _ _ _ _ rfl hx
theorem gn_13 (h : (R9 f) 13 x J i dp u I F (.inr (i2, I2, F2, t))) : n9 f I I2 := h _ _ _ _ rfl
theorem gn_14 (h : (R9 f) 14 x J i dp u I F (.inr (i2, I2, F2, t))) : n9 f I I2 := h _ _ _ _ rfl
theorem bk_9 (h : pz_bk K P (R9 f) i dp u I F (.inr (i2, I2, F2, t))) : n9 f I I2 := by
  unfold pz_bk at h
  obtain ⟨a, b, c, d, h1, h2⟩ := q_r h
  obtain ⟨a2, b2, c2, d2, h3, h4⟩ := q_r h2
  rw [tk_I h4, ← op_I h1]
  exact gn_0 h3
theorem cd_9 (h : pz_cd K P (R9 f) i dp u I F (.inr (i2, I2, F2, t))) : n9 f I I2 := by
  unfold pz_cd at h
  obtain ⟨a, b, c, d, h1, h2⟩ := q_r h
  obtain ⟨a2, b2, c2, d2, h3, h4⟩ := q_r h2
  rw [tk_I h4, ← op_I h1]
  exact gn_4 h3
theorem el_9 (h : pz_el K P (R9 f) i dp u I F (.inr (i2, I2, F2, t))) : n9t f I I2 x := by
  unfold pz_el at h
  obtain ⟨a, b, c, d, h1, h2⟩ := q_r h
  obtain ⟨a2, b2, c2, d2, h3, h4⟩ := q_r h2
  rw [tk_I h4, ← op_I h1]
  exact n9t_ap (gn_4 h3) (nzz (by show (2 : Int) ≠ -9; decide) (by refine ⟨?_, ?_, fun q => ?_, fun q => ?_⟩ <;> (try dsimp only at *) <;> first | rfl | omega | (split <;> omega) | (exfalso; split at q <;> omega)))
theorem es_9 (h : pz_es K P (R9 f) i dp u I F (.inr (i2, I2, F2, t))) : n9 f I I2 ∧ 0 ≤ t ∧ t ≤ 8 := by
  unfold pz_es at h
  obtain ⟨a, b, c, d, h1, h2⟩ := q_r h
  have e := op_I h1
  subst e
  by_cases e2 : K a = 11
  · rw [if_pos e2] at h2
    have := inr_e h2
    simp at this
    obtain ⟨-, rfl, -, rfl⟩ := this
    exact ⟨n9_rfl, Int.le_refl _, by decide⟩
  · rw [if_neg e2] at h2
    exact gn_11 (by decide) h2
theorem fn_9 (hf : 0 ≤ f) (h : pz_fn K P f (R9 f) i dp u I F (.inr (i2, I2, F2, t))) : n9 f I I2 ∧ 0 ≤ t ∧ t = f + (F.length : Int) := by
  unfold pz_fn at h
  obtain ⟨a, b, c, d, h1, h2⟩ := q_r h
  have e := op_I h1
  subst e
  obtain ⟨a2, b2, c2, d2, h3, h4⟩ := q_r h2
  have e2 : b2 = b := by
    by_cases e3 : K a = 11
    · have h5 : (if K a = 11 then (Sum.inr (a2, b2, c2, d2) : pz_O) = .inr (a, b, c, 0) else (R9 f) 2 0 [] a dp (f + F.length) b c (.inr (a2, b2, c2, d2))) := h3
      rw [if_pos e3] at h5
      have := inr_e h5
      simp at this
      exact this.2.1
    · have h5 : (if K a = 11 then (Sum.inr (a2, b2, c2, d2) : pz_O) = .inr (a, b, c, 0) else (R9 f) 2 0 [] a dp (f + F.length) b c (.inr (a2, b2, c2, d2))) := h3
      rw [if_neg e3] at h5
      exact gn_2 h5
  subst e2
  obtain ⟨a3, b3, c3, d3, h5, h6⟩ := q_r h4
  have e3 := tk_I h5
  subst e3
  obtain ⟨a4, b4, c4, d4, h7, h8⟩ := q_r h6
  have e4 := op_I h7
  subst e4
  obtain ⟨a5, b5, c5, d5, h9, h10⟩ := q_r h8
  obtain ⟨a6, b6, c6, d6, h11, h12⟩ := q_r h10
  have e6 := tk_I h11
  subst e6
  have := inr_e h12
  simp at this
  obtain ⟨-, rfl, -, rfl⟩ := this
  refine ⟨?_, by omega, rfl⟩
  have := n9_ap (n9_ap (gn_0 h9) (z := (0, 0, 0, f + F.length)) (nzz (by show (0 : Int) ≠ -9; decide) (by refine ⟨?_, ?_, fun q => ?_, fun q => ?_⟩ <;> (try dsimp only at *) <;> first | rfl | omega | (split <;> omega) | (exfalso; split at q <;> omega)))) (z := (29, 0, 0, f + F.length)) (nzz (by show (0 : Int) ≠ -9; decide) (by refine ⟨?_, ?_, fun q => ?_, fun q => ?_⟩ <;> (try dsimp only at *) <;> first | rfl | omega | (split <;> omega) | (exfalso; split at q <;> omega)))
  rw [List.append_assoc] at this
  exact this
theorem c9_SS (h : pz_SS K (R9 f) i dp u I F o) : (R9 f) 0 0 [] i dp u I F o := by
  rintro i2 I2 F2 t rfl
  unfold pz_SS at h
  by_cases c : K i = 0 ∨ K i = 13
  · rw [if_pos c] at h
    have := inr_e h
    simp at this
    obtain ⟨-, rfl, -, -⟩ := this
    exact n9_rfl
  · rw [if_neg c] at h
    obtain ⟨a, b, c, d, h1, h2⟩ := q_r h
    exact n9_tr (gn_1 h1) (gn_0 h2)
theorem c9_ST40 (hV : ∀ i : Nat, K i = 5 → 0 ≤ V i) (h : pz_ST40 K V P f (R9 f) i dp u I F (.inr (i2, I2, F2, t))) : n9 f I I2 := by
  unfold pz_ST40 at h
  obtain ⟨a, b, c, d, h1, h2⟩ := q_r h
  obtain ⟨rfl, hd⟩ := dc_I hV h1
  by_cases e : K a = 20
  · rw [if_pos e] at h2
    obtain ⟨a2, b2, c2, d2, h3, h4⟩ := q_r h2
    rw [tk_I h4]
    exact n9_ap (n9_ap (gn_4 h3) (nzz (by show d ≠ -9; omega) (by refine ⟨?_, ?_, fun q => ?_, fun q => ?_⟩ <;> (try dsimp only at *) <;> first | rfl | omega | (split <;> omega) | (exfalso; split at q <;> omega)))) (nzz (by show (0 : Int) ≠ -9; decide) (by refine ⟨?_, ?_, fun q => ?_, fun q => ?_⟩ <;> (try dsimp only at *) <;> first | rfl | omega | (split <;> omega) | (exfalso; split at q <;> omega)))
  · rw [if_neg e] at h2
    rw [tk_I h2]
    exact n9_rfl
theorem c9_ST41 (hf : 0 ≤ f) (hV : ∀ i : Nat, K i = 5 → 0 ≤ V i) (h : pz_ST41 K V P f (R9 f) i dp u I F (.inr (i2, I2, F2, t))) : n9 f I I2 := by
  unfold pz_ST41 pz_fa at h
  by_cases e : 400 ≤ f + F.length
  · rw [if_pos e] at h; exact absurd h (by simp)
  rw [if_neg e] at h
  obtain ⟨a, b, c, d, h1, h2⟩ := q_r h
  obtain ⟨rfl, hd⟩ := dc_I hV h1
  obtain ⟨a2, b2, c2, d2, h3, h4⟩ := q_r h2
  obtain ⟨h5, h6⟩ := fn_9 hf h3
  have := inr_e h4
  simp only [Prod.mk.injEq] at this
  obtain ⟨-, rfl, -, -⟩ := this
  exact n9_ap (n9_ap (n9_ap h5 ⟨by show d2 ≠ -9; omega, by show (0 : Int) ≤ 24; decide, fun _ => by show f ≤ d2 ∧ d2 < 400; omega, fun _ => rfl, fun q => absurd q (by show ¬ ((24 : Int) = 27); decide)⟩) (nzz (by show d ≠ -9; omega) (by refine ⟨?_, ?_, fun q => ?_, fun q => ?_⟩ <;> (try dsimp only at *) <;> first | rfl | omega | (split <;> omega) | (exfalso; split at q <;> omega)))) (nzz (by show (0 : Int) ≠ -9; decide) (by refine ⟨?_, ?_, fun q => ?_, fun q => ?_⟩ <;> (try dsimp only at *) <;> first | rfl | omega | (split <;> omega) | (exfalso; split at q <;> omega)))
theorem c9_ST44 (h : pz_ST44 K P (R9 f) i dp u I F (.inr (i2, I2, F2, t))) : n9 f I I2 := by
  unfold pz_ST44 at h
  obtain ⟨a, b, c, d, h1, h2⟩ := q_r h
  obtain ⟨a2, b2, c2, d2, h3, h4⟩ := q_r h2
  have := inr_e h4
  simp only [Prod.mk.injEq] at this
  obtain ⟨-, rfl, -, -⟩ := this
  have gn_1 := cd_9 h1
  have gn_2 := n9_1 (nzz (by show (0 : Int) ≠ -9; decide) (by refine ⟨?_, ?_, fun q => ?_, fun q => ?_⟩ <;> (try dsimp only at *) <;> first | rfl | omega | (split <;> omega) | (exfalso; split at q <;> omega))) (bk_9 h3)
  exact n9_aj (n9_ap (n9_tr gn_1 gn_2) (nzz (by show pz_h I u ≠ -9; have := (pz_h_rg I u).1; omega) ⟨by show (0 : Int) ≤ 20; decide, by show (20 : Int) ≠ 24; decide, fun _ => rfl, fun q => absurd q (by show ¬ ((20 : Int) = 27); decide)⟩)) (n9_len gn_1) (pz_h_rg _ _).1 (by rw [gD_l (n9_lt (bk_9 h3)), n9_gd (bk_9 h3)]; exact ⟨by show (0 : Int) ≤ 21; decide, by show (21 : Int) ≠ 24; decide, fun _ => rfl, by show (21 : Int) ≠ 27; decide⟩)
theorem c9_ST45 (h : pz_ST45 K P (R9 f) i dp u I F (.inr (i2, I2, F2, t))) : n9 f I I2 := by
  unfold pz_ST45 at h
  by_cases e : K i = 45 ∧ K (i + 1) = 17
  · rw [if_pos e] at h
    have := inr_e h
    simp only [Prod.mk.injEq] at this
    obtain ⟨-, rfl, -, -⟩ := this
    exact n9_ap (n9_ap n9_rfl (nzz (by show (0 : Int) ≠ -9; decide) (by refine ⟨?_, ?_, fun q => ?_, fun q => ?_⟩ <;> (try dsimp only at *) <;> first | rfl | omega | (split <;> omega) | (exfalso; split at q <;> omega)))) (nzz (by show (0 : Int) ≠ -9; decide) (by refine ⟨?_, ?_, fun q => ?_, fun q => ?_⟩ <;> (try dsimp only at *) <;> first | rfl | omega | (split <;> omega) | (exfalso; split at q <;> omega)))
  · rw [if_neg e] at h
    obtain ⟨a, b, c, d, h1, h2⟩ := q_r h
    obtain ⟨a2, b2, c2, d2, h3, h4⟩ := q_r h2
    have e2 := tk_I h3
    subst e2
    have := inr_e h4
    simp only [Prod.mk.injEq] at this
    obtain ⟨-, rfl, -, -⟩ := this
    exact n9_ap (gn_4 h1) (nzz (by show (0 : Int) ≠ -9; decide) (by refine ⟨?_, ?_, fun q => ?_, fun q => ?_⟩ <;> (try dsimp only at *) <;> first | rfl | omega | (split <;> omega) | (exfalso; split at q <;> omega)))
theorem c9_ST47 (hV : ∀ i : Nat, K i = 5 → 0 ≤ V i) (h : pz_ST47 K V P f (R9 f) i dp u I F (.inr (i2, I2, F2, t))) : n9 f I I2 := by
  unfold pz_ST47 at h
  obtain ⟨a, b, c, d, h1, h2⟩ := q_r h
  obtain ⟨a2, b2, c2, d2, h3, h4⟩ := q_r h2
  have e2 := tk_I h3
  obtain ⟨a3, b3, c3, d3, h5, h6⟩ := q_r h4
  have e3 := op_I h5
  subst e3
  obtain ⟨a4, b4, c4, d4, h7, h8⟩ := q_r h6
  obtain ⟨rfl, hd⟩ := dc_I hV h7
  obtain ⟨a5, b5, c5, d5, h9, h10⟩ := q_r h8
  have e5 := tk_I h9
  obtain ⟨a6, b6, c6, d6, h11, h12⟩ := q_r h10
  have := inr_e h12
  simp only [Prod.mk.injEq] at this
  obtain ⟨-, rfl, -, -⟩ := this
  have x1 : n9 f I b := n9_1 (nzz (by show (0 : Int) ≠ -9; decide) (by refine ⟨?_, ?_, fun q => ?_, fun q => ?_⟩ <;> (try dsimp only at *) <;> first | rfl | omega | (split <;> omega) | (exfalso; split at q <;> omega))) (bk_9 h1)
  have x2 : n9 f I b4 := by
    rw [e2]
    exact n9_aj (n9_ap (n9_ap x1 (nzz (by show (0 : Int) ≠ -9; decide) (by refine ⟨?_, ?_, fun q => ?_, fun q => ?_⟩ <;> (try dsimp only at *) <;> first | rfl | omega | (split <;> omega) | (exfalso; split at q <;> omega)))) (nzz (by show (0 : Int) ≠ -9; decide) (by refine ⟨?_, ?_, fun q => ?_, fun q => ?_⟩ <;> (try dsimp only at *) <;> first | rfl | omega | (split <;> omega) | (exfalso; split at q <;> omega)))) (Nat.le_refl _) (pz_h_rg _ _).1 (by rw [gD_l (by rw [List.length_append]; exact Nat.lt_succ_of_lt (n9_lt (bk_9 h1))), gD_l (n9_lt (bk_9 h1)), n9_gd (bk_9 h1)]; exact ⟨by show (0 : Int) ≤ 31; decide, by show (31 : Int) ≠ 24; decide, fun _ => rfl, by show (31 : Int) ≠ 27; decide⟩)
  have x3 : n9 f I b5 := by
    rw [e5]
    exact n9_ap (n9_ap x2 (nzz (by show d4 ≠ -9; omega) (by refine ⟨?_, ?_, fun q => ?_, fun q => ?_⟩ <;> (try dsimp only at *) <;> first | rfl | omega | (split <;> omega) | (exfalso; split at q <;> omega)))) (nzz (by show (0 : Int) ≠ -9; decide) (by refine ⟨?_, ?_, fun q => ?_, fun q => ?_⟩ <;> (try dsimp only at *) <;> first | rfl | omega | (split <;> omega) | (exfalso; split at q <;> omega)))
  have hl : (b ++ [((32, 0, 0, u) : pz_I)]).length = b.length + 1 := List.length_append
  have hl2 : b4.length = b.length + 2 := by rw [e2, pz_a_len, List.length_append, hl]; rfl
  have hlI := n9_len x1
  have g1 : b4.getD (b.length + 1) (0, 0, 0, 0) = (20, 0, 0, u) := by
    rw [e2, pz_a_get (by rw [List.length_append, hl]; show b.length + 1 < b.length + 1 + 1; omega), if_neg (by omega), ← hl, gD_r]
  have hl5 : b4.length + 1 < b5.length := by rw [e5, List.length_append, List.length_append]; exact Nat.lt_succ_self _
  refine n9_aj (n9_tr x3 (bk_9 h11)) (by omega) (pz_h_rg _ _).1 ?_
  rw [n9_pre (bk_9 h11) (by omega), e5, gD_l (by rw [List.length_append]; show b.length + 1 < b4.length + 1; omega), gD_l (by omega), g1]
  exact ⟨by show (0 : Int) ≤ 20; decide, by show (20 : Int) ≠ 24; decide, fun _ => rfl, by show (20 : Int) ≠ 27; decide⟩
theorem c9_STe (h : pz_STe K P (R9 f) i dp u I F (.inr (i2, I2, F2, t))) : n9 f I I2 := by
  unfold pz_STe pz_fa at h
  by_cases e : K i = 12
  · rw [if_pos e] at h; exact absurd h (by simp)
  rw [if_neg e] at h
  obtain ⟨a, b, c, d, h1, h2⟩ := q_r h
  obtain ⟨a2, b2, c2, d2, h3, h4⟩ := q_r h2
  have e2 := tk_I h3
  subst e2
  have := inr_e h4
  simp only [Prod.mk.injEq] at this
  obtain ⟨-, rfl, -, -⟩ := this
  exact n9_ap (gn_4 h1) (nzz (by show (0 : Int) ≠ -9; decide) (by refine ⟨?_, ?_, fun q => ?_, fun q => ?_⟩ <;> (try dsimp only at *) <;> first | rfl | omega | (split <;> omega) | (exfalso; split at q <;> omega)))
theorem c9_PM (h : pz_PM K V P f (R9 f) x i dp u I F o) : (R9 f) 2 x [] i dp u I F o := by
  rintro i2 I2 F2 t rfl
  show I2 = I
  unfold pz_PM pz_fa at h
  by_cases e1 : K i ≠ 5 ∧ K i ≠ 6
  · rw [if_pos e1] at h; exact absurd h (by simp)
  rw [if_neg e1] at h
  by_cases e2 : vix (pz_f f F u).2.2 (V i) ≠ -1
  · rw [if_pos e2] at h; exact absurd h (by simp)
  rw [if_neg e2] at h
  by_cases e3 : x = 8
  · rw [if_pos e3] at h; exact absurd h (by simp)
  rw [if_neg e3] at h
  by_cases e4 : K i = 6
  · rw [if_pos e4] at h; exact absurd h (by simp)
  rw [if_neg e4] at h
  by_cases e5 : K (i + 1) = 16
  · rw [if_pos e5] at h; exact gn_2 h
  · rw [if_neg e5] at h
    have := inr_e h
    simp only [Prod.mk.injEq] at this
    exact this.2.1
theorem aa_n9 (hv : 0 ≤ v) : ∀ (J : List Int) (I I2 : List pz_I), n9 f I I2 → (∀ y ∈ J, y.toNat < I.length) → n9 f (pz_aa I v J) (pz_aa I2 v J)
  | [], _, _, h, _ => h
  | y :: J, I, I2, h, hJ => by
    refine aa_n9 hv J (pz_a I y.toNat v) (pz_a I2 y.toNat v) ?_ (fun z hz => by rw [pz_a_len]; exact hJ z (List.mem_cons_of_mem _ hz))
    obtain ⟨L, rfl, a⟩ := h
    refine ⟨L, ?_, a⟩
    have hy := hJ y (List.mem_cons_self)
    have e : (I ++ L).getD y.toNat (0, 0, 0, 0) = I.getD y.toNat (0, 0, 0, 0) := by
      rw [List.getD_eq_getElem?_getD, List.getElem?_append_left hy, ← List.getD_eq_getElem?_getD]
    unfold pz_a
    rw [e, List.set_append_left _ _ hy]
/-- one free jump, aimed -/
theorem n9_fr (h : n9 f I I2) (hz : 0 ≤ v) : n9 f I (pz_a (I2 ++ [(20, -9, 0, u)]) I2.length v) := by
  obtain ⟨L, rfl, a⟩ := h
  refine ⟨L ++ [(20, v, 0, u)], ?_, nK_ap a (nK_1 (nzz (by show v ≠ -9; omega) (by refine ⟨?_, ?_, fun q => ?_, fun q => ?_⟩ <;> (try dsimp only at *) <;> first | rfl | omega | (split <;> omega) | (exfalso; split at q <;> omega))))⟩
  unfold pz_a
  rw [gD_r, List.set_append_right _ _ (Nat.le_refl _), Nat.sub_self]
  exact List.append_assoc _ _ _
theorem c9_CH (h : pz_CH K P (R9 f) J i dp u I F o) : (R9 f) 3 0 J i dp u I F o := by
  rintro i2 I2 F2 t rfl hJ
  unfold pz_CH at h
  obtain ⟨a, b, c, d, h1, h2⟩ := q_r h
  have x1 := cd_9 h1
  obtain ⟨a2, b2, c2, d2, h3, h4⟩ := q_r h2
  have x2 : n9 f I b2 := n9_tr x1 (n9_1 (nzz (by show (0 : Int) ≠ -9; decide) (by refine ⟨?_, ?_, fun q => ?_, fun q => ?_⟩ <;> (try dsimp only at *) <;> first | rfl | omega | (split <;> omega) | (exfalso; split at q <;> omega))) (bk_9 h3))
  have l1 := n9_len x1
  have l2 := n9_len (bk_9 h3)
  have l0 : (b ++ [((21, 0, 0, u) : pz_I)]).length = b.length + 1 := List.length_append
  have l3 : (b2 ++ [((20, -9, 0, u) : pz_I)]).length = b2.length + 1 := List.length_append
  have hw : 0 ≤ pz_h (b2 ++ [(20, -9, 0, u)]) u := (pz_h_rg _ _).1
  -- the list with the jump out aimed, and the new one aimed at v
  have x3 : ∀ v : Int, 0 ≤ v → n9 f I (pz_a (pz_a (b2 ++ [(20, -9, 0, u)]) b.length (pz_h (b2 ++ [(20, -9, 0, u)]) u)) b2.length v) := fun v hv => by
    have e : pz_a (pz_a (b2 ++ [(20, -9, 0, u)]) b.length (pz_h (b2 ++ [(20, -9, 0, u)]) u)) b2.length v = pz_a (pz_a (b2 ++ [(20, -9, 0, u)]) b2.length v) b.length (pz_h (b2 ++ [(20, -9, 0, u)]) u) := by
      have e1 : (pz_a (b2 ++ [(20, -9, 0, u)]) b.length (pz_h (b2 ++ [(20, -9, 0, u)]) u)).getD b2.length (0, 0, 0, 0) = (b2 ++ [(20, -9, 0, u)]).getD b2.length (0, 0, 0, 0) := by
        rw [pz_a_get (by omega), if_neg (by omega)]
      have e2 : (pz_a (b2 ++ [(20, -9, 0, u)]) b2.length v).getD b.length (0, 0, 0, 0) = (b2 ++ [(20, -9, 0, u)]).getD b.length (0, 0, 0, 0) := by
        rw [pz_a_get (by omega), if_neg (by omega)]
      rw [show pz_a (pz_a (b2 ++ [(20, -9, 0, u)]) b.length (pz_h (b2 ++ [(20, -9, 0, u)]) u)) b2.length v = (pz_a (b2 ++ [(20, -9, 0, u)]) b.length (pz_h (b2 ++ [(20, -9, 0, u)]) u)).set b2.length (((pz_a (b2 ++ [(20, -9, 0, u)]) b.length (pz_h (b2 ++ [(20, -9, 0, u)]) u)).getD b2.length (0, 0, 0, 0)).1, v, ((pz_a (b2 ++ [(20, -9, 0, u)]) b.length (pz_h (b2 ++ [(20, -9, 0, u)]) u)).getD b2.length (0, 0, 0, 0)).2.2) from rfl, e1]
      rw [show pz_a (pz_a (b2 ++ [(20, -9, 0, u)]) b2.length v) b.length (pz_h (b2 ++ [(20, -9, 0, u)]) u) = (pz_a (b2 ++ [(20, -9, 0, u)]) b2.length v).set b.length (((pz_a (b2 ++ [(20, -9, 0, u)]) b2.length v).getD b.length (0, 0, 0, 0)).1, pz_h (b2 ++ [(20, -9, 0, u)]) u, ((pz_a (b2 ++ [(20, -9, 0, u)]) b2.length v).getD b.length (0, 0, 0, 0)).2.2) from rfl, e2]
      unfold pz_a
      exact List.set_comm _ _ (by omega)
    rw [e]
    exact n9_aj (n9_fr x2 hv) (by omega) hw (by rw [pz_a_get (by omega), if_neg (by omega), gD_l (n9_lt (bk_9 h3)), n9_gd (bk_9 h3)]; exact ⟨by show (0 : Int) ≤ 21; decide, by show (21 : Int) ≠ 24; decide, fun _ => rfl, by show (21 : Int) ≠ 27; decide⟩)
  have hlen : ∀ y ∈ J, y.toNat < I.length := hJ
  by_cases e1 : K a2 = 43
  · rw [if_pos e1] at h4
    by_cases e2 : K (a2 + 1) = 42
    · rw [if_pos e2] at h4
      obtain ⟨v, v0, hv⟩ := h4 _ _ _ _ rfl (fun y hy => by
        rw [pz_a_len, l3]
        rcases List.mem_cons.mp hy with e | e
        · rw [e]; omega
        · have := hlen y e; have := n9_len x2; omega)
      refine ⟨v, v0, ?_⟩
      have hv2 : n9 f (pz_aa (pz_a (pz_a (b2 ++ [(20, -9, 0, u)]) b.length (pz_h (b2 ++ [(20, -9, 0, u)]) u)) ((b2.length : Int)).toNat v) v J) I2 := hv
      rw [Int.toNat_natCast] at hv2
      exact n9_tr (aa_n9 v0 J _ _ (x3 v v0) hlen) hv2
    · rw [if_neg e2] at h4
      obtain ⟨a3, b3, c3, d3, h5, h6⟩ := q_r h4
      have := inr_e h6
      simp only [Prod.mk.injEq] at this
      obtain ⟨-, rfl, -, -⟩ := this
      refine ⟨pz_h b3 u, (pz_h_rg _ _).1, ?_⟩
      have x5 := bk_9 h5
      have x6 : n9 f (pz_a (pz_a (b2 ++ [(20, -9, 0, u)]) b.length (pz_h (b2 ++ [(20, -9, 0, u)]) u)) b2.length (pz_h b3 u)) (pz_a b3 b2.length (pz_h b3 u)) := aa_n9 (pz_h_rg b3 u).1 [(b2.length : Int)] _ _ x5 (fun y hy => by rw [List.mem_singleton.mp hy, pz_a_len, l3]; omega)
      have x7 := aa_n9 (pz_h_rg b3 u).1 J _ _ (n9_tr (x3 _ (pz_h_rg b3 u).1) x6) hlen
      exact x7
  · rw [if_neg e1] at h4
    have := inr_e h4
    simp only [Prod.mk.injEq] at this
    obtain ⟨-, rfl, -, -⟩ := this
    refine ⟨pz_h b2 u, (pz_h_rg _ _).1, ?_⟩
    exact aa_n9 (pz_h_rg b2 u).1 J _ _ (n9_aj x2 (by omega) (pz_h_rg b2 u).1 (by rw [n9_gd (bk_9 h3)]; exact ⟨by show (0 : Int) ≤ 21; decide, by show (21 : Int) ≠ 24; decide, fun _ => rfl, by show (21 : Int) ≠ 27; decide⟩)) hlen
theorem c9_ST (hf : 0 ≤ f) (hV : ∀ i : Nat, K i = 5 → 0 ≤ V i) (h : pz_ST K V P f (R9 f) i dp u I F o) : (R9 f) 1 0 [] i dp u I F o := by
  rintro i2 I2 F2 t rfl
  show n9 f I I2
  unfold pz_ST at h
  by_cases e1 : K i = 40
  · rw [if_pos e1] at h; exact c9_ST40 hV h
  rw [if_neg e1] at h
  by_cases e2 : K i = 41
  · rw [if_pos e2] at h; exact c9_ST41 hf hV h
  rw [if_neg e2] at h
  by_cases e3 : K i = 42
  · rw [if_pos e3] at h
    obtain ⟨v, -, hv⟩ := h _ _ _ _ rfl (fun y hy => absurd hy (by simp))
    exact hv
  rw [if_neg e3] at h
  by_cases e4 : K i = 44
  · rw [if_pos e4] at h; exact c9_ST44 h
  rw [if_neg e4] at h
  by_cases e5 : K i = 45 ∨ K i = 46
  · rw [if_pos e5] at h; exact c9_ST45 h
  rw [if_neg e5] at h
  by_cases e6 : K i = 47
  · rw [if_pos e6] at h; exact c9_ST47 hV h
  rw [if_neg e6] at h
  exact c9_STe h
theorem c9_VA (h : pz_VA K P (R9 f) i dp u I F o) : (R9 f) 4 0 [] i dp u I F o := by
  rintro i2 I2 F2 t rfl
  show n9 f I I2
  unfold pz_VA at h
  obtain ⟨a, b, c, d, h1, h2⟩ := q_r h
  have x1 := gn_5 h1
  by_cases e1 : K a ≠ 20
  · rw [if_pos e1] at h2
    have := inr_e h2
    simp only [Prod.mk.injEq] at this
    obtain ⟨-, rfl, -, -⟩ := this
    exact n9_of_t x1
  rw [if_neg e1] at h2
  by_cases e2 : d = 0
  · rw [if_pos e2] at h2; exact absurd h2 (by unfold pz_fa; simp)
  rw [if_neg e2] at h2
  by_cases e3 : 50 ≤ dp
  · rw [if_pos e3] at h2; exact absurd h2 (by unfold pz_fa; simp)
  rw [if_neg e3] at h2
  obtain ⟨a3, b3, c3, d3, h3, h4⟩ := q_r h2
  obtain ⟨L, rfl, hL, hn⟩ := x1
  have hn := hn e2
  have hK : L = [] ∨ ∃ (A : List pz_I) (B : pz_I), L = A ++ [B] := li_end (p := fun L => L = [] ∨ ∃ (A : List pz_I) (B : pz_I), L = A ++ [B]) (Or.inl rfl) (fun l y _ => Or.inr ⟨l, y, rfl⟩) L
  rcases hK with e | ⟨A, B, rfl⟩
  · exact absurd e hn
  rw [← List.append_assoc, List.dropLast_concat] at h3
  have hB : B.2.1 ≠ -9 := (hL B (by simp)).1
  have hA : n9 f I (I ++ A) := ⟨A, rfl, fun y hy => hL y (List.mem_append_left _ hy)⟩
  have := inr_e h4
  simp only [Prod.mk.injEq] at this
  obtain ⟨-, rfl, -, -⟩ := this
  rw [← List.append_assoc, gl_x]
  refine n9_ap (n9_tr hA (gn_4 h3)) ?_
  by_cases e4 : d = 1
  · rw [if_pos e4]; exact nzz hB ⟨by show (0 : Int) ≤ 4; decide, by show (4 : Int) ≠ 24; decide, fun _ => rfl, fun q => absurd q (by show ¬ ((4 : Int) = 27); decide)⟩
  · rw [if_neg e4]
    refine nzz ?_ ⟨by show (0 : Int) ≤ 27; decide, by show (27 : Int) ≠ 24; decide, fun q => absurd q (by show ¬ ((27 : Int) = 3 ∨ (27 : Int) = 4); decide), fun _ => by dsimp only; split <;> omega⟩
    show (if d = 2 then (1 : Int) else 3) ≠ -9
    split <;> decide
theorem c9_E (h : pz_E (R9 f) l i dp u I F o) : (R9 f) 5 l [] i dp u I F o := by
  rintro i2 I2 F2 t rfl
  show n9t f I I2 t
  unfold pz_E at h
  by_cases e : l = 7
  · rw [if_pos e] at h; exact gn_7 h
  · rw [if_neg e] at h
    obtain ⟨a, b, c, d, h1, h2⟩ := q_r h
    exact n9s_t (gn_5 h1) (gn_6 h2)
theorem c9_L (h : pz_L K (R9 f) l t0 i dp u I F o) : (R9 f) 6 l [t0] i dp u I F o := by
  rintro i2 I2 F2 t rfl
  show n9s f I I2 t t0
  unfold pz_L at h
  by_cases e : pz_lv (K i) ≠ l
  · rw [if_pos e] at h
    have := inr_e h
    simp only [Prod.mk.injEq] at this
    obtain ⟨-, rfl, -, rfl⟩ := this
    exact n9s_rfl
  rw [if_neg e] at h
  by_cases e2 : l ≤ 2
  · rw [if_pos e2] at h
    obtain ⟨a, b, c, d, h1, h2⟩ := q_r h
    have x1 := n9_1 (z := (if l = 1 then 22 else 23, 0, 0, u)) (nzz (by show (0 : Int) ≠ -9; decide) (by refine ⟨?_, ?_, fun q => ?_, fun q => ?_⟩ <;> (try dsimp only at *) <;> first | rfl | omega | (split <;> omega) | (exfalso; split at q <;> omega))) (n9_of_t (gn_5 h1))
    exact n9s_n (n9t_0 (n9_aj x1 (Nat.le_refl _) (pz_h_rg b u).1 (by rw [n9_gd (n9_of_t (gn_5 h1))]; refine ⟨?_, ?_, fun _ => rfl, ?_⟩ <;> dsimp only <;> split <;> omega))) (gn_6 h2)
  · rw [if_neg e2] at h
    obtain ⟨a, b, c, d, h1, h2⟩ := q_r h
    exact n9s_n (n9t_0 (n9_ap (n9_of_t (gn_5 h1)) (nzz (by show (0 : Int) ≠ -9; decide) ⟨(or_r9 (by omega)).1, (or_r9 (by omega)).2.1, fun _ => rfl, fun q => absurd q (or_r9 (by omega)).2.2⟩))) (gn_6 h2)
theorem c9_FR (h : pz_FR K P (R9 f) i dp u I F o) : (R9 f) 7 0 [] i dp u I F o := by
  rintro i2 I2 F2 t rfl
  show n9t f I I2 t
  unfold pz_FR pz_fa at h
  by_cases e : K i = 24 ∨ K i = 28
  · rw [if_pos e] at h
    by_cases e2 : 50 ≤ dp
    · rw [if_pos e2] at h; exact absurd h (by simp)
    rw [if_neg e2] at h
    obtain ⟨a, b, c, d, h1, h2⟩ := q_r h
    have := inr_e h2
    simp only [Prod.mk.injEq] at this
    obtain ⟨-, rfl, -, rfl⟩ := this
    exact n9t_ap (n9_of_t (gn_7 h1)) (nzz (by show (0 : Int) ≠ -9; decide) (by refine ⟨?_, ?_, fun q => ?_, fun q => ?_⟩ <;> (try dsimp only at *) <;> first | rfl | omega | (split <;> omega) | (exfalso; split at q <;> omega)))
  · rw [if_neg e] at h; exact gn_8 h
theorem c9_BH (h : pz_BH (R9 f) i dp u I F o) : (R9 f) 8 0 [] i dp u I F o := by
  rintro i2 I2 F2 t rfl
  show n9t f I I2 t
  unfold pz_BH at h
  obtain ⟨a, b, c, d, h1, h2⟩ := q_r h
  exact n9s_t (gn_9 h1) (gn_10 h2)
theorem c9_FI (hf : 0 ≤ f) (hV : ∀ i : Nat, K i = 5 → 0 ≤ V i) (h : pz_FI K V P f (R9 f) x i dp u I F o) : (R9 f) 9 x [] i dp u I F o := by
  rintro i2 I2 F2 t rfl
  show n9t f I I2 t
  unfold pz_FI pz_fa at h
  by_cases e : K i = 2
  · rw [if_pos e] at h
    have := inr_e h
    simp only [Prod.mk.injEq] at this
    obtain ⟨-, rfl, -, rfl⟩ := this
    exact n9t_ap n9_rfl (nzz (by show (3 : Int) ≠ -9; decide) (by refine ⟨?_, ?_, fun q => ?_, fun q => ?_⟩ <;> (try dsimp only at *) <;> first | rfl | omega | (split <;> omega) | (exfalso; split at q <;> omega)))
  rw [if_neg e] at h
  by_cases e : K i = 3
  · rw [if_pos e] at h
    have := inr_e h
    simp only [Prod.mk.injEq] at this
    obtain ⟨-, rfl, -, rfl⟩ := this
    exact n9t_ap n9_rfl (nzz (by show (4 : Int) ≠ -9; decide) (by refine ⟨?_, ?_, fun q => ?_, fun q => ?_⟩ <;> (try dsimp only at *) <;> first | rfl | omega | (split <;> omega) | (exfalso; split at q <;> omega)))
  rw [if_neg e] at h
  by_cases e : K i = 4
  · rw [if_pos e] at h; exact absurd h (by simp)
  rw [if_neg e] at h
  by_cases e : K i = 5
  · rw [if_pos e] at h
    have := inr_e h
    simp only [Prod.mk.injEq] at this
    obtain ⟨-, rfl, -, rfl⟩ := this
    exact n9t_ap n9_rfl (nzz (by show V i ≠ -9; have := hV i e; omega) (by refine ⟨?_, ?_, fun q => ?_, fun q => ?_⟩ <;> (try dsimp only at *) <;> first | rfl | omega | (split <;> omega) | (exfalso; split at q <;> omega)))
  rw [if_neg e] at h
  by_cases e : K i = 6
  · rw [if_pos e] at h; exact absurd h (by simp)
  rw [if_neg e] at h
  by_cases e : K i = 10
  · rw [if_pos e] at h
    obtain ⟨a, b, c, d, h1, h2⟩ := q_r h
    have := inr_e h2
    simp only [Prod.mk.injEq] at this
    obtain ⟨-, rfl, -, rfl⟩ := this
    exact n9t_0 (cd_9 h1)
  rw [if_neg e] at h
  by_cases e : K i = 14
  · rw [if_pos e] at h
    unfold pz_FI14 at h
    obtain ⟨a, b, c, d, h1, h2⟩ := q_r h
    have e1 := op_I h1
    subst e1
    obtain ⟨a2, b2, c2, d2, h3, h4⟩ := q_r h2
    have x1 : n9 f b b2 ∧ 0 ≤ d2 := by
      have h5 : (if K a = 15 then (Sum.inr (a2, b2, c2, d2) : pz_O) = .inr (a, b, c, 0) else (R9 f) 12 0 [] a (dp + 1) u b c (.inr (a2, b2, c2, d2))) := h3
      by_cases e3 : K a = 15
      · rw [if_pos e3] at h5
        have := inr_e h5
        simp only [Prod.mk.injEq] at this
        obtain ⟨-, rfl, -, rfl⟩ := this
        exact ⟨n9_rfl, Int.le_refl _⟩
      · rw [if_neg e3] at h5
        exact gn_12 (Int.le_refl _) h5
    obtain ⟨a3, b3, c3, d3, h5, h6⟩ := q_r h4
    have e3 := tk_I h5
    subst e3
    have := inr_e h6
    simp only [Prod.mk.injEq] at this
    obtain ⟨-, rfl, -, rfl⟩ := this
    exact n9t_ap x1.1 (nzz (by show d2 ≠ -9; omega) (by refine ⟨?_, ?_, fun q => ?_, fun q => ?_⟩ <;> (try dsimp only at *) <;> first | rfl | omega | (split <;> omega) | (exfalso; split at q <;> omega)))
  rw [if_neg e] at h
  by_cases e : K i = 12
  · rw [if_pos e] at h
    unfold pz_FI12 at h
    obtain ⟨a, b, c, d, h1, h2⟩ := q_r h
    have e1 := op_I h1
    subst e1
    obtain ⟨a2, b2, c2, d2, h3, h4⟩ := q_r h2
    have x1 : n9 f b b2 := by
      have h5 : (if K a = 13 then (Sum.inr (a2, b2, c2, d2) : pz_O) = .inr (a, b ++ [(26, 0, 0, u)], c, 0) else (R9 f) 13 0 [] a (dp + 1) u (b ++ [(26, 0, 0, u)]) c (.inr (a2, b2, c2, d2))) := h3
      by_cases e3 : K a = 13
      · rw [if_pos e3] at h5
        have := inr_e h5
        simp only [Prod.mk.injEq] at this
        obtain ⟨-, rfl, -, -⟩ := this
        exact n9_ap n9_rfl (nzz (by show (0 : Int) ≠ -9; decide) (by refine ⟨?_, ?_, fun q => ?_, fun q => ?_⟩ <;> (try dsimp only at *) <;> first | rfl | omega | (split <;> omega) | (exfalso; split at q <;> omega)))
      · rw [if_neg e3] at h5
        exact n9_1 (nzz (by show (0 : Int) ≠ -9; decide) (by refine ⟨?_, ?_, fun q => ?_, fun q => ?_⟩ <;> (try dsimp only at *) <;> first | rfl | omega | (split <;> omega) | (exfalso; split at q <;> omega))) (gn_13 h5)
    obtain ⟨a3, b3, c3, d3, h5, h6⟩ := q_r h4
    have e3 := tk_I h5
    subst e3
    have := inr_e h6
    simp only [Prod.mk.injEq] at this
    obtain ⟨-, rfl, -, rfl⟩ := this
    exact n9t_0 x1
  rw [if_neg e] at h
  by_cases e : K i = 41
  · rw [if_pos e] at h
    by_cases e2 : 400 ≤ f + F.length
    · rw [if_pos e2] at h; exact absurd h (by simp)
    rw [if_neg e2] at h
    obtain ⟨a, b, c, d, h1, h2⟩ := q_r h
    obtain ⟨x1, x2⟩ := fn_9 hf h1
    have := inr_e h2
    simp only [Prod.mk.injEq] at this
    obtain ⟨-, rfl, -, rfl⟩ := this
    exact n9t_ap x1 ⟨by show d ≠ -9; omega, by show (0 : Int) ≤ 24; decide, fun _ => by show f ≤ d ∧ d < 400; omega, fun _ => rfl, fun q => absurd q (by show ¬ ((24 : Int) = 27); decide)⟩
  rw [if_neg e] at h
  by_cases e : K i = 50
  · rw [if_pos e] at h
    have := inr_e h
    simp only [Prod.mk.injEq] at this
    obtain ⟨-, rfl, -, rfl⟩ := this
    exact n9t_ap n9_rfl (nzz (by show (0 : Int) ≠ -9; decide) (by refine ⟨?_, ?_, fun q => ?_, fun q => ?_⟩ <;> (try dsimp only at *) <;> first | rfl | omega | (split <;> omega) | (exfalso; split at q <;> omega)))
  rw [if_neg e] at h
  by_cases e : K i = 51 ∨ K i = 52 ∨ K i = 53
  · rw [if_pos e] at h
    have := inr_e h
    simp only [Prod.mk.injEq] at this
    obtain ⟨-, rfl, -, rfl⟩ := this
    refine n9t_ap n9_rfl (nzz ?_ ⟨by show (0 : Int) ≤ 0; decide, by show (0 : Int) ≠ 24; decide, fun _ => rfl, fun q => absurd q (by show ¬ ((0 : Int) = 27); decide)⟩)
    show (if K i = 51 then (0 : Int) else if K i = 53 then 1 else 2) ≠ -9
    split
    · decide
    · split <;> decide
  rw [if_neg e] at h
  by_cases e : K i = 49
  · rw [if_pos e] at h
    by_cases e2 : x = 0
    · rw [if_pos e2] at h; exact absurd h (by simp)
    rw [if_neg e2] at h
    obtain ⟨a, b, c, d, h1, h2⟩ := q_r h
    obtain ⟨a2, b2, c2, d2, h3, h4⟩ := q_r h2
    obtain ⟨a3, b3, c3, d3, h5, h6⟩ := q_r h4
    obtain ⟨x1, x2⟩ := es_9 h5
    have := inr_e h6
    simp only [Prod.mk.injEq] at this
    obtain ⟨-, rfl, -, rfl⟩ := this
    exact n9t_ap (n9_tr (n9_of_t (gn_9 h1)) (n9_tr (gn_14 h3) x1)) (nzz (by show 6 + 16 * d3 ≠ -9; omega) (by refine ⟨?_, ?_, fun q => ?_, fun q => ?_⟩ <;> (try dsimp only at *) <;> first | rfl | omega | (split <;> omega) | (exfalso; split at q <;> omega)))
  rw [if_neg e] at h
  by_cases e : 54 ≤ K i ∧ K i < 62
  · rw [if_pos e] at h
    obtain ⟨a, b, c, d, h1, h2⟩ := q_r h
    obtain ⟨x1, x2⟩ := es_9 h1
    by_cases e2 : d ≠ pz_wa (K i)
    · rw [if_pos e2] at h2; exact absurd h2 (by unfold pz_fa; simp)
    rw [if_neg e2] at h2
    have := inr_e h2
    simp only [Prod.mk.injEq] at this
    obtain ⟨-, rfl, -, rfl⟩ := this
    exact n9t_ap x1 (nzz (by show K i - 54 ≠ -9; omega) (by refine ⟨?_, ?_, fun q => ?_, fun q => ?_⟩ <;> (try dsimp only at *) <;> first | rfl | omega | (split <;> omega) | (exfalso; split at q <;> omega)))
  rw [if_neg e] at h
  exact absurd h (by simp)
theorem c9_BL (hV : ∀ i : Nat, K i = 5 → 0 ≤ V i) (h : pz_BL K V P (R9 f) t0 i dp u I F o) : (R9 f) 10 0 [t0] i dp u I F o := by
  rintro i2 I2 F2 t rfl
  show n9s f I I2 t t0
  unfold pz_BL at h
  by_cases e : K i = 18
  · rw [if_pos e] at h
    obtain ⟨a, b, c, d, h1, h2⟩ := q_r h
    obtain ⟨rfl, hd⟩ := nm_I hV h1
    by_cases e2 : K a = 10
    · rw [if_pos e2] at h2
      obtain ⟨a2, b2, c2, d2, h3, h4⟩ := q_r h2
      obtain ⟨x1, x2⟩ := es_9 h3
      exact n9s_n (n9t_ap x1 (nzz (by show 5 + 16 * d2 ≠ -9; omega) (by refine ⟨?_, ?_, fun q => ?_, fun q => ?_⟩ <;> (try dsimp only at *) <;> first | rfl | omega | (split <;> omega) | (exfalso; split at q <;> omega)))) (gn_10 h4)
    · rw [if_neg e2] at h2
      exact n9s_n (n9t_ap n9_rfl (nzz (by show (0 : Int) ≠ -9; decide) (by refine ⟨?_, ?_, fun q => ?_, fun q => ?_⟩ <;> (try dsimp only at *) <;> first | rfl | omega | (split <;> omega) | (exfalso; split at q <;> omega)))) (gn_10 h2)
  rw [if_neg e] at h
  by_cases e : K i = 14
  · rw [if_pos e] at h
    obtain ⟨a, b, c, d, h1, h2⟩ := q_r h
    exact n9s_n (el_9 h1) (gn_10 h2)
  rw [if_neg e] at h
  by_cases e : K i = 10
  · rw [if_pos e] at h
    obtain ⟨a, b, c, d, h1, h2⟩ := q_r h
    obtain ⟨x1, x2⟩ := es_9 h1
    exact n9s_n (n9t_ap x1 (nzz (by show 4 + 16 * d ≠ -9; omega) (by refine ⟨?_, ?_, fun q => ?_, fun q => ?_⟩ <;> (try dsimp only at *) <;> first | rfl | omega | (split <;> omega) | (exfalso; split at q <;> omega)))) (gn_10 h2)
  rw [if_neg e] at h
  have := inr_e h
  simp only [Prod.mk.injEq] at this
  obtain ⟨-, rfl, -, rfl⟩ := this
  exact n9s_rfl
theorem c9_VL (h : pz_VL K P (R9 f) x i dp u I F o) : (R9 f) 11 x [] i dp u I F o := by
  rintro i2 I2 F2 t rfl hx
  unfold pz_VL at h
  by_cases e : x = 8
  · rw [if_pos e] at h
    rcases h with ⟨-, h⟩ | ⟨-, h⟩
    · exact absurd h (by unfold pz_fa; simp)
    · split at h <;> exact absurd h (by unfold pz_fa; simp)
  rw [if_neg e] at h
  obtain ⟨a, b, c, d, h1, h2⟩ := q_r h
  by_cases e2 : K a = 16
  · rw [if_pos e2] at h2
    obtain ⟨y1, y2⟩ := gn_11 (by omega) h2
    exact ⟨n9_tr (gn_4 h1) y1, y2⟩
  · rw [if_neg e2] at h2
    by_cases e3 : K a = 11
    · rw [if_pos e3] at h2
      have := inr_e h2
      simp only [Prod.mk.injEq] at this
      obtain ⟨-, rfl, -, rfl⟩ := this
      exact ⟨gn_4 h1, by omega, by omega⟩
    · rw [if_neg e3] at h2; exact absurd h2 (by unfold pz_fa; simp)
theorem c9_LI (h : pz_LI K (R9 f) x i dp u I F o) : (R9 f) 12 x [] i dp u I F o := by
  rintro i2 I2 F2 t rfl hx
  unfold pz_LI at h
  obtain ⟨a, b, c, d, h1, h2⟩ := q_r h
  by_cases e2 : K a = 16
  · rw [if_pos e2] at h2
    obtain ⟨y1, y2⟩ := gn_12 (by omega) h2
    exact ⟨n9_tr (gn_4 h1) y1, y2⟩
  · rw [if_neg e2] at h2
    have := inr_e h2
    simp only [Prod.mk.injEq] at this
    obtain ⟨-, rfl, -, rfl⟩ := this
    exact ⟨gn_4 h1, by omega⟩
theorem c9_OB (hV : ∀ i : Nat, K i = 5 → 0 ≤ V i) (h : pz_OB K V P (R9 f) i dp u I F o) : (R9 f) 13 0 [] i dp u I F o := by
  rintro i2 I2 F2 t rfl
  show n9 f I I2
  unfold pz_OB at h
  obtain ⟨a, b, c, d, h1, h2⟩ := q_r h
  obtain ⟨rfl, hd⟩ := nm_I hV h1
  obtain ⟨a2, b2, c2, d2, h3, h4⟩ := q_r h2
  have e2 := tk_I h3
  subst e2
  obtain ⟨a3, b3, c3, d3, h5, h6⟩ := q_r h4
  have x1 := n9_1 (nzz (by show (0 : Int) ≠ -9; decide) (by refine ⟨?_, ?_, fun q => ?_, fun q => ?_⟩ <;> (try dsimp only at *) <;> first | rfl | omega | (split <;> omega) | (exfalso; split at q <;> omega))) (gn_4 h5)
  have x2 : n9 f b2 (b3 ++ [(27, 1, d, u)] ++ [(5, 0, 0, u)]) := n9_ap (n9_ap x1 (nzz (by show (1 : Int) ≠ -9; decide) (by refine ⟨?_, ?_, fun q => ?_, fun q => ?_⟩ <;> (try dsimp only at *) <;> first | rfl | omega | (split <;> omega) | (exfalso; split at q <;> omega)))) (nzz (by show (0 : Int) ≠ -9; decide) (by refine ⟨?_, ?_, fun q => ?_, fun q => ?_⟩ <;> (try dsimp only at *) <;> first | rfl | omega | (split <;> omega) | (exfalso; split at q <;> omega)))
  by_cases e3 : K a3 = 16
  · rw [if_pos e3] at h6
    exact n9_tr x2 (gn_13 h6)
  · rw [if_neg e3] at h6
    have := inr_e h6
    simp only [Prod.mk.injEq] at this
    obtain ⟨-, rfl, -, -⟩ := this
    exact x2
theorem c9_ML (hV : ∀ i : Nat, K i = 5 → 0 ≤ V i) (h : pz_ML K V P (R9 f) i dp u I F o) : (R9 f) 14 0 [] i dp u I F o := by
  rintro i2 I2 F2 t rfl
  show n9 f I I2
  unfold pz_ML at h
  by_cases e : K i = 18
  · rw [if_pos e] at h
    obtain ⟨a, b, c, d, h1, h2⟩ := q_r h
    obtain ⟨rfl, hd⟩ := nm_I hV h1
    exact n9_1 (nzz (by show (0 : Int) ≠ -9; decide) (by refine ⟨?_, ?_, fun q => ?_, fun q => ?_⟩ <;> (try dsimp only at *) <;> first | rfl | omega | (split <;> omega) | (exfalso; split at q <;> omega))) (gn_14 h2)
  rw [if_neg e] at h
  by_cases e : K i = 14
  · rw [if_pos e] at h
    obtain ⟨a, b, c, d, h1, h2⟩ := q_r h
    exact n9_tr (n9_of_t (el_9 (x := 0) h1)) (gn_14 h2)
  rw [if_neg e] at h
  have := inr_e h
  simp only [Prod.mk.injEq] at this
  obtain ⟨-, rfl, -, -⟩ := this
  exact n9_rfl
/-- no jump stays free -/
theorem R9_C (hf : 0 ≤ f) (hV : ∀ i : Nat, K i = 5 → 0 ≤ V i) : pz_C K V P f (R9 f) :=
  ⟨fun _ _ _ _ _ _ h => c9_SS h, fun _ _ _ _ _ _ h => c9_ST hf hV h, fun _ _ _ _ _ _ _ h => c9_PM h, fun _ _ _ _ _ _ _ h => c9_CH h, fun _ _ _ _ _ _ h => c9_VA h, fun _ _ _ _ _ _ _ h => c9_E h, fun _ _ _ _ _ _ _ _ h => c9_L h, fun _ _ _ _ _ _ h => c9_FR h, fun _ _ _ _ _ _ h => c9_BH h, fun _ _ _ _ _ _ _ h => c9_FI hf hV h, fun _ _ _ _ _ _ _ h => c9_BL hV h, fun _ _ _ _ _ _ _ h => c9_VL h, fun _ _ _ _ _ _ _ h => c9_LI h, fun _ _ _ _ _ _ h => c9_OB hV h, fun _ _ _ _ _ _ h => c9_ML hV h⟩
end Wcs
