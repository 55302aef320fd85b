/-! PART b7: what holds of the class's Compiler while it reads. -/
section Wb7
variable {A B C S Z : wS} {T : Int → Int} {n : Int} {N X : List (List Int)} {c i : Nat} {f u w : Int} {I : List pz_I} {F : List pz_F}
/-- the instructions noted are these (an A of -9: any) -/
def ci_I (I : List pz_I) (S : wS) : Prop := S 63 7 = (I.length : Int) ∧ S 63 8 = pz_s I ∧ ∀ k : Nat, k < I.length → S 64 (k : Int) = (I.getD k (0, 0, 0, 0)).1 ∧ ((I.getD k (0, 0, 0, 0)).2.1 ≠ -9 → S 65 (k : Int) = (I.getD k (0, 0, 0, 0)).2.1) ∧ S 66 (k : Int) = (I.getD k (0, 0, 0, 0)).2.2.1 ∧ S 67 (k : Int) = (I.getD k (0, 0, 0, 0)).2.2.2
/-- a function of the unit -/
def fn_I (f : Int) (i : Nat) (I : List pz_I) (F : List pz_F) (S : wS) (k : Nat) : Prop := (S 28 (f + k) = (F.getD k (-1, 0, [])).1 ∧ ((F.getD k (-1, 0, [])).1 = -1 ∨ f ≤ (F.getD k (-1, 0, [])).1) ∧ (F.getD k (-1, 0, [])).1 < f + k) ∧ S 22 (f + k) = (F.getD k (-1, 0, [])).2.1 ∧ fv_I S (f + k) (F.getD k (-1, 0, [])).2.2 ∧ (F.getD k (-1, 0, [])).2.2.length ≤ i ∧ S 24 (f + k) = pz_h I (f + k) ∧ S 21 (f + k) = S 19 3
def ci_F (f : Int) (i : Nat) (I : List pz_I) (F : List pz_F) (S : wS) : Prop := S 19 1 = f ∧ S 63 10 = (F.length : Int) ∧ (0 ≤ f ∧ f + (F.length : Int) ≤ 400) ∧ (0 ≤ S 19 3 ∧ S 19 3 ≤ 1000) ∧ (∀ x ∈ I, f ≤ x.2.2.2 ∧ x.2.2.2 < f + (F.length : Int)) ∧ ∀ k : Nat, k < F.length → fn_I f i I F S k
/-- the Compiler stands at the i-th token in the function u, w operators wait, these instructions and functions have come -/
def cQ (T : Int → Int) (n : Int) (N X : List (List Int)) (c : Nat) (f u w : Int) (i : Nat) (I : List pz_I) (F : List pz_F) (S : wS) : Prop := (qx_T T n N X c S ∧ qx_P T n c i S) ∧ (gI S ∧ w_CL S) ∧ (nt_L S ∧ ci_I I S) ∧ ci_F f i I F S ∧ (S 63 11 = u ∧ f ≤ u ∧ u < f + (F.length : Int)) ∧ (va_L S ∧ S 63 13 ≤ (i : Int)) ∧ ((I.length : Int) ≤ 1 * (i : Int) + 8 ∧ S 64 (-1) ≤ 16383) ∧ (S 63 15 = w ∧ 0 ≤ w ∧ w ≤ 1024)
/-- nothing but the Compiler's has changed; of its instructions nothing below m, of what waits nothing below w -/
def cQg (f m w : Int) (S Z : wS) : Prop := (∀ (j : Nat) (x : Int), j < 4000000 → j ≠ wG → j ≠ 63 → (j < 64 ∨ j = 68 ∨ 70 < j) → (j ≠ 71 ∨ x < w) → (j ≠ 14 ∨ x ≠ 4) → (j < 21 ∨ 29 < j ∨ x < f) → Z j x = S j x) ∧ (∀ x : Int, 0 ≤ x → x < m → Z 64 x = S 64 x ∧ Z 65 x = S 65 x ∧ Z 66 x = S 66 x ∧ Z 67 x = S 67 x) ∧ rmR S Z
/-- a fault -/
def cQn (S : wS) : Prop := w_CL S ∧ nt_L S ∧ va_L S ∧ S 64 (-1) ≤ 16383
theorem cQn_of (h : cQ T n N X c f u w i I F S) : cQn S := ⟨h.2.1.2, h.2.2.1.1, h.2.2.2.2.2.1.1, h.2.2.2.2.2.2.1.2⟩
def cQf (f : Int) (S Z : wS) (v : Nat) (x : Int) : Prop := ∃ S1 : wS, (cQg f 0 0 S S1 ∧ cQn S1) ∧ ry_ag S1 Z v x
variable {m m2 w2 : Int}
theorem cQg_rfl : cQg f m w S S := ⟨fun _ _ _ _ _ _ _ _ _ => rfl, fun _ _ _ => ⟨rfl, rfl, rfl, rfl⟩, rmR_rfl S⟩
theorem cQg_tr (h : cQg f m w A B) (k : cQg f m w B C) : cQg f m w A C := ⟨fun j x a b c d e g i => (k.1 j x a b c d e g i).trans (h.1 j x a b c d e g i), fun x a b => ⟨(k.2.1 x a b).1.trans (h.2.1 x a b).1, (k.2.1 x a b).2.1.trans (h.2.1 x a b).2.1, (k.2.1 x a b).2.2.1.trans (h.2.1 x a b).2.2.1, (k.2.1 x a b).2.2.2.trans (h.2.1 x a b).2.2.2⟩, rmR_tr h.2.2 k.2.2⟩
theorem cQg_mo (h : cQg f m w A B) (hm : m2 ≤ m) (hw : w2 ≤ w) : cQg f m2 w2 A B := ⟨fun j x a b c d e g i => h.1 j x a b c d (by omega) g i, fun x a b => h.2.1 x a (by omega), h.2.2⟩
theorem cQg_up {j : Nat} {x v : Int} (hx : 0 ≤ x) (hj : j ≠ wG) (h : j = 63 ∨ (j = 14 ∧ x = 4) ∨ (j = 71 ∧ w ≤ x) ∨ (21 ≤ j ∧ j ≤ 29 ∧ f ≤ x) ∨ (64 ≤ j ∧ j ≤ 67 ∧ m ≤ x) ∨ j = 69 ∨ j = 70) : cQg f m w S (w_up S j x v) := ⟨fun j2 x2 a b c d e g i => w_up_no (by omega), fun x2 a b => ⟨w_up_no (by omega), w_up_no (by omega), w_up_no (by omega), w_up_no (by omega)⟩, rmR_up (rmR_rfl S) hx hj⟩
theorem cQg_nt {op a b : Int} (g : nt_ag S Z op a b) (hm : m ≤ S 63 7) (hu : f ≤ S 63 11) : cQg f m w S Z := ⟨fun j x h1 h2 h3 h4 h5 h6 h7 => g.2.2.2.1 j x h1 h2 (by omega) (by omega) (by omega) (by omega) (Or.inl h3) (by omega), fun x h1 h2 => g.2.2.1 x h1 (by omega), g.2.2.2.2.2.2⟩
theorem cQg_av {g y : Int} (h : av_ag g y S Z) (hu : f ≤ g) : cQg f m w S Z := ⟨fun j x h1 h2 h3 h4 h5 h6 h7 => h.2.2.1 j x h1 h2 (by omega) (by omega) (Or.inl h3) (by omega) (by omega), fun x h1 h2 => ⟨h.2.2.1 64 x (by decide) (by decide) (by decide) (by decide) (Or.inl (by decide)) (Or.inl (by decide)) (Or.inl (by decide)), h.2.2.1 65 x (by decide) (by decide) (by decide) (by decide) (Or.inl (by decide)) (Or.inl (by decide)) (Or.inl (by decide)), h.2.2.1 66 x (by decide) (by decide) (by decide) (by decide) (Or.inl (by decide)) (Or.inl (by decide)) (Or.inl (by decide)), h.2.2.1 67 x (by decide) (by decide) (by decide) (by decide) (Or.inl (by decide)) (Or.inl (by decide)) (Or.inl (by decide))⟩, h.2.2.2.2.2⟩
theorem cQf_tr {v : Nat} {x : Int} (h : cQg f m w A B) (hm : 0 ≤ m) (hw : 0 ≤ w) (k : cQf f B Z v x) : cQf f A Z v x := by
  obtain ⟨S1, ⟨k1, k3⟩, k2⟩ := k
  exact ⟨S1, ⟨cQg_tr (cQg_mo h hm hw) k1, k3⟩, k2⟩
theorem cQf_of {v : Nat} {x : Int} (h : cQg f m w A B) (hm : 0 ≤ m) (hw : 0 ≤ w) (hn : cQn B) (k : ry_ag B Z v x) : cQf f A Z v x := ⟨B, ⟨cQg_mo h hm hw, hn⟩, k⟩
theorem cQn_14 {x : Int} (h : cQn (w_up Z 14 4 x)) : cQn Z := ⟨fun q hq => (w_up_at (by decide)).symm.trans (h.1 q hq), h.2.1, h.2.2.1, h.2.2.2⟩
theorem cQn_11 {v : Int} (h : cQn S) : cQn (w_up S 63 11 v) := ⟨w_CL_up h.1 (by decide), h.2.1, h.2.2.1, h.2.2.2⟩
theorem qx_T_ag (h : qx_T T n N X c S) (e : ∀ (j : Nat) (x : Int), (j = 15 ∨ j = 16 ∨ j = 17 ∨ (j = 14 ∧ x = 3)) → Z j x = S j x) : qx_T T n N X c Z := by
  have e3 : Z 14 3 = S 14 3 := e 14 3 (by omega)
  have e15 : Z 15 = S 15 := funext fun x => e 15 x (by omega)
  have e16 : Z 16 = S 16 := funext fun x => e 16 x (by omega)
  have e17 : Z 17 = S 17 := funext fun x => e 17 x (by omega)
  unfold qx_T tk2 rd_L at h ⊢
  rw [e3, e15, e16, e17]
  exact h
theorem qx_P_ag (h : qx_P T n c i S) (e : Z 14 4 = S 14 4) : qx_P T n c i Z := ⟨e.trans h.1, h.2⟩
/-- the next token -/
theorem cQ_nx (h : cQ T n N X c f u w i I F S) (hk : kq T n N X i ≠ 0 ∧ kq T n N X i ≠ 1) : cQ T n N X c f u w (i + 1) I F (w_up S 14 4 ((i : Int) + 1)) := by
  obtain ⟨⟨a1, a2⟩, ⟨b1, b2⟩, c1, ⟨d1, d2, d3, d4, d5, d6⟩, e1, ⟨g1, g2⟩, ⟨k1, k2⟩, l1⟩ := h
  refine ⟨⟨qx_up a1, (qx_nx a1 a2 hk).2⟩, ⟨gI_up b1 (by decide) (Or.inl (by decide)) (Or.inl (Or.inr (by decide))), w_CL_up b2 (by decide)⟩, c1, ⟨d1, d2, d3, d4, d5, fun k hk => ?_⟩, e1, ⟨g1, ?_⟩, ⟨by omega, k2⟩, l1⟩
  · obtain ⟨x1, x2, x3, x4, x5, x6⟩ := d6 k hk
    exact ⟨x1, x2, x3, Nat.le_succ_of_le x4, x5, x6⟩
  · show S 63 13 ≤ ((i + 1 : Nat) : Int); omega
theorem cQ_lt (h : cQ T n N X c f u w i I F S) (hk : kq T n N X i ≠ 0 ∧ kq T n N X i ≠ 1) : i < c := (qx_nx h.1.1 h.1.2 hk).1
/-- what the Compiler keeps besides -/
theorem cQ_63 {k x : Int} (h : cQ T n N X c f u w i I F S) (hk : k = 16 ∨ k = 17) : cQ T n N X c f u w i I F (w_up S 63 k x) := by
  obtain ⟨⟨a1, a2⟩, ⟨b1, b2⟩, c1, d1, e1, g1, k1, l1⟩ := h
  have b3 : gI (w_up S 63 k x) := gI_up b1 (by omega) (Or.inl (by decide)) (Or.inl (Or.inl (by decide)))
  have b4 : w_CL (w_up S 63 k x) := w_CL_up b2 (by omega)
  rcases hk with rfl | rfl
  · exact ⟨⟨a1, a2⟩, ⟨b3, b4⟩, c1, d1, e1, g1, k1, l1⟩
  · exact ⟨⟨a1, a2⟩, ⟨b3, b4⟩, c1, d1, e1, g1, k1, l1⟩
theorem cQ_w (h : cQ T n N X c f u w i I F S) (hw : 0 ≤ w2 ∧ w2 ≤ 1024) : cQ T n N X c f u w2 i I F (w_up S 63 15 w2) := by
  obtain ⟨⟨a1, a2⟩, ⟨b1, b2⟩, c1, d1, e1, g1, k1, l1⟩ := h
  exact ⟨⟨a1, a2⟩, ⟨gI_up b1 (by decide) (Or.inl (by decide)) (Or.inl (Or.inl (by decide))), w_CL_up b2 (by decide)⟩, c1, d1, e1, g1, k1, rfl, hw⟩
theorem cQ_71 {k x : Int} (h : cQ T n N X c f u w i I F S) (hk : 0 ≤ k) : cQ T n N X c f u w i I F (w_up S 71 k x) := by
  obtain ⟨⟨a1, a2⟩, ⟨b1, b2⟩, c1, d1, e1, g1, k1, l1⟩ := h
  exact ⟨⟨a1, a2⟩, ⟨gI_up b1 hk (Or.inl (by decide)) (Or.inl (Or.inl (by decide))), w_CL_up b2 hk⟩, c1, d1, e1, g1, k1, l1⟩
theorem cQ_u {u2 : Int} (h : cQ T n N X c f u w i I F S) (hu : f ≤ u2 ∧ u2 < f + (F.length : Int)) : cQ T n N X c f u2 w i I F (w_up S 63 11 u2) := by
  obtain ⟨⟨a1, a2⟩, ⟨b1, b2⟩, c1, d1, e1, g1, k1, l1⟩ := h
  exact ⟨⟨a1, a2⟩, ⟨gI_up b1 (by decide) (Or.inl (by decide)) (Or.inl (Or.inl (by decide))), w_CL_up b2 (by decide)⟩, c1, d1, ⟨rfl, hu⟩, g1, k1, l1⟩
theorem pz_h_ap (I J : List pz_I) (u : Int) : pz_h (I ++ J) u = pz_h I u + pz_h J u := by unfold pz_h; rw [List.countP_append]; omega
theorem pz_s_ap (I J : List pz_I) : pz_s (I ++ J) = pz_s I + pz_s J := by unfold pz_s; rw [List.countP_append]; omega
theorem pz_h_1 (a b e g u : Int) : pz_h [(a, b, e, g)] u = if g = u then 1 else 0 := by
  unfold pz_h
  rw [List.countP_singleton]
  by_cases h : g = u
  · subst h; simp
  · simp [h]
theorem pz_s_1 (a b e g : Int) : pz_s [(a, b, e, g)] = if a = 27 then 1 else 0 := by
  unfold pz_s
  rw [List.countP_singleton]
  by_cases h : a = 27
  · subst h; simp
  · simp [h]
theorem pz_h_rg (I : List pz_I) (u : Int) : 0 ≤ pz_h I u ∧ pz_h I u ≤ (I.length : Int) := by
  have := List.countP_le_length (p := fun x : pz_I => x.2.2.2 == u) (l := I)
  unfold pz_h
  omega
theorem pz_s_rg (I : List pz_I) : 0 ≤ pz_s I ∧ pz_s I ≤ (I.length : Int) := by
  have := List.countP_le_length (p := fun x : pz_I => x.1 == 27) (l := I)
  unfold pz_s
  omega
theorem pz_h_0 {I : List pz_I} {u : Int} (h : ∀ x ∈ I, x.2.2.2 ≠ u) : pz_h I u = 0 := by
  have : I.countP (fun x => x.2.2.2 == u) = 0 := by
    rw [List.countP_eq_zero]
    intro x hx
    have := h x hx
    simpa using this
  unfold pz_h; omega
theorem gD_l {α : Type} {I : List α} {x z : α} {k : Nat} (h : k < I.length) : (I ++ [x]).getD k z = I.getD k z := by
  rw [List.getD_eq_getElem?_getD, List.getD_eq_getElem?_getD, List.getElem?_append_left h]
theorem gD_r {α : Type} {I : List α} {x z : α} : (I ++ [x]).getD I.length z = x := by
  rw [List.getD_eq_getElem?_getD, List.getElem?_append_right (Nat.le_refl _), Nat.sub_self]
  rfl
theorem gD_s {α : Type} {I : List α} {x z : α} {j k : Nat} (h : k < I.length) : (I.set j x).getD k z = if k = j then x else I.getD k z := by
  rw [List.getD_eq_getElem?_getD, List.getD_eq_getElem?_getD, List.getElem?_set]
  by_cases e : j = k
  · subst e; rw [if_pos rfl, if_pos h, if_pos rfl]; rfl
  · rw [if_neg e, if_neg (fun q => e q.symm)]
theorem wz_av : ∀ q ∈ wz_n, q.1 ≠ 69 ∧ q.1 ≠ 70 := by decide +kernel
theorem wz_ub : ∀ q ∈ wz_n, q.1 < 4000000 ∧ q.1 ≠ wG := by decide +kernel
/-- one more instruction, and siteCount -/
theorem cQ_n0 {op a b : Int} {Z2 : wS} (h : cQ T n N X c f u w i I F S) (g : nt_ag S Z op a b) (hl : (I.length : Int) + 1 ≤ 1 * (i : Int) + 8) (hz : ∀ (j : Nat) (x : Int), (j ≠ 63 ∨ x ≠ 8) → Z2 j x = Z j x) (h8 : Z2 63 8 = pz_s (I ++ [(op, a, b, u)])) (gi : gI Z2) : cQ T n N X c f u w i (I ++ [(op, a, b, u)]) F Z2 := by
  obtain ⟨⟨a1, a2⟩, ⟨b1, b2⟩, ⟨c1, c2, c3, c4⟩, ⟨d1, d2, d3, d4, d5, d6⟩, ⟨e1, e2, e3⟩, ⟨g1, g2⟩, ⟨k1, k2⟩, l1⟩ := h
  obtain ⟨⟨x1, x2⟩, ⟨y1, y2, y3, y4⟩, pre, fr, ⟨z1, z2, z3, z4, z5⟩, -, -⟩ := g
  have hic : i ≤ c := a2.2.1
  have hcn : (c : Int) ≤ n := a1.2.2.2.2.1
  have hnn : n ≤ 8176 := a1.2.2.2.2.2.1
  have e : ∀ (j : Nat) (x : Int), j < 4000000 → j ≠ wG → (j < 64 ∨ 67 < j) → (j ≠ 63 ∨ (x ≠ 7 ∧ x ≠ 8)) → (j ≠ 24 ∨ x ≠ S 63 11) → Z2 j x = S j x := fun j x j0 j1 j2 j3 j4 => (hz j x (by omega)).trans (fr j x j0 j1 (by omega) (by omega) (by omega) (by omega) (by omega) j4)
  have e69 : Z2 69 = S 69 := funext fun x => e 69 x (by decide) (by decide) (by decide) (Or.inl (by decide)) (Or.inl (by decide))
  have e70 : Z2 70 = S 70 := funext fun x => e 70 x (by decide) (by decide) (by decide) (Or.inl (by decide)) (Or.inl (by decide))
  have q63 : ∀ x : Int, x ≠ 7 → x ≠ 8 → Z2 63 x = S 63 x := fun x hx hx2 => e 63 x (by decide) (by decide) (by decide) (Or.inr ⟨hx, hx2⟩) (Or.inl (by decide))
  have e19 : ∀ x : Int, Z2 19 x = S 19 x := fun x => e 19 x (by decide) (by decide) (by decide) (Or.inl (by decide)) (Or.inl (by decide))
  have h6 : ∀ (j : Nat) (x : Int), j ≠ 63 → Z2 j x = Z j x := fun j x hj => hz j x (Or.inl hj)
  obtain ⟨c0, c5, c6, c7, c8, c9⟩ := c1
  have hlen : ((I ++ [((op, a, b, u) : pz_I)]).length : Int) = (I.length : Int) + 1 := by rw [List.length_append]; rfl
  have h7 : Z2 63 7 = S 63 7 + 1 := (hz 63 7 (Or.inr (by decide))).trans x1
  refine ⟨⟨qx_T_ag a1 (fun j x hj => e j x (by omega) (by have : wG = 1000000 := rfl; omega) (by omega) (by omega) (by omega)), qx_P_ag a2 (e 14 4 (by decide) (by decide) (by decide) (Or.inl (by decide)) (Or.inl (by decide)))⟩, ⟨gi, fun q hq => (e q.1 (-1) (wz_ub q hq).1 (wz_ub q hq).2 (wz_nt q hq) (Or.inr ⟨by decide, by decide⟩) (Or.inr (by omega))).trans (b2 q hq)⟩, ⟨?_, ?_, h8, ?_⟩, ⟨(e19 1).trans d1, (q63 10 (by decide) (by decide)).trans d2, d3, by rw [e19 3]; exact d4, ?_, fun k hk => ?_⟩, ⟨(q63 11 (by decide) (by decide)).trans e1, e2, e3⟩, ⟨?_, by rw [q63 13 (by decide) (by decide)]; exact g2⟩, ⟨by rw [hlen]; exact hl, by rw [h6 64 (-1) (by decide)]; omega⟩, by rw [q63 15 (by decide) (by decide)]; exact l1⟩
  · unfold nt_L
    rw [h7, h6 64 (-1) (by decide), h6 65 (-1) (by decide), h6 66 (-1) (by decide), h6 67 (-1) (by decide)]
    exact ⟨by omega, z1, z2, z3, by omega, by omega⟩
  · rw [h7, c2, hlen]
  · intro k hk
    rw [h6 64 _ (by decide), h6 65 _ (by decide), h6 66 _ (by decide), h6 67 _ (by decide)]
    by_cases hkl : k < I.length
    · obtain ⟨p1, p2, p3, p4⟩ := pre (k : Int) (by omega) (by omega)
      rw [gD_l hkl, p1, p2, p3, p4]
      exact c4 k hkl
    · have hke : k = I.length := by rw [List.length_append] at hk; have : k < I.length + 1 := hk; omega
      subst hke
      rw [gD_r, ← c2, y1, y2, y3, y4]
      exact ⟨rfl, fun _ => rfl, rfl, e1⟩
  · intro x hx
    rcases List.mem_append.mp hx with q | q
    · exact d5 x q
    · rw [List.mem_singleton.mp q]; exact ⟨e2, e3⟩
  · obtain ⟨x1, x2, x3, x4, x5, x6⟩ := d6 k hk
    have er : ∀ j : Nat, 20 < j → j < 30 → j ≠ 24 → Z2 j (f + k) = S j (f + k) := fun j j0 j1 j2 => e j _ (by omega) (by have : wG = 1000000 := rfl; omega) (by omega) (by omega) (Or.inl j2)
    refine ⟨by rw [er 28 (by decide) (by decide) (by decide)]; exact x1, by rw [er 22 (by decide) (by decide) (by decide)]; exact x2, ?_, x4, ?_, by rw [er 21 (by decide) (by decide) (by decide), e19 3]; exact x6⟩
    · unfold fv_I
      rw [er 23 (by decide) (by decide) (by decide), er 29 (by decide) (by decide) (by decide), e69, e70, q63 13 (by decide) (by decide)]
      exact x3
    · rw [pz_h_ap, pz_h_1, ← x5, h6 24 _ (by decide)]
      by_cases q : u = f + k
      · rw [if_pos q, ← q, ← e1]; assumption
      · rw [if_neg q, fr 24 (f + k) (by decide) (by decide) (by decide) (by decide) (by decide) (by decide) (Or.inl (by decide)) (Or.inr (by omega))]; omega
  · unfold va_L
    rw [q63 13 (by decide) (by decide), e69, e70, e 68 (-1) (by decide) (by decide) (by decide) (Or.inl (by decide)) (Or.inl (by decide))]
    exact g1
theorem cQ_nt {op a b : Int} (h : cQ T n N X c f u w i I F S) (g : nt_ag S Z op a b) (hl : (I.length : Int) + 1 ≤ 1 * (i : Int) + 8) (h27 : op ≠ 27) : cQ T n N X c f u w i (I ++ [(op, a, b, u)]) F Z := by
  refine cQ_n0 h g hl (fun _ _ _ => rfl) ?_ g.2.2.2.2.2.1
  rw [g.2.2.2.1 63 8 (by decide) (by decide) (by decide) (by decide) (by decide) (by decide) (Or.inr (by decide)) (Or.inl (by decide)), h.2.2.1.2.2.1, pz_s_ap, pz_s_1, if_neg h27]; omega
theorem cQ_si {a b v : Int} (h : cQ T n N X c f u w i I F S) (g : nt_ag S Z 27 a b) (hl : (I.length : Int) + 1 ≤ 1 * (i : Int) + 8) (hv : v = S 63 8 + 1) : cQ T n N X c f u w i (I ++ [(27, a, b, u)]) F (w_up Z 63 8 v) := by
  refine cQ_n0 h g hl (fun j x hj => w_up_no (by omega)) ?_ (gI_up g.2.2.2.2.2.1 (by decide) (Or.inl (by decide)) (Or.inl (Or.inl (by decide))))
  rw [w_up_same, hv, h.2.2.1.2.2.1, pz_s_ap, pz_s_1, if_pos rfl]
/-- an instruction's A -/
theorem pz_a_len (I : List pz_I) (j : Nat) (v : Int) : (pz_a I j v).length = I.length := by unfold pz_a; rw [List.length_set]
theorem pz_a_get {I : List pz_I} {j k : Nat} {v : Int} (hk : k < I.length) : (pz_a I j v).getD k (0, 0, 0, 0) = if k = j then ((I.getD j (0, 0, 0, 0)).1, v, (I.getD j (0, 0, 0, 0)).2.2) else I.getD k (0, 0, 0, 0) := gD_s hk
theorem cnt_set (p : pz_I → Bool) : ∀ (I : List pz_I) (j : Nat) (x : pz_I), p x = p (I.getD j (0, 0, 0, 0)) → (I.set j x).countP p = I.countP p := by
  intro I
  induction I with
  | nil => intro j x h; rfl
  | cons y r ih =>
    intro j x h
    cases j with
    | zero =>
      have h2 : p x = p y := h
      show (x :: r).countP p = (y :: r).countP p
      rw [List.countP_cons, List.countP_cons, h2]
    | succ j =>
      show (y :: r.set j x).countP p = (y :: r).countP p
      rw [List.countP_cons, List.countP_cons, ih j x h]
theorem pz_a_h (I : List pz_I) (j : Nat) (v u : Int) : pz_h (pz_a I j v) u = pz_h I u := by
  exact congrArg (fun z : Nat => (z : Int)) (cnt_set (fun x : pz_I => x.2.2.2 == u) I j ((I.getD j (0, 0, 0, 0)).1, v, (I.getD j (0, 0, 0, 0)).2.2) rfl)
theorem pz_a_s (I : List pz_I) (j : Nat) (v : Int) : pz_s (pz_a I j v) = pz_s I := by
  exact congrArg (fun z : Nat => (z : Int)) (cnt_set (fun x : pz_I => x.1 == 27) I j ((I.getD j (0, 0, 0, 0)).1, v, (I.getD j (0, 0, 0, 0)).2.2) rfl)
theorem pz_a_own {I : List pz_I} {j : Nat} {v : Int} {p : Int → Prop} (h : ∀ x ∈ I, p x.2.2.2) : ∀ x ∈ pz_a I j v, p x.2.2.2 := by
  intro x hx
  unfold pz_a at hx
  rcases List.mem_or_eq_of_mem_set hx with q | q
  · exact h x q
  · by_cases hj : j < I.length
    · rw [q]
      exact h (I.getD j (0, 0, 0, 0)) (by rw [List.getD_eq_getElem?_getD, List.getElem?_eq_getElem hj]; exact List.getElem_mem _)
    · rw [List.set_eq_of_length_le (by omega)] at hx
      exact h x hx
theorem cQ_am {j : Nat} {v : Int} (h : cQ T n N X c f u w i I F S) (hj : j < I.length) : cQ T n N X c f u w i (pz_a I j v) F (w_up S 65 (j : Int) v) := by
  obtain ⟨⟨a1, a2⟩, ⟨b1, b2⟩, ⟨c1, c2, c3, c4⟩, ⟨d1, d2, d3, d4, d5, d6⟩, e1, g1, ⟨k1, k2⟩, l1⟩ := h
  refine ⟨⟨a1, a2⟩, ⟨gI_up b1 (by omega) (Or.inl (by decide)) (Or.inl (Or.inl (by decide))), w_CL_up b2 (by omega)⟩, ⟨?_, ?_, ?_, fun k hk => ?_⟩, ⟨d1, d2, d3, d4, pz_a_own (p := fun z => f ≤ z ∧ z < f + (F.length : Int)) d5, fun k hk => ?_⟩, e1, g1, ⟨by rw [pz_a_len]; exact k1, k2⟩, l1⟩
  · obtain ⟨c0, c5, c6, c7, c8, c9⟩ := c1
    refine ⟨c0, ?_, c6, c7, c8, c9⟩
    rw [w_up_at (by omega)]; exact c5
  · rw [pz_a_len]; exact c2
  · rw [pz_a_s]; exact c3
  · rw [pz_a_len] at hk
    obtain ⟨p1, p2, p3, p4⟩ := c4 k hk
    rw [pz_a_get hk]
    by_cases e : k = j
    · subst e
      rw [if_pos rfl, w_up_same]
      exact ⟨p1, fun _ => rfl, p3, p4⟩
    · rw [if_neg e, w_up_at (S := S) (j := 65) (k := 65) (by omega)]
      exact ⟨p1, p2, p3, p4⟩
  · obtain ⟨x1, x2, x3, x4, x5, x6⟩ := d6 k hk
    exact ⟨x1, x2, x3, x4, by rw [pz_a_h]; exact x5, x6⟩
/-- a new function -/
theorem cQ_af {ar : Int} (h : cQ T n N X c f u w i I F S) (ha : (ar = -1 ∨ f ≤ ar) ∧ ar < f + (F.length : Int)) (hf : f + (F.length : Int) < 400) : cQ T n N X c f u w i I (F ++ [(ar, 0, [])]) (w_up (w_up (w_up (w_up (w_up (w_up (w_up S 21 (f + (F.length : Int)) (S 19 3)) 22 (f + (F.length : Int)) 0) 23 (f + (F.length : Int)) 0) 24 (f + (F.length : Int)) 0) 28 (f + (F.length : Int)) ar) 29 (f + (F.length : Int)) (-1)) 63 10 ((F.length : Int) + 1)) := by
  obtain ⟨⟨a1, a2⟩, ⟨b1, b2⟩, c1, ⟨d1, d2, d3, d4, d5, d6⟩, ⟨e1, e2, e3⟩, ⟨g1, g2⟩, k1, l1⟩ := h
  have hlen : ((F ++ [((ar, 0, []) : pz_F)]).length : Int) = (F.length : Int) + 1 := by rw [List.length_append]; rfl
  have hfl : 0 ≤ f + (F.length : Int) := by omega
  have hg : gI (w_up (w_up (w_up (w_up (w_up (w_up (w_up S 21 (f + (F.length : Int)) (S 19 3)) 22 (f + (F.length : Int)) 0) 23 (f + (F.length : Int)) 0) 24 (f + (F.length : Int)) 0) 28 (f + (F.length : Int)) ar) 29 (f + (F.length : Int)) (-1)) 63 10 ((F.length : Int) + 1)) := gI_up (gI_up (gI_up (gI_up (gI_up (gI_up (gI_up b1 hfl (Or.inl (by decide)) (Or.inl (Or.inl (by decide)))) hfl (Or.inl (by decide)) (Or.inl (Or.inl (by decide)))) hfl (Or.inl (by decide)) (Or.inl (Or.inl (by decide)))) hfl (Or.inl (by decide)) (Or.inl (Or.inl (by decide)))) hfl (Or.inl (by decide)) (Or.inl (Or.inl (by decide)))) hfl (Or.inl (by decide)) (Or.inl (Or.inl (by decide)))) (by decide) (Or.inl (by decide)) (Or.inl (Or.inl (by decide)))
  have hc : w_CL (w_up (w_up (w_up (w_up (w_up (w_up (w_up S 21 (f + (F.length : Int)) (S 19 3)) 22 (f + (F.length : Int)) 0) 23 (f + (F.length : Int)) 0) 24 (f + (F.length : Int)) 0) 28 (f + (F.length : Int)) ar) 29 (f + (F.length : Int)) (-1)) 63 10 ((F.length : Int) + 1)) := w_CL_up (w_CL_up (w_CL_up (w_CL_up (w_CL_up (w_CL_up (w_CL_up b2 hfl) hfl) hfl) hfl) hfl) hfl) (by decide)
  refine ⟨⟨a1, a2⟩, ⟨hg, hc⟩, c1, ⟨d1, ?_, ⟨d3.1, by rw [hlen]; omega⟩, d4, fun x hx => by rw [hlen]; have := d5 x hx; omega, fun k hk => ?_⟩, ⟨e1, e2, by rw [hlen]; omega⟩, ⟨g1, g2⟩, k1, l1⟩
  · rw [w_up_same, hlen]
  · by_cases hkl : k < F.length
    · obtain ⟨x1, x2, x3, x4, x5, x6⟩ := d6 k hkl
      have hne : f + (k : Int) ≠ f + (F.length : Int) := by omega
      unfold fn_I fv_I
      rw [gD_l hkl]
      simp only [w_up, Nat.reduceEqDiff, false_and, if_false, true_and, hne]
      exact ⟨x1, x2, x3, x4, x5, x6⟩
    · have hke : k = F.length := by rw [List.length_append] at hk; have : k < F.length + 1 := hk; omega
      subst hke
      have h0 : pz_h I (f + (F.length : Int)) = 0 := pz_h_0 (fun x hx => by have := d5 x hx; omega)
      unfold fn_I fv_I
      rw [gD_r, h0]
      have g13 : 0 ≤ S 63 13 := g1.2.1.1
      refine ⟨⟨by simp [w_up], ha.1, ha.2⟩, by simp [w_up], ⟨by simp [w_up], trivial, by simp [w_up], ?_⟩, Nat.zero_le _, by simp [w_up], by simp [w_up]⟩
      simp [w_up]
      omega
/-- its parameters -/
theorem cQ_pa {g v : Int} (h : cQ T n N X c f u w i I F S) (hg : f ≤ g ∧ g < f + (F.length : Int)) (hv : v = S 23 g) : cQ T n N X c f u w i I (pz_p f F g) (w_up S 22 g v) := by
  obtain ⟨⟨a1, a2⟩, ⟨b1, b2⟩, c1, ⟨d1, d2, d3, d4, d5, d6⟩, ⟨e1, e2, e3⟩, ⟨g1, g2⟩, k1, l1⟩ := h
  have hlen : (pz_p f F g).length = F.length := by unfold pz_p; rw [List.length_set]
  refine ⟨⟨a1, a2⟩, ⟨gI_up b1 (by omega) (Or.inl (by decide)) (Or.inl (Or.inl (by decide))), w_CL_up b2 (by omega)⟩, c1, ⟨d1, by rw [hlen]; exact d2, by rw [hlen]; exact d3, d4, by rw [hlen]; exact d5, fun k hk => ?_⟩, ⟨e1, e2, by rw [hlen]; exact e3⟩, ⟨g1, g2⟩, k1, l1⟩
  rw [hlen] at hk
  obtain ⟨x1, x2, x3, x4, x5, x6⟩ := d6 k hk
  unfold fn_I pz_p
  rw [gD_s hk]
  by_cases e : k = (g - f).toNat
  · have eg : f + (k : Int) = g := by omega
    rw [if_pos e]
    have ez : pz_f f F g = F.getD k (-1, 0, []) := by unfold pz_f; rw [e]
    rw [ez]
    refine ⟨x1, ?_, x3, x4, x5, x6⟩
    rw [eg, w_up_same, hv, ← eg]; exact x3.1
  · rw [if_neg e]
    refine ⟨x1, ?_, x3, x4, x5, x6⟩
    rw [w_up_at (by omega)]; exact x2
/-- one more variable; the reader goes on -/
theorem cQ_av {g y : Int} (h : cQ T n N X c f u w i I F S) (hg : f ≤ g ∧ g < f + (F.length : Int)) (a : av_ag g y S Z) (hk : kq T n N X i ≠ 0 ∧ kq T n N X i ≠ 1) : cQ T n N X c f u w (i + 1) I (pz_v f F g y) (w_up Z 14 4 ((i : Int) + 1)) := by
  obtain ⟨⟨a1, a2⟩, ⟨b1, b2⟩, ⟨c1, c2, c3, c4⟩, ⟨d1, d2, d3, d4, d5, d6⟩, ⟨e1, e2, e3⟩, ⟨g1, g2⟩, ⟨k1, k2⟩, l1⟩ := h
  have hlen : (pz_v f F g y).length = F.length := by unfold pz_v; rw [List.length_set]
  have a0 := a
  obtain ⟨⟨v1, v2, v3, v4, v5⟩, vp, fr, ⟨vl1, vl2, vl3⟩, gi, -⟩ := a
  have hic : i ≤ c := a2.2.1
  have hcn : (c : Int) ≤ n := a1.2.2.2.2.1
  have hnn : n ≤ 8176 := a1.2.2.2.2.2.1
  have e : ∀ (j : Nat) (x : Int), j < 63 ∨ (63 < j ∧ j < 69) ∨ j = 71 → j ≠ 29 → j ≠ 23 → Z j x = S j x := fun j x h1 h2 h3 => fr j x (by omega) (by have : wG = 1000000 := rfl; omega) (by omega) (by omega) (Or.inl (by omega)) (Or.inl h2) (Or.inl h3)
  have q63 : ∀ x : Int, x ≠ 13 → Z 63 x = S 63 x := fun x hx => fr 63 x (by decide) (by decide) (by decide) (by decide) (Or.inr hx) (Or.inl (by decide)) (Or.inl (by decide))
  have aZ : qx_T T n N X c Z := qx_T_ag a1 (fun j x hj => e j x (by omega) (by omega) (by omega))
  have pZ : qx_P T n c i Z := qx_P_ag a2 (e 14 4 (by decide) (by decide) (by decide))
  have e64 : Z 64 = S 64 := funext fun x => e 64 x (by decide) (by decide) (by decide)
  have e65 : Z 65 = S 65 := funext fun x => e 65 x (by decide) (by decide) (by decide)
  have e66 : Z 66 = S 66 := funext fun x => e 66 x (by decide) (by decide) (by decide)
  have e67 : Z 67 = S 67 := funext fun x => e 67 x (by decide) (by decide) (by decide)
  have hCZ : w_CL Z := fun q hq => (fr q.1 (-1) (wz_ub q hq).1 (wz_ub q hq).2 (wz_av q hq).1 (wz_av q hq).2 (Or.inr (by decide)) (Or.inr (by omega)) (Or.inr (by omega))).trans (b2 q hq)
  refine ⟨⟨qx_up aZ, (qx_nx aZ pZ hk).2⟩, ⟨gI_up gi (by decide) (Or.inl (by decide)) (Or.inl (Or.inr (by decide))), w_CL_up hCZ (by decide)⟩, ⟨?_, ?_, ?_, ?_⟩, ⟨(e 19 1 (by decide) (by decide) (by decide)).trans d1, ?_, by rw [hlen]; exact d3, ?_, by rw [hlen]; exact d5, fun k hk => ?_⟩, ⟨(q63 11 (by decide)).trans e1, e2, by rw [hlen]; exact e3⟩, ⟨?_, ?_⟩, ⟨by omega, ?_⟩, ?_⟩
  · show nt_L Z
    unfold nt_L
    rw [q63 7 (by decide), e64, e65, e66, e67]; exact c1
  · exact (q63 7 (by decide)).trans c2
  · exact (q63 8 (by decide)).trans c3
  · intro k hk
    show Z 64 (k : Int) = _ ∧ (_ → Z 65 (k : Int) = _) ∧ Z 66 (k : Int) = _ ∧ Z 67 (k : Int) = _
    rw [e64, e65, e66, e67]
    exact c4 k hk
  · rw [hlen]; exact (q63 10 (by decide)).trans d2
  · show 0 ≤ Z 19 3 ∧ Z 19 3 ≤ 1000
    rw [e 19 3 (by decide) (by decide) (by decide)]; exact d4
  · rw [hlen] at hk
    obtain ⟨x1, x2, x3, x4, x5, x6⟩ := d6 k hk
    have g28 : Z 28 (f + k) = S 28 (f + k) := e 28 _ (by decide) (by decide) (by decide)
    have g22 : Z 22 (f + k) = S 22 (f + k) := e 22 _ (by decide) (by decide) (by decide)
    have g24 : Z 24 (f + k) = S 24 (f + k) := e 24 _ (by decide) (by decide) (by decide)
    have g21 : Z 21 (f + k) = S 21 (f + k) := e 21 _ (by decide) (by decide) (by decide)
    have g193 : Z 19 3 = S 19 3 := e 19 3 (by decide) (by decide) (by decide)
    show fn_I f (i + 1) I (pz_v f F g y) Z k
    unfold fn_I pz_v
    rw [g28, g22, g24, g21, g193, gD_s hk]
    by_cases eq : k = (g - f).toNat
    · have eg : f + (k : Int) = g := by omega
      have ez : pz_f f F g = F.getD k (-1, 0, []) := by unfold pz_f; rw [eq]
      rw [if_pos eq, ez]
      refine ⟨x1, x2, ?_, Nat.succ_le_succ x4, x5, x6⟩
      rw [eg]
      rw [eg] at x3
      exact fv_new x3 g1.2.1.1 a0
    · rw [if_neg eq]
      exact ⟨x1, x2, fv_old (by omega) x3 a0, Nat.le_succ_of_le x4, x5, x6⟩
  · show va_L Z
    obtain ⟨p1, p2, p3, p4, p5⟩ := g1
    refine ⟨(e 68 (-1) (by decide) (by decide) (by decide)).trans p1, ⟨by rw [v1]; omega, by rw [v1]; exact vl2⟩, vl1, by omega, by omega⟩
  · show Z 63 13 ≤ ((i + 1 : Nat) : Int)
    rw [v1]; omega
  · show Z 64 (-1) ≤ 16383
    rw [e64]; exact k2
  · show Z 63 15 = w ∧ _
    rw [q63 15 (by decide)]; exact l1
/-- the last instruction goes -/
theorem cQ_dr {x : pz_I} (h : cQ T n N X c f u w i (I ++ [x]) F S) (hx : x.2.2.2 = u) {v7 v24 v8 : Int} (h7 : v7 = S 63 7 - 1) (h24 : v24 = S 24 u - 1) (h8 : v8 = S 63 8 - (if x.1 = 27 then 1 else 0)) : cQ T n N X c f u w i I F (w_up (w_up (w_up S 63 7 v7) 24 u v24) 63 8 v8) := by
  obtain ⟨⟨a1, a2⟩, ⟨b1, b2⟩, ⟨c1, c2, c3, c4⟩, ⟨d1, d2, d3, d4, d5, d6⟩, ⟨e1, e2, e3⟩, ⟨g1, g2⟩, ⟨k1, k2⟩, l1⟩ := h
  have hlen : ((I ++ [x]).length : Int) = (I.length : Int) + 1 := by rw [List.length_append]; rfl
  have hpx : x = (x.1, x.2.1, x.2.2.1, x.2.2.2) := rfl
  refine ⟨⟨a1, a2⟩, ⟨gI_up (gI_up (gI_up b1 (by decide) (Or.inl (by decide)) (Or.inl (Or.inl (by decide)))) (by omega) (Or.inl (by decide)) (Or.inl (Or.inl (by decide)))) (by decide) (Or.inl (by decide)) (Or.inl (Or.inl (by decide))), w_CL_up (w_CL_up (w_CL_up b2 (by decide)) (by omega)) (by decide)⟩, ⟨?_, ?_, ?_, fun k hk => ?_⟩, ⟨d1, d2, d3, d4, fun y hy => d5 y (List.mem_append.mpr (Or.inl hy)), fun k hk => ?_⟩, ⟨e1, e2, e3⟩, ⟨g1, g2⟩, ⟨by omega, k2⟩, l1⟩
  · obtain ⟨c0, c5, c6, c7, c8, c9⟩ := c1
    exact ⟨⟨by show 0 ≤ v7; omega, by show v7 ≤ S 64 (-1); omega⟩, c5, c6, c7, c8, c9⟩
  · show v7 = (I.length : Int); omega
  · show v8 = pz_s I
    rw [pz_s_ap] at c3
    have := pz_s_1 x.1 x.2.1 x.2.2.1 x.2.2.2
    rw [← hpx] at this
    rw [this] at c3
    omega
  · have hk2 : k < (I ++ [x]).length := by rw [List.length_append]; exact Nat.lt_succ_of_lt hk
    have := c4 k hk2
    rw [gD_l hk] at this
    exact this
  · obtain ⟨x1, x2, x3, x4, x5, x6⟩ := d6 k hk
    refine ⟨x1, x2, x3, x4, ?_, x6⟩
    rw [pz_h_ap] at x5
    have hh := pz_h_1 x.1 x.2.1 x.2.2.1 x.2.2.2 (f + k)
    rw [← hpx, hx] at hh
    rw [hh] at x5
    rw [w_up_slot (by decide)]
    by_cases q : u = f + (k : Int)
    · rw [← q, w_up_same, h24, q]
      rw [if_pos q] at x5
      omega
    · rw [w_up_at (by omega), w_up_slot (by decide), x5, if_neg q]; omega
end Wb7
