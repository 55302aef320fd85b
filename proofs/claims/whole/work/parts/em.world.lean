/-! PART em: the world of both: what keeps it; variables and globals are written. -/
section Wem
variable {S Z A : wS} {k v q a b y : Int} {u : aV} {w m i : Nat} {L : List aC} {T : List aO} {G : Int → aV} {sl : Nat → List Int}
theorem gC_set {l : List aC} {i j : Nat} {x : aC} (h : i < l.length) : (l.set i x).getD j (0, []) = if i = j then x else l.getD j (0, []) := by
  by_cases e : i = j
  · subst e
    rw [if_pos rfl, List.getD_eq_getElem?_getD, List.getElem?_set_self h]; rfl
  · rw [if_neg e, List.getD_eq_getElem?_getD, List.getElem?_set_ne e, ← List.getD_eq_getElem?_getD]
theorem cTh_mo (h : cTh S T) (e : cTx S Z) (f3 : Z 72 3 = S 72 3) (f : ∀ (j : Nat) (x : Int), 127 ≤ j → j ≤ 136 → 0 ≤ x → x < (T.length : Int) → Z j x = S j x) (f4 : S 140 2 ≤ Z 140 2) (g : ∀ (k : Nat) (i : Int), k < T.length → S 133 k ≤ i → i < S 133 k + S 134 k → Z 141 i = S 141 i ∧ Z 142 i = S 142 i) : cTh Z T := by
  refine ⟨f3.trans h.1, fun k hk => ?_⟩
  obtain ⟨⟨a1, a2, a3, a4, a5, a6⟩, ⟨b1, b2, b3, b4⟩, c⟩ := h.2 k hk
  have e2 : ∀ j : Nat, 127 ≤ j → j ≤ 136 → Z j (k : Int) = S j (k : Int) := fun j j0 j1 => f j k j0 j1 (by omega) (by omega)
  rw [e2 127 (by decide) (by decide), e2 128 (by decide) (by decide), e2 129 (by decide) (by decide), e2 130 (by decide) (by decide), e2 131 (by decide) (by decide), e2 133 (by decide) (by decide), e2 134 (by decide) (by decide), e2 135 (by decide) (by decide), e2 136 (by decide) (by decide)]
  refine ⟨⟨a1, a2, a3, a4, a5, a6⟩, ⟨b1, b2, b3, by omega⟩, cR1_mo c e (fun i i0 i1 => g k i hk i0 ?_)⟩
  rw [List.length_map] at i1
  omega
theorem cCa_mo (h : cCa S L) (e : cTx S Z) (f5 : Z 72 5 = S 72 5) (f : ∀ (x : Int), 0 ≤ x → x < (L.length : Int) → Z 138 x = S 138 x ∧ Z 139 x = S 139 x) (f4 : S 140 2 ≤ Z 140 2) (g : ∀ (k : Nat) (i : Int), k < L.length → S 138 k ≤ i → i < S 138 k + ((L.getD k (0, [])).2.length : Int) → Z 141 i = S 141 i ∧ Z 142 i = S 142 i) : cCa Z L := by
  refine ⟨f5.trans h.1, fun k hk => ?_⟩
  obtain ⟨a1, ⟨b3, b4⟩, c⟩ := h.2 k hk
  obtain ⟨f8, f9⟩ := f k (by omega) (by omega)
  rw [f8, f9]
  exact ⟨a1, ⟨b3, by omega⟩, cR1_mo c e (fun i i0 i1 => g k i hk i0 i1)⟩
theorem cAp_mo {n : Nat} (h : cAp S n L) (f : ∀ x : Int, 0 ≤ x → x < (n : Int) → Z 133 x = S 133 x ∧ Z 135 x = S 135 x) (f8 : ∀ x : Int, 0 ≤ x → x < (L.length : Int) → Z 138 x = S 138 x) : cAp Z n L := by
  obtain ⟨h1, h2, h3⟩ := h
  refine ⟨fun k q hk hq e => ?_, fun k q hk hq => ?_, fun k q hk hq e => ?_⟩
  · rw [(f k (by omega) (by omega)).1, (f k (by omega) (by omega)).2, (f q (by omega) (by omega)).1, (f q (by omega) (by omega)).2]; exact h1 k q hk hq e
  · rw [(f k (by omega) (by omega)).1, (f k (by omega) (by omega)).2, f8 q (by omega) (by omega)]; exact h2 k q hk hq
  · rw [f8 k (by omega) (by omega), f8 q (by omega) (by omega)]; exact h3 k q hk hq e
theorem cGl_mo (h : cGl S G) (e : cTx S Z) (f : ∀ (j : Nat) (x : Int), (j = 153 ∧ x = 2) ∨ j = 154 ∨ j = 155 → Z j x = S j x) : cGl Z G := by
  obtain ⟨h1, h2, h3⟩ := h
  rw [← f 153 2 (by decide), ← f 154 (-1) (by decide), ← f 155 (-1) (by decide)] at h1
  exact ⟨h1, fun a a0 a1 => by rw [f 154 a (by omega), f 155 a (by omega)]; rw [f 153 2 (by decide)] at a1; exact cVl_mo (h2 a a0 a1) e, fun a a0 => h3 a (by rw [f 153 2 (by decide)] at a0; exact a0)⟩
/-- rows of the class's things -/
def cLt (S : wS) (T : List aO) : Prop := (∀ x : Nat, x < 10 → S (127 + x) (-1) = S 127 (-1)) ∧ (T.length : Int) ≤ S 127 (-1) ∧ 64 ≤ S 127 (-1) ∧ S 127 (-1) ≤ 16383
/-- the world: things, calls, globals; of the class -/
def cWd (S : wS) (T : List aO) (L : List aC) (G : Int → aV) : Prop := cTh S T ∧ cCa S L ∧ cAp S T.length L ∧ cLc S L ∧ cLt S T ∧ cGl S G
/-- what of the class holds its world -/
def cWo (j : Nat) (x : Int) : Prop := (127 ≤ j ∧ j ≤ 136) ∨ j = 138 ∨ j = 139 ∨ (j = 140 ∧ x = 2) ∨ j = 141 ∨ j = 142 ∨ (j = 72 ∧ (x = 3 ∨ x = 5)) ∨ (j = 153 ∧ x = 2) ∨ j = 154 ∨ j = 155
theorem cWd_ag (h : cWd S T L G) (e : cTx S Z) (f : ∀ (j : Nat) (x : Int), cWo j x → Z j x = S j x) : cWd Z T L G := by
  obtain ⟨h1, h2, h3, ⟨⟨n1, n2, n3, n4⟩, n5, ⟨n6, n7⟩, n8, n9⟩, ⟨t1, t2, t3, t4⟩, h5⟩ := h
  have f2 : ∀ (j : Nat) (x : Int), 127 ≤ j → j ≤ 136 → Z j x = S j x := fun j x j0 j1 => f j x (Or.inl ⟨j0, j1⟩)
  have w8 : ∀ x : Int, Z 138 x = S 138 x := fun x => f 138 x (by unfold cWo; omega)
  have w9 : ∀ x : Int, Z 139 x = S 139 x := fun x => f 139 x (by unfold cWo; omega)
  have w1 : ∀ x : Int, Z 141 x = S 141 x := fun x => f 141 x (by unfold cWo; omega)
  have w2 : ∀ x : Int, Z 142 x = S 142 x := fun x => f 142 x (by unfold cWo; omega)
  have w0 : Z 140 2 = S 140 2 := f 140 2 (by unfold cWo; omega)
  refine ⟨cTh_mo h1 e (f 72 3 (by unfold cWo; omega)) (fun j x j0 j1 _ _ => f2 j x j0 j1) (Int.le_of_eq w0.symm) (fun k i _ _ _ => ⟨w1 i, w2 i⟩), cCa_mo h2 e (f 72 5 (by unfold cWo; omega)) (fun x _ _ => ⟨w8 x, w9 x⟩) (Int.le_of_eq w0.symm) (fun k i _ _ _ => ⟨w1 i, w2 i⟩), cAp_mo h3 (fun x _ _ => ⟨f2 133 x (by decide) (by decide), f2 135 x (by decide) (by decide)⟩) (fun x _ _ => w8 x), ?_, ?_, cGl_mo h5 e (fun j x hj => f j x (by unfold cWo; omega))⟩
  · unfold cLc
    rw [w8, w9, w0, w1, w2]
    exact ⟨⟨n1, n2, n3, n4⟩, n5, ⟨n6, n7⟩, n8, n9⟩
  · refine ⟨fun x hx => ?_, ?_⟩
    · rw [f2 (127 + x) _ (by omega) (by omega), f2 127 _ (by decide) (by decide)]; exact t1 x hx
    · rw [f2 127 _ (by decide) (by decide)]; exact ⟨t2, t3, t4⟩
/-- a variable is written -/
theorem cWd_sv (h : cWd S T L G) (h0 : 0 ≤ y) (h1 : y < (L.length : Int)) (hi : i < (L.getD y.toNat (0, [])).2.length) (hv : cVl S k v u) : cWd (w_up (w_up S 141 (S 138 y + (i : Int)) k) 142 (S 138 y + (i : Int)) v) T (L.set y.toNat ((L.getD y.toNat (0, [])).1, (L.getD y.toNat (0, [])).2.set i u)) G := by
  obtain ⟨g1, g2, ⟨p1, p2, p3⟩, ⟨⟨n1, n2, n3, n4⟩, n5, ⟨n6, n7⟩, n8, n9⟩, t1, g5⟩ := h
  have es : ∀ (j : Nat) (x : Int), j ≠ 141 → j ≠ 142 → (w_up (w_up S 141 (S 138 y + (i : Int)) k) 142 (S 138 y + (i : Int)) v) j x = S j x := fun j x j0 j1 => (w_up_slot j1).trans (w_up_slot j0)
  have e1 : ∀ (x : Int), x ≠ S 138 y + (i : Int) → (w_up (w_up S 141 (S 138 y + (i : Int)) k) 142 (S 138 y + (i : Int)) v) 141 x = S 141 x ∧ (w_up (w_up S 141 (S 138 y + (i : Int)) k) 142 (S 138 y + (i : Int)) v) 142 x = S 142 x := fun x hx => ⟨(w_up_at hx).trans (w_up_at hx), (w_up_at hx).trans (w_up_at hx)⟩
  have e : cTx S (w_up (w_up S 141 (S 138 y + (i : Int)) k) 142 (S 138 y + (i : Int)) v) := cTx_of (es 2 1 (by decide) (by decide)) (fun x => es 3 x (by decide) (by decide))
  have ey : ((y.toNat : Nat) : Int) = y := by omega
  obtain ⟨c1, ⟨c2, c3⟩, c4⟩ := c_ca g2 h0 h1
  have hb := g1.2
  have lS : (L.set y.toNat ((L.getD y.toNat (0, [])).1, (L.getD y.toNat (0, [])).2.set i u)).length = L.length := List.length_set
  have gl : ∀ q : Nat, ((L.set y.toNat ((L.getD y.toNat (0, [])).1, (L.getD y.toNat (0, [])).2.set i u)).getD q (0, [])).2.length = (L.getD q (0, [])).2.length ∧ ((L.getD q (0, [])).2 = [] → ((L.set y.toNat ((L.getD y.toNat (0, [])).1, (L.getD y.toNat (0, [])).2.set i u)).getD q (0, [])).2 = []) := fun q => by
    rw [gC_set (by omega)]
    by_cases c : y.toNat = q
    · rw [if_pos c, ← c]
      refine ⟨List.length_set, fun z => ?_⟩
      rw [z] at hi
      exact absurd hi (Nat.not_lt_zero _)
    · rw [if_neg c]; exact ⟨rfl, id⟩
  refine ⟨cTh_mo g1 e (es 72 3 (by decide) (by decide)) (fun j x j0 j1 _ _ => es j x (by omega) (by omega)) (Int.le_of_eq (es 140 2 (by decide) (by decide)).symm) (fun q x hq x0 x1 => e1 x ?_), ⟨?_, fun q hq => ?_⟩, ⟨fun q r hq hr ne => ?_, fun q r hq hr => ?_, fun q r hq hr ne => ?_⟩, ?_, ?_, cGl_mo g5 e (fun j x hj => es j x (by omega) (by omega))⟩
  · have b := (hb q hq).2.1
    rcases p2 q y.toNat hq (by omega) with z | z | z | z
    · omega
    · rw [z] at hi; exact absurd hi (Nat.not_lt_zero _)
    · rw [ey] at z; omega
    · rw [ey] at z; omega
  · rw [lS, es 72 5 (by decide) (by decide)]; exact g2.1
  · rw [lS] at hq
    obtain ⟨d1, ⟨d2, d3⟩, d4⟩ := g2.2 q hq
    rw [es 139 _ (by decide) (by decide), es 138 _ (by decide) (by decide), es 140 _ (by decide) (by decide), (gl q).1]
    by_cases c : y.toNat = q
    · subst c
      refine ⟨?_, ⟨d2, d3⟩, ?_⟩
      · rw [gC_set (by omega), if_pos rfl]; exact d1
      · rw [gC_set (by omega), if_pos rfl, ey]
        rw [ey] at d4
        exact cR1_st d4 (by decide) hi hv
    · refine ⟨?_, ⟨d2, d3⟩, ?_⟩
      · rw [gC_set (by omega), if_neg c]; exact d1
      · rw [gC_set (by omega), if_neg c]
        refine cR1_mo d4 e (fun x x0 x1 => e1 x ?_)
        rcases p3 q y.toNat hq (by omega) (fun z => c z.symm) with z | z | z | z
        · rw [z] at x1; have : (([] : List aV).length : Int) = 0 := rfl; omega
        · rw [z] at hi; exact absurd hi (Nat.not_lt_zero _)
        · rw [ey] at z; omega
        · rw [ey] at z; omega
  · rw [es 133 _ (by decide) (by decide), es 133 _ (by decide) (by decide), es 135 _ (by decide) (by decide), es 135 _ (by decide) (by decide)]; exact p1 q r hq hr ne
  · rw [lS] at hr
    rw [es 133 _ (by decide) (by decide), es 135 _ (by decide) (by decide), es 138 _ (by decide) (by decide), (gl r).1]
    exact (p2 q r hq hr).imp id (fun z => z.imp (gl r).2 id)
  · rw [lS] at hq hr
    rw [es 138 _ (by decide) (by decide), es 138 _ (by decide) (by decide), (gl r).1, (gl q).1]
    exact (p3 q r hq hr ne).imp (gl q).2 (fun z => z.imp (gl r).2 id)
  · unfold cLc
    rw [lS, es 139 _ (by decide) (by decide), es 138 _ (by decide) (by decide), es 140 _ (by decide) (by decide), (e1 (-1) (by omega)).1, (e1 (-1) (by omega)).2]
    exact ⟨⟨n1, n2, n3, n4⟩, n5, ⟨n6, n7⟩, n8, n9⟩
  · obtain ⟨t1, t2⟩ := t1
    refine ⟨fun x hx => ?_, ?_⟩
    · rw [es (127 + x) _ (by omega) (by omega), es 127 _ (by decide) (by decide)]; exact t1 x hx
    · rw [es 127 _ (by decide) (by decide)]; exact t2
/-- the reference's world -/
theorem rTh_mo (h : rTh S sl T) (e : rTx S Z) (f3 : Z 237 68 = S 237 68) (f4 : Z 237 82 = S 237 82) (f : ∀ (j : Nat) (x : Int), 314 ≤ j → j ≤ 328 → Z j x = S j x) : rTh Z sl T := by
  refine ⟨f3.trans h.1, fun k hk => ?_⟩
  obtain ⟨⟨a1, a2, a3, a4, a5, a6, a7, a8⟩, b, c, d, g⟩ := h.2 k hk
  rw [f 314 _ (by decide) (by decide), f 315 _ (by decide) (by decide), f 316 _ (by decide) (by decide), f 317 _ (by decide) (by decide), f 318 _ (by decide) (by decide), f 319 _ (by decide) (by decide), f 320 _ (by decide) (by decide), f 321 _ (by decide) (by decide), f 322 _ (by decide) (by decide), f 323 _ (by decide) (by decide), f 324 _ (by decide) (by decide), f4]
  refine ⟨⟨a1, a2, a3, a4, a5, a6, a7, a8⟩, b, c, fun i hi => ?_, g⟩
  obtain ⟨d1, d2, d3, d4⟩ := d i hi
  rw [f 325 _ (by decide) (by decide), f 326 _ (by decide) (by decide), f 327 _ (by decide) (by decide), f 328 _ (by decide) (by decide)]
  exact ⟨d1, d2, rVl_mo d3 e, d4⟩
/-- ranges of the reference's variables -/
def rAp (S : wS) (L : List aC) : Prop := ∀ k q : Nat, k < q → q < L.length → S 334 k + ((L.getD k (0, [])).2.length : Int) ≤ S 334 q
theorem rCa_mo (h : rCa S L) (e : rTx S Z) (f5 : Z 237 69 = S 237 69) (f6 : Z 237 94 = S 237 94) (f : ∀ (j : Nat) (x : Int), 333 ≤ j → j ≤ 336 → Z j x = S j x) : rCa Z L := by
  refine ⟨f5.trans h.1, fun k hk => ?_⟩
  obtain ⟨a1, b, c⟩ := h.2 k hk
  rw [f 333 _ (by decide) (by decide), f 334 _ (by decide) (by decide), f6]
  exact ⟨a1, b, rR1_mo c e (fun i _ _ => ⟨f 335 i (by decide) (by decide), f 336 i (by decide) (by decide)⟩)⟩
theorem rGl_mo (h : rGl S G) (e : rTx S Z) (f : ∀ (j : Nat) (x : Int), 337 ≤ j → j ≤ 339 → Z j x = S j x) : rGl Z G := fun a a0 a1 => by
  rw [f 337 _ (by decide) (by decide), f 338 _ (by decide) (by decide), f 339 _ (by decide) (by decide)]
  exact (h a a0 a1).imp id (fun z => ⟨z.1, z.2.1, rVl_mo z.2.2 e⟩)
def rWd (S : wS) (sl : Nat → List Int) (T : List aO) (L : List aC) (G : Int → aV) : Prop := rTh S sl T ∧ rCa S L ∧ rAp S L ∧ ((L.length : Int) ≤ 8000 ∧ S 237 94 ≤ 60000) ∧ rGl S G
def rWo (j : Nat) (x : Int) : Prop := (314 ≤ j ∧ j ≤ 328) ∨ (333 ≤ j ∧ j ≤ 339) ∨ (j = 237 ∧ (x = 68 ∨ x = 69 ∨ x = 82 ∨ x = 94))
theorem rWd_ag (h : rWd S sl T L G) (e : rTx S Z) (f : ∀ (j : Nat) (x : Int), rWo j x → Z j x = S j x) : rWd Z sl T L G := by
  obtain ⟨h1, h2, h3, h4, h5⟩ := h
  have f2 : ∀ (j : Nat) (x : Int), 314 ≤ j → j ≤ 328 → Z j x = S j x := fun j x j0 j1 => f j x (Or.inl ⟨j0, j1⟩)
  have f3 : ∀ (j : Nat) (x : Int), 333 ≤ j → j ≤ 339 → Z j x = S j x := fun j x j0 j1 => f j x (Or.inr (Or.inl ⟨j0, j1⟩))
  refine ⟨rTh_mo h1 e (f 237 68 (by unfold rWo; omega)) (f 237 82 (by unfold rWo; omega)) f2, rCa_mo h2 e (f 237 69 (by unfold rWo; omega)) (f 237 94 (by unfold rWo; omega)) (fun j x j0 j1 => f3 j x j0 (by omega)), fun k q hk hq => ?_, ?_, rGl_mo h5 e (fun j x j0 j1 => f3 j x (by omega) (by omega))⟩
  · rw [f3 334 _ (by decide) (by decide), f3 334 _ (by decide) (by decide)]; exact h3 k q hk hq
  · rw [f 237 94 (by unfold rWo; omega)]; exact h4
theorem rWd_sv (h : rWd S sl T L G) (h0 : 0 ≤ y) (h1 : y < (L.length : Int)) (hi : i < (L.getD y.toNat (0, [])).2.length) (hv : rVl S k v u) : rWd (w_up (w_up S 335 (S 334 y + (i : Int)) k) 336 (S 334 y + (i : Int)) v) sl T (L.set y.toNat ((L.getD y.toNat (0, [])).1, (L.getD y.toNat (0, [])).2.set i u)) G := by
  obtain ⟨g1, g2, p3, n1, g5⟩ := h
  have es : ∀ (j : Nat) (x : Int), j ≠ 335 → j ≠ 336 → (w_up (w_up S 335 (S 334 y + (i : Int)) k) 336 (S 334 y + (i : Int)) v) j x = S j x := fun j x j0 j1 => (w_up_slot j1).trans (w_up_slot j0)
  have e1 : ∀ (x : Int), x ≠ S 334 y + (i : Int) → (w_up (w_up S 335 (S 334 y + (i : Int)) k) 336 (S 334 y + (i : Int)) v) 335 x = S 335 x ∧ (w_up (w_up S 335 (S 334 y + (i : Int)) k) 336 (S 334 y + (i : Int)) v) 336 x = S 336 x := fun x hx => ⟨(w_up_at hx).trans (w_up_at hx), (w_up_at hx).trans (w_up_at hx)⟩
  have e : rTx S (w_up (w_up S 335 (S 334 y + (i : Int)) k) 336 (S 334 y + (i : Int)) v) := rTx_of (es 237 19 (by decide) (by decide)) (es 237 102 (by decide) (by decide)) (fun j x j0 j1 => es j x (by omega) (by omega))
  have ey : ((y.toNat : Nat) : Int) = y := by omega
  have lS : (L.set y.toNat ((L.getD y.toNat (0, [])).1, (L.getD y.toNat (0, [])).2.set i u)).length = L.length := List.length_set
  have gl : ∀ q : Nat, ((L.set y.toNat ((L.getD y.toNat (0, [])).1, (L.getD y.toNat (0, [])).2.set i u)).getD q (0, [])).2.length = (L.getD q (0, [])).2.length := fun q => by
    rw [gC_set (by omega)]
    by_cases c : y.toNat = q
    · rw [if_pos c, ← c]; exact List.length_set
    · rw [if_neg c]
  refine ⟨rTh_mo g1 e (es 237 68 (by decide) (by decide)) (es 237 82 (by decide) (by decide)) (fun j x j0 j1 => es j x (by omega) (by omega)), ⟨?_, fun q hq => ?_⟩, fun q r hq hr => ?_, ?_, rGl_mo g5 e (fun j x j0 j1 => es j x (by omega) (by omega))⟩
  · rw [lS, es 237 69 (by decide) (by decide)]; exact g2.1
  · rw [lS] at hq
    obtain ⟨d1, d2, d4⟩ := g2.2 q hq
    rw [es 333 _ (by decide) (by decide), es 334 _ (by decide) (by decide), es 237 _ (by decide) (by decide), gl q]
    by_cases c : y.toNat = q
    · subst c
      refine ⟨?_, d2, ?_⟩
      · rw [gC_set (by omega), if_pos rfl]; exact d1
      · rw [gC_set (by omega), if_pos rfl, ey]
        rw [ey] at d4
        exact rR1_st d4 (by decide) hi hv
    · refine ⟨?_, d2, ?_⟩
      · rw [gC_set (by omega), if_neg c]; exact d1
      · rw [gC_set (by omega), if_neg c]
        refine rR1_mo d4 e (fun x x0 x1 => e1 x ?_)
        by_cases c2 : q < y.toNat
        · have z := p3 q y.toNat c2 (by omega)
          rw [ey] at z; omega
        · have z := p3 y.toNat q (by omega) hq
          rw [ey] at z; omega
  · rw [lS] at hr
    rw [es 334 _ (by decide) (by decide), es 334 _ (by decide) (by decide), gl q]
    exact p3 q r hq hr
  · rw [lS, es 237 _ (by decide) (by decide)]; exact n1
/-- a global is written -/
def aGs (G : Int → aV) (a : Int) (u : aV) (x : Int) : aV := if x = a then u else G x
theorem aGs_e (h : q = a) : aGs G a u q = u := if_pos h
theorem aGs_n (h : q ≠ a) : aGs G a u q = G q := if_neg h
theorem cGl_st (h : cGl S G) (hg : gs_ag a S A) (ha : 0 ≤ a ∧ a ≤ 4000) (hv : cVl S k v u) : cGl (w_up (w_up A 154 a k) 155 a v) (aGs G a u) := by
  obtain ⟨⟨h1, h2, h3, h4, h5⟩, h6, h7⟩ := h
  obtain ⟨g1, g2, g3, g4, ⟨g5, g6, g7, g8⟩, -, -⟩ := hg
  have es : ∀ (j : Nat) (x : Int), j < 4000000 → j ≠ wG → j ≠ 154 → j ≠ 155 → (j ≠ 153 ∨ x ≠ 2) → (w_up (w_up A 154 a k) 155 a v) j x = S j x := fun j x j0 j1 j2 j3 j4 => (w_up_slot j3).trans ((w_up_slot j2).trans (g4 j x j0 j1 j2 j3 j4))
  have e : cTx S (w_up (w_up A 154 a k) 155 a v) := cTx_of (es 2 1 (by decide) (by decide) (by decide) (by decide) (by decide)) (fun x => es 3 x (by decide) (by decide) (by decide) (by decide) (Or.inl (by decide)))
  have e1 : ∀ (x : Int), x ≠ a → (w_up (w_up A 154 a k) 155 a v) 154 x = A 154 x ∧ (w_up (w_up A 154 a k) 155 a v) 155 x = A 155 x := fun x hx => ⟨(w_up_at hx).trans (w_up_at hx), (w_up_at hx).trans (w_up_at hx)⟩
  have e2 : (w_up (w_up A 154 a k) 155 a v) 153 2 = A 153 2 := (w_up_slot (by decide)).trans (w_up_slot (by decide))
  have hs : A 153 2 = (if S 153 2 ≤ a then a + 1 else S 153 2) := g1
  refine ⟨?_, fun x x0 x1 => ?_, fun x x0 => ?_⟩
  · rw [e2, (e1 (-1) (by omega)).1, (e1 (-1) (by omega)).2]
    refine ⟨?_, g6, by omega, by omega, g5⟩
    rw [hs]; split <;> omega
  · rw [e2] at x1
    by_cases c : x = a
    · rw [aGs_e c, c, w_up_slot (by decide), w_up_same, w_up_same]
      exact cVl_mo hv e
    · rw [aGs_n c, (e1 x c).1, (e1 x c).2]
      by_cases c2 : x < S 153 2
      · rw [(g2 x x0 c2).1, (g2 x x0 c2).2]; exact cVl_mo (h6 x x0 c2) e
      · rw [(g3 x (by omega) x1).1, (g3 x (by omega) x1).2, h7 x (by omega)]
        exact cV_e (by decide) rfl
  · rw [e2] at x0
    have : x ≠ a := fun c => by rw [hs] at x0; split at x0 <;> omega
    rw [aGs_n this]
    refine h7 x ?_
    rw [hs] at x0; split at x0 <;> omega
theorem rGl_st (h : rGl S G) (hv : rVl S k v u) (hu : u.1 ≠ -1) : rGl (w_up (w_up (w_up S 337 a 1) 338 a k) 339 a v) (aGs G a u) := fun x x0 x1 => by
  have e : rTx S (w_up (w_up (w_up S 337 a 1) 338 a k) 339 a v) := rTx_of ((w_up_slot (by decide)).trans ((w_up_slot (by decide)).trans (w_up_slot (by decide)))) ((w_up_slot (by decide)).trans ((w_up_slot (by decide)).trans (w_up_slot (by decide)))) (fun j x j0 j1 => (w_up_slot (by omega)).trans ((w_up_slot (by omega)).trans (w_up_slot (by omega))))
  by_cases c : x = a
  · subst c
    rw [aGs_e rfl]
    refine Or.inr ⟨?_, hu, ?_⟩
    · rw [w_up_slot (by decide), w_up_slot (by decide), w_up_same]; decide
    · rw [w_up_slot (by decide), w_up_same, w_up_same]; exact rVl_mo hv e
  · have ez : ∀ j : Nat, (w_up (w_up (w_up S 337 a 1) 338 a k) 339 a v) j x = S j x := fun j => (w_up_at c).trans ((w_up_at c).trans (w_up_at c))
    rw [aGs_n c, ez, ez, ez]
    exact (h x x0 x1).imp id (fun z => ⟨z.1, z.2.1, rVl_mo z.2.2 e⟩)
end Wem
