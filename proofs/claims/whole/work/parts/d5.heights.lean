/-! PART d5: heights of the pile, tries and jumps in a unit's code. -/
section Wd5
variable {K V P : Nat → Int} {f u dp x t t0 v l h h2 d nn nx : Int} {J : List Int} {i i2 j p n b : Nat} {I I0 I1 I2 I3 L X Y : List pz_I} {F F0 F1 F2 F3 : List pz_F} {o : pz_O} {z w : pz_I} {Q Q2 : Nat → Prop} {H H0 H1 H2 H3 D D0 D1 D2 D3 : Nat → Int}
/-- how many values a site takes besides the one that it goes to; a builtin -/
def tes (A : Int) : Int := if A % 16 = 0 then 0 else if A % 16 ≤ 2 then 1 else if A % 16 = 3 then 2 else A / 16
def twa (A : Int) : Int := if 3 ≤ A ∧ A ≤ 5 then 2 else 1
/-- how many values an instruction wants -/
def tne (o A : Int) : Int := if o = 25 then A else if o = 27 then tes A + 1 else if o = 28 then twa A else if (7 ≤ o ∧ o ≤ 11) ∨ (14 ≤ o ∧ o ≤ 19) then 2 else if o = 0 ∨ o = 3 ∨ o = 20 ∨ o = 24 ∨ o = 26 ∨ o = 31 ∨ o = 32 ∨ o = 33 then 0 else 1
/-- how much higher the pile is behind it -/
def tde (o A : Int) : Int := if o = 25 then 1 - A else if o = 27 then -(tes A) else if o = 28 then 1 - twa A else if o = 0 ∨ o = 3 ∨ o = 6 ∨ o = 24 ∨ o = 26 ∨ o = 33 then 1 else if o = 4 ∨ o = 12 ∨ o = 13 ∨ o = 20 ∨ o = 31 ∨ o = 32 then 0 else -1
/-- how many tries more -/
def tdd (o : Int) : Int := if o = 31 then 1 else if o = 32 then -1 else 0
/-- how much higher the pile is where it jumps to -/
def tdj (o : Int) : Int := if o = 21 then -1 else if o = 31 then 1 else 0
def tjm (o : Int) : Prop := (20 ≤ o ∧ o ≤ 23) ∨ o = 31
/-- an instruction's numbers -/
def tsI (nn nx f : Int) (F : List pz_F) (o A B g : Int) : Prop := (0 ≤ o ∧ o ≤ 33 ∧ o ≠ 1 ∧ o ≠ 2) ∧ (o = 0 → 0 ≤ A ∧ A ≤ 4 ∧ (A = 4 → 0 ≤ B ∧ B < nx)) ∧ (o = 3 ∨ o = 4 → 0 ≤ A ∧ A < nn) ∧ (o = 24 → f ≤ A ∧ A < f + (F.length : Int) ∧ (F.getD (A - f).toNat (-1, 0, [])).1 = g) ∧ (o = 25 → 0 ≤ A) ∧ (o = 27 → 0 ≤ A ∧ A % 16 ≤ 6 ∧ A / 16 ≤ 8 ∧ ((A % 16 = 0 ∨ A % 16 = 1 ∨ A % 16 = 5) → 0 ≤ B ∧ B < nn) ∧ (A % 16 ≤ 3 → A / 16 = 0) ∧ (B = -1 ∨ (0 ≤ B ∧ B < nn))) ∧ (o = 28 → 0 ≤ A ∧ A ≤ 7)
/-- an instruction in its place: H heights, D tries, Q the places of jumps that are not aimed yet -/
def tyI (Q : Nat → Prop) (H D : Nat → Int) (n p : Nat) (x : pz_I) : Prop := tne x.1 x.2.1 ≤ H p ∧ (x.1 ≠ 20 → H (p + 1) = H p + tde x.1 x.2.1) ∧ D (p + 1) = D p + tdd x.1 ∧ (tjm x.1 → ¬ Q p → 0 ≤ x.2.1 ∧ x.2.1 ≤ (n : Int) ∧ H x.2.1.toNat = H p + tdj x.1 ∧ D x.2.1.toNat = D p) ∧ ((x.1 = 29 → H p = 1) ∧ (x.1 = 31 → H p = 0))
def tyd (nn nx f : Int) (F : List pz_F) (Q : Nat → Prop) (H D : Nat → Int) (X : List pz_I) : Prop := (∀ p : Nat, p ≤ X.length → 0 ≤ H p ∧ 0 ≤ D p ∧ D p ≤ 50) ∧ ∀ p : Nat, p < X.length → tyI Q H D X.length p (X.getD p (0, 0, 0, 0)) ∧ tsI nn nx f F (X.getD p (0, 0, 0, 0)).1 (X.getD p (0, 0, 0, 0)).2.1 (X.getD p (0, 0, 0, 0)).2.2.1 (X.getD p (0, 0, 0, 0)).2.2.2
/-- a whole function -/
def tyF (nn nx f : Int) (F : List pz_F) (X : List pz_I) : Prop := ∃ H D : Nat → Int, (H 0 = 0 ∧ D 0 = 0) ∧ tyd nn nx f F (fun _ => False) H D X ∧ (∀ p : Nat, p < X.length → tjm (X.getD p (0, 0, 0, 0)).1 → (X.getD p (0, 0, 0, 0)).2.1 < (X.length : Int)) ∧ 0 < X.length ∧ (X.getD (X.length - 1) (0, 0, 0, 0)).1 = 29
/-- more functions -/
def tyE (F F2 : List pz_F) : Prop := F.length ≤ F2.length ∧ ∀ k : Nat, k < F.length → (F2.getD k (-1, 0, [])).1 = (F.getD k (-1, 0, [])).1
theorem tyE_rfl : tyE F F := ⟨Nat.le_refl _, fun _ _ => rfl⟩
theorem tyE_tr (h : tyE F F1) (h2 : tyE F1 F2) : tyE F F2 := ⟨Nat.le_trans h.1 h2.1, fun k hk => (h2.2 k (Nat.lt_of_lt_of_le hk h.1)).trans (h.2 k hk)⟩
theorem tsI_mo (h : tsI nn nx f F z.1 z.2.1 z.2.2.1 z.2.2.2) (e : tyE F F2) : tsI nn nx f F2 z.1 z.2.1 z.2.2.1 z.2.2.2 := by
  obtain ⟨a1, a2, a3, a4, a5, a6, a7⟩ := h
  refine ⟨a1, a2, a3, fun q => ?_, a5, a6, a7⟩
  obtain ⟨b1, b2, b3⟩ := a4 q
  have := e.1
  exact ⟨b1, by omega, (e.2 _ (by omega)).trans b3⟩
theorem tyd_mo (h : tyd nn nx f F Q H D X) (e : tyE F F2) : tyd nn nx f F2 Q H D X := ⟨h.1, fun p hp => ⟨(h.2 p hp).1, tsI_mo (h.2 p hp).2 e⟩⟩
theorem tyF_mo (h : tyF nn nx f F X) (e : tyE F F2) : tyF nn nx f F2 X := by
  obtain ⟨H, D, a, b, c⟩ := h
  exact ⟨H, D, a, tyd_mo b e, c⟩
theorem tyI_cg (h : tyI Q H D n p z) (hp : p < n) (e : ∀ q : Nat, q ≤ n → H2 q = H q ∧ D2 q = D q) : tyI Q H2 D2 n p z := by
  obtain ⟨a, b, c, d, r9⟩ := h
  rw [← (e p (by omega)).1] at a b r9
  rw [← (e (p + 1) (by omega)).1] at b
  rw [← (e p (by omega)).2, ← (e (p + 1) (by omega)).2] at c
  refine ⟨a, b, c, fun q1 q2 => ?_, r9⟩
  obtain ⟨d1, d2, d3, d4⟩ := d q1 q2
  have e1 := e z.2.1.toNat (by omega)
  have e2 := e p (by omega)
  exact ⟨d1, d2, by rw [e1.1, e2.1]; exact d3, by rw [e1.2, e2.2]; exact d4⟩
theorem tyd_cg (h : tyd nn nx f F Q H D X) (e : ∀ q : Nat, q ≤ X.length → H2 q = H q ∧ D2 q = D q) : tyd nn nx f F Q H2 D2 X :=
  ⟨fun p hp => by rw [(e p hp).1, (e p hp).2]; exact h.1 p hp, fun p hp => ⟨tyI_cg (h.2 p hp).1 hp e, (h.2 p hp).2⟩⟩
theorem tyd_Q (h : tyd nn nx f F Q H D X) (e : ∀ p : Nat, p < X.length → Q p → Q2 p) : tyd nn nx f F Q2 H D X :=
  ⟨h.1, fun p hp => by
    obtain ⟨⟨a, b, c, d, r9⟩, g⟩ := h.2 p hp
    exact ⟨⟨a, b, c, fun q1 q2 => d q1 (fun q => q2 (e p hp q)), r9⟩, g⟩⟩
theorem on_add (A B : List pz_I) : on u (A ++ B) = on u A ++ on u B := List.filter_append _ _
theorem on_own (hz : z.2.2.2 = u) : on u (z :: L) = z :: on u L := List.filter_cons_of_pos (by simpa using hz)
theorem on_not (hz : z.2.2.2 ≠ u) : on u (z :: L) = on u L := List.filter_cons_of_neg (by simpa using hz)
theorem on_1 (hz : z.2.2.2 = u) : on u (I ++ [z]) = on u I ++ [z] := by rw [on_add, on_own hz]; rfl
theorem on_0 (hz : z.2.2.2 ≠ u) : on u (I ++ [z]) = on u I := by rw [on_add, on_not hz]; exact List.append_nil _
theorem on_e (h : ∀ y ∈ I, y.2.2.2 < u) : on u I = [] := by
  refine List.filter_eq_nil_iff.mpr (fun y hy => ?_)
  have := h y hy
  simp
  omega
/-- where the code of a function stands, so far -/
def TS (nn nx f u : Int) (Q : Nat → Prop) (H D : Nat → Int) (I : List pz_I) (F : List pz_F) (h d : Int) : Prop := (f ≤ u ∧ u < f + (F.length : Int)) ∧ (∀ y ∈ I, y.2.2.2 < f + (F.length : Int)) ∧ tyd nn nx f F Q H D (on u I) ∧ (H (on u I).length = h ∧ D (on u I).length = d) ∧ ∀ p : Nat, Q p → p < (on u I).length
/-- what has stayed, what has come besides -/
def TG (nn nx f u : Int) (I : List pz_I) (F : List pz_F) (H D : Nat → Int) (I2 : List pz_I) (F2 : List pz_F) (H2 D2 : Nat → Int) : Prop := (∃ L : List pz_I, I2 = I ++ L) ∧ tyE F F2 ∧ (∀ w : Int, w ≠ u → w < f + (F.length : Int) → on w I2 = on w I) ∧ (∀ k : Nat, F.length ≤ k → k < F2.length → tyF nn nx f F2 (on (f + (k : Int)) I2)) ∧ ∀ p : Nat, p ≤ (on u I).length → H2 p = H p ∧ D2 p = D p
theorem TG_rfl : TG nn nx f u I F H D I F H D := ⟨⟨[], (List.append_nil I).symm⟩, tyE_rfl, fun _ _ _ => rfl, fun k q1 q2 => absurd q2 (Nat.not_lt.mpr q1), fun _ _ => ⟨rfl, rfl⟩⟩
theorem TG_on (h : TG nn nx f u I F H D I2 F2 H2 D2) : (on u I).length ≤ (on u I2).length := by
  obtain ⟨⟨L, rfl⟩, -⟩ := h
  rw [on_add, List.length_append]; omega
theorem TG_tr (hu : u < f + (F.length : Int)) (h : TG nn nx f u I F H D I1 F1 H1 D1) (g : TG nn nx f u I1 F1 H1 D1 I2 F2 H2 D2) : TG nn nx f u I F H D I2 F2 H2 D2 := by
  have hl := TG_on h
  obtain ⟨⟨L, rfl⟩, a2, a3, a4, a5⟩ := h
  obtain ⟨⟨L2, rfl⟩, b2, b3, b4, b5⟩ := g
  have hF := a2.1
  refine ⟨⟨L ++ L2, List.append_assoc _ _ _⟩, tyE_tr a2 b2, fun w w1 w2 => (b3 w w1 (by omega)).trans (a3 w w1 w2), fun k k1 k2 => ?_, fun p hp => ?_⟩
  · by_cases e : k < F1.length
    · rw [b3 (f + (k : Int)) (by omega) (by omega)]
      exact tyF_mo (a4 k k1 e) b2
    · exact b4 k (by omega) k2
  · obtain ⟨c1, c2⟩ := b5 p (by omega)
    obtain ⟨c3, c4⟩ := a5 p hp
    exact ⟨c1.trans c3, c2.trans c4⟩
theorem TS_nn (h : TS nn nx f u Q H D I F h2 d) : 0 ≤ h2 ∧ 0 ≤ d ∧ d ≤ 50 := by
  obtain ⟨-, -, a, ⟨rfl, rfl⟩, -⟩ := h
  exact a.1 _ (Nat.le_refl _)
theorem gD_a (A B : List pz_I) (hp : p < A.length) : (A ++ B).getD p (0, 0, 0, 0) = A.getD p (0, 0, 0, 0) := by
  rw [List.getD_eq_getElem?_getD, List.getElem?_append_left hp, ← List.getD_eq_getElem?_getD]
theorem gD_m (A B : List pz_I) : (A ++ z :: B).getD A.length (0, 0, 0, 0) = z := by
  rw [List.getD_eq_getElem?_getD, List.getElem?_append_right (Nat.le_refl _), Nat.sub_self]; rfl
theorem gD_b (A B : List pz_I) (hp : A.length < p) : (A ++ z :: B).getD p (0, 0, 0, 0) = (A ++ w :: B).getD p (0, 0, 0, 0) := by
  rw [List.getD_eq_getElem?_getD, List.getD_eq_getElem?_getD, List.getElem?_append_right (by omega), List.getElem?_append_right (by omega)]
  obtain ⟨q, hq⟩ : ∃ q : Nat, p - A.length = q + 1 := ⟨p - A.length - 1, by omega⟩
  rw [hq]; rfl
/-- one more instruction -/
theorem TS_ap (g : TS nn nx f u Q H D I F h d) (hz : z.2.2.2 = u) (hn : tne z.1 z.2.1 ≤ h) (h0 : 0 ≤ h2) (hh : z.1 ≠ 20 → h2 = h + tde z.1 z.2.1) (hd : 0 ≤ d + tdd z.1 ∧ d + tdd z.1 ≤ 50) (hs : tsI nn nx f F z.1 z.2.1 z.2.2.1 z.2.2.2) (hj : tjm z.1 → ¬ Q2 (on u I).length → 0 ≤ z.2.1 ∧ z.2.1 ≤ ((on u I).length : Int) ∧ H z.2.1.toNat = h + tdj z.1 ∧ D z.2.1.toNat = d) (hQ : ∀ p : Nat, p < (on u I).length → Q p → Q2 p) (hQ2 : ∀ p : Nat, Q2 p → p < (on u I).length + 1) (h29 : z.1 = 29 → h = 1) (h31 : z.1 = 31 → h = 0) : ∃ H2 D2 : Nat → Int, TS nn nx f u Q2 H2 D2 (I ++ [z]) F h2 (d + tdd z.1) ∧ TG nn nx f u I F H D (I ++ [z]) F H2 D2 := by
  obtain ⟨a1, a2, a3, ⟨a4, a5⟩, a6⟩ := g
  have hX := on_1 (I := I) hz
  have e : ∀ q : Nat, q ≤ (on u I).length → (fun p => if p = (on u I).length + 1 then h2 else H p) q = H q ∧ (fun p => if p = (on u I).length + 1 then d + tdd z.1 else D p) q = D q := fun q hq => ⟨if_neg (by omega), if_neg (by omega)⟩
  have e1 : (fun p => if p = (on u I).length + 1 then h2 else H p) ((on u I).length + 1) = h2 := if_pos rfl
  have e2 : (fun p => if p = (on u I).length + 1 then d + tdd z.1 else D p) ((on u I).length + 1) = d + tdd z.1 := if_pos rfl
  have hl : (on u I ++ [z]).length = (on u I).length + 1 := by rw [List.length_append]; rfl
  have b3 := tyd_Q (tyd_cg a3 e) hQ
  refine ⟨_, _, ⟨a1, fun y hy => ?_, ?_, ?_, ?_⟩, ⟨[z], rfl⟩, tyE_rfl, fun w w1 _ => on_0 (by omega), fun k q1 q2 => absurd q2 (Nat.not_lt.mpr q1), e⟩
  · rcases List.mem_append.mp hy with q | q
    · exact a2 y q
    · rw [List.mem_singleton.mp q, hz]; exact a1.2
  · rw [hX]
    refine ⟨fun p hp => ?_, fun p hp => ?_⟩
    · rw [hl] at hp
      by_cases q : p = (on u I).length + 1
      · rw [q, e1, e2]; exact ⟨h0, hd⟩
      · exact b3.1 p (by omega)
    · rw [hl] at hp ⊢
      by_cases q : p = (on u I).length
      · subst q
        rw [gD_m (on u I) [], (show (fun p => if p = (on u I).length + 1 then h2 else H p) = (fun p => if p = (on u I).length + 1 then h2 else H p) from rfl)]
        refine ⟨⟨?_, fun q => ?_, ?_, fun q1 q2 => ?_, ?_⟩, hs⟩
        · rw [(e _ (Nat.le_refl _)).1, a4]; exact hn
        · rw [(e _ (Nat.le_refl _)).1, e1, a4]; exact hh q
        · rw [(e _ (Nat.le_refl _)).2, e2, a5]
        · obtain ⟨c1, c2, c3, c4⟩ := hj q1 q2
          rw [(e _ (Nat.le_refl _)).1, (e _ (Nat.le_refl _)).2, (e z.2.1.toNat (by omega)).1, (e z.2.1.toNat (by omega)).2, a4, a5]
          exact ⟨c1, by omega, c3, c4⟩
        · rw [(e _ (Nat.le_refl _)).1, a4]; exact ⟨h29, h31⟩
      · rw [gD_a _ _ (by omega)]
        obtain ⟨⟨c1, c2, c3, c4, r9⟩, c5⟩ := b3.2 p (by omega)
        exact ⟨⟨c1, c2, c3, fun q1 q2 => by
          obtain ⟨d1, d2, d3⟩ := c4 q1 q2
          exact ⟨d1, by omega, d3⟩, r9⟩, c5⟩
  · rw [hX, hl]; exact ⟨e1, e2⟩
  · rw [hX, hl]; exact hQ2
/-- .. that is no jump -/
theorem TS_a (g : TS nn nx f u Q H D I F h d) (hz : z.2.2.2 = u) (hj : ¬ tjm z.1) (hn : tne z.1 z.2.1 ≤ h) (hh : h + tde z.1 z.2.1 = h2) (h0 : 0 ≤ h2) (hd : tdd z.1 = 0) (hs : tsI nn nx f F z.1 z.2.1 z.2.2.1 z.2.2.2) (h29 : z.1 = 29 → h = 1 := by first | exact fun q => absurd q (by first | decide | (dsimp only; decide)) | exact fun q => absurd q (by omega)) : ∃ H2 D2 : Nat → Int, TS nn nx f u Q H2 D2 (I ++ [z]) F h2 d ∧ TG nn nx f u I F H D (I ++ [z]) F H2 D2 := by
  have hg := TS_nn g
  have := TS_ap (Q2 := Q) (h2 := h2) g hz hn h0 (fun _ => hh.symm) (by omega) hs (fun q => absurd q hj) (fun _ _ q => q) (fun p q => by have := g.2.2.2.2 p q; omega) h29 (fun q => absurd (Or.inr q) hj)
  rw [hd, Int.add_zero] at this
  exact this
/-- .. a jump that is to be aimed -/
theorem TS_p (g : TS nn nx f u Q H D I F h d) (hz : z.2.2.2 = u) (hn : tne z.1 z.2.1 ≤ h) (h0 : 0 ≤ h2) (hh : z.1 ≠ 20 → h2 = h + tde z.1 z.2.1) (hd : 0 ≤ d + tdd z.1 ∧ d + tdd z.1 ≤ 50) (hs : tsI nn nx f F z.1 z.2.1 z.2.2.1 z.2.2.2) (h29 : z.1 = 29 → h = 1 := by first | exact fun q => absurd q (by first | decide | (dsimp only; decide)) | exact fun q => absurd q (by omega)) (h31 : z.1 = 31 → h = 0 := by first | exact fun q => absurd q (by first | decide | (dsimp only; decide)) | exact fun q => absurd q (by omega)) : ∃ H2 D2 : Nat → Int, TS nn nx f u (fun p => Q p ∨ p = (on u I).length) H2 D2 (I ++ [z]) F h2 (d + tdd z.1) ∧ TG nn nx f u I F H D (I ++ [z]) F H2 D2 :=
  TS_ap g hz hn h0 hh hd hs (fun _ q => absurd (Or.inr rfl) q) (fun _ _ q => Or.inl q) (fun p q => by
    rcases q with q | q
    · have := g.2.2.2.2 p q; omega
    · omega) h29 h31
theorem pa_m (v : Int) : pz_a (I1 ++ z :: L) I1.length v = I1 ++ (z.1, v, z.2.2) :: L := by
  unfold pz_a
  rw [gD_m, List.set_append_right _ _ (Nat.le_refl _), Nat.sub_self]
  rfl
/-- a jump is aimed at the end -/
theorem TS_pa (g : TS nn nx f u Q2 H D (I1 ++ z :: L) F h d) (hz : z.2.2.2 = u) (hjm : tjm z.1) (hj : H (on u I1).length + tdj z.1 = h) (hd : D (on u I1).length = d) (hQ : ∀ p : Nat, Q2 p → p ≠ (on u I1).length → Q p) (hQ2 : ∀ p : Nat, Q p → p < (on u (I1 ++ z :: L)).length) : TS nn nx f u Q H D (I1 ++ (z.1, pz_h (I1 ++ z :: L) u, z.2.2) :: L) F h d := by
  obtain ⟨a1, a2, a3, ⟨a4, a5⟩, a6⟩ := g
  have hh := on_len u (I1 ++ z :: L)
  have e1 : on u (I1 ++ z :: L) = on u I1 ++ z :: on u L := by rw [on_add, on_own hz]
  have e2 : on u (I1 ++ (z.1, pz_h (I1 ++ z :: L) u, z.2.2) :: L) = on u I1 ++ (z.1, pz_h (I1 ++ z :: L) u, z.2.2) :: on u L := by rw [on_add, on_own (z := (z.1, pz_h (I1 ++ z :: L) u, z.2.2)) hz]
  have el : (on u I1 ++ (z.1, pz_h (I1 ++ z :: L) u, z.2.2) :: on u L).length = (on u (I1 ++ z :: L)).length := by rw [e1, List.length_append, List.length_append]; rfl
  refine ⟨a1, fun y hy => ?_, ?_, ?_, ?_⟩
  · rcases List.mem_append.mp hy with q | q
    · exact a2 y (List.mem_append.mpr (Or.inl q))
    · rcases List.mem_cons.mp q with q | q
      · rw [q]; exact a2 z (List.mem_append.mpr (Or.inr (List.mem_cons_self ..)))
      · exact a2 y (List.mem_append.mpr (Or.inr (List.mem_cons_of_mem _ q)))
  · rw [e2]
    refine ⟨fun p hp => a3.1 p (by rw [el] at hp; exact hp), fun p hp => ?_⟩
    rw [el] at hp ⊢
    obtain ⟨⟨c1, c2, c3, c4, r9⟩, c5⟩ := a3.2 p hp
    rw [e1] at c1 c2 c3 c4 c5 r9
    by_cases q : p = (on u I1).length
    · subst q
      rw [gD_m] at c1 c2 c3 c5 r9 ⊢
      have hz1 : (20 ≤ z.1 ∧ z.1 ≤ 23) ∨ z.1 = 31 := hjm
      refine ⟨⟨?_, fun q => ?_, c3, fun _ _ => ⟨?_, ?_, ?_, ?_⟩, ⟨fun q => absurd q (show ¬ z.1 = 29 by omega), r9.2⟩⟩, ?_⟩
      · refine Int.le_trans (Int.le_of_eq ?_) c1
        unfold tne
        dsimp only
        rw [if_neg (show ¬ z.1 = 25 by omega), if_neg (show ¬ z.1 = 27 by omega), if_neg (show ¬ z.1 = 28 by omega), if_neg (show ¬ z.1 = 25 by omega), if_neg (show ¬ z.1 = 27 by omega), if_neg (show ¬ z.1 = 28 by omega)]
      · rw [c2 q]
        unfold tde
        dsimp only
        rw [if_neg (show ¬ z.1 = 25 by omega), if_neg (show ¬ z.1 = 27 by omega), if_neg (show ¬ z.1 = 28 by omega), if_neg (show ¬ z.1 = 25 by omega), if_neg (show ¬ z.1 = 27 by omega), if_neg (show ¬ z.1 = 28 by omega)]
      · show 0 ≤ pz_h (I1 ++ z :: L) u
        omega
      · show pz_h (I1 ++ z :: L) u ≤ _
        omega
      · show H (pz_h (I1 ++ z :: L) u).toNat = _
        rw [show (pz_h (I1 ++ z :: L) u).toNat = (on u (I1 ++ z :: L)).length by omega, a4, ← hj]
      · show D (pz_h (I1 ++ z :: L) u).toNat = _
        rw [show (pz_h (I1 ++ z :: L) u).toNat = (on u (I1 ++ z :: L)).length by omega, a5, hd]
      · obtain ⟨s1, -⟩ := c5
        exact ⟨s1, fun q => absurd q (show ¬ z.1 = 0 by omega), fun q => absurd q (show ¬ (z.1 = 3 ∨ z.1 = 4) by omega), fun q => absurd q (show ¬ z.1 = 24 by omega), fun q => absurd q (show ¬ z.1 = 25 by omega), fun q => absurd q (show ¬ z.1 = 27 by omega), fun q => absurd q (show ¬ z.1 = 28 by omega)⟩
    · have eg : (on u I1 ++ (z.1, pz_h (I1 ++ z :: L) u, z.2.2) :: on u L).getD p (0, 0, 0, 0) = (on u I1 ++ z :: on u L).getD p (0, 0, 0, 0) := by
        by_cases r : p < (on u I1).length
        · rw [gD_a _ _ r, gD_a _ _ r]
        · exact gD_b _ _ (by omega)
      rw [eg]
      exact ⟨⟨c1, c2, c3, fun q1 q2 => by
        rw [← e1] at c4
        rw [← e1] at q1
        have := c4 q1 (fun q3 => q2 (hQ p q3 q))
        rw [e1] at this ⊢
        exact this, r9⟩, c5⟩
  · rw [e2, el]; exact ⟨a4, a5⟩
  · rw [e2, el]; exact hQ2
theorem TG_pa {y : pz_I} (g : TG nn nx f u I0 F0 H0 D0 (I1 ++ z :: L) F H D) (hp : ∃ L1 : List pz_I, I1 = I0 ++ L1) (hz : z.2.2.2 = u) (hy : y.2.2.2 = u) (hu : u < f + (F0.length : Int)) : TG nn nx f u I0 F0 H0 D0 (I1 ++ y :: L) F H D := by
  obtain ⟨L1, rfl⟩ := hp
  obtain ⟨-, a2, a3, a4, a5⟩ := g
  have e : ∀ w : Int, w ≠ u → on w (I0 ++ L1 ++ y :: L) = on w (I0 ++ L1 ++ z :: L) := fun w hw => by rw [on_add, on_add (A := I0 ++ L1), on_not (by omega), on_not (by omega)]
  exact ⟨⟨L1 ++ y :: L, List.append_assoc _ _ _⟩, a2, fun w w1 w2 => (e w w1).trans (a3 w w1 w2), fun k k1 k2 => by rw [e _ (by omega)]; exact a4 k k1 k2, a5⟩
/-- the last instruction goes -/
theorem TG_dl (g : TG nn nx f u I F H D (I2 ++ [z]) F2 H2 D2) (hl : I.length ≤ I2.length) (hz : z.2.2.2 = u) (hu : u < f + (F.length : Int)) : TG nn nx f u I F H D I2 F2 H2 D2 := by
  obtain ⟨⟨L, a1⟩, a2, a3, a4, a5⟩ := g
  have e : ∀ w : Int, w ≠ u → on w (I2 ++ [z]) = on w I2 := fun w hw => on_0 (by omega)
  refine ⟨⟨I2.drop I.length, ?_⟩, a2, fun w w1 w2 => (e w w1).symm.trans (a3 w w1 w2), fun k k1 k2 => by rw [← e _ (by omega)]; exact a4 k k1 k2, a5⟩
  have h1 : (I2 ++ [z]).take I.length = I2.take I.length := List.take_append_of_le_length hl
  rw [a1, List.take_left'  rfl] at h1
  have h2 := List.take_append_drop I.length I2
  rw [← h1] at h2
  exact h2.symm
theorem TS_cg (g : TS nn nx f u Q H D I F h d) (e : ∀ p : Nat, p ≤ (on u I).length → H2 p = H p ∧ D2 p = D p) : TS nn nx f u Q H2 D2 I F h d := by
  obtain ⟨a1, a2, a3, ⟨a4, a5⟩, a6⟩ := g
  exact ⟨a1, a2, tyd_cg a3 e, ⟨(e _ (Nat.le_refl _)).1.trans a4, (e _ (Nat.le_refl _)).2.trans a5⟩, a6⟩
theorem TS_F (g : TS nn nx f u Q H D I F h d) (e : tyE F F2) : TS nn nx f u Q H D I F2 h d := by
  obtain ⟨a1, a2, a3, a4, a5⟩ := g
  have := e.1
  exact ⟨⟨a1.1, by omega⟩, fun y hy => by have := a2 y hy; omega, tyd_mo a3 e, a4, a5⟩
theorem ts_o {o A B g : Int} (h : 0 ≤ o ∧ o ≤ 33 ∧ o ≠ 0 ∧ o ≠ 1 ∧ o ≠ 2 ∧ o ≠ 3 ∧ o ≠ 4 ∧ o ≠ 24 ∧ o ≠ 25 ∧ o ≠ 27 ∧ o ≠ 28) : tsI nn nx f F o A B g := ⟨by omega, fun q => by omega, fun q => by omega, fun q => by omega, fun q => by omega, fun q => by omega, fun q => by omega⟩
theorem ts_0 {A B g : Int} (h : 0 ≤ A ∧ A ≤ 4 ∧ (A = 4 → 0 ≤ B ∧ B < nx)) : tsI nn nx f F 0 A B g := ⟨by omega, fun _ => h, fun q => by omega, fun q => by omega, fun q => by omega, fun q => by omega, fun q => by omega⟩
theorem ts_n {g : Int} : tsI nn nx f F 0 0 0 g := ts_0 ⟨by omega, by omega, fun q => by omega⟩
theorem ts_3 {o A B g : Int} (ho : o = 3 ∨ o = 4) (h : 0 ≤ A ∧ A < nn) : tsI nn nx f F o A B g := ⟨by omega, fun q => by omega, fun _ => h, fun q => by omega, fun q => by omega, fun q => by omega, fun q => by omega⟩
theorem ts_24 {A B g : Int} (h : f ≤ A ∧ A < f + (F.length : Int) ∧ (F.getD (A - f).toNat (-1, 0, [])).1 = g) : tsI nn nx f F 24 A B g := ⟨by omega, fun q => by omega, fun q => by omega, fun _ => h, fun q => by omega, fun q => by omega, fun q => by omega⟩
theorem ts_25 {A B g : Int} (h : 0 ≤ A) : tsI nn nx f F 25 A B g := ⟨by omega, fun q => by omega, fun q => by omega, fun q => by omega, fun _ => h, fun q => by omega, fun q => by omega⟩
theorem ts_27 {A B g : Int} (h : 0 ≤ A ∧ A % 16 ≤ 6 ∧ A / 16 ≤ 8 ∧ ((A % 16 = 0 ∨ A % 16 = 1 ∨ A % 16 = 5) → 0 ≤ B ∧ B < nn) ∧ (A % 16 ≤ 3 → A / 16 = 0) ∧ (B = -1 ∨ (0 ≤ B ∧ B < nn))) : tsI nn nx f F 27 A B g := ⟨by omega, fun q => by omega, fun q => by omega, fun q => by omega, fun q => by omega, fun _ => h, fun q => by omega⟩
theorem ts_28 {A B g : Int} (h : 0 ≤ A ∧ A ≤ 7) : tsI nn nx f F 28 A B g := ⟨by omega, fun q => by omega, fun q => by omega, fun q => by omega, fun q => by omega, fun q => by omega, fun _ => h⟩
/-- a function ends -/
theorem tyF_mk (g : TS nn nx f u (fun _ => False) H D I F 0 0) (h0 : H 0 = 0 ∧ D 0 = 0) : tyF nn nx f F (on u (I ++ [(0, 0, 0, u)] ++ [(29, 0, 0, u)])) := by
  obtain ⟨H1, D1, g1, e1⟩ := TS_a (z := (0, 0, 0, u)) (h2 := 1) g rfl (show ¬ tjm 0 by unfold tjm; decide) (show tne 0 0 ≤ 0 by decide) (show 0 + tde 0 0 = 1 by decide) (by decide) rfl ts_n
  obtain ⟨H2, D2, g2, e2⟩ := TS_a (z := (29, 0, 0, u)) (h2 := 0) g1 rfl (show ¬ tjm 29 by unfold tjm; decide) (show tne 29 0 ≤ 1 by decide) (show 1 + tde 29 0 = 0 by decide) (by decide) rfl (ts_o (o := 29) (by decide)) (fun _ => rfl)
  have l1 : on u (I ++ [(0, 0, 0, u)]) = on u I ++ [(0, 0, 0, u)] := on_1 rfl
  have l2 : on u (I ++ [(0, 0, 0, u)] ++ [(29, 0, 0, u)]) = on u I ++ [(0, 0, 0, u)] ++ [(29, 0, 0, u)] := by rw [on_1 (z := ((29, 0, 0, u) : pz_I)) rfl, l1]
  have ll : (on u I ++ [((0, 0, 0, u) : pz_I)] ++ [(29, 0, 0, u)]).length = (on u I).length + 2 := by rw [List.length_append, List.length_append]; rfl
  have ll1 : (on u I ++ [((0, 0, 0, u) : pz_I)]).length = (on u I).length + 1 := by rw [List.length_append]; rfl
  refine ⟨H2, D2, ⟨?_, ?_⟩, g2.2.2.1, fun p hp hj => ?_, by rw [l2, ll]; omega, ?_⟩
  · rw [(e2.2.2.2.2 0 (Nat.zero_le _)).1, (e1.2.2.2.2 0 (Nat.zero_le _)).1]; exact h0.1
  · rw [(e2.2.2.2.2 0 (Nat.zero_le _)).2, (e1.2.2.2.2 0 (Nat.zero_le _)).2]; exact h0.2
  · rw [l2] at hp hj ⊢
    rw [ll] at hp ⊢
    by_cases q : p = (on u I).length + 1
    · subst q
      rw [← ll1, gD_m (on u I ++ [(0, 0, 0, u)]) []] at hj
      exact absurd hj (show ¬ tjm 29 by unfold tjm; decide)
    · rw [gD_a _ _ (by omega)] at hj ⊢
      by_cases q2 : p = (on u I).length
      · subst q2
        rw [gD_m (on u I) []] at hj
        exact absurd hj (show ¬ tjm 0 by unfold tjm; decide)
      · rw [gD_a _ _ (by omega)] at hj ⊢
        have := ((g.2.2.1.2 p (by omega)).1.2.2.2.1 hj (fun q => q)).2.1
        omega
  · rw [l2, ll, show (on u I).length + 2 - 1 = (on u I ++ [((0, 0, 0, u) : pz_I)]).length by rw [ll1]; omega, gD_m (on u I ++ [(0, 0, 0, u)]) []]
end Wd5
