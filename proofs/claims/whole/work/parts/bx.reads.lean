/-! PART bx: what holds of the reference while it reads a unit. -/
section Wbx
variable {A B C S Z S0 : wS} {T : Int → Int} {n f0 u dp b0 b1 : Int} {N X : List (List Int)} {c i k pm : Nat} {I : List pz_I} {F : List pz_F} {PA : Nat → Int}
/-- the function around, counted within the unit -/
def aro (f0 a : Int) : Int := if a = -1 then -1 else a - f0
/-- what lies where a jump is free -/
def gA (S0 : wS) (k j : Nat) (a : Int) : Int := if a = -9 then S0 (nP k + 5) (j : Int) else a
theorem gA_n {j : Nat} {a : Int} (h : a ≠ -9) : gA S0 k j a = a := if_neg h
theorem gA_9 {j : Nat} : gA S0 k j (-9) = S0 (nP k + 5) (j : Int) := if_pos rfl
/-- a jump has come behind the twenty thousandth instruction: it is not kept, and those of its chain aren't found -/
def pz_lo (I : List pz_I) : Prop := ∃ j : Nat, 20000 ≤ j ∧ j < I.length ∧ (I.getD j (0, 0, 0, 0)).1 = 20
theorem lo_ap {x : pz_I} (h : pz_lo I) : pz_lo (I ++ [x]) := by
  obtain ⟨j, h1, h2, h3⟩ := h
  exact ⟨j, h1, by rw [List.length_append]; omega, by rw [gD_l h2]; exact h3⟩
theorem lo_a {j : Nat} {v : Int} (h : pz_lo I) : pz_lo (pz_a I j v) := by
  obtain ⟨t, h1, h2, h3⟩ := h
  refine ⟨t, h1, by rw [pz_a_len]; exact h2, ?_⟩
  unfold pz_a
  rw [gD_s h2]
  by_cases e : t = j
  · rw [if_pos e, ← e]; exact h3
  · rw [if_neg e]; exact h3
theorem lo_no (h : I.length ≤ 20000) : ¬ pz_lo I := fun ⟨j, h1, h2, _⟩ => by omega
/-- the k-th part is the k-th function's -/
def rPt (S0 : wS) (f0 : Int) (I : List pz_I) (F : List pz_F) (k : Nat) (pa : Int) (S : wS) : Prop := ∃ la : List Int, la.length = (rl f0 (f0 + (k : Int)) I).length ∧ (∀ j : Nat, j < la.length → (((rl f0 (f0 + (k : Int)) I).getD j (0, 0, 0)).2.1 = -9 ∨ ¬ pz_lo I) → la.getD j 0 = gA S0 k j ((rl f0 (f0 + (k : Int)) I).getD j (0, 0, 0)).2.1) ∧ pO k (aro f0 (F.getD k (-1, 0, [])).1) pa (F.getD k (-1, 0, [])).2.2.reverse ((rl f0 (f0 + (k : Int)) I).map (fun z => z.1)) la ((rl f0 (f0 + (k : Int)) I).map (fun z => z.2.2)) (ru f0 (f0 + (k : Int)) I) S
/-- a part that is not in use -/
def rSh (k : Nat) (S : wS) : Prop := ∃ (ar pa : Int) (vs lo la lb : List Int) (un : Int), pO k ar pa vs lo la lb un S
/-- the arrays of the unit's sites -/
def fs (r g : Nat) : Nat := if g = 0 then 288 + 2 * r else nP 400 + (16 + 16 * r + g)
/-- parts and sites -/
def rB (S0 : wS) (f0 : Int) (I : List pz_I) (F : List pz_F) (PA : Nat → Int) (pm : Nat) (S : wS) : Prop := (∀ k : Nat, k < F.length → rPt S0 f0 I F k (PA k) S) ∧ (∀ k : Nat, F.length ≤ k → k < pm → rSh k S) ∧ (∀ k : Nat, pm ≤ k → k < 400 → ∀ c : Nat, c < 64 → ¬ w_pr wY0 S (nP k + c)) ∧ (F.length ≤ pm ∧ pm ≤ 400) ∧ ((∀ k : Nat, k < pm → S 286 (k : Int) = (nP k : Int)) ∧ S 286 (-1) = 400) ∧ iI 287 (fs 0) 4000 (sk1 I) S ∧ iI 289 (fs 1) 4000 (sk2 I) S ∧ iI 291 (fs 2) 4000 (sk3 I) S
/-- where it stands in its parts -/
def rCt (f0 u dp : Int) (I : List pz_I) (F : List pz_F) (pm : Nat) (S : wS) : Prop := (S 237 27 = u - f0 ∧ S 237 28 = (nP (u - f0).toNat : Int)) ∧ S 237 29 = dp ∧ S 237 26 = (F.length : Int) ∧ S 237 25 = (pm : Int) ∧ S 237 34 = f0 ∧ S 237 59 = (I.length : Int)
/-- functions and instructions fit -/
def rFv (f0 u : Int) (I : List pz_I) (F : List pz_F) (m : Nat) : Prop := (0 ≤ f0 ∧ f0 + (F.length : Int) ≤ 400) ∧ (f0 ≤ u ∧ u < f0 + (F.length : Int)) ∧ (∀ x ∈ I, f0 ≤ x.2.2.2 ∧ x.2.2.2 < f0 + (F.length : Int)) ∧ ∀ k : Nat, k < F.length → ((k = 0 ∧ (F.getD k (-1, 0, [])).1 = -1 ∧ (F.getD k (-1, 0, [])).2.2 = []) ∨ (f0 ≤ (F.getD k (-1, 0, [])).1 ∧ (F.getD k (-1, 0, [])).1 < f0 + (k : Int))) ∧ (F.getD k (-1, 0, [])).2.2.Nodup ∧ (F.getD k (-1, 0, [])).2.2.length ≤ 60 ∧ ∀ y ∈ (F.getD k (-1, 0, [])).2.2, 0 ≤ y ∧ y < (m : Int)
theorem rFv_mo {m m2 : Nat} (h : rFv f0 u I F m) (hm : m ≤ m2) : rFv f0 u I F m2 := ⟨h.1, h.2.1, h.2.2.1, fun k hk => by
  obtain ⟨a, b, c, d⟩ := h.2.2.2 k hk
  exact ⟨a, b, c, fun y hy => by have := d y hy; omega⟩⟩
/-- what may still be used, together -/
def phs (S : wS) : Nat → Int
  | 0 => 0
  | k + 1 => phs S k + phP k S
def phA (pm : Nat) (S : wS) : Int := phs S pm + phi 287 S + phi 289 S + phi 291 S + 125 * (400 - (pm : Int))
/-- the room -/
def rRm (b0 b1 : Int) (i : Nat) (I : List pz_I) (F : List pz_F) (pm : Nat) (S : wS) : Prop := S wG 0 + phA pm S ≤ b0 + 12 * ((I.length : Int) + (i : Int)) ∧ (8 * S wG 1 - S wG 0 ≤ b1 ∧ I.length ≤ 1 * i + 16)
/-- texts of sources stay ahead of those that are made -/
def xTb (T : Int → Int) (n : Int) (X : List (List Int)) : Prop := ∀ i : Nat, (tls (XL T n X i) : Int) + 60 ≤ 69632
/-- nothing else has changed -/
def rFr (bX : Prop) (S0 S : wS) : Prop := ∀ (j : Nat) (x : Int), j ≠ wG → (j < 2000000 ∨ 4000000 ≤ j) → j ≠ 240 → (j < 281 ∨ 292 < j ∨ (bX ∧ (((j = 284 ∨ j = 285) ∧ 4000 ≤ x) ∨ (j = 283 ∧ 69632 ≤ x)))) → (j ≠ 237 ∨ (x < 6 ∨ (12 < x ∧ x < 16) ∨ (16 < x ∧ x < 19) ∨ (20 < x ∧ x < 25) ∨ (29 < x ∧ x < 59) ∨ 61 < x)) → S j x = S0 j x
/-- the reference stands at the i-th token, in the function u, at the depth dp; these instructions and functions have come -/
def rQ (T : Int → Int) (n : Int) (N X : List (List Int)) (f0 b0 b1 : Int) (S0 : wS) (u dp : Int) (i : Nat) (I : List pz_I) (F : List pz_F) (PA : Nat → Int) (S : wS) : Prop := rL T n i S ∧ (mN (NL T n N i) S ∧ mX (XL T n X i) S) ∧ rFv f0 u I F (NL T n N i).length ∧ rFr (xTb T n X) S0 S ∧ ∃ pm : Nat, rCt f0 u dp I F pm S ∧ rB S0 f0 I F PA pm S ∧ rRm b0 b1 i I F pm S
/-- the parameters of the functions that have been read -/
def pA (F : List pz_F) (k : Nat) : Int := (F.getD k (-1, 0, [])).2.1
theorem wy_400 : ∀ q ∈ wy_n, q.1 < 400 := by decide +kernel
/-- lexer, names and texts stay -/
theorem rL_ag (h : rL T n i S) (e : ∀ (j : Nat) (x : Int), ((x = -1 ∧ j < 400) ∨ j = 239 ∨ j = 240 ∨ (281 ≤ j ∧ j ≤ 285) ∨ (j = 237 ∧ x ≤ 20)) → Z j x = S j x) : rL T n i Z := by
  obtain ⟨h1, h2, h3, h4, h5, h6, h7⟩ := h
  have e239 : Z 239 = S 239 := funext fun x => e 239 x (by omega)
  have e240 : Z 240 = S 240 := funext fun x => e 240 x (by omega)
  have e4 : Z 237 4 = S 237 4 := e 237 4 (by omega)
  have e5 : Z 237 5 = S 237 5 := e 237 5 (by omega)
  refine ⟨e239.trans h1, e4.trans h2, e5.trans h3, fun q hq => (e q.1 (-1) (Or.inl ⟨rfl, wy_400 q hq⟩)).trans (h4 q hq), by rw [e4]; exact h5, by rw [e4]; exact h6, ?_⟩
  unfold lx_St lx_tl at h7 ⊢
  rw [e 237 6 (by omega), e 237 7 (by omega), e 237 8 (by omega), e 237 9 (by omega), e 237 10 (by omega), e 237 12 (by omega), e4, e5, e239, e240]
  exact h7
theorem mN_ag {L : List (List Int)} (h : mN L S) (e : ∀ (j : Nat) (x : Int), ((x = -1 ∧ j < 400) ∨ j = 239 ∨ j = 240 ∨ (281 ≤ j ∧ j ≤ 285) ∨ (j = 237 ∧ x ≤ 20)) → Z j x = S j x) : mN L Z := by
  have e1 : Z 281 = S 281 := funext fun x => e 281 x (by omega)
  have e2 : Z 282 = S 282 := funext fun x => e 282 x (by omega)
  unfold mN at h ⊢
  rw [e1, e2, e 237 16 (by omega)]
  exact h
theorem mX_ag {L : List (List Int)} (h : mX L S) (e : ∀ (j : Nat) (x : Int), ((x = -1 ∧ j < 400) ∨ j = 239 ∨ j = 240 ∨ (281 ≤ j ∧ j ≤ 285) ∨ (j = 237 ∧ x ≤ 20)) → Z j x = S j x) : mX L Z := by
  have e1 : Z 283 = S 283 := funext fun x => e 283 x (by omega)
  have e2 : Z 284 = S 284 := funext fun x => e 284 x (by omega)
  have e3 : Z 285 = S 285 := funext fun x => e 285 x (by omega)
  unfold mX at h ⊢
  rw [e1, e2, e3, e 237 19 (by omega), e 237 20 (by omega)]
  exact h
/-- frames -/
theorem phs_ag : ∀ k : Nat, (∀ q : Nat, q < k → phP q Z = phP q S) → phs Z k = phs S k := by
  intro k
  induction k with
  | zero => intro _; rfl
  | succ k ih => intro h; show phs Z k + phP k Z = phs S k + phP k S; rw [ih (fun q hq => h q (by omega)), h k (by omega)]
theorem phs_one {q : Nat} : ∀ m : Nat, q < m → (∀ k : Nat, k < m → k ≠ q → phP k Z = phP k S) → phs Z m = phs S m + (phP q Z - phP q S) := by
  intro m
  induction m with
  | zero => intro h; exact absurd h (Nat.not_lt_zero _)
  | succ m ih =>
    intro h hk
    show phs Z m + phP m Z = phs S m + phP m S + _
    by_cases e : q = m
    · subst e
      rw [phs_ag q (fun k k1 => hk k (by omega) (by omega))]
      omega
    · rw [ih (by omega) (fun k k1 k2 => hk k (by omega) k2), hk m (by omega) (fun x => e x.symm)]
      omega
theorem rPt_pO {pa : Int} (h : rPt S0 f0 I F k pa S) : rSh k S := by
  obtain ⟨la, h1, h2, h3⟩ := h
  exact ⟨_, _, _, _, _, _, _, h3⟩
theorem rPt_ag {pa : Int} (h : rPt S0 f0 I F k pa S) (e : ∀ (j : Nat) (x : Int), nP k ≤ j → j < nP k + 64 → Z j x = S j x) : rPt S0 f0 I F k pa Z ∧ phP k Z = phP k S := by
  obtain ⟨la, h1, h2, h3⟩ := h
  obtain ⟨a1, a2⟩ := pO_ag h3 e
  exact ⟨⟨la, h1, h2, a1⟩, a2⟩
theorem rSh_ag (h : rSh k S) (e : ∀ (j : Nat) (x : Int), nP k ≤ j → j < nP k + 64 → Z j x = S j x) : rSh k Z ∧ phP k Z = phP k S := by
  obtain ⟨a, b, c, d, f, g, l, h3⟩ := h
  obtain ⟨a1, a2⟩ := pO_ag h3 e
  exact ⟨⟨_, _, _, _, _, _, _, a1⟩, a2⟩
theorem hfam_s {r : Nat} (hr : r < 3) : hfam (287 + 2 * r) (fs r) := by
  have h0 : wY0.ty (287 + 2 * r) = 113 ∧ wY0.ty (288 + 2 * r) = 0 ∧ wY0.co (288 + 2 * r) = 1 := by
    have : r = 0 ∨ r = 1 ∨ r = 2 := by omega
    rcases this with rfl | rfl | rfl <;> exact ⟨by decide +kernel, by decide +kernel, by decide +kernel⟩
  have hw : wG = 1000000 := rfl
  have hn : nP 400 = 2025600 := rfl
  refine ⟨⟨h0.1, by omega, by omega⟩, fun g hg => ?_⟩
  unfold fs
  by_cases e : g = 0
  · rw [if_pos e]
    refine ⟨⟨h0.2.1, h0.2.2, by omega, by omega, by omega⟩, fun h hh q => ?_⟩
    by_cases e2 : h = 0
    · omega
    · rw [if_neg e2] at q; omega
  · rw [if_neg e]
    refine ⟨⟨wt_P1 (by decide) (Or.inr (by omega)), wc_P1 (by decide) (Or.inr (by omega)), nP_G, by omega, by omega⟩, fun h hh q => ?_⟩
    by_cases e2 : h = 0
    · rw [if_pos e2] at q; omega
    · rw [if_neg e2] at q; omega
/-- parts and sites stay where nothing of theirs changes -/
theorem rB_ag (h : rB S0 f0 I F PA pm S) (e : ∀ (j : Nat) (x : Int), ((286 ≤ j ∧ j ≤ 292) ∨ (2000000 ≤ j ∧ j < 4000000)) → Z j x = S j x) : rB S0 f0 I F PA pm Z ∧ phA pm Z = phA pm S := by
  obtain ⟨h1, h2, h3, h4, ⟨h5, h6⟩, h7, h8, h9⟩ := h
  have eP : ∀ k : Nat, k ≤ 400 → ∀ (j : Nat) (x : Int), nP k ≤ j → j < nP k + 64 → Z j x = S j x := fun k hk j x q1 q2 => e j x (Or.inr (by unfold nP at q1 q2; omega))
  have eI : ∀ (r : Nat) (j : Nat) (x : Int), r < 3 → (j = 287 + 2 * r ∨ ∃ g : Nat, g ≤ 11 ∧ j = fs r g) → Z j x = S j x := fun r j x hr hj => e j x (by
    rcases hj with q | ⟨g, q1, q2⟩
    · exact Or.inl (by omega)
    · unfold fs at q2
      by_cases e2 : g = 0
      · rw [if_pos e2] at q2; exact Or.inl (by omega)
      · rw [if_neg e2] at q2; unfold nP at q2; exact Or.inr (by omega))
  obtain ⟨a1, a2⟩ := iI_ag h7 (fun j x => eI 0 j x (by decide))
  obtain ⟨b1, b2⟩ := iI_ag h8 (fun j x => eI 1 j x (by decide))
  obtain ⟨c1, c2⟩ := iI_ag h9 (fun j x => eI 2 j x (by decide))
  refine ⟨⟨fun k hk => (rPt_ag (h1 k hk) (eP k (by omega))).1, fun k k1 k2 => (rSh_ag (h2 k k1 k2) (eP k (by omega))).1, fun k k1 k2 c hc q => h3 k k1 k2 c hc ⟨by rw [← eP k (by omega) (nP k + c) (-1) (by omega) (by omega)]; exact q.1, q.2⟩, h4, ⟨fun k hk => (e 286 _ (by omega)).trans (h5 k hk), (e 286 _ (by omega)).trans h6⟩, a1, b1, c1⟩, ?_⟩
  unfold phA
  rw [a2, b2, c2, phs_ag pm (fun q hq => ?_)]
  by_cases hq2 : q < F.length
  · exact (rPt_ag (h1 q hq2) (eP q (by omega))).2
  · exact (rSh_ag (h2 q (by omega) hq) (eP q (by omega))).2
end Wbx
