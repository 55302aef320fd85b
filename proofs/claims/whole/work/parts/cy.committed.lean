/-! PART cy: what the class's commit leaves, by the unit's instructions and functions. -/
section Wcy
variable {xs : List (Nat × List Int32)} {M : Nat → Prop} {d : Nat} {A B C S Z : wS} {Q : wO → wS → Prop}
variable {f0 u a b op : Int} {I : List pz_I} {F : List pz_F} {x : pz_I} {k r : Nat}
variable {p sb un n : Int} {T : Int → Int} {N X : List (List Int)} {c i : Nat} {w : Int} {O : Int → Int} {m : Nat} {A1 A2 R : wS}
theorem on_ix (u : Int) (I : List pz_I) : ∀ t : Nat, t < (on u I).length → ∃ x : Nat, x < I.length ∧ (I.getD x (0, 0, 0, 0)).2.2.2 = u ∧ (on u (I.take x)).length = t ∧ (I.getD x (0, 0, 0, 0)) = ox u I t := by
  refine li_end (p := fun I => ∀ t : Nat, t < (on u I).length → ∃ x : Nat, x < I.length ∧ (I.getD x (0, 0, 0, 0)).2.2.2 = u ∧ (on u (I.take x)).length = t ∧ (I.getD x (0, 0, 0, 0)) = ox u I t) (fun t ht => absurd ht (Nat.not_lt_zero _)) (fun l y ih => ?_) I
  intro t ht
  have hlen : (l ++ [y]).length = l.length + 1 := List.length_append
  rw [on_ap] at ht
  have old : t < (on u l).length → (ox u (l ++ [y]) t = ox u l t) → ∃ x : Nat, x < (l ++ [y]).length ∧ ((l ++ [y]).getD x (0, 0, 0, 0)).2.2.2 = u ∧ (on u ((l ++ [y]).take x)).length = t ∧ (l ++ [y]).getD x (0, 0, 0, 0) = ox u (l ++ [y]) t := fun h1 h2 => by
    obtain ⟨x, x1, x2, x3, x4⟩ := ih t h1
    refine ⟨x, by omega, ?_, ?_, ?_⟩
    · rw [gD_l x1]; exact x2
    · rw [List.take_append_of_le_length (by omega)]; exact x3
    · rw [gD_l x1, h2]; exact x4
  by_cases e : y.2.2.2 = u
  · rw [if_pos e, List.length_append] at ht
    have ht2 : t < (on u l).length + 1 := ht
    by_cases e2 : t = (on u l).length
    · refine ⟨l.length, by omega, by rw [gD_r]; exact e, ?_, ?_⟩
      · rw [List.take_left]; exact e2.symm
      · rw [gD_r]
        unfold ox
        rw [on_ap, if_pos e, e2, gD_r]
    · exact old (by omega) (by unfold ox; rw [on_ap, if_pos e, gD_l (by omega)])
  · rw [if_neg e] at ht
    exact old ht (by unfold ox; rw [on_ap, if_neg e])
theorem oct_on (hO : ∀ k : Nat, k < I.length → O (k : Int) = (I.getD k (0, 0, 0, 0)).2.2.2) : ∀ j : Nat, j ≤ I.length → oct O u j = ((on u (I.take j)).length : Int) := by
  intro j
  induction j with
  | zero => intro _; rw [List.take_zero]; rfl
  | succ j ih =>
    intro hj
    have h1 := ih (by omega)
    rw [take_s (by omega), on_ap]
    by_cases e : (I.getD j (0, 0, 0, 0)).2.2.2 = u
    · rw [if_pos e, oct_1 ((hO j (by omega)).trans e), h1, List.length_append]
      rfl
    · rw [if_neg e, oct_0 (fun q => e ((hO j (by omega)).symm.trans q)), h1]
/-- the instructions in their places -/
def cmR (f0 : Int) (I : List pz_I) (m : Nat) (p : Int) (R : wS) : Prop := (∀ k : Nat, k < m → R 27 (f0 + (k : Int)) = p + (psm (fun u => pz_h I u) f0 k) ∧ R 24 (f0 + (k : Int)) = pz_h I (f0 + (k : Int))) ∧ ∀ k : Nat, k < m → ∀ t : Nat, t < (on (f0 + (k : Int)) I).length → R 31 (p + (psm (fun u => pz_h I u) f0 k) + (t : Int)) = (ox (f0 + (k : Int)) I t).1 ∧ R 32 (p + (psm (fun u => pz_h I u) f0 k) + (t : Int)) = (ox (f0 + (k : Int)) I t).2.1 ∧ R 33 (p + (psm (fun u => pz_h I u) f0 k) + (t : Int)) = (ox (f0 + (k : Int)) I t).2.2.1
theorem cm_R (a64 : ∀ k : Nat, k < I.length → A2 64 (k : Int) = (I.getD k (0, 0, 0, 0)).1 ∧ A2 65 (k : Int) = (I.getD k (0, 0, 0, 0)).2.1 ∧ A2 66 (k : Int) = (I.getD k (0, 0, 0, 0)).2.2.1 ∧ A2 67 (k : Int) = (I.getD k (0, 0, 0, 0)).2.2.2) (a27 : ∀ k : Nat, k < m → A2 27 (f0 + (k : Int)) = p + (psm (fun u => pz_h I u) f0 k)) (h2 : c2I f0 p m I.length A2 R) : cmR f0 I m p R := by
  obtain ⟨c1, c2, c3, c4, -⟩ := h2
  have hO : ∀ k : Nat, k < I.length → A2 67 (k : Int) = (I.getD k (0, 0, 0, 0)).2.2.2 := fun k hk => (a64 k hk).2.2.2
  refine ⟨fun k hk => ⟨(c4 27 _ (by omega) (by omega)).trans (a27 k hk), ?_⟩, fun k hk t ht => ?_⟩
  · rw [c1 (f0 + (k : Int)) (by omega) (by omega), oct_on hO I.length (Nat.le_refl _), List.take_length, on_len]
  · obtain ⟨x, x1, x2, x3, x4⟩ := on_ix (f0 + (k : Int)) I t ht
    obtain ⟨b1, b2, b3, b4⟩ := a64 x x1
    have h := c2 x x1
    rw [b4, x2, a27 k hk, oct_on hO x (by omega), x3, b1, b2, b3, x4] at h
    exact h
theorem fct_os {b : Int} (h : ∀ t : Nat, t < (on u I).length → O (b + (t : Int)) = (ox u I t).1) : ∀ r : Nat, r ≤ (on u I).length → fct O b r = os u I r := by
  intro r
  induction r with
  | zero => intro _; rfl
  | succ r ih =>
    intro hr
    show fct O b r + (if O (b + (r : Int)) = 27 then 1 else 0) = os u I (r + 1)
    rw [ih (by omega), h r (by omega), os_s (by omega)]
theorem cm_len (hR : cmR f0 I m p R) {k : Nat} (hk : k < m) : (R 24 (f0 + (k : Int))).toNat = (on (f0 + (k : Int)) I).length := by
  have h1 := on_len (f0 + (k : Int)) I
  rw [(hR.1 k hk).2]
  omega
theorem cm_fct (hR : cmR f0 I m p R) {k : Nat} (hk : k < m) {r : Nat} (hr : r ≤ (on (f0 + (k : Int)) I).length) : fct (R 31) (R 27 (f0 + (k : Int))) r = os (f0 + (k : Int)) I r := by
  refine fct_os (fun t ht => ?_) r hr
  rw [(hR.1 k hk).1]
  exact (hR.2 k hk t ht).1
theorem cm_ssm (hR : cmR f0 I m p R) : ∀ k : Nat, k ≤ m → ssm R f0 k = (psm (fun u => pz_s (on u I)) f0 k) := by
  intro k
  induction k with
  | zero => intro _; rfl
  | succ k ih =>
    intro hk
    show ssm R f0 k + fct (R 31) (R 27 (f0 + (k : Int))) (R 24 (f0 + (k : Int))).toNat = (psm (fun u => pz_s (on u I)) f0 k) + pz_s (on (f0 + (k : Int)) I)
    rw [ih (by omega), cm_len hR (by omega), cm_fct hR (by omega) (Nat.le_refl _), os_all]
theorem w16 : ∀ a : Nat, a < 1000 → wb_iand (a : Int) 15 = (a : Int) % 16 ∧ wb_ishr (a : Int) 4 = (a : Int) / 16 := by decide +kernel
theorem w16i {a : Int} (h0 : 0 ≤ a) (h1 : a < 1000) : wb_iand a 15 = a % 16 ∧ wb_ishr a 4 = a / 16 := by
  obtain ⟨b, rfl⟩ := Int.eq_ofNat_of_zero_le h0
  exact w16 b (by omega)
/-- a site's row in the class -/
def cRow (Z : wS) (s : Int) (x : pz_I) (u t : Int) : Prop := Z 35 s = x.2.1 % 16 ∧ Z 36 s = x.2.2.1 ∧ Z 37 s = x.2.1 / 16 ∧ Z 38 s = u ∧ Z 39 s = t ∧ (∀ j : Nat, 41 ≤ j → j ≤ 45 → Z j s = 0) ∧ Z 46 s = -1
def cpD (f0 : Int) (I : List pz_I) (F : List pz_F) (u p sb : Int) (r : Nat) (Z : wS) : Prop := ∀ t : Nat, t < r → (Z 31 (p + (t : Int)) = (fx f0 F u (sb + os u I t) (ox u I t).1 (ox u I t).2.1 (ox u I t).2.2.1).1 ∧ Z 32 (p + (t : Int)) = (fx f0 F u (sb + os u I t) (ox u I t).1 (ox u I t).2.1 (ox u I t).2.2.1).2.1 ∧ Z 33 (p + (t : Int)) = (fx f0 F u (sb + os u I t) (ox u I t).1 (ox u I t).2.1 (ox u I t).2.2.1).2.2) ∧ ((ox u I t).1 = 27 → cRow Z (sb + os u I t) (ox u I t) u (t : Int))
/-- the q-th function's rows and instructions, in the class -/
def cRf (f0 : Int) (I : List pz_I) (F : List pz_F) (un p sb : Int) (q : Nat) (Z : wS) : Prop := (Z 21 (f0 + (q : Int)) = un ∧ Z 22 (f0 + (q : Int)) = (F.getD q (-1, 0, [])).2.1 ∧ Z 23 (f0 + (q : Int)) = ((F.getD q (-1, 0, [])).2.2.length : Int) ∧ Z 27 (f0 + (q : Int)) = p + (psm (fun u => pz_h I u) f0 q) ∧ Z 24 (f0 + (q : Int)) = pz_h I (f0 + (q : Int)) ∧ Z 25 (f0 + (q : Int)) = sb + (psm (fun u => pz_s (on u I)) f0 q) ∧ Z 26 (f0 + (q : Int)) = pz_s (on (f0 + (q : Int)) I)) ∧ cpD f0 I F (f0 + (q : Int)) (p + (psm (fun u => pz_h I u) f0 q)) (sb + (psm (fun u => pz_s (on u I)) f0 q)) (on (f0 + (q : Int)) I).length Z
theorem cm_F (h9 : nK f0 I) (hR : cmR f0 I m p R) (h19 : R 19 9 = sb) {k : Nat} (hk : k < m) (h : c3F f0 F R k Z) : (Z 25 (f0 + (k : Int)) = sb + (psm (fun u => pz_s (on u I)) f0 k) ∧ Z 26 (f0 + (k : Int)) = pz_s (on (f0 + (k : Int)) I)) ∧ cpD f0 I F (f0 + (k : Int)) (p + (psm (fun u => pz_h I u) f0 k)) (sb + (psm (fun u => pz_s (on u I)) f0 k)) (on (f0 + (k : Int)) I).length Z := by
  obtain ⟨a1, a2, a3, a4⟩ := h
  have hl := cm_len hR hk
  have hss := cm_ssm hR k (by omega)
  have e27 := (hR.1 k hk).1
  refine ⟨⟨by rw [a3, h19, hss], by rw [a4, hl, cm_fct hR hk (Nat.le_refl _), os_all]⟩, fun t ht => ?_⟩
  obtain ⟨r1, r2, r3⟩ := hR.2 k hk t ht
  have hf := cm_fct hR hk (r := t) (by omega)
  have b1 := a1 t (by omega)
  rw [hf, hss, h19, e27, r1, r2, r3] at b1
  refine ⟨b1, fun q => ?_⟩
  have b2 := a2 t (by omega) (by rw [e27, r1]; exact q)
  rw [hf, hss, h19, e27, r2, r3] at b2
  obtain ⟨c1, c2, c3, c4, c5, c6, c7⟩ := b2
  have hz := (h9 _ (on_get ht)).2.2.2.2 q
  obtain ⟨d1, d2⟩ := w16i hz.1 hz.2
  exact ⟨c1.trans d1, c2, c3.trans d2, c4, c5, c7, c6⟩
/-- a unit is kept, in the class -/
def kC (f0 : Int) (I : List pz_I) (F : List pz_F) (un p sb : Int) (S Z : wS) : Prop := (Z 19 3 = un + 1 ∧ Z 19 1 = f0 + (F.length : Int) ∧ Z 19 7 = p + (I.length : Int) ∧ Z 19 9 = sb + pz_s I ∧ Z 30 un = f0) ∧ (∀ k : Nat, k < F.length → cRf f0 I F un p sb k Z) ∧ (∀ (j : Nat) (x : Int), j < 4000000 → j ≠ wG → (j < 21 ∨ 46 < j ∨ (21 ≤ j ∧ j ≤ 29 ∧ (x < f0 ∨ f0 + (F.length : Int) ≤ x)) ∨ (21 ≤ j ∧ j ≤ 23) ∨ j = 28 ∨ j = 29 ∨ (j = 30 ∧ x ≠ un) ∨ (31 ≤ j ∧ j ≤ 33 ∧ 0 ≤ x ∧ x < p) ∨ j = 34 ∨ (35 ≤ j ∧ j ≤ 46 ∧ 0 ≤ x ∧ x < sb)) → j ≠ 58 → j ≠ 59 → j ≠ 60 → (j ≠ 19 ∨ (x ≠ 1 ∧ x ≠ 3 ∧ x ≠ 7 ∧ x ≠ 9 ∧ x ≠ 16)) → Z j x = S j x) ∧ (si_L Z ∧ dN (Z 35) (Z 36) (Z 37) (Z 40) (Z 19 9) (Z 19 16)) ∧ (Z 32 (-1) = Z 31 (-1) ∧ Z 33 (-1) = Z 31 (-1) ∧ p + (I.length : Int) ≤ Z 31 (-1) ∧ 64 ≤ Z 31 (-1) ∧ (Z 31 (-1) ≤ 40000 ∧ (Z 31 (-1) ≤ S 31 (-1) ∨ Z 31 (-1) ≤ 2 * (p + (I.length : Int))))) ∧ (∀ j : Nat, 21 ≤ j → j ≤ 30 → Z j (-1) = S j (-1)) ∧ gI Z ∧ rmR S Z
theorem cm_C (hI : ci_I I S) (hF : ci_F f0 i I F S) (h9 : nK f0 I) (hun : S 19 3 = un) (hu : 0 ≤ un) (h7 : S 19 7 = p) (hp : 0 ≤ p ∧ p ≤ S 31 (-1)) (hs : S 19 9 = sb) (hsb : 0 ≤ sb) (h : cmP f0 F I.length S Z) : kC f0 I F un p sb S Z := by
  obtain ⟨A1, A2, R, ⟨b1, b2, b3, b4, b5, b6⟩, ⟨d1, d2, d3, d4⟩, hc2, ⟨e1, e2, e3, e4, e5, e6, e7, e8⟩⟩ := h
  obtain ⟨g1, g2, g3, g4, g5, g6⟩ := hF
  rw [h7] at d1 hc2 e3
  rw [hun, g1, g2] at b4
  have hw : wG = 1000000 := rfl
  have fr1 : ∀ (j : Nat) (x : Int), j < 4000000 → j ≠ wG → j ≠ 31 → j ≠ 32 → j ≠ 33 → (j ≠ 19 ∨ (x ≠ 7 ∧ x ≠ 3 ∧ x ≠ 1)) → (j ≠ 30 ∨ x ≠ un) → A1 j x = S j x := fun j x q0 q1 q2 q3 q4 q5 q6 => (b4 j x q0 q1 q2 q3 q4 (by omega)).trans ((w_up_no (by omega)).trans ((w_up_no (by omega)).trans (w_up_no (by omega))))
  have hA1 : ∀ k : Nat, k < F.length → A1 24 (f0 + (k : Int)) = pz_h I (f0 + (k : Int)) := fun k hk => (fr1 24 _ (by decide) (by decide) (by decide) (by decide) (by decide) (by omega) (by omega)).trans (g6 k hk).2.2.2.2.1
  have hps : ∀ k : Nat, k ≤ F.length → psm (A1 24) f0 k = (psm (fun u => pz_h I u) f0 k) := fun k hk => psm_cg k (fun x hx => hA1 x (by omega))
  have a27 : ∀ k : Nat, k < F.length → A2 27 (f0 + (k : Int)) = p + (psm (fun u => pz_h I u) f0 k) := fun k hk => by rw [(d1 k hk).1, hps k (by omega)]
  have fr2 : ∀ (j : Nat) (x : Int), j ≠ 27 → j ≠ 24 → A2 j x = A1 j x := fun j x q1 q2 => d2 j x (Or.inl ⟨q1, q2⟩)
  have fr12 : ∀ (j : Nat) (x : Int), 64 ≤ j → j ≤ 67 → A2 j x = S j x := fun j x q1 q2 => (fr2 j x (by omega) (by omega)).trans (fr1 j x (by omega) (by omega) (by omega) (by omega) (by omega) (by omega) (by omega))
  have a64 : ∀ k : Nat, k < I.length → A2 64 (k : Int) = (I.getD k (0, 0, 0, 0)).1 ∧ A2 65 (k : Int) = (I.getD k (0, 0, 0, 0)).2.1 ∧ A2 66 (k : Int) = (I.getD k (0, 0, 0, 0)).2.2.1 ∧ A2 67 (k : Int) = (I.getD k (0, 0, 0, 0)).2.2.2 := fun k hk => by
    obtain ⟨x1, x2, x3, x4⟩ := hI.2.2 k hk
    have hm : (I.getD k (0, 0, 0, 0)) ∈ I := by rw [List.getD_eq_getElem?_getD, List.getElem?_eq_getElem hk]; exact List.getElem_mem hk
    exact ⟨(fr12 64 _ (by decide) (by decide)).trans x1, (fr12 65 _ (by decide) (by decide)).trans (x2 (h9 _ hm).1), (fr12 66 _ (by decide) (by decide)).trans x3, (fr12 67 _ (by decide) (by decide)).trans x4⟩
  have hR := cm_R (m := F.length) a64 a27 hc2
  obtain ⟨c1, c2, c3, c4, c5, c6⟩ := hc2
  have hpR : ∀ k : Nat, k ≤ F.length → psm (R 24) f0 k = (psm (fun u => pz_h I u) f0 k) := fun k hk => psm_cg k (fun x hx => (hR.1 x (by omega)).2)
  have R19 : ∀ x : Int, x ≠ 7 → x ≠ 3 → x ≠ 1 → R 19 x = S 19 x := fun x x1 x2 x3 => (c4 19 x (by omega) (by omega)).trans ((fr2 19 x (by decide) (by decide)).trans (fr1 19 x (by decide) (by decide) (by decide) (by decide) (by decide) (by omega) (by omega)))
  have h19 : R 19 9 = sb := (R19 9 (by decide) (by decide) (by decide)).trans hs
  have Z19 : ∀ x : Int, x ≠ 9 → x ≠ 16 → Z 19 x = A1 19 x := fun x x1 x2 => (e5 19 x (by decide) (by decide) (by decide) (by decide) (by decide) (by decide) (by decide) (by omega) (by omega)).trans ((c4 19 x (by omega) (by omega)).trans (fr2 19 x (by decide) (by decide)))
  have hall := psm_h f0 F.length I g5
  have hsal := psm_so f0 F.length I g5
  have hz19 : Z 19 9 = sb + pz_s I := by rw [e1, h19, cm_ssm hR F.length (Nat.le_refl _), hsal]
  have hlen : ∀ j : Nat, 31 ≤ j → j ≤ 33 → Z j (-1) = A1 j (-1) := fun j j0 j1 => by
    have hj : j = 31 ∨ j = 32 ∨ j = 33 := by omega
    have z := e3 (-1) (by omega)
    have y := c3 (-1) (by omega)
    have x := fr2 j (-1) (by omega) (by omega)
    rcases hj with rfl | rfl | rfl
    · exact z.1.trans (y.1.trans x)
    · exact z.2.1.trans (y.2.1.trans x)
    · exact z.2.2.trans (y.2.2.trans x)
  have e5b : ∀ (j : Nat) (x : Int), j < 4000000 → j ≠ wG → (j < 31 ∨ 46 < j ∨ j = 34) → j ≠ 58 → j ≠ 59 → j ≠ 60 → (j ≠ 19 ∨ (x ≠ 1 ∧ x ≠ 3 ∧ x ≠ 7 ∧ x ≠ 9 ∧ x ≠ 16)) → ((j ≠ 24 ∧ j ≠ 25 ∧ j ≠ 26 ∧ j ≠ 27) ∨ x < f0 ∨ f0 + (F.length : Int) ≤ x) → (j ≠ 30 ∨ x ≠ un) → Z j x = S j x := fun j x q0 q1 q2 q3 q4 q5 q6 q7 q8 => (e5 j x q0 q1 (by omega) (by omega) q3 q4 q5 (by omega) (by omega)).trans ((c4 j x (by omega) (by omega)).trans ((d2 j x (by omega)).trans (fr1 j x q0 q1 (by omega) (by omega) (by omega) (by omega) q8)))
  refine ⟨⟨?_, ?_, ?_, hz19, ?_⟩, fun k hk => ?_, fun j x q0 q1 q2 q3 q4 q5 q6 => ?_, e6, ⟨?_, ?_, ?_, ?_, ?_⟩, fun j j0 j1 => ?_, e7, ?_⟩
  · rw [Z19 3 (by decide) (by decide), b4 19 3 (by decide) (by decide) (by decide) (by decide) (by decide) (by omega)]
    exact (w_up_at (by decide)).trans (w_up_same _ _ _ _)
  · rw [Z19 1 (by decide) (by decide), b4 19 1 (by decide) (by decide) (by decide) (by decide) (by decide) (by omega)]
    exact w_up_same _ _ _ _
  · rw [Z19 7 (by decide) (by decide), b1]
    have : (w_up (w_up (w_up S 30 (S 19 3) (S 19 1)) 19 3 ((S 19 3) + 1)) 19 1 ((S 19 1) + (S 63 10))) 19 7 = S 19 7 := (w_up_at (by decide)).trans ((w_up_at (by decide)).trans (w_up_slot (by decide)))
    omega
  · rw [e5 30 un (by decide) (by decide) (by decide) (by decide) (by decide) (by decide) (by decide) (by omega) (by omega), c4 30 un (by omega) (by omega), fr2 30 un (by decide) (by decide), b4 30 un (by decide) (by decide) (by decide) (by decide) (by decide) (by omega)]
    exact (w_up_slot (by decide)).trans ((w_up_slot (by decide)).trans (w_up_same _ _ _ _))
  · obtain ⟨⟨y1, y2⟩, y3⟩ := cm_F h9 hR h19 hk (e2 k hk)
    obtain ⟨i1, i2, i3, i4, i5, i6⟩ := g6 k hk
    have rr : ∀ j : Nat, 21 ≤ j → j ≤ 23 → Z j (f0 + (k : Int)) = S j (f0 + (k : Int)) := fun j j0 j1 => e5b j _ (by omega) (by omega) (by omega) (by omega) (by omega) (by omega) (by omega) (by omega) (by omega)
    have r2 : ∀ j : Nat, (j = 24 ∨ j = 27) → Z j (f0 + (k : Int)) = R j (f0 + (k : Int)) := fun j hj => e5 j _ (by omega) (by omega) (by omega) (by omega) (by omega) (by omega) (by omega) (by omega) (by omega)
    exact ⟨⟨(rr 21 (by decide) (by decide)).trans (i6.trans hun), (rr 22 (by decide) (by decide)).trans i2, (rr 23 (by decide) (by decide)).trans i3.1, (r2 27 (by omega)).trans (hR.1 k hk).1, (r2 24 (by omega)).trans (hR.1 k hk).2, y1, y2⟩, y3⟩
  · by_cases hj : 31 ≤ j ∧ j ≤ 33
    · have hj2 : j = 31 ∨ j = 32 ∨ j = 33 := by omega
      have hx : 0 ≤ x ∧ x < p := by omega
      have z := e3 x (by omega)
      have y := c3 x (by omega)
      have x1 := fr2 j x (by omega) (by omega)
      have v := b3 x hx.1 (by show x < S 31 (-1); omega)
      rcases hj2 with rfl | rfl | rfl
      · exact z.1.trans (y.1.trans (x1.trans (v.1.trans ((w_up_slot (by decide)).trans ((w_up_slot (by decide)).trans (w_up_slot (by decide)))))))
      · exact z.2.1.trans (y.2.1.trans (x1.trans (v.2.1.trans ((w_up_slot (by decide)).trans ((w_up_slot (by decide)).trans (w_up_slot (by decide)))))))
      · exact z.2.2.trans (y.2.2.trans (x1.trans (v.2.2.trans ((w_up_slot (by decide)).trans ((w_up_slot (by decide)).trans (w_up_slot (by decide)))))))
    · by_cases hj3 : 35 ≤ j ∧ j ≤ 46
      · rw [e4 j x hj3.1 hj3.2 (by omega) (by omega), c4 j x (by omega) (by omega), fr2 j x (by omega) (by omega)]
        exact fr1 j x q0 q1 (by omega) (by omega) (by omega) (by omega) (by omega)
      · exact e5b j x q0 q1 (by omega) q3 q4 q5 q6 (by omega) (by omega)
  · rw [hlen 32 (by decide) (by decide), hlen 31 (by decide) (by decide)]; exact b2.1
  · rw [hlen 33 (by decide) (by decide), hlen 31 (by decide) (by decide)]; exact b2.2.1
  · rw [hlen 31 (by decide) (by decide)]
    have z := b2.2.2.1
    have : (w_up (w_up (w_up S 30 (S 19 3) (S 19 1)) 19 3 ((S 19 3) + 1)) 19 1 ((S 19 1) + (S 63 10))) 19 7 = S 19 7 := (w_up_at (by decide)).trans ((w_up_at (by decide)).trans (w_up_slot (by decide)))
    omega
  · rw [hlen 31 (by decide) (by decide)]; exact b2.2.2.2.1
  · rw [hlen 31 (by decide) (by decide)]
    have z := b2.2.2.2.2
    have z7 : (w_up (w_up (w_up S 30 (S 19 3) (S 19 1)) 19 3 ((S 19 3) + 1)) 19 1 ((S 19 1) + (S 63 10))) 19 7 = S 19 7 := (w_up_at (by decide)).trans ((w_up_at (by decide)).trans (w_up_slot (by decide)))
    have z31 : (w_up (w_up (w_up S 30 (S 19 3) (S 19 1)) 19 3 ((S 19 3) + 1)) 19 1 ((S 19 1) + (S 63 10))) 31 (-1) = S 31 (-1) := (w_up_slot (by decide)).trans ((w_up_slot (by decide)).trans (w_up_slot (by decide)))
    rw [z7, z31, h7] at z
    exact z
  · exact e5b j (-1) (by omega) (by omega) (by omega) (by omega) (by omega) (by omega) (by omega) (by omega) (by omega)
  · have s3 : rmR S (w_up (w_up (w_up S 30 (S 19 3) (S 19 1)) 19 3 ((S 19 3) + 1)) 19 1 ((S 19 1) + (S 63 10))) := rmR_up (rmR_up (rmR_up (rmR_rfl S) (by omega) (by decide)) (by decide) (by decide)) (by decide) (by decide)
    exact rmR_tr s3 (rmR_tr b6 (rmR_tr d4 (rmR_tr c6 e8)))
end Wcy
