/-! PART bo: the Compiler's commit: places, instructions in order. -/
section Wbo
variable {xs : List (Nat × List Int32)} {M : Nat → Prop} {d : Nat} {A B C S Z : wS} {Q : wO → wS → Prop} {T : Int → Int} {n : Int} {N X : List (List Int)} {c i : Nat} {f u w : Int} {I : List pz_I} {F : List pz_F}
variable {R : wS} {p un : Int} {m : Nat}
/-- how many there are ahead of the k-th function -/
def psm (H : Int → Int) (f : Int) : Nat → Int
  | 0 => 0
  | k + 1 => psm H f k + H (f + (k : Int))
/-- how many of the first i are of u -/
def oct (O : Int → Int) (u : Int) : Nat → Int
  | 0 => 0
  | i + 1 => oct O u i + (if O (i : Int) = u then 1 else 0)
theorem psm_mo {H : Int → Int} {f : Int} {k m : Nat} (h : k ≤ m) (hp : ∀ x : Nat, x < m → 0 ≤ H (f + (x : Int))) : psm H f k ≤ psm H f m := by
  induction h with
  | refl => exact Int.le_refl _
  | step h ih =>
    rename_i q
    show psm H f k ≤ psm H f q + H (f + (q : Int))
    have h1 := ih (fun x hx => hp x (by omega))
    have h2 := hp q (by omega)
    omega
theorem psm_cg {H H2 : Int → Int} {f : Int} : ∀ k : Nat, (∀ x : Nat, x < k → H2 (f + (x : Int)) = H (f + (x : Int))) → psm H2 f k = psm H f k := by
  intro k
  induction k with
  | zero => intro _; rfl
  | succ k ih =>
    intro h
    show psm H2 f k + H2 (f + (k : Int)) = psm H f k + H (f + (k : Int))
    rw [ih (fun x hx => h x (by omega)), h k (by omega)]
theorem oct_rg (O : Int → Int) (u : Int) : ∀ i : Nat, 0 ≤ oct O u i ∧ oct O u i ≤ (i : Int) := by
  intro i
  induction i with
  | zero => exact ⟨Int.le_refl _, Int.le_refl _⟩
  | succ i ih =>
    show 0 ≤ oct O u i + (if O (i : Int) = u then 1 else 0) ∧ oct O u i + (if O (i : Int) = u then 1 else 0) ≤ ((i + 1 : Nat) : Int)
    by_cases h : O (i : Int) = u
    · rw [if_pos h]; omega
    · rw [if_neg h]; omega
theorem oct_1 {O : Int → Int} {u : Int} {i : Nat} (h : O (i : Int) = u) : oct O u (i + 1) = oct O u i + 1 := by show oct O u i + (if O (i : Int) = u then 1 else 0) = _; rw [if_pos h]
theorem oct_0 {O : Int → Int} {u : Int} {i : Nat} (h : O (i : Int) ≠ u) : oct O u (i + 1) = oct O u i := by show oct O u i + (if O (i : Int) = u then 1 else 0) = _; rw [if_neg h]; omega
theorem oct_mo {O : Int → Int} {u : Int} {i k : Nat} (h : i ≤ k) : oct O u i ≤ oct O u k := by
  induction h with
  | refl => exact Int.le_refl _
  | step h ih =>
    rename_i q
    show oct O u i ≤ oct O u q + (if O (q : Int) = u then 1 else 0)
    by_cases g : O (q : Int) = u
    · rw [if_pos g]; omega
    · rw [if_neg g]; omega
theorem psm_add (H H2 : Int → Int) (f : Int) : ∀ k : Nat, psm (fun u => H u + H2 u) f k = psm H f k + psm H2 f k := by
  intro k
  induction k with
  | zero => rfl
  | succ k ih =>
    show psm (fun u => H u + H2 u) f k + (H (f + (k : Int)) + H2 (f + (k : Int))) = (psm H f k + H (f + (k : Int))) + (psm H2 f k + H2 (f + (k : Int)))
    rw [ih]; omega
theorem psm_one (a f : Int) : ∀ k : Nat, psm (fun u => if a = u then 1 else 0) f k = if f ≤ a ∧ a < f + (k : Int) then 1 else 0 := by
  intro k
  induction k with
  | zero => rw [if_neg (by omega)]; rfl
  | succ k ih =>
    show psm (fun u => if a = u then 1 else 0) f k + (if a = f + (k : Int) then 1 else 0) = _
    rw [ih]
    by_cases h1 : a = f + (k : Int)
    · rw [if_neg (by omega), if_pos h1, if_pos (by omega)]; omega
    · rw [if_neg h1]
      by_cases h2 : f ≤ a ∧ a < f + (k : Int)
      · rw [if_pos h2, if_pos (by omega)]; omega
      · rw [if_neg h2, if_neg (by omega)]; omega
theorem psm_z (f : Int) : ∀ m : Nat, psm (fun _ => 0) f m = 0 := by
  intro m
  induction m with
  | zero => rfl
  | succ m ih => show psm (fun _ => 0) f m + 0 = 0; rw [ih]; rfl
/-- every instruction is of one function -/
theorem psm_oct {O : Int → Int} {f : Int} {m : Nat} : ∀ i : Nat, (∀ x : Nat, x < i → f ≤ O (x : Int) ∧ O (x : Int) < f + (m : Int)) → psm (fun u => oct O u i) f m = (i : Int) := by
  intro i
  induction i with
  | zero =>
    intro _
    exact psm_z f m
  | succ i ih =>
    intro h
    have h1 := psm_add (fun u => oct O u i) (fun u => if O (i : Int) = u then 1 else 0) f m
    show psm (fun u => oct O u i + (if O (i : Int) = u then 1 else 0)) f m = _
    rw [h1, ih (fun x hx => h x (by omega)), psm_one, if_pos (h i (by omega))]
    omega
/-- places ahead of the k-th function are laid -/
def c1I (f p : Int) (k : Nat) (S Z : wS) : Prop := (∀ x : Nat, x < k → Z 27 (f + (x : Int)) = p + psm (S 24) f x ∧ Z 24 (f + (x : Int)) = 0) ∧ (∀ (j : Nat) (y : Int), (j ≠ 27 ∧ j ≠ 24) ∨ y < f ∨ f + (k : Int) ≤ y → Z j y = S j y) ∧ gI Z ∧ rmR S Z
theorem c1I_0 (hI : gI S) : c1I f p 0 S S := ⟨fun x hx => absurd hx (Nat.not_lt_zero _), fun _ _ _ => rfl, hI, rmR_rfl S⟩
theorem c1I_s {k : Nat} (hf : 0 ≤ f) (h : c1I f p k S Z) : c1I f p (k + 1) S (w_up (w_up Z 27 (f + (k : Int)) (p + psm (S 24) f k)) 24 (f + (k : Int)) 0) := by
  obtain ⟨a1, a2, a3, a4⟩ := h
  refine ⟨fun x hx => ?_, fun j y hj => (w_up_no (by omega)).trans ((w_up_no (by omega)).trans (a2 j y (by omega))), gI_up (gI_up a3 (by omega) (by omega) (by omega)) (by omega) (by omega) (by omega), rmR_up (rmR_up a4 (by omega) (by decide)) (by omega) (by decide)⟩
  by_cases hx2 : x = k
  · subst hx2
    exact ⟨(w_up_slot (by decide)).trans (w_up_same _ _ _ _), w_up_same _ _ _ _⟩
  · rw [w_up_no (by omega), w_up_no (by omega), w_up_no (by omega), w_up_no (by omega)]
    exact a1 x (by omega)
theorem cm_1 (hC : w_CL S) (h191 : S 19 1 = f + (m : Int)) (hf : 0 ≤ f ∧ f + (m : Int) ≤ 400) (hp : 0 ≤ p ∧ p + psm (S 24) f m ≤ 20000) (h24 : ∀ x : Nat, x < m → 0 ≤ S 24 (f + (x : Int))) (hkk : ∀ Z, c1I f p m S Z → wJ (pe_GA xs) wY0 (mS [31, 32, 33, 35, 36, 37, 38, 39, 40, 41, 42, 43, 44, 45, 46, 58, 59]) d t_XP_commit ((pe_at t_XP_commit.bl 2).getD (0, [])).2 [(0, (2, 63)), (1, (0, un)), (2, (0, f))] [] Z Q) : ∀ (fu k : Nat) (Z : wS), m - k < fu → k ≤ m → c1I f p k S Z → wJ (pe_GA xs) wY0 (mS [31, 32, 33, 35, 36, 37, 38, 39, 40, 41, 42, 43, 44, 45, 46, 58, 59]) d t_XP_commit ((pe_at t_XP_commit.bl 1).getD (0, [])).2 [(0, (2, 63)), (1, (0, un)), (2, (0, f)), (3, (0, p + psm (S 24) f k)), (4, (0, f + (k : Int)))] [] Z Q := by
  intro fu
  induction fu with
  | zero => intro k Z hm; exact absurd hm (Nat.not_lt_zero _)
  | succ fu ih =>
    intro k Z hm hk hz
    have z := hz
    obtain ⟨a1, a2, a3, a4⟩ := z
    have e191 : Z 19 1 = f + (m : Int) := (a2 19 1 (Or.inl (by decide))).trans h191
    have e24 : Z 24 (f + (k : Int)) = S 24 (f + (k : Int)) := a2 24 _ (Or.inr (Or.inr (Int.le_refl _)))
    have hC2 : w_CL Z := fun y hy => (a2 y.1 (-1) (Or.inr (Or.inl (by omega)))).trans (hC y hy)
    have g0 : psm (S 24) f k ≤ psm (S 24) f m := psm_mo hk h24
    have g1 : 0 ≤ psm (S 24) f k := psm_mo (k := 0) (Nat.zero_le k) (fun x hx => h24 x (by omega))
    refine wa_iload (n := 4) rfl ?_
    refine wa_aload_n (n := 0) rfl ?_
    refine wb_gf4 63 rfl (wy_pr rfl) wt_63 wf_1_2 (v := 19) wl_63_2 ?_
    refine wb_gfi 19 rfl (wy_pr rfl) wt_19 wf_0_1 (v := (f + (m : Int))) (e191) (fun r101 => ?_)
    refine wa_icmpge (w_rg0 (by omega) (by omega)) (w_rg0 (by omega) (by omega)) ⟨_, rfl⟩ (fun c102 => ?_) (fun c102 => ?_)
    · skip
      have ek : k = m := by omega
      subst ek
      exact wJ_S (hkk Z hz) ⟨rfl, rfl, rfl, trivial⟩
    · skip
      have g2 : psm (S 24) f (k + 1) ≤ psm (S 24) f m := psm_mo (by omega) h24
      have g3 : psm (S 24) f (k + 1) = psm (S 24) f k + S 24 (f + (k : Int)) := rfl
      have g4 := h24 k (by omega)
      refine wa_aload_n (n := 0) rfl ?_
      refine wb_gf4 63 rfl (wy_pr rfl) wt_63 wf_1_9 (v := 20) wl_63_9 ?_
      refine wa_bipush (w_rg2 (by omega) (by omega)) ?_
      refine wb_aald5 20 6 rfl rfl (wy_pr rfl) wt_20 (by rw [show _ = _ from ((cl_20 hC2))]; omega) wl_20_6 ?_
      refine wa_iload (n := 4) rfl ?_
      refine wa_iload_n (n := 3) rfl ?_
      refine wb_iast 27 rfl (wy_pr rfl) wt_27 (n := 400) ((cl_27 hC2)) (by omega) (by omega) ⟨(by omega), (by omega)⟩ ?_
      refine wa_iload_n (n := 3) rfl ?_
      refine wa_aload_n (n := 0) rfl ?_
      refine wb_gf4 63 rfl (wy_pr rfl) wt_63 wf_1_9 (v := 20) wl_63_9 ?_
      refine wa_iconst ?_
      refine wb_aald5 20 3 rfl rfl (wy_pr rfl) wt_20 (by rw [show _ = _ from ((w_up_slot (by decide)).trans ((cl_20 hC2)))]; omega) wl_20_3 ?_
      refine wa_iload (n := 4) rfl ?_
      refine wb_iald 24 rfl (wy_pr rfl) wt_24 (n := 400) ((w_up_slot (by decide)).trans ((cl_24 hC2))) (by omega) (by omega) (v := (S 24 (f + (k : Int)))) ((w_up_slot (by decide)).trans (e24)) (fun r103 => ?_)
      refine wa_iadd ?_
      refine wa_istore_n (n := 3) rfl ?_
      refine wa_aload_n (n := 0) rfl ?_
      refine wb_gf4 63 rfl (wy_pr rfl) wt_63 wf_1_9 (v := 20) wl_63_9 ?_
      refine wa_iconst ?_
      refine wb_aald5 20 3 rfl rfl (wy_pr rfl) wt_20 (by rw [show _ = _ from ((w_up_slot (by decide)).trans ((cl_20 hC2)))]; omega) wl_20_3 ?_
      refine wa_iload (n := 4) rfl ?_
      refine wa_iconst ?_
      refine wb_iast 24 rfl (wy_pr rfl) wt_24 (n := 400) ((w_up_slot (by decide)).trans ((cl_24 hC2))) (by omega) (by omega) ⟨(by omega), (by omega)⟩ ?_
      refine wa_iinc rfl rfl ?_
      refine wa_goto ⟨_, rfl⟩ ?_
      have hq := c1I_s hf.1 hz
      rw [show (p + psm (S 24) f k + S 24 (f + (k : Int))) = p + psm (S 24) f (k + 1) by show _ = p + (psm (S 24) f k + S 24 (f + (k : Int))); omega, show ((f + (k : Int)) + 1) = f + ((k + 1 : Nat) : Int) by omega]
      exact wJ_S (ih (k + 1) _ (by omega) (by omega) hq) ⟨rfl, rfl, rfl, rfl, rfl, trivial⟩
/-- the first i instructions stand at their places -/
def c2I (f p : Int) (m i : Nat) (R Z : wS) : Prop := (∀ u : Int, f ≤ u → u < f + (m : Int) → Z 24 u = oct (R 67) u i) ∧ (∀ x : Nat, x < i → Z 31 (R 27 (R 67 x) + oct (R 67) (R 67 x) x) = R 64 x ∧ Z 32 (R 27 (R 67 x) + oct (R 67) (R 67 x) x) = R 65 x ∧ Z 33 (R 27 (R 67 x) + oct (R 67) (R 67 x) x) = R 66 x) ∧ (∀ x : Int, x < p → Z 31 x = R 31 x ∧ Z 32 x = R 32 x ∧ Z 33 x = R 33 x) ∧ (∀ (j : Nat) (y : Int), (j < 31 ∨ 33 < j) → (j ≠ 24 ∨ y < f ∨ f + (m : Int) ≤ y) → Z j y = R j y) ∧ gI Z ∧ rmR R Z
/-- where functions begin, whose the instructions are -/
def c2H (f p : Int) (m N : Nat) (H : Int → Int) (R : wS) : Prop := (∀ k : Nat, k < m → R 27 (f + (k : Int)) = p + psm H f k) ∧ (∀ x : Nat, x < N → f ≤ R 67 x ∧ R 67 x < f + (m : Int)) ∧ (∀ k : Nat, k < m → H (f + (k : Int)) = oct (R 67) (f + (k : Int)) N) ∧ (0 ≤ f ∧ f + (m : Int) ≤ 400) ∧ 0 ≤ p
variable {N0 : Nat} {H : Int → Int}
theorem c2H_at (h : c2H f p m N0 H R) {x : Nat} (hx : x < N0) : p ≤ R 27 (R 67 x) + oct (R 67) (R 67 x) x ∧ R 27 (R 67 x) + oct (R 67) (R 67 x) x < p + (N0 : Int) := by
  obtain ⟨h1, h2, h3, h4, h5⟩ := h
  obtain ⟨u0, u1⟩ := h2 x hx
  obtain ⟨k, hk⟩ : ∃ k : Nat, R 67 x = f + (k : Int) := ⟨(R 67 x - f).toNat, by omega⟩
  have hkm : k < m := by omega
  have hn : ∀ q : Nat, q < m → 0 ≤ H (f + (q : Int)) := fun q hq => by rw [h3 q hq]; exact (oct_rg _ _ _).1
  have e1 := h1 k hkm
  have e2 : psm H f (k + 1) ≤ psm H f m := psm_mo (by omega) hn
  have e3 : psm H f (k + 1) = psm H f k + H (f + (k : Int)) := rfl
  have e4 : psm H f m = (N0 : Int) := (psm_cg (H := fun u => oct (R 67) u N0) m (fun q hq => h3 q hq)).trans (psm_oct N0 h2)
  have e5 : 0 ≤ psm H f k := psm_mo (k := 0) (Nat.zero_le k) (fun q hq => hn q (by omega))
  have e6 := oct_1 (O := R 67) hk
  have e7 : oct (R 67) (f + (k : Int)) (x + 1) ≤ oct (R 67) (f + (k : Int)) N0 := oct_mo hx
  have e8 := h3 k hkm
  have e9 := (oct_rg (R 67) (f + (k : Int)) x).1
  rw [hk]
  omega
/-- no two stand at one place -/
theorem c2H_ne (h : c2H f p m N0 H R) {x y : Nat} (hx : x < y) (hy : y < N0) : R 27 (R 67 x) + oct (R 67) (R 67 x) x ≠ R 27 (R 67 y) + oct (R 67) (R 67 y) y := by
  obtain ⟨h1, h2, h3, h4, h5⟩ := h
  obtain ⟨u0, u1⟩ := h2 x (by omega)
  obtain ⟨v0, v1⟩ := h2 y hy
  obtain ⟨k, hk⟩ : ∃ k : Nat, R 67 x = f + (k : Int) := ⟨(R 67 x - f).toNat, by omega⟩
  obtain ⟨l, hl⟩ : ∃ l : Nat, R 67 y = f + (l : Int) := ⟨(R 67 y - f).toNat, by omega⟩
  have hkm : k < m := by omega
  have hlm : l < m := by omega
  have hn : ∀ q : Nat, q < m → 0 ≤ H (f + (q : Int)) := fun q hq => by rw [h3 q hq]; exact (oct_rg _ _ _).1
  have e6 := oct_1 (O := R 67) hk
  have f6 := oct_1 (O := R 67) hl
  have e7 : oct (R 67) (f + (k : Int)) (x + 1) ≤ oct (R 67) (f + (k : Int)) N0 := oct_mo (by omega)
  have f7 : oct (R 67) (f + (l : Int)) (y + 1) ≤ oct (R 67) (f + (l : Int)) N0 := oct_mo hy
  have e8 := h3 k hkm
  have f8 := h3 l hlm
  have e9 := (oct_rg (R 67) (f + (k : Int)) x).1
  have f9 := (oct_rg (R 67) (f + (l : Int)) y).1
  have e1 := h1 k hkm
  have f1 := h1 l hlm
  have e3 : psm H f (k + 1) = psm H f k + H (f + (k : Int)) := rfl
  have f3 : psm H f (l + 1) = psm H f l + H (f + (l : Int)) := rfl
  rw [hk, hl]
  rcases Nat.lt_trichotomy k l with q | q | q
  · have e2 : psm H f (k + 1) ≤ psm H f l := psm_mo q (fun z hz => hn z (by omega))
    omega
  · subst q
    have g7 : oct (R 67) (f + (k : Int)) (x + 1) ≤ oct (R 67) (f + (k : Int)) y := oct_mo hx
    omega
  · have e2 : psm H f (l + 1) ≤ psm H f k := psm_mo q (fun z hz => hn z (by omega))
    omega
theorem c2I_0 (h24 : ∀ k : Nat, k < m → R 24 (f + (k : Int)) = 0) (hI : gI R) : c2I f p m 0 R R := ⟨fun u u0 u1 => by have := h24 (u - f).toNat (by omega); rw [show f + (((u - f).toNat : Nat) : Int) = u by omega] at this; exact this, fun x hx => absurd hx (Nat.not_lt_zero _), fun _ _ => ⟨rfl, rfl, rfl⟩, fun _ _ _ _ => rfl, hI, rmR_rfl R⟩
theorem c2I_s {i : Nat} (hh : c2H f p m N0 H R) (hi : i < N0) (h : c2I f p m i R Z) {a : Int} (ha : a = R 27 (R 67 i) + oct (R 67) (R 67 i) i) : c2I f p m (i + 1) R (w_up (w_up (w_up (w_up Z 24 (R 67 i) (oct (R 67) (R 67 i) i + 1)) 31 a (R 64 i)) 32 a (R 65 i)) 33 a (R 66 i)) := by
  have hat := c2H_at hh hi
  obtain ⟨u0, u1⟩ := hh.2.1 i hi
  have hf0 := hh.2.2.2.1
  have hp0 := hh.2.2.2.2
  obtain ⟨a1, a2, a3, a4, a5, a6⟩ := h
  refine ⟨fun u g0 g1 => ?_, fun x hx => ?_, fun x hx => ?_, fun j y hj hy => (w_up_no (by omega)).trans ((w_up_no (by omega)).trans ((w_up_no (by omega)).trans ((w_up_no (by omega)).trans (a4 j y hj hy)))), gI_up (gI_up (gI_up (gI_up a5 (by omega) (by omega) (by omega)) (by omega) (by omega) (by omega)) (by omega) (by omega) (by omega)) (by omega) (by omega) (by omega), rmR_up (rmR_up (rmR_up (rmR_up a6 (by omega) (by decide)) (by omega) (by decide)) (by omega) (by decide)) (by omega) (by decide)⟩
  · rw [w_up_slot (by decide), w_up_slot (by decide), w_up_slot (by decide)]
    by_cases e : u = R 67 i
    · rw [e, w_up_same, oct_1 rfl]
    · rw [w_up_at e, a1 u g0 g1, oct_0 (fun q => e q.symm)]
  · by_cases e : x = i
    · subst e
      rw [← ha]
      exact ⟨(w_up_slot (by decide)).trans ((w_up_slot (by decide)).trans (w_up_same _ _ _ _)), (w_up_slot (by decide)).trans (w_up_same _ _ _ _), w_up_same _ _ _ _⟩
    · have hne := c2H_ne hh (show x < i by omega) hi
      obtain ⟨q1, q2, q3⟩ := a2 x (by omega)
      rw [← ha] at hne
      refine ⟨(w_up_no (by omega)).trans ((w_up_no (by omega)).trans ((w_up_no (by omega)).trans ((w_up_no (by omega)).trans (q1)))), (w_up_no (by omega)).trans ((w_up_no (by omega)).trans ((w_up_no (by omega)).trans ((w_up_no (by omega)).trans (q2)))), (w_up_no (by omega)).trans ((w_up_no (by omega)).trans ((w_up_no (by omega)).trans ((w_up_no (by omega)).trans (q3))))⟩
  · obtain ⟨q1, q2, q3⟩ := a3 x hx
    exact ⟨(w_up_no (by omega)).trans ((w_up_no (by omega)).trans ((w_up_no (by omega)).trans ((w_up_no (by omega)).trans (q1)))), (w_up_no (by omega)).trans ((w_up_no (by omega)).trans ((w_up_no (by omega)).trans ((w_up_no (by omega)).trans (q2)))), (w_up_no (by omega)).trans ((w_up_no (by omega)).trans ((w_up_no (by omega)).trans ((w_up_no (by omega)).trans (q3))))⟩
theorem cm_3 (hC : w_CL R) (hh : c2H f p m N0 H R) (h7 : R 63 7 = (N0 : Int)) (hL : nt_L R) (l32 : R 32 (-1) = R 31 (-1)) (l33 : R 33 (-1) = R 31 (-1)) (hb : p + (N0 : Int) ≤ R 31 (-1) ∧ R 31 (-1) ≤ 40000) (hkk : ∀ Z, c2I f p m N0 R Z → wJ (pe_GA xs) wY0 (mS [31, 32, 33, 35, 36, 37, 38, 39, 40, 41, 42, 43, 44, 45, 46, 58, 59]) d t_XP_commit ((pe_at t_XP_commit.bl 5).getD (0, [])).2 [(0, (2, 63)), (1, (0, un)), (2, (0, f))] [] Z Q) : ∀ (fu i : Nat) (Z : wS), N0 - i < fu → i ≤ N0 → c2I f p m i R Z → wJ (pe_GA xs) wY0 (mS [31, 32, 33, 35, 36, 37, 38, 39, 40, 41, 42, 43, 44, 45, 46, 58, 59]) d t_XP_commit ((pe_at t_XP_commit.bl 3).getD (0, [])).2 [(0, (2, 63)), (1, (0, un)), (2, (0, f)), (4, (0, (i : Int)))] [] Z Q := by
  have hf0 := hh.2.2.2.1
  have hp0 := hh.2.2.2.2
  intro fu
  induction fu with
  | zero => intro i Z hm; exact absurd hm (Nat.not_lt_zero _)
  | succ fu ih =>
    intro i Z hm hk hz
    have z := hz
    obtain ⟨a1, a2, a3, a4, a5, a6⟩ := z
    obtain ⟨n1, n2, n3, n4, n5, n6⟩ := hL
    have fz : ∀ (j : Nat) (y : Int), (j < 31 ∨ 33 < j) → j ≠ 24 → Z j y = R j y := fun j y q1 q2 => a4 j y q1 (Or.inl q2)
    have e7 : Z 63 7 = (N0 : Int) := (fz 63 7 (by decide) (by decide)).trans h7
    have e67 : Z 67 (i : Int) = R 67 (i : Int) := fz 67 _ (by decide) (by decide)
    have e64 : Z 64 (i : Int) = R 64 (i : Int) := fz 64 _ (by decide) (by decide)
    have e65 : Z 65 (i : Int) = R 65 (i : Int) := fz 65 _ (by decide) (by decide)
    have e66 : Z 66 (i : Int) = R 66 (i : Int) := fz 66 _ (by decide) (by decide)
    have k64 : Z 64 (-1) = R 64 (-1) := fz 64 _ (by decide) (by decide)
    have k65 : Z 65 (-1) = R 64 (-1) := (fz 65 _ (by decide) (by decide)).trans n2
    have k66 : Z 66 (-1) = R 64 (-1) := (fz 66 _ (by decide) (by decide)).trans n3
    have k67 : Z 67 (-1) = R 64 (-1) := (fz 67 _ (by decide) (by decide)).trans n4
    have k31 : Z 31 (-1) = R 31 (-1) := (a3 (-1) (by omega)).1
    have k32 : Z 32 (-1) = R 31 (-1) := (a3 (-1) (by omega)).2.1.trans l32
    have k33 : Z 33 (-1) = R 31 (-1) := (a3 (-1) (by omega)).2.2.trans l33
    have hC2 : w_CL Z := fun y hy => (a4 y.1 (-1) (by have := wz_fi y hy; omega) (Or.inr (Or.inl (by omega)))).trans (hC y hy)
    refine wa_iload (n := 4) rfl ?_
    refine wa_aload_n (n := 0) rfl ?_
    refine wb_gfi 63 rfl (wy_pr rfl) wt_63 wf_1_7 (v := (N0 : Int)) (e7) (fun r101 => ?_)
    refine wa_icmpge (w_rg0 (by omega) (by omega)) (w_rg0 (by omega) (by omega)) ⟨_, rfl⟩ (fun c102 => ?_) (fun c102 => ?_)
    · skip
      have ek : i = N0 := by omega
      subst ek
      exact wJ_S (hkk Z hz) ⟨rfl, rfl, rfl, trivial⟩
    · skip
      have hi : i < N0 := by omega
      obtain ⟨u0, u1⟩ := hh.2.1 i hi
      have hat := c2H_at hh hi
      have e27 : Z 27 (R 67 (i : Int)) = R 27 (R 67 (i : Int)) := fz 27 _ (by decide) (by decide)
      have e24 : Z 24 (R 67 (i : Int)) = (oct (R 67) (R 67 (i : Int)) i) := a1 _ u0 u1
      have hor := oct_rg (R 67) (R 67 (i : Int)) i
      refine wa_aload_n (n := 0) rfl ?_
      refine wb_gf4 63 rfl (wy_pr rfl) wt_63 wf_1_6 (v := 67) wl_63_6 ?_
      refine wa_iload (n := 4) rfl ?_
      refine wb_iald 67 rfl (wy_pr rfl) wt_67 (n := (R 64 (-1))) (k67) (by omega) (by omega) (v := (R 67 (i : Int))) (e67) (fun r103 => ?_)
      refine wa_istore (n := 5) rfl ?_
      refine wa_aload_n (n := 0) rfl ?_
      refine wb_gf4 63 rfl (wy_pr rfl) wt_63 wf_1_9 (v := 20) wl_63_9 ?_
      refine wa_bipush (w_rg2 (by omega) (by omega)) ?_
      refine wb_aald5 20 6 rfl rfl (wy_pr rfl) wt_20 (by rw [show _ = _ from ((cl_20 hC2))]; omega) wl_20_6 ?_
      refine wa_iload (n := 5) rfl ?_
      refine wb_iald 27 rfl (wy_pr rfl) wt_27 (n := 400) ((cl_27 hC2)) (by omega) (by omega) (v := (R 27 (R 67 (i : Int)))) (e27) (fun r104 => ?_)
      refine wa_aload_n (n := 0) rfl ?_
      refine wb_gf4 63 rfl (wy_pr rfl) wt_63 wf_1_9 (v := 20) wl_63_9 ?_
      refine wa_iconst ?_
      refine wb_aald5 20 3 rfl rfl (wy_pr rfl) wt_20 (by rw [show _ = _ from ((cl_20 hC2))]; omega) wl_20_3 ?_
      refine wa_iload (n := 5) rfl ?_
      refine wb_iald 24 rfl (wy_pr rfl) wt_24 (n := 400) ((cl_24 hC2)) (by omega) (by omega) (v := (oct (R 67) (R 67 (i : Int)) i)) (e24) (fun r105 => ?_)
      refine wa_iadd ?_
      refine wa_istore (n := 6) rfl ?_
      refine wa_aload_n (n := 0) rfl ?_
      refine wb_gf4 63 rfl (wy_pr rfl) wt_63 wf_1_9 (v := 20) wl_63_9 ?_
      refine wa_iconst ?_
      refine wb_aald5 20 3 rfl rfl (wy_pr rfl) wt_20 (by rw [show _ = _ from ((cl_20 hC2))]; omega) wl_20_3 ?_
      refine wa_iload (n := 5) rfl ?_
      refine wa_dup2 (by decide) (by decide) ?_
      refine wb_iald 24 rfl (wy_pr rfl) wt_24 (n := 400) ((cl_24 hC2)) (by omega) (by omega) (v := (oct (R 67) (R 67 (i : Int)) i)) (e24) (fun r106 => ?_)
      refine wa_iconst ?_
      refine wa_iadd ?_
      refine wb_iast 24 rfl (wy_pr rfl) wt_24 (n := 400) ((cl_24 hC2)) (by omega) (by omega) ⟨(by omega), (by omega)⟩ ?_
      refine wa_aload_n (n := 0) rfl ?_
      refine wb_gf4 63 rfl (wy_pr rfl) wt_63 wf_1_2 (v := 19) wl_63_2 ?_
      refine wb_gf4 19 rfl (wy_pr rfl) wt_19 wf_0_4 (v := 31) wl_19_4 ?_
      refine wa_iload (n := 6) rfl ?_
      refine wa_aload_n (n := 0) rfl ?_
      refine wb_gf4 63 rfl (wy_pr rfl) wt_63 wf_1_3 (v := 64) wl_63_3 ?_
      refine wa_iload (n := 4) rfl ?_
      refine wa_fall ⟨_, rfl⟩ ?_
      refine wb_iald 64 rfl (wy_pr rfl) wt_64 (n := (R 64 (-1))) ((w_up_slot (by decide)).trans (k64)) (by omega) (by omega) (v := (R 64 (i : Int))) ((w_up_slot (by decide)).trans (e64)) (fun r107 => ?_)
      refine wb_iast 31 rfl (wy_pr rfl) wt_31 (n := (R 31 (-1))) ((w_up_slot (by decide)).trans (k31)) (by omega) (by omega) ⟨(by omega), (by omega)⟩ ?_
      refine wa_aload_n (n := 0) rfl ?_
      refine wb_gf4 63 rfl (wy_pr rfl) wt_63 wf_1_2 (v := 19) wl_63_2 ?_
      refine wb_gf4 19 rfl (wy_pr rfl) wt_19 wf_0_5 (v := 32) wl_19_5 ?_
      refine wa_iload (n := 6) rfl ?_
      refine wa_aload_n (n := 0) rfl ?_
      refine wb_gf4 63 rfl (wy_pr rfl) wt_63 wf_1_4 (v := 65) wl_63_4 ?_
      refine wa_iload (n := 4) rfl ?_
      refine wb_iald 65 rfl (wy_pr rfl) wt_65 (n := (R 64 (-1))) ((w_up_slot (by decide)).trans ((w_up_slot (by decide)).trans (k65))) (by omega) (by omega) (v := (R 65 (i : Int))) ((w_up_slot (by decide)).trans ((w_up_slot (by decide)).trans (e65))) (fun r108 => ?_)
      refine wb_iast 32 rfl (wy_pr rfl) wt_32 (n := (R 31 (-1))) ((w_up_slot (by decide)).trans ((w_up_slot (by decide)).trans (k32))) (by omega) (by omega) ⟨(by omega), (by omega)⟩ ?_
      refine wa_aload_n (n := 0) rfl ?_
      refine wb_gf4 63 rfl (wy_pr rfl) wt_63 wf_1_2 (v := 19) wl_63_2 ?_
      refine wb_gf4 19 rfl (wy_pr rfl) wt_19 wf_0_6 (v := 33) wl_19_6 ?_
      refine wa_iload (n := 6) rfl ?_
      refine wa_aload_n (n := 0) rfl ?_
      refine wb_gf4 63 rfl (wy_pr rfl) wt_63 wf_1_5 (v := 66) wl_63_5 ?_
      refine wa_iload (n := 4) rfl ?_
      refine wb_iald 66 rfl (wy_pr rfl) wt_66 (n := (R 64 (-1))) ((w_up_slot (by decide)).trans ((w_up_slot (by decide)).trans ((w_up_slot (by decide)).trans (k66)))) (by omega) (by omega) (v := (R 66 (i : Int))) ((w_up_slot (by decide)).trans ((w_up_slot (by decide)).trans ((w_up_slot (by decide)).trans (e66)))) (fun r109 => ?_)
      refine wb_iast 33 rfl (wy_pr rfl) wt_33 (n := (R 31 (-1))) ((w_up_slot (by decide)).trans ((w_up_slot (by decide)).trans ((w_up_slot (by decide)).trans (k33)))) (by omega) (by omega) ⟨(by omega), (by omega)⟩ ?_
      refine wa_iinc rfl rfl ?_
      refine wa_goto ⟨_, rfl⟩ ?_
      have hq := c2I_s hh hi hz rfl
      rw [show ((i : Int) + 1) = ((i + 1 : Nat) : Int) by omega]
      exact wJ_S (ih (i + 1) _ (by omega) (by omega) hq) ⟨rfl, rfl, rfl, rfl, trivial⟩
end Wbo
