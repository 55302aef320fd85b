/-! PART 9a: the class's Words: headOf, isWord, wordAt. -/
section W9a
variable {xs : List (Nat × List Int32)} {M : Nat → Prop} {d : Nat} {S : wS} {Q : wO → wS → Prop}
theorem and32_63 (a : Int32) : (a &&& 63).toInt = ((a.toBitVec.toNat % 64 : Nat) : Int) := by
  have h1 : (a &&& 63).toBitVec = BitVec.ofNat 32 (a.toBitVec.toNat % 64) := by
    apply BitVec.eq_of_toNat_eq
    rw [Int32.toBitVec_and, BitVec.toNat_and, BitVec.toNat_ofNat]
    have h2 : (63 : Int32).toBitVec.toNat = 2 ^ 6 - 1 := by decide
    rw [h2, Nat.and_two_pow_sub_one_eq_mod]
    have := Nat.mod_lt a.toBitVec.toNat (show 0 < 64 by decide)
    rw [Nat.mod_eq_of_lt (a := a.toBitVec.toNat % 64) (by omega)]
  show (a &&& 63).toBitVec.toInt = _
  rw [h1, BitVec.toInt_eq_toNat_of_lt]
  · rw [BitVec.toNat_ofNat]
    have := Nat.mod_lt a.toBitVec.toNat (show 0 < 64 by decide)
    rw [Nat.mod_eq_of_lt (a := a.toBitVec.toNat % 64) (by omega)]
  · rw [BitVec.toNat_ofNat]
    have := Nat.mod_lt a.toBitVec.toNat (show 0 < 64 by decide)
    rw [Nat.mod_eq_of_lt (a := a.toBitVec.toNat % 64) (by omega)]
    omega
theorem and32_1023 (a : Int32) : (a &&& 1023).toInt = ((a.toBitVec.toNat % 1024 : Nat) : Int) := by
  have h1 : (a &&& 1023).toBitVec = BitVec.ofNat 32 (a.toBitVec.toNat % 1024) := by
    apply BitVec.eq_of_toNat_eq
    rw [Int32.toBitVec_and, BitVec.toNat_and, BitVec.toNat_ofNat]
    have h2 : (1023 : Int32).toBitVec.toNat = 2 ^ 10 - 1 := by decide
    rw [h2, Nat.and_two_pow_sub_one_eq_mod]
    have := Nat.mod_lt a.toBitVec.toNat (show 0 < 1024 by decide)
    rw [Nat.mod_eq_of_lt (a := a.toBitVec.toNat % 1024) (by omega)]
  show (a &&& 1023).toBitVec.toInt = _
  rw [h1, BitVec.toInt_eq_toNat_of_lt]
  · rw [BitVec.toNat_ofNat]
    have := Nat.mod_lt a.toBitVec.toNat (show 0 < 1024 by decide)
    rw [Nat.mod_eq_of_lt (a := a.toBitVec.toNat % 1024) (by omega)]
  · rw [BitVec.toNat_ofNat]
    have := Nat.mod_lt a.toBitVec.toNat (show 0 < 1024 by decide)
    rw [Nat.mod_eq_of_lt (a := a.toBitVec.toNat % 1024) (by omega)]
    omega
theorem hd_rg {f : Int → Int} {a n H : Int} (hH : H = 64 ∨ H = 1024) : 0 ≤ hd_of f a n H ∧ hd_of f a n H < H := by
  rcases hH with rfl | rfl
  · have h : hd_of f a n 64 = ((Int32.ofInt (wb_ixor (hd_mix f a n n.toNat) (wb_iushr (hd_mix f a n n.toNat) 11)) &&& 63).toInt) := rfl
    rw [h, and32_63]
    have := Nat.mod_lt (Int32.ofInt (wb_ixor (hd_mix f a n n.toNat) (wb_iushr (hd_mix f a n n.toNat) 11))).toBitVec.toNat (show 0 < 64 by decide)
    omega
  · have h : hd_of f a n 1024 = ((Int32.ofInt (wb_ixor (hd_mix f a n n.toNat) (wb_iushr (hd_mix f a n n.toNat) 11)) &&& 1023).toInt) := rfl
    rw [h, and32_1023]
    have := Nat.mod_lt (Int32.ofInt (wb_ixor (hd_mix f a n n.toNat) (wb_iushr (hd_mix f a n n.toNat) 11))).toBitVec.toNat (show 0 < 1024 by decide)
    omega
theorem hd_mix_cg {f g : Int → Int} {a b n : Int} : ∀ (m : Nat), (∀ i : Nat, i < m → f (a + (i : Int)) = g (b + (i : Int))) → hd_mix f a n m = hd_mix g b n m := by
  intro m
  induction m with
  | zero => intro _; rfl
  | succ m ih =>
    intro h
    show hd_mix f a n m * 31 + f (a + m) = hd_mix g b n m * 31 + g (b + m)
    rw [ih (fun i hi => h i (by omega)), h m (by omega)]
theorem hd_of_cg {f g : Int → Int} {a b n H : Int} (h : ∀ i : Nat, i < n.toNat → f (a + (i : Int)) = g (b + (i : Int))) : hd_of f a n H = hd_of g b n H := by
  unfold hd_of
  rw [hd_mix_cg _ h]
/-- the word k is these bytes -/
def wq (P ST SZ g : Int → Int) (a0 n k : Int) : Prop := SZ k = n ∧ ∀ i : Nat, i < n.toNat → P (ST k + (i : Int)) = g (a0 + (i : Int))
/-- the head of the word k -/
def hs (H : Int) (P ST SZ : Int → Int) (k : Int) : Int := hd_of P (ST k) (SZ k) H
theorem wq_hs {P ST SZ g : Int → Int} {a0 n k H : Int} (h : wq P ST SZ g a0 n k) : hs H P ST SZ k = hd_of g a0 n H := by
  unfold hs
  rw [h.1]
  exact hd_of_cg h.2
/-- one more than the last place below n at which h is x, or 0 -/
def wl_of (h : Int → Int) (x : Int) : Nat → Int
  | 0 => 0
  | n + 1 => if h (n : Int) = x then (n : Int) + 1 else wl_of h x n
theorem wl_rg (h : Int → Int) (x : Int) : ∀ n : Nat, 0 ≤ wl_of h x n ∧ wl_of h x n ≤ (n : Int) := by
  intro n
  induction n with
  | zero => exact ⟨Int.le_refl _, Int.le_refl _⟩
  | succ n ih => unfold wl_of; split <;> omega
theorem wl_hit {h : Int → Int} {x : Int} : ∀ (n k : Nat), wl_of h x n = (k : Int) + 1 → k < n ∧ h (k : Int) = x ∧ ∀ q : Nat, k < q → q < n → h (q : Int) ≠ x := by
  intro n
  induction n with
  | zero => intro k e; exact absurd (show (0 : Int) = (k : Int) + 1 from e) (by omega)
  | succ n ih =>
    intro k e
    unfold wl_of at e
    by_cases hn : h (n : Int) = x
    · rw [if_pos hn] at e
      have : k = n := by omega
      subst this
      exact ⟨by omega, hn, fun q q1 q2 => absurd q2 (by omega)⟩
    · rw [if_neg hn] at e
      obtain ⟨e1, e2, e3⟩ := ih k e
      refine ⟨by omega, e2, fun q q1 q2 => ?_⟩
      by_cases hq : q = n
      · rw [hq]; exact hn
      · exact e3 q q1 (by omega)
theorem wl_none {h : Int → Int} {x : Int} : ∀ (n : Nat), wl_of h x n = 0 → ∀ q : Nat, q < n → h (q : Int) ≠ x := by
  intro n
  induction n with
  | zero => intro _ q hq; exact absurd hq (Nat.not_lt_zero _)
  | succ n ih =>
    intro e q hq
    unfold wl_of at e
    by_cases hn : h (n : Int) = x
    · rw [if_pos hn] at e; omega
    · rw [if_neg hn] at e
      by_cases hqn : q = n
      · rw [hqn]; exact hn
      · exact ih e q (by omega)
theorem wl_cg {h g : Int → Int} {x : Int} : ∀ (n : Nat), (∀ q : Nat, q < n → h (q : Int) = g (q : Int)) → wl_of h x n = wl_of g x n := by
  intro n
  induction n with
  | zero => intro _; rfl
  | succ n ih =>
    intro e
    show (if h (n : Int) = x then (n : Int) + 1 else wl_of h x n) = if g (n : Int) = x then (n : Int) + 1 else wl_of g x n
    rw [e n (by omega), ih (fun q hq => e q (by omega))]
/-- what holds of the words -/
def wd_I (H : Int) (P ST SZ NX HD : Int → Int) (used plen cnt cap : Int) : Prop :=
  (0 ≤ cnt ∧ cnt ≤ cap) ∧ (0 ≤ used ∧ used ≤ plen) ∧ (∀ k : Int, 0 ≤ k → k < cnt → 0 ≤ ST k ∧ 0 ≤ SZ k ∧ SZ k ≤ 60 ∧ ST k + SZ k ≤ used) ∧ (∀ h : Int, 0 ≤ h → h < H → HD h = wl_of (hs H P ST SZ) h cnt.toNat) ∧ (∀ k : Nat, (k : Int) < cnt → NX (k : Int) = wl_of (hs H P ST SZ) (hs H P ST SZ (k : Int)) k) ∧ ∀ k q : Int, 0 ≤ k → k < cnt → 0 ≤ q → q < cnt → wq P ST SZ P (ST q) (SZ q) k → k = q
/-- and of their arrays -/
def wd_L (S : wS) (w : Nat) (H : Int) : Prop := S (w + 10) (-1) = H ∧ S (w + 3) (-1) = S (w + 2) (-1) ∧ S (w + 4) (-1) = S (w + 2) (-1) ∧ S (w + 5) (-1) = S (w + 2) (-1) ∧ S (w + 6) (-1) = S (w + 2) (-1) ∧ 64 ≤ S (w + 2) (-1) ∧ 1024 ≤ S (w + 1) (-1) ∧ S (w + 2) (-1) ≤ 2147483647 ∧ S (w + 1) (-1) ≤ 2147483647
theorem hd_l_2 {b : Nat} {a0 n : Int} (hb : w_pr wY0 S b) (ht : wY0.ty b = 2) (ha : 0 ≤ a0 ∧ 0 ≤ n ∧ a0 + n ≤ S b (-1) ∧ S b (-1) ≤ 2147483647) (hh : S 12 (-1) = 1024) : ∀ (f i : Nat), n.toNat - i < f → (i : Int) ≤ n → wJ (pe_GA xs) wY0 M d t_XW_headOf ((pe_at t_XW_headOf.bl 1).getD (0, [])).2 [(0, (2, 2)), (1, (2, (b : Int))), (2, (0, a0)), (3, (0, n)), (4, (0, hd_mix (S b) a0 n i)), (5, (0, (i : Int)))] [] S (fun o S2 => S = S2 ∧ o = .inl (some (0, hd_of (S b) a0 n 1024))) := by
  intro f
  induction f with
  | zero => intro i h; exact absurd h (Nat.not_lt_zero _)
  | succ f ih =>
    intro i hf hi
    refine wa_iload (n := 5) rfl ?_
    refine wa_iload_n (n := 3) rfl ?_
    refine wa_icmpge (w_rg0 (by omega) (by omega)) (w_rg0 (by omega) (by omega)) ⟨_, rfl⟩ (fun c1 => ?_) (fun c1 => ?_)
    · skip
      refine wa_iload (n := 4) rfl ?_
      refine wa_iload (n := 4) rfl ?_
      refine wa_bipush (w_rg2 (by omega) (by omega)) ?_
      refine wa_iushr ?_
      refine wa_ixor ?_
      refine wa_aload_n (n := 0) rfl ?_
      refine wb_gf4 2 rfl (wy_pr rfl) wt_2 wf_9_8 (v := 12) wl_2_8 ?_
      refine wb_alen 12 rfl (wy_pr rfl) (by rw [wt_12]; rfl) (v := 1024) (hh) (fun r2 => ?_)
      refine wa_iconst ?_
      refine wa_isub ?_
      refine wa_iand ?_
      refine wa_ireturn rfl ?_
      refine ⟨rfl, ?_⟩
      unfold hd_of
      rw [show n.toNat = i by omega]
    · skip
      refine wa_iload (n := 4) rfl ?_
      refine wa_bipush (w_rg2 (by omega) (by omega)) ?_
      refine wa_imul ?_
      refine wa_aload_n (n := 1) rfl ?_
      refine wa_iload_n (n := 2) rfl ?_
      refine wa_iload (n := 5) rfl ?_
      refine wa_iadd ?_
      refine wb_bald b rfl hb ht (n := (S b (-1))) rfl (by omega) (by omega) (v := (S b (a0 + (i : Int)))) rfl (fun r3 => ?_)
      refine wa_iadd ?_
      refine wa_istore (n := 4) rfl ?_
      refine wa_iinc rfl rfl ?_
      refine wa_goto ⟨_, rfl⟩ ?_
      exact wJ_S (ih (i + 1) (by omega) (by omega)) ⟨rfl, rfl, rfl, rfl, rfl, rfl, trivial⟩
theorem hd_2 {b : Nat} {a0 n : Int} (hb : w_pr wY0 S b) (ht : wY0.ty b = 2) (ha : 0 ≤ a0 ∧ 0 ≤ n ∧ a0 + n ≤ S b (-1) ∧ S b (-1) ≤ 2147483647) (hh : S 12 (-1) = 1024) : wJ (pe_GA xs) wY0 M d t_XW_headOf ((pe_at t_XW_headOf.bl 0).getD (0, [])).2 [(0, (2, 2)), (1, (2, (b : Int))), (2, (0, a0)), (3, (0, n))] [] S (fun o S2 => S = S2 ∧ o = .inl (some (0, hd_of (S b) a0 n 1024))) := by
  refine wa_iload_n (n := 3) rfl ?_
  refine wa_istore (n := 4) rfl ?_
  refine wa_iconst ?_
  refine wa_istore (n := 5) rfl ?_
  refine wa_fall ⟨_, rfl⟩ ?_
  exact wJ_S (hd_l_2 hb ht ha hh (n.toNat + 1) 0 (by omega) (by omega)) ⟨rfl, rfl, rfl, rfl, rfl, rfl, trivial⟩
theorem iw_l_2 {b : Nat} {a0 n k : Int} (hb : w_pr wY0 S b) (ht : wY0.ty b = 2) (ha : 0 ≤ a0 ∧ 0 ≤ n ∧ a0 + n ≤ S b (-1) ∧ S b (-1) ≤ 2147483647) (hk : 0 ≤ k ∧ k < S 4 (-1) ∧ S 5 (-1) = S 4 (-1)) (hp : 0 ≤ S 4 k ∧ S 4 k + S 5 k ≤ S 3 (-1) ∧ S 3 (-1) ≤ 2147483647) (hz : S 5 k = n) : ∀ (f i : Nat), n.toNat - i < f → (i : Int) ≤ n → (∀ q : Nat, q < i → S 3 (S 4 k + (q : Int)) = S b (a0 + (q : Int))) → wJ (pe_GA xs) wY0 M d t_XW_isWord ((pe_at t_XW_isWord.bl 2).getD (0, [])).2 [(0, (2, 2)), (1, (0, k)), (2, (2, (b : Int))), (3, (0, a0)), (4, (0, n)), (5, (0, (i : Int)))] [] S (fun o S2 => S = S2 ∧ ((o = .inl (some (0, 1)) ∧ wq (S 3) (S 4) (S 5) (S b) a0 n k) ∨ (o = .inl (some (0, 0)) ∧ ¬ wq (S 3) (S 4) (S 5) (S b) a0 n k))) := by
  intro f
  induction f with
  | zero => intro i h; exact absurd h (Nat.not_lt_zero _)
  | succ f ih =>
    intro i hf hi hq
    refine wa_iload (n := 5) rfl ?_
    refine wa_iload (n := 4) rfl ?_
    refine wa_icmpge (w_rg0 (by omega) (by omega)) (w_rg0 (by omega) (by omega)) ⟨_, rfl⟩ (fun c1 => ?_) (fun c1 => ?_)
    · skip
      refine wa_iconst ?_
      refine wa_zreturn rfl (Or.inr rfl) ?_
      exact ⟨rfl, Or.inl ⟨rfl, hz, fun q q1 => hq q (by omega)⟩⟩
    · skip
      refine wa_aload_n (n := 0) rfl ?_
      refine wb_gf4 2 rfl (wy_pr rfl) wt_2 wf_9_0 (v := 3) wl_2_0 ?_
      refine wa_aload_n (n := 0) rfl ?_
      refine wb_gf4 2 rfl (wy_pr rfl) wt_2 wf_9_2 (v := 4) wl_2_2 ?_
      refine wa_iload_n (n := 1) rfl ?_
      refine wb_iald 4 rfl (wy_pr rfl) wt_4 (n := (S 4 (-1))) rfl (by omega) (by omega) (v := (S 4 k)) rfl (fun r2 => ?_)
      refine wa_iload (n := 5) rfl ?_
      refine wa_iadd ?_
      refine wb_bald 3 rfl (wy_pr rfl) wt_3 (n := (S 3 (-1))) rfl (by omega) (by omega) (v := (S 3 ((S 4 k) + (i : Int)))) rfl (fun r3 => ?_)
      refine wa_aload_n (n := 2) rfl ?_
      refine wa_iload_n (n := 3) rfl ?_
      refine wa_iload (n := 5) rfl ?_
      refine wa_iadd ?_
      refine wb_bald b rfl hb ht (n := (S b (-1))) rfl (by omega) (by omega) (v := (S b (a0 + (i : Int)))) rfl (fun r4 => ?_)
      refine wa_icmpeq (w_rg0 (by omega) (by omega)) (w_rg0 (by omega) (by omega)) ⟨_, rfl⟩ (fun c5 => ?_) (fun c5 => ?_)
      · skip
        refine wa_iinc rfl rfl ?_
        refine wa_goto ⟨_, rfl⟩ ?_
        refine wJ_S (ih (i + 1) (by omega) (by omega) (fun q q1 => ?_)) ⟨rfl, rfl, rfl, rfl, rfl, rfl, trivial⟩
        by_cases hqi : q = i
        · rw [hqi]; assumption
        · exact hq q (by omega)
      · skip
        refine wa_iconst ?_
        refine wa_zreturn rfl (Or.inl rfl) ?_
        refine ⟨rfl, Or.inr ⟨rfl, fun hw => ?_⟩⟩
        have := hw.2 i (by omega)
        contradiction
theorem iw_2 {b : Nat} {a0 n k : Int} (hb : w_pr wY0 S b) (ht : wY0.ty b = 2) (ha : 0 ≤ a0 ∧ 0 ≤ n ∧ a0 + n ≤ S b (-1) ∧ S b (-1) ≤ 2147483647) (hk : 0 ≤ k ∧ k < S 4 (-1) ∧ S 5 (-1) = S 4 (-1)) (hp : 0 ≤ S 4 k ∧ S 4 k + S 5 k ≤ S 3 (-1) ∧ S 3 (-1) ≤ 2147483647) : wJ (pe_GA xs) wY0 M d t_XW_isWord ((pe_at t_XW_isWord.bl 0).getD (0, [])).2 [(0, (2, 2)), (1, (0, k)), (2, (2, (b : Int))), (3, (0, a0)), (4, (0, n))] [] S (fun o S2 => S = S2 ∧ ((o = .inl (some (0, 1)) ∧ wq (S 3) (S 4) (S 5) (S b) a0 n k) ∨ (o = .inl (some (0, 0)) ∧ ¬ wq (S 3) (S 4) (S 5) (S b) a0 n k))) := by
  refine wa_aload_n (n := 0) rfl ?_
  refine wb_gf4 2 rfl (wy_pr rfl) wt_2 wf_9_3 (v := 5) wl_2_3 ?_
  refine wa_iload_n (n := 1) rfl ?_
  refine wb_iald 5 rfl (wy_pr rfl) wt_5 (n := (S 5 (-1))) rfl (by omega) (by omega) (v := (S 5 k)) rfl (fun r1 => ?_)
  refine wa_iload (n := 4) rfl ?_
  refine wa_icmpeq (w_rg0 (by omega) (by omega)) (w_rg0 (by omega) (by omega)) ⟨_, rfl⟩ (fun c2 => ?_) (fun c2 => ?_)
  · skip
    refine wa_iconst ?_
    refine wa_istore (n := 5) rfl ?_
    refine wa_fall ⟨_, rfl⟩ ?_
    exact wJ_S (iw_l_2 hb ht ha hk hp (by omega) (n.toNat + 1) 0 (by omega) (by omega) (fun q h => absurd h (Nat.not_lt_zero _))) ⟨rfl, rfl, rfl, rfl, rfl, rfl, trivial⟩
  · skip
    refine wa_iconst ?_
    refine wa_zreturn rfl (Or.inl rfl) ?_
    exact ⟨rfl, Or.inr ⟨rfl, fun hw => by have := hw.1; omega⟩⟩
theorem wa_l_2 {b : Nat} {a0 n : Int} (hb : w_pr wY0 S b) (ht : wY0.ty b = 2) (ha : 0 ≤ a0 ∧ 0 ≤ n ∧ a0 + n ≤ S b (-1) ∧ S b (-1) ≤ 2147483647) (h60 : n ≤ 60) (hI : wd_I 1024 (S 3) (S 4) (S 5) (S 6) (S 12) (S 2 1) (S 3 (-1)) (S 2 7) (S 4 (-1))) (hL : wd_L S 2 1024) : ∀ (f i m : Nat) (k : Int), m < f → (i : Int) + m ≤ S 2 7 → k = wl_of (hs 1024 (S 3) (S 4) (S 5)) (hd_of (S b) a0 n 1024) m - 1 → (∀ q : Nat, m ≤ q → (q : Int) < S 2 7 → ¬ wq (S 3) (S 4) (S 5) (S b) a0 n (q : Int)) → wJ (pe_GA xs) wY0 M (d + 1) t_XW_wordAt ((pe_at t_XW_wordAt.bl 2).getD (0, [])).2 [(0, (2, 2)), (1, (2, (b : Int))), (2, (0, a0)), (3, (0, n)), (4, (0, k)), (5, (0, (i : Int)))] [] S (fun o S2 => S = S2 ∧ ∃ q : Int, o = .inl (some (0, q)) ∧ ((0 ≤ q ∧ q < S 2 7 ∧ wq (S 3) (S 4) (S 5) (S b) a0 n q) ∨ (q = -1 ∧ ∀ k : Int, 0 ≤ k → k < S 2 7 → ¬ wq (S 3) (S 4) (S 5) (S b) a0 n k))) := by
  intro f
  induction f with
  | zero => intro i m k h; exact absurd h (Nat.not_lt_zero _)
  | succ f ih =>
    intro i m k hf him hk hno
    have hrg := wl_rg (hs 1024 (S 3) (S 4) (S 5)) (hd_of (S b) a0 n 1024) m
    have hl2 : S 5 (-1) = S 4 (-1) := hL.2.1
    have hl4 : S 6 (-1) = S 4 (-1) := hL.2.2.1
    have hl8 : S 4 (-1) ≤ 2147483647 := hL.2.2.2.2.2.2.2.1
    have hl9 : S 3 (-1) ≤ 2147483647 := hL.2.2.2.2.2.2.2.2
    have hI1 := hI.1
    have hI2 := hI.2.1
    have hend : k < 0 → ∀ q : Int, 0 ≤ q → q < S 2 7 → ¬ wq (S 3) (S 4) (S 5) (S b) a0 n q := by
      intro hk0 q q0 q1 hw
      by_cases hqm : (m : Int) ≤ q
      · exact hno q.toNat (by omega) (by omega) (by rw [Int.toNat_of_nonneg q0]; exact hw)
      · have h0 := wl_none m (show wl_of (hs 1024 (S 3) (S 4) (S 5)) (hd_of (S b) a0 n 1024) m = 0 by omega) q.toNat (by omega)
        rw [Int.toNat_of_nonneg q0] at h0
        exact h0 (wq_hs hw)
    have hall : 0 ≤ k → k < S 2 7 ∧ k < m := fun h => by omega
    refine wa_iload (n := 5) rfl ?_
    refine wa_aload_n (n := 0) rfl ?_
    refine wb_gfi 2 rfl (wy_pr rfl) wt_2 wf_9_7 (v := (S 2 7)) rfl (fun r1 => ?_)
    refine wa_icmpge (w_rg0 (by omega) (by omega)) (w_rg0 (by omega) (by omega)) ⟨_, rfl⟩ (fun c2 => ?_) (fun c2 => ?_)
    · skip
      refine wa_iconst ?_
      refine wa_ireturn rfl ?_
      exact ⟨rfl, -1, rfl, Or.inr ⟨rfl, hend (by omega)⟩⟩
    · skip
      refine wa_iload (n := 4) rfl ?_
      refine wa_iflt (w_rg0 (by omega) (by omega)) ⟨_, rfl⟩ (fun c3 => ?_) (fun c3 => ?_)
      · skip
        refine wa_iconst ?_
        refine wa_ireturn rfl ?_
        exact ⟨rfl, -1, rfl, Or.inr ⟨rfl, hend (by omega)⟩⟩
      · skip
        have hk1 := hall (by omega)
        have hsz := hI.2.2.1 k (by omega) (by omega)
        have hkt : ((k.toNat : Nat) : Int) = k := Int.toNat_of_nonneg (by omega)
        have hhit := wl_hit m k.toNat (show wl_of (hs 1024 (S 3) (S 4) (S 5)) (hd_of (S b) a0 n 1024) m = ((k.toNat : Nat) : Int) + 1 by omega)
        have hnx := hI.2.2.2.2.1 k.toNat (by omega)
        rw [hkt] at hhit hnx
        rw [hhit.2.1] at hnx
        refine wa_aload_n (n := 0) rfl ?_
        refine wa_iload (n := 4) rfl ?_
        refine wa_aload_n (n := 1) rfl ?_
        refine wa_iload_n (n := 2) rfl ?_
        refine wa_iload_n (n := 3) rfl ?_
        refine wa_cv 2 rfl (wy_pr rfl) wt_2 (M2 := fun _ => False) rfl at_XW_isWord ⟨_, rfl⟩ rfl rfl ⟨(Or.inr ⟨wy_pr rfl, fun q => q⟩), (Or.inr ⟨hb, fun q => q⟩), trivial, trivial, trivial, trivial, trivial⟩ trivial (fun _ _ q => False.elim q) (iw_2 hb ht ha ⟨by omega, by omega, hl2⟩ ⟨by omega, by omega, hl9⟩) (fun oq4 Sq4 hp5 q4 => ?_)
        rcases q4 with ⟨rfl, ⟨rfl, hw⟩ | ⟨rfl, hw⟩⟩
        · skip
          show wJ _ _ _ _ _ _ _ _ _ _
          refine wa_ifeq (w_rg0 (by omega) (by omega)) ⟨_, rfl⟩ (fun c6 => ?_) (fun c6 => ?_)
          · skip
            exact absurd c6 (by omega)
          · skip
            refine wa_iload (n := 4) rfl ?_
            refine wa_ireturn rfl ?_
            exact ⟨rfl, k, rfl, Or.inl ⟨by omega, hk1.1, hw⟩⟩
        · skip
          show wJ _ _ _ _ _ _ _ _ _ _
          refine wa_ifeq (w_rg0 (by omega) (by omega)) ⟨_, rfl⟩ (fun c7 => ?_) (fun c7 => ?_)
          · skip
            refine wa_aload_n (n := 0) rfl ?_
            refine wb_gf4 2 rfl (wy_pr rfl) wt_2 wf_9_4 (v := 6) wl_2_4 ?_
            refine wa_iload (n := 4) rfl ?_
            refine wb_iald 6 rfl (wy_pr rfl) wt_6 (n := (S 6 (-1))) rfl (by omega) (by omega) (v := (S 6 k)) rfl (fun r8 => ?_)
            refine wa_iconst ?_
            refine wa_isub ?_
            refine wa_istore (n := 4) rfl ?_
            refine wa_iinc rfl rfl ?_
            refine wa_goto ⟨_, rfl⟩ ?_
            refine wJ_S (ih (i + 1) k.toNat _ (by omega) (by omega) (by rw [hnx]) (fun q q0 q1 hq => ?_)) ⟨rfl, rfl, rfl, rfl, rfl, rfl, trivial⟩
            by_cases hqm : m ≤ q
            · exact hno q hqm q1 hq
            by_cases hqk : q = k.toNat
            · rw [hqk, hkt] at hq; exact hw hq
            · exact hhit.2.2 q (by omega) (by omega) (wq_hs hq)
          · skip
            exact absurd c7 (by omega)
theorem wa_2 {b : Nat} {a0 n : Int} (hb : w_pr wY0 S b) (ht : wY0.ty b = 2) (ha : 0 ≤ a0 ∧ 0 ≤ n ∧ a0 + n ≤ S b (-1) ∧ S b (-1) ≤ 2147483647) (hI : wd_I 1024 (S 3) (S 4) (S 5) (S 6) (S 12) (S 2 1) (S 3 (-1)) (S 2 7) (S 4 (-1))) (hL : wd_L S 2 1024) : wJ (pe_GA xs) wY0 M (d + 1) t_XW_wordAt ((pe_at t_XW_wordAt.bl 0).getD (0, [])).2 [(0, (2, 2)), (1, (2, (b : Int))), (2, (0, a0)), (3, (0, n))] [] S (fun o S2 => S = S2 ∧ ∃ q : Int, o = .inl (some (0, q)) ∧ ((0 ≤ q ∧ q < S 2 7 ∧ wq (S 3) (S 4) (S 5) (S b) a0 n q) ∨ (q = -1 ∧ ∀ k : Int, 0 ≤ k → k < S 2 7 → ¬ wq (S 3) (S 4) (S 5) (S b) a0 n k))) := by
  have hI1 := hI.1
  have hr := hd_rg (f := S b) (a := a0) (n := n) (H := 1024) (by omega)
  have hh : S 12 (-1) = 1024 := hL.1
  refine wa_iload_n (n := 3) rfl ?_
  refine wa_bipush (w_rg2 (by omega) (by omega)) ?_
  refine wa_icmple (w_rg0 (by omega) (by omega)) (w_rg0 (by omega) (by omega)) ⟨_, rfl⟩ (fun c1 => ?_) (fun c1 => ?_)
  · skip
    refine wa_aload_n (n := 0) rfl ?_
    refine wb_gf4 2 rfl (wy_pr rfl) wt_2 wf_9_8 (v := 12) wl_2_8 ?_
    refine wa_aload_n (n := 0) rfl ?_
    refine wa_aload_n (n := 1) rfl ?_
    refine wa_iload_n (n := 2) rfl ?_
    refine wa_iload_n (n := 3) rfl ?_
    refine wa_cv 2 rfl (wy_pr rfl) wt_2 (M2 := fun _ => False) rfl at_XW_headOf ⟨_, rfl⟩ rfl rfl ⟨(Or.inr ⟨wy_pr rfl, fun q => q⟩), (Or.inr ⟨hb, fun q => q⟩), trivial, trivial, trivial⟩ ⟨(Or.inr ⟨wy_pr rfl, fun q => q⟩), trivial⟩ (fun _ _ q => False.elim q) (hd_2 hb ht ha hh) (fun oq2 Sq2 hp3 q2 => ?_)
    rcases q2 with ⟨rfl, rfl⟩
    show wJ _ _ _ _ _ _ _ _ _ _
    refine wb_iald 12 rfl (wy_pr rfl) wt_12 (n := 1024) (hh) (by omega) (by omega) (v := (S 12 (hd_of (S b) a0 n 1024))) rfl (fun r4 => ?_)
    refine wa_iconst ?_
    refine wa_isub ?_
    refine wa_istore (n := 4) rfl ?_
    refine wa_iconst ?_
    refine wa_istore (n := 5) rfl ?_
    refine wa_fall ⟨_, rfl⟩ ?_
    have hh0 := hI.2.2.2.1 (hd_of (S b) a0 n 1024) hr.1 hr.2
    refine wJ_S (wa_l_2 hb ht ha (by omega) hI hL ((S 2 7).toNat + 1) 0 (S 2 7).toNat _ (by omega) (by omega) (by rw [hh0]) (fun q q0 q1 => absurd q1 (by omega))) ⟨rfl, rfl, rfl, rfl, rfl, rfl, trivial⟩
  · skip
    refine wa_iconst ?_
    refine wa_ireturn rfl ?_
    exact ⟨rfl, -1, rfl, Or.inr ⟨rfl, fun q q0 q1 hw => by have := hI.2.2.1 q q0 q1; have := hw.1; omega⟩⟩
theorem hd_l_74 {b : Nat} {a0 n : Int} (hb : w_pr wY0 S b) (ht : wY0.ty b = 2) (ha : 0 ≤ a0 ∧ 0 ≤ n ∧ a0 + n ≤ S b (-1) ∧ S b (-1) ≤ 2147483647) (hh : S 84 (-1) = 64) : ∀ (f i : Nat), n.toNat - i < f → (i : Int) ≤ n → wJ (pe_GA xs) wY0 M d t_XW_headOf ((pe_at t_XW_headOf.bl 1).getD (0, [])).2 [(0, (2, 74)), (1, (2, (b : Int))), (2, (0, a0)), (3, (0, n)), (4, (0, hd_mix (S b) a0 n i)), (5, (0, (i : Int)))] [] S (fun o S2 => S = S2 ∧ o = .inl (some (0, hd_of (S b) a0 n 64))) := by
  intro f
  induction f with
  | zero => intro i h; exact absurd h (Nat.not_lt_zero _)
  | succ f ih =>
    intro i hf hi
    refine wa_iload (n := 5) rfl ?_
    refine wa_iload_n (n := 3) rfl ?_
    refine wa_icmpge (w_rg0 (by omega) (by omega)) (w_rg0 (by omega) (by omega)) ⟨_, rfl⟩ (fun c1 => ?_) (fun c1 => ?_)
    · skip
      refine wa_iload (n := 4) rfl ?_
      refine wa_iload (n := 4) rfl ?_
      refine wa_bipush (w_rg2 (by omega) (by omega)) ?_
      refine wa_iushr ?_
      refine wa_ixor ?_
      refine wa_aload_n (n := 0) rfl ?_
      refine wb_gf4 74 rfl (wy_pr rfl) wt_74 wf_9_8 (v := 84) wl_74_8 ?_
      refine wb_alen 84 rfl (wy_pr rfl) (by rw [wt_84]; rfl) (v := 64) (hh) (fun r2 => ?_)
      refine wa_iconst ?_
      refine wa_isub ?_
      refine wa_iand ?_
      refine wa_ireturn rfl ?_
      refine ⟨rfl, ?_⟩
      unfold hd_of
      rw [show n.toNat = i by omega]
    · skip
      refine wa_iload (n := 4) rfl ?_
      refine wa_bipush (w_rg2 (by omega) (by omega)) ?_
      refine wa_imul ?_
      refine wa_aload_n (n := 1) rfl ?_
      refine wa_iload_n (n := 2) rfl ?_
      refine wa_iload (n := 5) rfl ?_
      refine wa_iadd ?_
      refine wb_bald b rfl hb ht (n := (S b (-1))) rfl (by omega) (by omega) (v := (S b (a0 + (i : Int)))) rfl (fun r3 => ?_)
      refine wa_iadd ?_
      refine wa_istore (n := 4) rfl ?_
      refine wa_iinc rfl rfl ?_
      refine wa_goto ⟨_, rfl⟩ ?_
      exact wJ_S (ih (i + 1) (by omega) (by omega)) ⟨rfl, rfl, rfl, rfl, rfl, rfl, trivial⟩
theorem hd_74 {b : Nat} {a0 n : Int} (hb : w_pr wY0 S b) (ht : wY0.ty b = 2) (ha : 0 ≤ a0 ∧ 0 ≤ n ∧ a0 + n ≤ S b (-1) ∧ S b (-1) ≤ 2147483647) (hh : S 84 (-1) = 64) : wJ (pe_GA xs) wY0 M d t_XW_headOf ((pe_at t_XW_headOf.bl 0).getD (0, [])).2 [(0, (2, 74)), (1, (2, (b : Int))), (2, (0, a0)), (3, (0, n))] [] S (fun o S2 => S = S2 ∧ o = .inl (some (0, hd_of (S b) a0 n 64))) := by
  refine wa_iload_n (n := 3) rfl ?_
  refine wa_istore (n := 4) rfl ?_
  refine wa_iconst ?_
  refine wa_istore (n := 5) rfl ?_
  refine wa_fall ⟨_, rfl⟩ ?_
  exact wJ_S (hd_l_74 hb ht ha hh (n.toNat + 1) 0 (by omega) (by omega)) ⟨rfl, rfl, rfl, rfl, rfl, rfl, trivial⟩
theorem iw_l_74 {b : Nat} {a0 n k : Int} (hb : w_pr wY0 S b) (ht : wY0.ty b = 2) (ha : 0 ≤ a0 ∧ 0 ≤ n ∧ a0 + n ≤ S b (-1) ∧ S b (-1) ≤ 2147483647) (hk : 0 ≤ k ∧ k < S 76 (-1) ∧ S 77 (-1) = S 76 (-1)) (hp : 0 ≤ S 76 k ∧ S 76 k + S 77 k ≤ S 75 (-1) ∧ S 75 (-1) ≤ 2147483647) (hz : S 77 k = n) : ∀ (f i : Nat), n.toNat - i < f → (i : Int) ≤ n → (∀ q : Nat, q < i → S 75 (S 76 k + (q : Int)) = S b (a0 + (q : Int))) → wJ (pe_GA xs) wY0 M d t_XW_isWord ((pe_at t_XW_isWord.bl 2).getD (0, [])).2 [(0, (2, 74)), (1, (0, k)), (2, (2, (b : Int))), (3, (0, a0)), (4, (0, n)), (5, (0, (i : Int)))] [] S (fun o S2 => S = S2 ∧ ((o = .inl (some (0, 1)) ∧ wq (S 75) (S 76) (S 77) (S b) a0 n k) ∨ (o = .inl (some (0, 0)) ∧ ¬ wq (S 75) (S 76) (S 77) (S b) a0 n k))) := by
  intro f
  induction f with
  | zero => intro i h; exact absurd h (Nat.not_lt_zero _)
  | succ f ih =>
    intro i hf hi hq
    refine wa_iload (n := 5) rfl ?_
    refine wa_iload (n := 4) rfl ?_
    refine wa_icmpge (w_rg0 (by omega) (by omega)) (w_rg0 (by omega) (by omega)) ⟨_, rfl⟩ (fun c1 => ?_) (fun c1 => ?_)
    · skip
      refine wa_iconst ?_
      refine wa_zreturn rfl (Or.inr rfl) ?_
      exact ⟨rfl, Or.inl ⟨rfl, hz, fun q q1 => hq q (by omega)⟩⟩
    · skip
      refine wa_aload_n (n := 0) rfl ?_
      refine wb_gf4 74 rfl (wy_pr rfl) wt_74 wf_9_0 (v := 75) wl_74_0 ?_
      refine wa_aload_n (n := 0) rfl ?_
      refine wb_gf4 74 rfl (wy_pr rfl) wt_74 wf_9_2 (v := 76) wl_74_2 ?_
      refine wa_iload_n (n := 1) rfl ?_
      refine wb_iald 76 rfl (wy_pr rfl) wt_76 (n := (S 76 (-1))) rfl (by omega) (by omega) (v := (S 76 k)) rfl (fun r2 => ?_)
      refine wa_iload (n := 5) rfl ?_
      refine wa_iadd ?_
      refine wb_bald 75 rfl (wy_pr rfl) wt_75 (n := (S 75 (-1))) rfl (by omega) (by omega) (v := (S 75 ((S 76 k) + (i : Int)))) rfl (fun r3 => ?_)
      refine wa_aload_n (n := 2) rfl ?_
      refine wa_iload_n (n := 3) rfl ?_
      refine wa_iload (n := 5) rfl ?_
      refine wa_iadd ?_
      refine wb_bald b rfl hb ht (n := (S b (-1))) rfl (by omega) (by omega) (v := (S b (a0 + (i : Int)))) rfl (fun r4 => ?_)
      refine wa_icmpeq (w_rg0 (by omega) (by omega)) (w_rg0 (by omega) (by omega)) ⟨_, rfl⟩ (fun c5 => ?_) (fun c5 => ?_)
      · skip
        refine wa_iinc rfl rfl ?_
        refine wa_goto ⟨_, rfl⟩ ?_
        refine wJ_S (ih (i + 1) (by omega) (by omega) (fun q q1 => ?_)) ⟨rfl, rfl, rfl, rfl, rfl, rfl, trivial⟩
        by_cases hqi : q = i
        · rw [hqi]; assumption
        · exact hq q (by omega)
      · skip
        refine wa_iconst ?_
        refine wa_zreturn rfl (Or.inl rfl) ?_
        refine ⟨rfl, Or.inr ⟨rfl, fun hw => ?_⟩⟩
        have := hw.2 i (by omega)
        contradiction
theorem iw_74 {b : Nat} {a0 n k : Int} (hb : w_pr wY0 S b) (ht : wY0.ty b = 2) (ha : 0 ≤ a0 ∧ 0 ≤ n ∧ a0 + n ≤ S b (-1) ∧ S b (-1) ≤ 2147483647) (hk : 0 ≤ k ∧ k < S 76 (-1) ∧ S 77 (-1) = S 76 (-1)) (hp : 0 ≤ S 76 k ∧ S 76 k + S 77 k ≤ S 75 (-1) ∧ S 75 (-1) ≤ 2147483647) : wJ (pe_GA xs) wY0 M d t_XW_isWord ((pe_at t_XW_isWord.bl 0).getD (0, [])).2 [(0, (2, 74)), (1, (0, k)), (2, (2, (b : Int))), (3, (0, a0)), (4, (0, n))] [] S (fun o S2 => S = S2 ∧ ((o = .inl (some (0, 1)) ∧ wq (S 75) (S 76) (S 77) (S b) a0 n k) ∨ (o = .inl (some (0, 0)) ∧ ¬ wq (S 75) (S 76) (S 77) (S b) a0 n k))) := by
  refine wa_aload_n (n := 0) rfl ?_
  refine wb_gf4 74 rfl (wy_pr rfl) wt_74 wf_9_3 (v := 77) wl_74_3 ?_
  refine wa_iload_n (n := 1) rfl ?_
  refine wb_iald 77 rfl (wy_pr rfl) wt_77 (n := (S 77 (-1))) rfl (by omega) (by omega) (v := (S 77 k)) rfl (fun r1 => ?_)
  refine wa_iload (n := 4) rfl ?_
  refine wa_icmpeq (w_rg0 (by omega) (by omega)) (w_rg0 (by omega) (by omega)) ⟨_, rfl⟩ (fun c2 => ?_) (fun c2 => ?_)
  · skip
    refine wa_iconst ?_
    refine wa_istore (n := 5) rfl ?_
    refine wa_fall ⟨_, rfl⟩ ?_
    exact wJ_S (iw_l_74 hb ht ha hk hp (by omega) (n.toNat + 1) 0 (by omega) (by omega) (fun q h => absurd h (Nat.not_lt_zero _))) ⟨rfl, rfl, rfl, rfl, rfl, rfl, trivial⟩
  · skip
    refine wa_iconst ?_
    refine wa_zreturn rfl (Or.inl rfl) ?_
    exact ⟨rfl, Or.inr ⟨rfl, fun hw => by have := hw.1; omega⟩⟩
theorem wa_l_74 {b : Nat} {a0 n : Int} (hb : w_pr wY0 S b) (ht : wY0.ty b = 2) (ha : 0 ≤ a0 ∧ 0 ≤ n ∧ a0 + n ≤ S b (-1) ∧ S b (-1) ≤ 2147483647) (h60 : n ≤ 60) (hI : wd_I 64 (S 75) (S 76) (S 77) (S 78) (S 84) (S 74 1) (S 75 (-1)) (S 74 7) (S 76 (-1))) (hL : wd_L S 74 64) : ∀ (f i m : Nat) (k : Int), m < f → (i : Int) + m ≤ S 74 7 → k = wl_of (hs 64 (S 75) (S 76) (S 77)) (hd_of (S b) a0 n 64) m - 1 → (∀ q : Nat, m ≤ q → (q : Int) < S 74 7 → ¬ wq (S 75) (S 76) (S 77) (S b) a0 n (q : Int)) → wJ (pe_GA xs) wY0 M (d + 1) t_XW_wordAt ((pe_at t_XW_wordAt.bl 2).getD (0, [])).2 [(0, (2, 74)), (1, (2, (b : Int))), (2, (0, a0)), (3, (0, n)), (4, (0, k)), (5, (0, (i : Int)))] [] S (fun o S2 => S = S2 ∧ ∃ q : Int, o = .inl (some (0, q)) ∧ ((0 ≤ q ∧ q < S 74 7 ∧ wq (S 75) (S 76) (S 77) (S b) a0 n q) ∨ (q = -1 ∧ ∀ k : Int, 0 ≤ k → k < S 74 7 → ¬ wq (S 75) (S 76) (S 77) (S b) a0 n k))) := by
  intro f
  induction f with
  | zero => intro i m k h; exact absurd h (Nat.not_lt_zero _)
  | succ f ih =>
    intro i m k hf him hk hno
    have hrg := wl_rg (hs 64 (S 75) (S 76) (S 77)) (hd_of (S b) a0 n 64) m
    have hl2 : S 77 (-1) = S 76 (-1) := hL.2.1
    have hl4 : S 78 (-1) = S 76 (-1) := hL.2.2.1
    have hl8 : S 76 (-1) ≤ 2147483647 := hL.2.2.2.2.2.2.2.1
    have hl9 : S 75 (-1) ≤ 2147483647 := hL.2.2.2.2.2.2.2.2
    have hI1 := hI.1
    have hI2 := hI.2.1
    have hend : k < 0 → ∀ q : Int, 0 ≤ q → q < S 74 7 → ¬ wq (S 75) (S 76) (S 77) (S b) a0 n q := by
      intro hk0 q q0 q1 hw
      by_cases hqm : (m : Int) ≤ q
      · exact hno q.toNat (by omega) (by omega) (by rw [Int.toNat_of_nonneg q0]; exact hw)
      · have h0 := wl_none m (show wl_of (hs 64 (S 75) (S 76) (S 77)) (hd_of (S b) a0 n 64) m = 0 by omega) q.toNat (by omega)
        rw [Int.toNat_of_nonneg q0] at h0
        exact h0 (wq_hs hw)
    have hall : 0 ≤ k → k < S 74 7 ∧ k < m := fun h => by omega
    refine wa_iload (n := 5) rfl ?_
    refine wa_aload_n (n := 0) rfl ?_
    refine wb_gfi 74 rfl (wy_pr rfl) wt_74 wf_9_7 (v := (S 74 7)) rfl (fun r1 => ?_)
    refine wa_icmpge (w_rg0 (by omega) (by omega)) (w_rg0 (by omega) (by omega)) ⟨_, rfl⟩ (fun c2 => ?_) (fun c2 => ?_)
    · skip
      refine wa_iconst ?_
      refine wa_ireturn rfl ?_
      exact ⟨rfl, -1, rfl, Or.inr ⟨rfl, hend (by omega)⟩⟩
    · skip
      refine wa_iload (n := 4) rfl ?_
      refine wa_iflt (w_rg0 (by omega) (by omega)) ⟨_, rfl⟩ (fun c3 => ?_) (fun c3 => ?_)
      · skip
        refine wa_iconst ?_
        refine wa_ireturn rfl ?_
        exact ⟨rfl, -1, rfl, Or.inr ⟨rfl, hend (by omega)⟩⟩
      · skip
        have hk1 := hall (by omega)
        have hsz := hI.2.2.1 k (by omega) (by omega)
        have hkt : ((k.toNat : Nat) : Int) = k := Int.toNat_of_nonneg (by omega)
        have hhit := wl_hit m k.toNat (show wl_of (hs 64 (S 75) (S 76) (S 77)) (hd_of (S b) a0 n 64) m = ((k.toNat : Nat) : Int) + 1 by omega)
        have hnx := hI.2.2.2.2.1 k.toNat (by omega)
        rw [hkt] at hhit hnx
        rw [hhit.2.1] at hnx
        refine wa_aload_n (n := 0) rfl ?_
        refine wa_iload (n := 4) rfl ?_
        refine wa_aload_n (n := 1) rfl ?_
        refine wa_iload_n (n := 2) rfl ?_
        refine wa_iload_n (n := 3) rfl ?_
        refine wa_cv 74 rfl (wy_pr rfl) wt_74 (M2 := fun _ => False) rfl at_XW_isWord ⟨_, rfl⟩ rfl rfl ⟨(Or.inr ⟨wy_pr rfl, fun q => q⟩), (Or.inr ⟨hb, fun q => q⟩), trivial, trivial, trivial, trivial, trivial⟩ trivial (fun _ _ q => False.elim q) (iw_74 hb ht ha ⟨by omega, by omega, hl2⟩ ⟨by omega, by omega, hl9⟩) (fun oq4 Sq4 hp5 q4 => ?_)
        rcases q4 with ⟨rfl, ⟨rfl, hw⟩ | ⟨rfl, hw⟩⟩
        · skip
          show wJ _ _ _ _ _ _ _ _ _ _
          refine wa_ifeq (w_rg0 (by omega) (by omega)) ⟨_, rfl⟩ (fun c6 => ?_) (fun c6 => ?_)
          · skip
            exact absurd c6 (by omega)
          · skip
            refine wa_iload (n := 4) rfl ?_
            refine wa_ireturn rfl ?_
            exact ⟨rfl, k, rfl, Or.inl ⟨by omega, hk1.1, hw⟩⟩
        · skip
          show wJ _ _ _ _ _ _ _ _ _ _
          refine wa_ifeq (w_rg0 (by omega) (by omega)) ⟨_, rfl⟩ (fun c7 => ?_) (fun c7 => ?_)
          · skip
            refine wa_aload_n (n := 0) rfl ?_
            refine wb_gf4 74 rfl (wy_pr rfl) wt_74 wf_9_4 (v := 78) wl_74_4 ?_
            refine wa_iload (n := 4) rfl ?_
            refine wb_iald 78 rfl (wy_pr rfl) wt_78 (n := (S 78 (-1))) rfl (by omega) (by omega) (v := (S 78 k)) rfl (fun r8 => ?_)
            refine wa_iconst ?_
            refine wa_isub ?_
            refine wa_istore (n := 4) rfl ?_
            refine wa_iinc rfl rfl ?_
            refine wa_goto ⟨_, rfl⟩ ?_
            refine wJ_S (ih (i + 1) k.toNat _ (by omega) (by omega) (by rw [hnx]) (fun q q0 q1 hq => ?_)) ⟨rfl, rfl, rfl, rfl, rfl, rfl, trivial⟩
            by_cases hqm : m ≤ q
            · exact hno q hqm q1 hq
            by_cases hqk : q = k.toNat
            · rw [hqk, hkt] at hq; exact hw hq
            · exact hhit.2.2 q (by omega) (by omega) (wq_hs hq)
          · skip
            exact absurd c7 (by omega)
theorem wa_74 {b : Nat} {a0 n : Int} (hb : w_pr wY0 S b) (ht : wY0.ty b = 2) (ha : 0 ≤ a0 ∧ 0 ≤ n ∧ a0 + n ≤ S b (-1) ∧ S b (-1) ≤ 2147483647) (hI : wd_I 64 (S 75) (S 76) (S 77) (S 78) (S 84) (S 74 1) (S 75 (-1)) (S 74 7) (S 76 (-1))) (hL : wd_L S 74 64) : wJ (pe_GA xs) wY0 M (d + 1) t_XW_wordAt ((pe_at t_XW_wordAt.bl 0).getD (0, [])).2 [(0, (2, 74)), (1, (2, (b : Int))), (2, (0, a0)), (3, (0, n))] [] S (fun o S2 => S = S2 ∧ ∃ q : Int, o = .inl (some (0, q)) ∧ ((0 ≤ q ∧ q < S 74 7 ∧ wq (S 75) (S 76) (S 77) (S b) a0 n q) ∨ (q = -1 ∧ ∀ k : Int, 0 ≤ k → k < S 74 7 → ¬ wq (S 75) (S 76) (S 77) (S b) a0 n k))) := by
  have hI1 := hI.1
  have hr := hd_rg (f := S b) (a := a0) (n := n) (H := 64) (by omega)
  have hh : S 84 (-1) = 64 := hL.1
  refine wa_iload_n (n := 3) rfl ?_
  refine wa_bipush (w_rg2 (by omega) (by omega)) ?_
  refine wa_icmple (w_rg0 (by omega) (by omega)) (w_rg0 (by omega) (by omega)) ⟨_, rfl⟩ (fun c1 => ?_) (fun c1 => ?_)
  · skip
    refine wa_aload_n (n := 0) rfl ?_
    refine wb_gf4 74 rfl (wy_pr rfl) wt_74 wf_9_8 (v := 84) wl_74_8 ?_
    refine wa_aload_n (n := 0) rfl ?_
    refine wa_aload_n (n := 1) rfl ?_
    refine wa_iload_n (n := 2) rfl ?_
    refine wa_iload_n (n := 3) rfl ?_
    refine wa_cv 74 rfl (wy_pr rfl) wt_74 (M2 := fun _ => False) rfl at_XW_headOf ⟨_, rfl⟩ rfl rfl ⟨(Or.inr ⟨wy_pr rfl, fun q => q⟩), (Or.inr ⟨hb, fun q => q⟩), trivial, trivial, trivial⟩ ⟨(Or.inr ⟨wy_pr rfl, fun q => q⟩), trivial⟩ (fun _ _ q => False.elim q) (hd_74 hb ht ha hh) (fun oq2 Sq2 hp3 q2 => ?_)
    rcases q2 with ⟨rfl, rfl⟩
    show wJ _ _ _ _ _ _ _ _ _ _
    refine wb_iald 84 rfl (wy_pr rfl) wt_84 (n := 64) (hh) (by omega) (by omega) (v := (S 84 (hd_of (S b) a0 n 64))) rfl (fun r4 => ?_)
    refine wa_iconst ?_
    refine wa_isub ?_
    refine wa_istore (n := 4) rfl ?_
    refine wa_iconst ?_
    refine wa_istore (n := 5) rfl ?_
    refine wa_fall ⟨_, rfl⟩ ?_
    have hh0 := hI.2.2.2.1 (hd_of (S b) a0 n 64) hr.1 hr.2
    refine wJ_S (wa_l_74 hb ht ha (by omega) hI hL ((S 74 7).toNat + 1) 0 (S 74 7).toNat _ (by omega) (by omega) (by rw [hh0]) (fun q q0 q1 => absurd q1 (by omega))) ⟨rfl, rfl, rfl, rfl, rfl, rfl, trivial⟩
  · skip
    refine wa_iconst ?_
    refine wa_ireturn rfl ?_
    exact ⟨rfl, -1, rfl, Or.inr ⟨rfl, fun q q0 q1 hw => by have := hI.2.2.1 q q0 q1; have := hw.1; omega⟩⟩
theorem hd_l_163 {b : Nat} {a0 n : Int} (hb : w_pr wY0 S b) (ht : wY0.ty b = 2) (ha : 0 ≤ a0 ∧ 0 ≤ n ∧ a0 + n ≤ S b (-1) ∧ S b (-1) ≤ 2147483647) (hh : S 173 (-1) = 64) : ∀ (f i : Nat), n.toNat - i < f → (i : Int) ≤ n → wJ (pe_GA xs) wY0 M d t_XW_headOf ((pe_at t_XW_headOf.bl 1).getD (0, [])).2 [(0, (2, 163)), (1, (2, (b : Int))), (2, (0, a0)), (3, (0, n)), (4, (0, hd_mix (S b) a0 n i)), (5, (0, (i : Int)))] [] S (fun o S2 => S = S2 ∧ o = .inl (some (0, hd_of (S b) a0 n 64))) := by
  intro f
  induction f with
  | zero => intro i h; exact absurd h (Nat.not_lt_zero _)
  | succ f ih =>
    intro i hf hi
    refine wa_iload (n := 5) rfl ?_
    refine wa_iload_n (n := 3) rfl ?_
    refine wa_icmpge (w_rg0 (by omega) (by omega)) (w_rg0 (by omega) (by omega)) ⟨_, rfl⟩ (fun c1 => ?_) (fun c1 => ?_)
    · skip
      refine wa_iload (n := 4) rfl ?_
      refine wa_iload (n := 4) rfl ?_
      refine wa_bipush (w_rg2 (by omega) (by omega)) ?_
      refine wa_iushr ?_
      refine wa_ixor ?_
      refine wa_aload_n (n := 0) rfl ?_
      refine wb_gf4 163 rfl (wy_pr rfl) wt_163 wf_9_8 (v := 173) wl_163_8 ?_
      refine wb_alen 173 rfl (wy_pr rfl) (by rw [wt_173]; rfl) (v := 64) (hh) (fun r2 => ?_)
      refine wa_iconst ?_
      refine wa_isub ?_
      refine wa_iand ?_
      refine wa_ireturn rfl ?_
      refine ⟨rfl, ?_⟩
      unfold hd_of
      rw [show n.toNat = i by omega]
    · skip
      refine wa_iload (n := 4) rfl ?_
      refine wa_bipush (w_rg2 (by omega) (by omega)) ?_
      refine wa_imul ?_
      refine wa_aload_n (n := 1) rfl ?_
      refine wa_iload_n (n := 2) rfl ?_
      refine wa_iload (n := 5) rfl ?_
      refine wa_iadd ?_
      refine wb_bald b rfl hb ht (n := (S b (-1))) rfl (by omega) (by omega) (v := (S b (a0 + (i : Int)))) rfl (fun r3 => ?_)
      refine wa_iadd ?_
      refine wa_istore (n := 4) rfl ?_
      refine wa_iinc rfl rfl ?_
      refine wa_goto ⟨_, rfl⟩ ?_
      exact wJ_S (ih (i + 1) (by omega) (by omega)) ⟨rfl, rfl, rfl, rfl, rfl, rfl, trivial⟩
theorem hd_163 {b : Nat} {a0 n : Int} (hb : w_pr wY0 S b) (ht : wY0.ty b = 2) (ha : 0 ≤ a0 ∧ 0 ≤ n ∧ a0 + n ≤ S b (-1) ∧ S b (-1) ≤ 2147483647) (hh : S 173 (-1) = 64) : wJ (pe_GA xs) wY0 M d t_XW_headOf ((pe_at t_XW_headOf.bl 0).getD (0, [])).2 [(0, (2, 163)), (1, (2, (b : Int))), (2, (0, a0)), (3, (0, n))] [] S (fun o S2 => S = S2 ∧ o = .inl (some (0, hd_of (S b) a0 n 64))) := by
  refine wa_iload_n (n := 3) rfl ?_
  refine wa_istore (n := 4) rfl ?_
  refine wa_iconst ?_
  refine wa_istore (n := 5) rfl ?_
  refine wa_fall ⟨_, rfl⟩ ?_
  exact wJ_S (hd_l_163 hb ht ha hh (n.toNat + 1) 0 (by omega) (by omega)) ⟨rfl, rfl, rfl, rfl, rfl, rfl, trivial⟩
theorem iw_l_163 {b : Nat} {a0 n k : Int} (hb : w_pr wY0 S b) (ht : wY0.ty b = 2) (ha : 0 ≤ a0 ∧ 0 ≤ n ∧ a0 + n ≤ S b (-1) ∧ S b (-1) ≤ 2147483647) (hk : 0 ≤ k ∧ k < S 165 (-1) ∧ S 166 (-1) = S 165 (-1)) (hp : 0 ≤ S 165 k ∧ S 165 k + S 166 k ≤ S 164 (-1) ∧ S 164 (-1) ≤ 2147483647) (hz : S 166 k = n) : ∀ (f i : Nat), n.toNat - i < f → (i : Int) ≤ n → (∀ q : Nat, q < i → S 164 (S 165 k + (q : Int)) = S b (a0 + (q : Int))) → wJ (pe_GA xs) wY0 M d t_XW_isWord ((pe_at t_XW_isWord.bl 2).getD (0, [])).2 [(0, (2, 163)), (1, (0, k)), (2, (2, (b : Int))), (3, (0, a0)), (4, (0, n)), (5, (0, (i : Int)))] [] S (fun o S2 => S = S2 ∧ ((o = .inl (some (0, 1)) ∧ wq (S 164) (S 165) (S 166) (S b) a0 n k) ∨ (o = .inl (some (0, 0)) ∧ ¬ wq (S 164) (S 165) (S 166) (S b) a0 n k))) := by
  intro f
  induction f with
  | zero => intro i h; exact absurd h (Nat.not_lt_zero _)
  | succ f ih =>
    intro i hf hi hq
    refine wa_iload (n := 5) rfl ?_
    refine wa_iload (n := 4) rfl ?_
    refine wa_icmpge (w_rg0 (by omega) (by omega)) (w_rg0 (by omega) (by omega)) ⟨_, rfl⟩ (fun c1 => ?_) (fun c1 => ?_)
    · skip
      refine wa_iconst ?_
      refine wa_zreturn rfl (Or.inr rfl) ?_
      exact ⟨rfl, Or.inl ⟨rfl, hz, fun q q1 => hq q (by omega)⟩⟩
    · skip
      refine wa_aload_n (n := 0) rfl ?_
      refine wb_gf4 163 rfl (wy_pr rfl) wt_163 wf_9_0 (v := 164) wl_163_0 ?_
      refine wa_aload_n (n := 0) rfl ?_
      refine wb_gf4 163 rfl (wy_pr rfl) wt_163 wf_9_2 (v := 165) wl_163_2 ?_
      refine wa_iload_n (n := 1) rfl ?_
      refine wb_iald 165 rfl (wy_pr rfl) wt_165 (n := (S 165 (-1))) rfl (by omega) (by omega) (v := (S 165 k)) rfl (fun r2 => ?_)
      refine wa_iload (n := 5) rfl ?_
      refine wa_iadd ?_
      refine wb_bald 164 rfl (wy_pr rfl) wt_164 (n := (S 164 (-1))) rfl (by omega) (by omega) (v := (S 164 ((S 165 k) + (i : Int)))) rfl (fun r3 => ?_)
      refine wa_aload_n (n := 2) rfl ?_
      refine wa_iload_n (n := 3) rfl ?_
      refine wa_iload (n := 5) rfl ?_
      refine wa_iadd ?_
      refine wb_bald b rfl hb ht (n := (S b (-1))) rfl (by omega) (by omega) (v := (S b (a0 + (i : Int)))) rfl (fun r4 => ?_)
      refine wa_icmpeq (w_rg0 (by omega) (by omega)) (w_rg0 (by omega) (by omega)) ⟨_, rfl⟩ (fun c5 => ?_) (fun c5 => ?_)
      · skip
        refine wa_iinc rfl rfl ?_
        refine wa_goto ⟨_, rfl⟩ ?_
        refine wJ_S (ih (i + 1) (by omega) (by omega) (fun q q1 => ?_)) ⟨rfl, rfl, rfl, rfl, rfl, rfl, trivial⟩
        by_cases hqi : q = i
        · rw [hqi]; assumption
        · exact hq q (by omega)
      · skip
        refine wa_iconst ?_
        refine wa_zreturn rfl (Or.inl rfl) ?_
        refine ⟨rfl, Or.inr ⟨rfl, fun hw => ?_⟩⟩
        have := hw.2 i (by omega)
        contradiction
theorem iw_163 {b : Nat} {a0 n k : Int} (hb : w_pr wY0 S b) (ht : wY0.ty b = 2) (ha : 0 ≤ a0 ∧ 0 ≤ n ∧ a0 + n ≤ S b (-1) ∧ S b (-1) ≤ 2147483647) (hk : 0 ≤ k ∧ k < S 165 (-1) ∧ S 166 (-1) = S 165 (-1)) (hp : 0 ≤ S 165 k ∧ S 165 k + S 166 k ≤ S 164 (-1) ∧ S 164 (-1) ≤ 2147483647) : wJ (pe_GA xs) wY0 M d t_XW_isWord ((pe_at t_XW_isWord.bl 0).getD (0, [])).2 [(0, (2, 163)), (1, (0, k)), (2, (2, (b : Int))), (3, (0, a0)), (4, (0, n))] [] S (fun o S2 => S = S2 ∧ ((o = .inl (some (0, 1)) ∧ wq (S 164) (S 165) (S 166) (S b) a0 n k) ∨ (o = .inl (some (0, 0)) ∧ ¬ wq (S 164) (S 165) (S 166) (S b) a0 n k))) := by
  refine wa_aload_n (n := 0) rfl ?_
  refine wb_gf4 163 rfl (wy_pr rfl) wt_163 wf_9_3 (v := 166) wl_163_3 ?_
  refine wa_iload_n (n := 1) rfl ?_
  refine wb_iald 166 rfl (wy_pr rfl) wt_166 (n := (S 166 (-1))) rfl (by omega) (by omega) (v := (S 166 k)) rfl (fun r1 => ?_)
  refine wa_iload (n := 4) rfl ?_
  refine wa_icmpeq (w_rg0 (by omega) (by omega)) (w_rg0 (by omega) (by omega)) ⟨_, rfl⟩ (fun c2 => ?_) (fun c2 => ?_)
  · skip
    refine wa_iconst ?_
    refine wa_istore (n := 5) rfl ?_
    refine wa_fall ⟨_, rfl⟩ ?_
    exact wJ_S (iw_l_163 hb ht ha hk hp (by omega) (n.toNat + 1) 0 (by omega) (by omega) (fun q h => absurd h (Nat.not_lt_zero _))) ⟨rfl, rfl, rfl, rfl, rfl, rfl, trivial⟩
  · skip
    refine wa_iconst ?_
    refine wa_zreturn rfl (Or.inl rfl) ?_
    exact ⟨rfl, Or.inr ⟨rfl, fun hw => by have := hw.1; omega⟩⟩
theorem wa_l_163 {b : Nat} {a0 n : Int} (hb : w_pr wY0 S b) (ht : wY0.ty b = 2) (ha : 0 ≤ a0 ∧ 0 ≤ n ∧ a0 + n ≤ S b (-1) ∧ S b (-1) ≤ 2147483647) (h60 : n ≤ 60) (hI : wd_I 64 (S 164) (S 165) (S 166) (S 167) (S 173) (S 163 1) (S 164 (-1)) (S 163 7) (S 165 (-1))) (hL : wd_L S 163 64) : ∀ (f i m : Nat) (k : Int), m < f → (i : Int) + m ≤ S 163 7 → k = wl_of (hs 64 (S 164) (S 165) (S 166)) (hd_of (S b) a0 n 64) m - 1 → (∀ q : Nat, m ≤ q → (q : Int) < S 163 7 → ¬ wq (S 164) (S 165) (S 166) (S b) a0 n (q : Int)) → wJ (pe_GA xs) wY0 M (d + 1) t_XW_wordAt ((pe_at t_XW_wordAt.bl 2).getD (0, [])).2 [(0, (2, 163)), (1, (2, (b : Int))), (2, (0, a0)), (3, (0, n)), (4, (0, k)), (5, (0, (i : Int)))] [] S (fun o S2 => S = S2 ∧ ∃ q : Int, o = .inl (some (0, q)) ∧ ((0 ≤ q ∧ q < S 163 7 ∧ wq (S 164) (S 165) (S 166) (S b) a0 n q) ∨ (q = -1 ∧ ∀ k : Int, 0 ≤ k → k < S 163 7 → ¬ wq (S 164) (S 165) (S 166) (S b) a0 n k))) := by
  intro f
  induction f with
  | zero => intro i m k h; exact absurd h (Nat.not_lt_zero _)
  | succ f ih =>
    intro i m k hf him hk hno
    have hrg := wl_rg (hs 64 (S 164) (S 165) (S 166)) (hd_of (S b) a0 n 64) m
    have hl2 : S 166 (-1) = S 165 (-1) := hL.2.1
    have hl4 : S 167 (-1) = S 165 (-1) := hL.2.2.1
    have hl8 : S 165 (-1) ≤ 2147483647 := hL.2.2.2.2.2.2.2.1
    have hl9 : S 164 (-1) ≤ 2147483647 := hL.2.2.2.2.2.2.2.2
    have hI1 := hI.1
    have hI2 := hI.2.1
    have hend : k < 0 → ∀ q : Int, 0 ≤ q → q < S 163 7 → ¬ wq (S 164) (S 165) (S 166) (S b) a0 n q := by
      intro hk0 q q0 q1 hw
      by_cases hqm : (m : Int) ≤ q
      · exact hno q.toNat (by omega) (by omega) (by rw [Int.toNat_of_nonneg q0]; exact hw)
      · have h0 := wl_none m (show wl_of (hs 64 (S 164) (S 165) (S 166)) (hd_of (S b) a0 n 64) m = 0 by omega) q.toNat (by omega)
        rw [Int.toNat_of_nonneg q0] at h0
        exact h0 (wq_hs hw)
    have hall : 0 ≤ k → k < S 163 7 ∧ k < m := fun h => by omega
    refine wa_iload (n := 5) rfl ?_
    refine wa_aload_n (n := 0) rfl ?_
    refine wb_gfi 163 rfl (wy_pr rfl) wt_163 wf_9_7 (v := (S 163 7)) rfl (fun r1 => ?_)
    refine wa_icmpge (w_rg0 (by omega) (by omega)) (w_rg0 (by omega) (by omega)) ⟨_, rfl⟩ (fun c2 => ?_) (fun c2 => ?_)
    · skip
      refine wa_iconst ?_
      refine wa_ireturn rfl ?_
      exact ⟨rfl, -1, rfl, Or.inr ⟨rfl, hend (by omega)⟩⟩
    · skip
      refine wa_iload (n := 4) rfl ?_
      refine wa_iflt (w_rg0 (by omega) (by omega)) ⟨_, rfl⟩ (fun c3 => ?_) (fun c3 => ?_)
      · skip
        refine wa_iconst ?_
        refine wa_ireturn rfl ?_
        exact ⟨rfl, -1, rfl, Or.inr ⟨rfl, hend (by omega)⟩⟩
      · skip
        have hk1 := hall (by omega)
        have hsz := hI.2.2.1 k (by omega) (by omega)
        have hkt : ((k.toNat : Nat) : Int) = k := Int.toNat_of_nonneg (by omega)
        have hhit := wl_hit m k.toNat (show wl_of (hs 64 (S 164) (S 165) (S 166)) (hd_of (S b) a0 n 64) m = ((k.toNat : Nat) : Int) + 1 by omega)
        have hnx := hI.2.2.2.2.1 k.toNat (by omega)
        rw [hkt] at hhit hnx
        rw [hhit.2.1] at hnx
        refine wa_aload_n (n := 0) rfl ?_
        refine wa_iload (n := 4) rfl ?_
        refine wa_aload_n (n := 1) rfl ?_
        refine wa_iload_n (n := 2) rfl ?_
        refine wa_iload_n (n := 3) rfl ?_
        refine wa_cv 163 rfl (wy_pr rfl) wt_163 (M2 := fun _ => False) rfl at_XW_isWord ⟨_, rfl⟩ rfl rfl ⟨(Or.inr ⟨wy_pr rfl, fun q => q⟩), (Or.inr ⟨hb, fun q => q⟩), trivial, trivial, trivial, trivial, trivial⟩ trivial (fun _ _ q => False.elim q) (iw_163 hb ht ha ⟨by omega, by omega, hl2⟩ ⟨by omega, by omega, hl9⟩) (fun oq4 Sq4 hp5 q4 => ?_)
        rcases q4 with ⟨rfl, ⟨rfl, hw⟩ | ⟨rfl, hw⟩⟩
        · skip
          show wJ _ _ _ _ _ _ _ _ _ _
          refine wa_ifeq (w_rg0 (by omega) (by omega)) ⟨_, rfl⟩ (fun c6 => ?_) (fun c6 => ?_)
          · skip
            exact absurd c6 (by omega)
          · skip
            refine wa_iload (n := 4) rfl ?_
            refine wa_ireturn rfl ?_
            exact ⟨rfl, k, rfl, Or.inl ⟨by omega, hk1.1, hw⟩⟩
        · skip
          show wJ _ _ _ _ _ _ _ _ _ _
          refine wa_ifeq (w_rg0 (by omega) (by omega)) ⟨_, rfl⟩ (fun c7 => ?_) (fun c7 => ?_)
          · skip
            refine wa_aload_n (n := 0) rfl ?_
            refine wb_gf4 163 rfl (wy_pr rfl) wt_163 wf_9_4 (v := 167) wl_163_4 ?_
            refine wa_iload (n := 4) rfl ?_
            refine wb_iald 167 rfl (wy_pr rfl) wt_167 (n := (S 167 (-1))) rfl (by omega) (by omega) (v := (S 167 k)) rfl (fun r8 => ?_)
            refine wa_iconst ?_
            refine wa_isub ?_
            refine wa_istore (n := 4) rfl ?_
            refine wa_iinc rfl rfl ?_
            refine wa_goto ⟨_, rfl⟩ ?_
            refine wJ_S (ih (i + 1) k.toNat _ (by omega) (by omega) (by rw [hnx]) (fun q q0 q1 hq => ?_)) ⟨rfl, rfl, rfl, rfl, rfl, rfl, trivial⟩
            by_cases hqm : m ≤ q
            · exact hno q hqm q1 hq
            by_cases hqk : q = k.toNat
            · rw [hqk, hkt] at hq; exact hw hq
            · exact hhit.2.2 q (by omega) (by omega) (wq_hs hq)
          · skip
            exact absurd c7 (by omega)
theorem wa_163 {b : Nat} {a0 n : Int} (hb : w_pr wY0 S b) (ht : wY0.ty b = 2) (ha : 0 ≤ a0 ∧ 0 ≤ n ∧ a0 + n ≤ S b (-1) ∧ S b (-1) ≤ 2147483647) (hI : wd_I 64 (S 164) (S 165) (S 166) (S 167) (S 173) (S 163 1) (S 164 (-1)) (S 163 7) (S 165 (-1))) (hL : wd_L S 163 64) : wJ (pe_GA xs) wY0 M (d + 1) t_XW_wordAt ((pe_at t_XW_wordAt.bl 0).getD (0, [])).2 [(0, (2, 163)), (1, (2, (b : Int))), (2, (0, a0)), (3, (0, n))] [] S (fun o S2 => S = S2 ∧ ∃ q : Int, o = .inl (some (0, q)) ∧ ((0 ≤ q ∧ q < S 163 7 ∧ wq (S 164) (S 165) (S 166) (S b) a0 n q) ∨ (q = -1 ∧ ∀ k : Int, 0 ≤ k → k < S 163 7 → ¬ wq (S 164) (S 165) (S 166) (S b) a0 n k))) := by
  have hI1 := hI.1
  have hr := hd_rg (f := S b) (a := a0) (n := n) (H := 64) (by omega)
  have hh : S 173 (-1) = 64 := hL.1
  refine wa_iload_n (n := 3) rfl ?_
  refine wa_bipush (w_rg2 (by omega) (by omega)) ?_
  refine wa_icmple (w_rg0 (by omega) (by omega)) (w_rg0 (by omega) (by omega)) ⟨_, rfl⟩ (fun c1 => ?_) (fun c1 => ?_)
  · skip
    refine wa_aload_n (n := 0) rfl ?_
    refine wb_gf4 163 rfl (wy_pr rfl) wt_163 wf_9_8 (v := 173) wl_163_8 ?_
    refine wa_aload_n (n := 0) rfl ?_
    refine wa_aload_n (n := 1) rfl ?_
    refine wa_iload_n (n := 2) rfl ?_
    refine wa_iload_n (n := 3) rfl ?_
    refine wa_cv 163 rfl (wy_pr rfl) wt_163 (M2 := fun _ => False) rfl at_XW_headOf ⟨_, rfl⟩ rfl rfl ⟨(Or.inr ⟨wy_pr rfl, fun q => q⟩), (Or.inr ⟨hb, fun q => q⟩), trivial, trivial, trivial⟩ ⟨(Or.inr ⟨wy_pr rfl, fun q => q⟩), trivial⟩ (fun _ _ q => False.elim q) (hd_163 hb ht ha hh) (fun oq2 Sq2 hp3 q2 => ?_)
    rcases q2 with ⟨rfl, rfl⟩
    show wJ _ _ _ _ _ _ _ _ _ _
    refine wb_iald 173 rfl (wy_pr rfl) wt_173 (n := 64) (hh) (by omega) (by omega) (v := (S 173 (hd_of (S b) a0 n 64))) rfl (fun r4 => ?_)
    refine wa_iconst ?_
    refine wa_isub ?_
    refine wa_istore (n := 4) rfl ?_
    refine wa_iconst ?_
    refine wa_istore (n := 5) rfl ?_
    refine wa_fall ⟨_, rfl⟩ ?_
    have hh0 := hI.2.2.2.1 (hd_of (S b) a0 n 64) hr.1 hr.2
    refine wJ_S (wa_l_163 hb ht ha (by omega) hI hL ((S 163 7).toNat + 1) 0 (S 163 7).toNat _ (by omega) (by omega) (by rw [hh0]) (fun q q0 q1 => absurd q1 (by omega))) ⟨rfl, rfl, rfl, rfl, rfl, rfl, trivial⟩
  · skip
    refine wa_iconst ?_
    refine wa_ireturn rfl ?_
    exact ⟨rfl, -1, rfl, Or.inr ⟨rfl, fun q q0 q1 hw => by have := hI.2.2.1 q q0 q1; have := hw.1; omega⟩⟩
end W9a
