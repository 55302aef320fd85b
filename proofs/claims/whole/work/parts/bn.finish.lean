/-! PART bn: the Compiler's finish. -/
section Wbn
variable {xs : List (Nat × List Int32)} {M : Nat → Prop} {d : Nat} {A B C S Z : wS} {Q : wO → wS → Prop} {T : Int → Int} {n : Int} {N X : List (List Int)} {c i : Nat} {f u w : Int} {I : List pz_I} {F : List pz_F}
variable {K Y E K2 Y2 E2 : Int → Int}
/-- how many descriptors the first s sites have -/
noncomputable def dcn (K Y E : Int → Int) : Nat → Int
  | 0 => 0
  | s + 1 => haveI := Classical.propDecidable (∃ o : Nat, o < s ∧ dk K Y E (o : Int) (s : Int)); if ∃ o : Nat, o < s ∧ dk K Y E (o : Int) (s : Int) then dcn K Y E s else dcn K Y E s + 1
theorem dcn_1 {s : Nat} (h : ∃ o : Nat, o < s ∧ dk K Y E (o : Int) (s : Int)) : dcn K Y E (s + 1) = dcn K Y E s := if_pos h
theorem dcn_2 {s : Nat} (h : ¬ ∃ o : Nat, o < s ∧ dk K Y E (o : Int) (s : Int)) : dcn K Y E (s + 1) = dcn K Y E s + 1 := if_neg h
theorem dk_cg {a b : Int} (ha : K2 a = K a ∧ Y2 a = Y a ∧ E2 a = E a) (hb : K2 b = K b ∧ Y2 b = Y b ∧ E2 b = E b) : dk K2 Y2 E2 a b ↔ dk K Y E a b := by
  unfold dk; rw [ha.1, ha.2.1, ha.2.2, hb.1, hb.2.1, hb.2.2]
theorem dcn_cg : ∀ s : Nat, (∀ i : Int, 0 ≤ i → i < (s : Int) → K2 i = K i ∧ Y2 i = Y i ∧ E2 i = E i) → dcn K2 Y2 E2 s = dcn K Y E s := by
  intro s
  induction s with
  | zero => intro _; rfl
  | succ s ih =>
    intro h
    have hi := ih (fun i i0 i1 => h i i0 (by omega))
    have he : (∃ o : Nat, o < s ∧ dk K2 Y2 E2 (o : Int) (s : Int)) ↔ ∃ o : Nat, o < s ∧ dk K Y E (o : Int) (s : Int) := by
      constructor
      · rintro ⟨o, o1, o2⟩; exact ⟨o, o1, (dk_cg (h o (by omega) (by omega)) (h s (by omega) (by omega))).1 o2⟩
      · rintro ⟨o, o1, o2⟩; exact ⟨o, o1, (dk_cg (h o (by omega) (by omega)) (h s (by omega) (by omega))).2 o2⟩
    by_cases q : ∃ o : Nat, o < s ∧ dk K Y E (o : Int) (s : Int)
    · rw [dcn_1 q, dcn_1 (he.2 q), hi]
    · rw [dcn_2 q, dcn_2 (fun z => q (he.1 z)), hi]
/-- descriptors are numbered as they come -/
def dN (K Y E D : Int → Int) (m c : Int) : Prop := c = dcn K Y E m.toNat ∧ ∀ s : Nat, (s : Int) < m → (∀ o : Nat, o < s → ¬ dk K Y E (o : Int) (s : Int)) → D (s : Int) = dcn K Y E s
theorem dN_cg {D D2 : Int → Int} {m c : Int} (h : dN K Y E D m c) (hk : ∀ i : Int, 0 ≤ i → i < m → K2 i = K i ∧ Y2 i = Y i ∧ E2 i = E i ∧ D2 i = D i) : dN K2 Y2 E2 D2 m c := by
  have hk2 : ∀ s : Nat, (s : Int) ≤ m → dcn K2 Y2 E2 s = dcn K Y E s := fun s hs => dcn_cg s (fun i i0 i1 => by obtain ⟨a, b, c, d⟩ := hk i i0 (by omega); exact ⟨a, b, c⟩)
  have hk3 : ∀ i : Int, 0 ≤ i → i < m → K2 i = K i ∧ Y2 i = Y i ∧ E2 i = E i := fun i i0 i1 => by obtain ⟨a, b, c, d⟩ := hk i i0 i1; exact ⟨a, b, c⟩
  refine ⟨?_, fun s hs hn => ?_⟩
  · rw [h.1]
    by_cases hm : 0 ≤ m
    · rw [hk2 m.toNat (by omega)]
    · have : m.toNat = 0 := by omega
      rw [this]; rfl
  · rw [hk2 s (by omega), (hk s (by omega) hs).2.2.2]
    exact h.2 s hs (fun o ho q => hn o ho ((dk_cg (hk3 o (by omega) (by omega)) (hk3 s (by omega) hs)).2 q))
theorem dN_as {k y e fn ins : Int} (h : dN (S 35) (S 36) (S 37) (S 40) (S 19 9) (S 19 16)) (h9 : 0 ≤ S 19 9) (g : as_Q k y e fn ins S Z) : dN (Z 35) (Z 36) (Z 37) (Z 40) (Z 19 9) (Z 19 16) := by
  obtain ⟨⟨a1, -⟩, a2, -, -, a4, -⟩ := g
  have hz := dN_cg (K2 := Z 35) (Y2 := Z 36) (E2 := Z 37) (D2 := Z 40) h (fun i i0 i1 => ⟨a2 35 i (by decide) (by decide) i0 i1, a2 36 i (by decide) (by decide) i0 i1, a2 37 i (by decide) (by decide) i0 i1, a2 40 i (by decide) (by decide) i0 i1⟩)
  have e1 : (S 19 9 + 1).toNat = (S 19 9).toNat + 1 := by omega
  have e2 : (((S 19 9).toNat : Nat) : Int) = S 19 9 := by omega
  rw [a1]
  refine ⟨?_, fun s hs hn => ?_⟩
  · rw [e1]
    rcases a4 with ⟨q1, o, q2, q3, q4⟩ | ⟨q1, q2, q3⟩
    · rw [dcn_1 ⟨o.toNat, by omega, by rw [e2, show ((o.toNat : Nat) : Int) = o by omega]; exact q4⟩, q1]; exact hz.1
    · rw [dcn_2 (fun ⟨o, o1, o2⟩ => q3 (o : Int) (by omega) (by omega) (by rw [e2] at o2; exact o2)), q1, hz.1]
  · by_cases he : (s : Int) = S 19 9
    · rcases a4 with ⟨q1, o, q2, q3, q4⟩ | ⟨q1, q2, q3⟩
      · exact absurd (by rw [he, show ((o.toNat : Nat) : Int) = o by omega]; exact q4) (hn o.toNat (by omega))
      · rw [he, q2, hz.1]; congr 1; omega
    · exact hz.2 s (by omega) hn
/-- how many of the first instructions from b on are sites -/
def fct (O : Int → Int) (b : Int) : Nat → Int
  | 0 => 0
  | i + 1 => fct O b i + (if O (b + (i : Int)) = 27 then 1 else 0)
theorem fct_rg (O : Int → Int) (b : Int) : ∀ i : Nat, 0 ≤ fct O b i ∧ fct O b i ≤ (i : Int) := by
  intro i
  induction i with
  | zero => exact ⟨Int.le_refl _, Int.le_refl _⟩
  | succ i ih =>
    show 0 ≤ fct O b i + (if O (b + (i : Int)) = 27 then 1 else 0) ∧ fct O b i + (if O (b + (i : Int)) = 27 then 1 else 0) ≤ ((i + 1 : Nat) : Int)
    by_cases h : O (b + (i : Int)) = 27
    · rw [if_pos h]; omega
    · rw [if_neg h]; omega
theorem fct_mo (O : Int → Int) (b : Int) {i k : Nat} (h : i ≤ k) : fct O b i ≤ fct O b k := by
  induction h with
  | refl => exact Int.le_refl _
  | step h ih =>
    rename_i m
    show fct O b i ≤ fct O b m + (if O (b + (m : Int)) = 27 then 1 else 0)
    by_cases q : O (b + (m : Int)) = 27
    · rw [if_pos q]; omega
    · rw [if_neg q]; omega
theorem fct_27 {O : Int → Int} {b : Int} {i : Nat} (h : O (b + (i : Int)) = 27) : fct O b (i + 1) = fct O b i + 1 := by show fct O b i + (if O (b + (i : Int)) = 27 then 1 else 0) = _; rw [if_pos h]
theorem fct_no {O : Int → Int} {b : Int} {i : Nat} (h : O (b + (i : Int)) ≠ 27) : fct O b (i + 1) = fct O b i := by show fct O b i + (if O (b + (i : Int)) = 27 then 1 else 0) = _; rw [if_neg h]; omega
/-- an instruction as it ends: s is the number of the site, if it is one -/
def fx (f : Int) (F : List pz_F) (g s op a b : Int) : Int × Int × Int := if op = 27 then (27, s, 0) else if op = 3 ∨ op = 4 then (match rvf f F a F.length g 0 with | none => (op, a, b) | some (o, v) => (if op = 3 then 1 else 2, o, v)) else (op, a, b)
/-- the first i instructions of the function g are finished -/
def fnI (f : Int) (F : List pz_F) (g b sb : Int) (i : Nat) (S Z : wS) : Prop := Z 19 9 = sb + fct (S 31) b i ∧ (∀ k : Nat, k < i → Z 31 (b + k) = (fx f F g (sb + fct (S 31) b k) (S 31 (b + k)) (S 32 (b + k)) (S 33 (b + k))).1 ∧ Z 32 (b + k) = (fx f F g (sb + fct (S 31) b k) (S 31 (b + k)) (S 32 (b + k)) (S 33 (b + k))).2.1 ∧ Z 33 (b + k) = (fx f F g (sb + fct (S 31) b k) (S 31 (b + k)) (S 32 (b + k)) (S 33 (b + k))).2.2) ∧ (∀ x : Int, (x < b ∨ b + (i : Int) ≤ x) → Z 31 x = S 31 x ∧ Z 32 x = S 32 x ∧ Z 33 x = S 33 x) ∧ (∀ k : Nat, k < i → S 31 (b + k) = 27 → Z 35 (sb + fct (S 31) b k) = wb_iand (S 32 (b + k)) 15 ∧ Z 36 (sb + fct (S 31) b k) = S 33 (b + k) ∧ Z 37 (sb + fct (S 31) b k) = wb_ishr (S 32 (b + k)) 4 ∧ Z 38 (sb + fct (S 31) b k) = g ∧ Z 39 (sb + fct (S 31) b k) = (k : Int) ∧ Z 46 (sb + fct (S 31) b k) = -1 ∧ ∀ j : Nat, 41 ≤ j → j ≤ 45 → Z j (sb + fct (S 31) b k) = 0) ∧ (∀ (j : Nat) (x : Int), 35 ≤ j → j ≤ 46 → 0 ≤ x → x < sb → Z j x = S j x) ∧ (∀ (j : Nat) (x : Int), j < 4000000 → j ≠ wG → (j < 31 ∨ 33 < j) → (j < 35 ∨ 46 < j) → j ≠ 58 → j ≠ 59 → j ≠ 60 → (j ≠ 19 ∨ (x ≠ 9 ∧ x ≠ 16)) → Z j x = S j x) ∧ (si_L Z ∧ dN (Z 35) (Z 36) (Z 37) (Z 40) (Z 19 9) (Z 19 16)) ∧ gI Z ∧ rmR S Z
theorem fnI_0 {g b sb : Int} (h9 : S 19 9 = sb) (hs : si_L S) (hd : dN (S 35) (S 36) (S 37) (S 40) (S 19 9) (S 19 16)) (hI : gI S) : fnI f F g b sb 0 S S := ⟨by rw [h9]; show sb = sb + 0; omega, fun k hk => absurd hk (Nat.not_lt_zero _), fun _ _ => ⟨rfl, rfl, rfl⟩, fun k hk => absurd hk (Nat.not_lt_zero _), fun _ _ _ _ _ _ => rfl, fun _ _ _ _ _ _ _ _ _ _ => rfl, ⟨hs, hd⟩, hI, rmR_rfl S⟩
theorem si_L_ag (h : si_L S) (e : ∀ (j : Nat) (x : Int), ((34 ≤ j ∧ j ≤ 46) ∨ j = 58 ∨ j = 59 ∨ j = 60 ∨ (j = 19 ∧ (x = 9 ∨ x = 16))) → Z j x = S j x) : si_L Z := by
  obtain ⟨a1, a2, a3, a4, a5, a6, a7, a8⟩ := h
  have e9 := e 19 9 (by omega)
  have e16 := e 19 16 (by omega)
  have r : ∀ j : Nat, ((34 ≤ j ∧ j ≤ 46) ∨ j = 58 ∨ j = 59 ∨ j = 60) → Z j = S j := fun j hj => funext fun x => e j x (by omega)
  unfold si_L
  rw [e9, e16, r 34 (by omega), r 35 (by omega), r 36 (by omega), r 37 (by omega), r 40 (by omega), r 58 (by omega), r 59 (by omega), r 60 (by omega)]
  exact ⟨a1, fun x hx => by rw [r (35 + x) (by omega)]; exact a2 x hx, a3, a4, a5, a6, a7, a8⟩
/-- what is no site, and stays or becomes a variable's -/
theorem fnI_n {g b sb : Int} {i : Nat} (hb : 0 ≤ b) (h : fnI f F g b sb i S Z) (h27 : S 31 (b + i) ≠ 27) {Z2 : wS} (e1 : Z2 31 (b + i) = (fx f F g (sb + fct (S 31) b i) (S 31 (b + i)) (S 32 (b + i)) (S 33 (b + i))).1 ∧ Z2 32 (b + i) = (fx f F g (sb + fct (S 31) b i) (S 31 (b + i)) (S 32 (b + i)) (S 33 (b + i))).2.1 ∧ Z2 33 (b + i) = (fx f F g (sb + fct (S 31) b i) (S 31 (b + i)) (S 32 (b + i)) (S 33 (b + i))).2.2) (e2 : ∀ (j : Nat) (x : Int), ((j < 31 ∨ 33 < j) ∨ x ≠ b + (i : Int)) → Z2 j x = Z j x) (gi : gI Z2) (rm : rmR Z Z2) : fnI f F g b sb (i + 1) S Z2 := by
  obtain ⟨a1, a2, a3, a4, a5, a6, ⟨a7, a8⟩, a9, a10⟩ := h
  refine ⟨?_, fun k hk => ?_, fun x hx => ?_, fun k hk hk2 => ?_, fun j x j0 j1 x0 x1 => (e2 j x (by omega)).trans (a5 j x j0 j1 x0 x1), fun j x j0 j1 j2 j3 j4 j5 j6 j7 => (e2 j x (by omega)).trans (a6 j x j0 j1 j2 j3 j4 j5 j6 j7), ⟨si_L_ag a7 (fun j x hj => e2 j x (by omega)), ?_⟩, gi, rmR_tr a10 rm⟩
  · rw [e2 19 9 (by omega), a1, fct_no h27]
  · by_cases hki : k = i
    · subst hki; exact e1
    · rw [e2 31 _ (by omega), e2 32 _ (by omega), e2 33 _ (by omega)]; exact a2 k (by omega)
  · rw [e2 31 _ (by omega), e2 32 _ (by omega), e2 33 _ (by omega)]; exact a3 x (by omega)
  · have hki : k ≠ i := fun q => h27 (q ▸ hk2)
    obtain ⟨q1, q2, q3, q4, q5, q6, q7⟩ := a4 k (by omega) hk2
    rw [e2 35 _ (by omega), e2 36 _ (by omega), e2 37 _ (by omega), e2 38 _ (by omega), e2 39 _ (by omega), e2 46 _ (by omega)]
    exact ⟨q1, q2, q3, q4, q5, q6, fun j j0 j1 => (e2 j _ (by omega)).trans (q7 j j0 j1)⟩
  · have r : ∀ j : Nat, 33 < j → Z2 j = Z j := fun j hj => funext fun x => e2 j x (by omega)
    rw [r 35 (by omega), r 36 (by omega), r 37 (by omega), r 40 (by omega), e2 19 9 (by omega), e2 19 16 (by omega)]
    exact a8
/-- a site -/
theorem fnI_s {g b sb : Int} {i : Nat} (hb : 0 ≤ b) (hsb : 0 ≤ sb) (h : fnI f F g b sb i S Z) (h27 : S 31 (b + i) = 27) {Z1 Z2 : wS} (q : as_Q (wb_iand (S 32 (b + i)) 15) (S 33 (b + i)) (wb_ishr (S 32 (b + i)) 4) g (i : Int) Z Z1) (e1 : Z2 31 (b + i) = 27 ∧ Z2 32 (b + i) = Z 19 9 ∧ Z2 33 (b + i) = 0) (e2 : ∀ (j : Nat) (x : Int), ((j < 31 ∨ 33 < j) ∨ x ≠ b + (i : Int)) → Z2 j x = Z1 j x) (gi : gI Z2) (rm : rmR Z1 Z2) : fnI f F g b sb (i + 1) S Z2 := by
  have hdn := dN_as h.2.2.2.2.2.2.1.2 h.2.2.2.2.2.2.1.1.1.1 q
  obtain ⟨a1, a2, a3, a4, a5, a6, ⟨a7, a8⟩, a9, a10⟩ := h
  obtain ⟨⟨c1, c2, c3, c4, c5, c6, c7, c8⟩, b2, b3, b4, b5, b6, b7⟩ := q
  have hr := fct_rg (S 31) b i
  have fxe : fx f F g (sb + fct (S 31) b i) (S 31 (b + i)) (S 32 (b + i)) (S 33 (b + i)) = (27, sb + fct (S 31) b i, 0) := if_pos h27
  have b3x : ∀ (j : Nat) (x : Int), (31 ≤ j ∧ j ≤ 33) → Z1 j x = Z j x := fun j x hj => b3 j x (by omega) (by have : wG = 1000000 := rfl; omega) (by omega) (by omega) (by omega) (by omega) (by omega)
  refine ⟨?_, fun k hk => ?_, fun x hx => ?_, fun k hk hk2 => ?_, fun j x j0 j1 x0 x1 => ?_, fun j x j0 j1 j2 j3 j4 j5 j6 j7 => (e2 j x (by omega)).trans ((b3 j x j0 j1 j3 j4 j5 j6 j7).trans (a6 j x j0 j1 j2 j3 j4 j5 j6 j7)), ⟨si_L_ag b4 (fun j x hj => e2 j x (by omega)), ?_⟩, gi, rmR_tr a10 (rmR_tr b7 rm)⟩
  · rw [e2 19 9 (by omega), c1, a1, fct_27 h27]; omega
  · by_cases hki : k = i
    · subst hki
      rw [fxe]
      exact ⟨e1.1, e1.2.1.trans a1, e1.2.2⟩
    · rw [e2 31 _ (by omega), e2 32 _ (by omega), e2 33 _ (by omega), b3x 31 _ (by omega), b3x 32 _ (by omega), b3x 33 _ (by omega)]; exact a2 k (by omega)
  · rw [e2 31 _ (by omega), e2 32 _ (by omega), e2 33 _ (by omega), b3x 31 _ (by omega), b3x 32 _ (by omega), b3x 33 _ (by omega)]; exact a3 x (by omega)
  · have hz : ∀ (j : Nat) (x : Int), 33 < j → Z2 j x = Z1 j x := fun j x hj => e2 j x (by omega)
    by_cases hki : k = i
    · subst hki
      rw [← a1, hz 35 _ (by omega), hz 36 _ (by omega), hz 37 _ (by omega), hz 38 _ (by omega), hz 39 _ (by omega), hz 46 _ (by omega)]
      exact ⟨c2, c3, c4, c5, c6, c7, fun j j0 j1 => (hz j _ (by omega)).trans (c8 j j0 j1)⟩
    · obtain ⟨q1, q2, q3, q4, q5, q6, q7⟩ := a4 k (by omega) hk2
      have hf1 := fct_mo (S 31) b (show k + 1 ≤ i by omega)
      have hf2 := fct_27 hk2
      have hf3 := (fct_rg (S 31) b k).1
      have hy : ∀ j : Nat, 35 ≤ j → j ≤ 46 → Z2 j (sb + fct (S 31) b k) = Z j (sb + fct (S 31) b k) := fun j j0 j1 => (hz j _ (by omega)).trans (b2 j _ j0 j1 (by omega) (by omega))
      rw [hy 35 (by omega) (by omega), hy 36 (by omega) (by omega), hy 37 (by omega) (by omega), hy 38 (by omega) (by omega), hy 39 (by omega) (by omega), hy 46 (by omega) (by omega)]
      exact ⟨q1, q2, q3, q4, q5, q6, fun j j0 j1 => (hy j (by omega) (by omega)).trans (q7 j j0 j1)⟩
  · exact (e2 j x (by omega)).trans ((b2 j x j0 j1 x0 (by omega)).trans (a5 j x j0 j1 x0 x1))
  · have r : ∀ j : Nat, 33 < j → Z2 j = Z1 j := fun j hj => funext fun x => e2 j x (by omega)
    rw [r 35 (by omega), r 36 (by omega), r 37 (by omega), r 40 (by omega), e2 19 9 (by omega), e2 19 16 (by omega)]
    exact hdn
theorem wz_fi : ∀ q ∈ wz_n, (q.1 < 31 ∨ 33 < q.1) ∧ (q.1 < 35 ∨ 46 < q.1) ∧ q.1 ≠ 58 ∧ q.1 ≠ 59 ∧ q.1 ≠ 60 := by decide +kernel
theorem wb_and15 (x : Int) : 0 ≤ wb_iand x 15 ∧ wb_iand x 15 ≤ 15 := by
  have h : wb_iand x 15 = ((Int32.ofInt x &&& 15).toInt) := rfl
  have h1 : (Int32.ofInt x &&& 15).toBitVec = BitVec.ofNat 32 ((Int32.ofInt x).toBitVec.toNat % 16) := by
    apply BitVec.eq_of_toNat_eq
    rw [Int32.toBitVec_and, BitVec.toNat_and, BitVec.toNat_ofNat]
    have h2 : (15 : Int32).toBitVec.toNat = 2 ^ 4 - 1 := by decide
    rw [h2, Nat.and_two_pow_sub_one_eq_mod]
    have := Nat.mod_lt (Int32.ofInt x).toBitVec.toNat (show 0 < 16 by decide)
    rw [Nat.mod_eq_of_lt (a := (Int32.ofInt x).toBitVec.toNat % 16) (by omega)]
  have h3 := Nat.mod_lt (Int32.ofInt x).toBitVec.toNat (show 0 < 16 by decide)
  rw [h]
  show 0 ≤ (Int32.ofInt x &&& 15).toBitVec.toInt ∧ (Int32.ofInt x &&& 15).toBitVec.toInt ≤ 15
  rw [h1, BitVec.toInt_eq_toNat_of_lt]
  · rw [BitVec.toNat_ofNat, Nat.mod_eq_of_lt (a := (Int32.ofInt x).toBitVec.toNat % 16) (by omega)]
    omega
  · rw [BitVec.toNat_ofNat, Nat.mod_eq_of_lt (a := (Int32.ofInt x).toBitVec.toNat % 16) (by omega)]
    omega
theorem i32_rg (x : Int32) : -2147483648 ≤ x.toInt ∧ x.toInt ≤ 2147483647 := by
  have h1 := Int32.le_toInt x
  have h2 := Int32.toInt_lt x
  omega
theorem wb_shr_rg (x y : Int) : -2147483648 ≤ wb_ishr x y ∧ wb_ishr x y ≤ 2147483647 := i32_rg _
set_option maxHeartbeats 4000000 in
theorem fin_l {g b sb : Int} {h : Nat} (hk : kf_I f F S) (hg : f ≤ g ∧ g < f + (F.length : Int)) (h27 : S 27 g = b) (h24 : S 24 g = (h : Int)) (hb : 0 ≤ b ∧ b + (h : Int) ≤ S 31 (-1) ∧ S 31 (-1) ≤ 40000) (l32 : S 32 (-1) = S 31 (-1)) (l33 : S 33 (-1) = S 31 (-1)) (h25 : S 25 g = sb) (hsb : 0 ≤ sb ∧ sb + fct (S 31) b h ≤ 4000) : ∀ (fu i : Nat) (Z : wS), h - i < fu → i ≤ h → fnI f F g b sb i S Z → wJ (pe_GA xs) wY0 (mS [35, 36, 37, 38, 39, 40, 41, 42, 43, 44, 45, 46, 58, 59]) (d + 4) t_XP_finish ((pe_at t_XP_finish.bl 1).getD (0, [])).2 [(0, (2, 63)), (1, (0, g)), (2, (0, (i : Int)))] [] Z (fun o Z => o = .inl none ∧ ∃ Z1 : wS, fnI f F g b sb h S Z1 ∧ Z = w_up Z1 26 g (fct (S 31) b h)) := by
  have h0 := hk.2.1
  intro fu
  induction fu with
  | zero => intro i Z hm; exact absurd hm (Nat.not_lt_zero _)
  | succ fu ih =>
    intro i Z hm hi hz
    have z := hz
    obtain ⟨a1, a2, a3, a4, a5, a6, ⟨a7, a8⟩, a9, a10⟩ := z
    have hr := fct_rg (S 31) b i
    have hmo := fct_mo (S 31) b hi
    have e24 : Z 24 g = (h : Int) := (a6 24 g (by decide) (by decide) (by decide) (by decide) (by decide) (by decide) (by decide) (Or.inl (by decide))).trans h24
    have e25 : Z 25 g = sb := (a6 25 g (by decide) (by decide) (by decide) (by decide) (by decide) (by decide) (by decide) (Or.inl (by decide))).trans h25
    have e27 : Z 27 g = b := (a6 27 g (by decide) (by decide) (by decide) (by decide) (by decide) (by decide) (by decide) (Or.inl (by decide))).trans h27
    have q31 := (a3 (-1) (Or.inl (by omega))).1
    have q32 := (a3 (-1) (Or.inl (by omega))).2.1
    have q33 := (a3 (-1) (Or.inl (by omega))).2.2
    obtain ⟨o31, o32, o33⟩ := a3 (b + (i : Int)) (Or.inr (by omega))
    have zC : w_CL Z := fun y hy => (a6 y.1 (-1) (by have := wz_lt y hy; omega) (by have := wz_lt y hy; unfold wG; omega) (by have := wz_fi y hy; omega) (by have := wz_fi y hy; omega) (by have := wz_fi y hy; omega) (by have := wz_fi y hy; omega) (by have := wz_fi y hy; omega) (Or.inr (by omega))).trans (hk.1.1 y hy)
    have zk : kf_I f F Z := kf_ag hk zC (fun j x hj => a6 j x (by omega) (by have : wG = 1000000 := rfl; omega) (by omega) (by omega) (by omega) (by omega) (by omega) (by omega))
    have hC := zC
    have hR := rmR_rfl Z
    refine wa_iload_n (n := 2) rfl ?_
    refine wa_aload_n (n := 0) rfl ?_
    refine wb_gf4 63 rfl (wy_pr rfl) wt_63 wf_1_9 (v := 20) wl_63_9 ?_
    refine wa_iconst ?_
    refine wb_aald5 20 3 rfl rfl (wy_pr rfl) wt_20 (by rw [show _ = _ from ((cl_20 hC))]; omega) wl_20_3 ?_
    refine wa_iload_n (n := 1) rfl ?_
    refine wb_iald 24 rfl (wy_pr rfl) wt_24 (n := 400) ((cl_24 hC)) (by omega) (by omega) (v := (h : Int)) (e24) (fun r101 => ?_)
    refine wa_icmpge (w_rg0 (by omega) (by omega)) (w_rg0 (by omega) (by omega)) ⟨_, rfl⟩ (fun c102 => ?_) (fun c102 => ?_)
    · skip
      refine wa_aload_n (n := 0) rfl ?_
      refine wb_gf4 63 rfl (wy_pr rfl) wt_63 wf_1_9 (v := 20) wl_63_9 ?_
      refine wa_iconst ?_
      refine wb_aald5 20 5 rfl rfl (wy_pr rfl) wt_20 (by rw [show _ = _ from ((cl_20 hC))]; omega) wl_20_5 ?_
      refine wa_iload_n (n := 1) rfl ?_
      refine wa_aload_n (n := 0) rfl ?_
      refine wb_gf4 63 rfl (wy_pr rfl) wt_63 wf_1_2 (v := 19) wl_63_2 ?_
      refine wb_gfi 19 rfl (wy_pr rfl) wt_19 wf_0_9 (v := (sb + fct (S 31) b i)) (a1) (fun r103 => ?_)
      refine wa_aload_n (n := 0) rfl ?_
      refine wb_gf4 63 rfl (wy_pr rfl) wt_63 wf_1_9 (v := 20) wl_63_9 ?_
      refine wa_iconst ?_
      refine wb_aald5 20 4 rfl rfl (wy_pr rfl) wt_20 (by rw [show _ = _ from ((cl_20 hC))]; omega) wl_20_4 ?_
      refine wa_iload_n (n := 1) rfl ?_
      refine wb_iald 25 rfl (wy_pr rfl) wt_25 (n := 400) ((cl_25 hC)) (by omega) (by omega) (v := sb) (e25) (fun r104 => ?_)
      refine wa_isub ?_
      refine wb_iast 26 rfl (wy_pr rfl) wt_26 (n := 400) ((cl_26 hC)) (by omega) (by omega) ⟨(by omega), (by omega)⟩ ?_
      refine wa_return rfl ?_
      have ei : i = h := by omega
      subst ei
      exact ⟨rfl, Z, hz, by rw [show (sb + fct (S 31) b i - sb) = fct (S 31) b i by omega]⟩
    · skip
      refine wa_aload_n (n := 0) rfl ?_
      refine wb_gf4 63 rfl (wy_pr rfl) wt_63 wf_1_9 (v := 20) wl_63_9 ?_
      refine wa_bipush (w_rg2 (by omega) (by omega)) ?_
      refine wb_aald5 20 6 rfl rfl (wy_pr rfl) wt_20 (by rw [show _ = _ from ((cl_20 hC))]; omega) wl_20_6 ?_
      refine wa_iload_n (n := 1) rfl ?_
      refine wb_iald 27 rfl (wy_pr rfl) wt_27 (n := 400) ((cl_27 hC)) (by omega) (by omega) (v := b) (e27) (fun r105 => ?_)
      refine wa_iload_n (n := 2) rfl ?_
      refine wa_iadd ?_
      refine wa_istore_n (n := 3) rfl ?_
      refine wa_aload_n (n := 0) rfl ?_
      refine wb_gf4 63 rfl (wy_pr rfl) wt_63 wf_1_2 (v := 19) wl_63_2 ?_
      refine wb_gf4 19 rfl (wy_pr rfl) wt_19 wf_0_4 (v := 31) wl_19_4 ?_
      refine wa_iload_n (n := 3) rfl ?_
      refine wb_iald 31 rfl (wy_pr rfl) wt_31 (n := (S 31 (-1))) (q31) (by omega) (by omega) (v := (S 31 (b + (i : Int)))) (o31) (fun r106 => ?_)
      refine wa_istore (n := 4) rfl ?_
      refine wa_iload (n := 4) rfl ?_
      refine wa_bipush (w_rg2 (by omega) (by omega)) ?_
      refine wa_icmpne (w_rg0 (by omega) (by omega)) (w_rg0 (by omega) (by omega)) ⟨_, rfl⟩ (fun c107 => ?_) (fun c107 => ?_)
      · skip
        refine wa_iload (n := 4) rfl ?_
        refine wa_iconst ?_
        refine wa_icmpeq (w_rg0 (by omega) (by omega)) (w_rg0 (by omega) (by omega)) ⟨_, rfl⟩ (fun c108 => ?_) (fun c108 => ?_)
        · skip
          refine wa_aload_n (n := 0) rfl ?_
          refine wa_iload_n (n := 1) rfl ?_
          refine wa_iload_n (n := 3) rfl ?_
          refine wa_cv 63 rfl (wy_pr rfl) wt_63 (M2 := fun _ => False) rfl at_XP_resolve ⟨_, rfl⟩ rfl rfl ⟨trivial, trivial, (Or.inr ⟨wy_pr rfl, fun q => q⟩), trivial, trivial, trivial⟩ trivial (fun _ _ q => False.elim q) (rs_ok (S := Z) (at0 := (b + (i : Int))) (g := g) zk hg ⟨by omega, by omega⟩ (q32.trans (l32.trans q31.symm)) (q33.trans (l33.trans q31.symm))) (fun oq109 Sq109 hp110 q109 => ?_)
          rcases q109 with ⟨rfl, hrs⟩
          show wJ _ _ _ _ _ _ _ _ _ _
          refine wa_fall ⟨_, rfl⟩ ?_
          refine wa_iinc rfl rfl ?_
          refine wa_goto ⟨_, rfl⟩ ?_
          rw [show ((i : Int) + 1) = ((i + 1 : Nat) : Int) by omega]
          have hz2 : fnI f F g b sb (i + 1) S Sq109 := by
            cases hv : rvf f F (S 32 (b + (i : Int))) F.length g 0 with
            | none =>
              rw [o32, hv] at hrs
              have fxe : fx f F g (sb + fct (S 31) b i) (S 31 (b + (i : Int))) (S 32 (b + (i : Int))) (S 33 (b + (i : Int))) = (S 31 (b + (i : Int)), S 32 (b + (i : Int)), S 33 (b + (i : Int))) := by unfold fx; rw [if_neg (by omega), if_pos (by omega), hv]
              have e : Z = Sq109 := hrs
              rw [← e]
              exact fnI_n hb.1 hz (by omega) (by rw [fxe]; exact ⟨o31, o32, o33⟩) (fun _ _ _ => rfl) a9 hR
            | some q =>
              rw [o32, hv] at hrs
              have fxe : fx f F g (sb + fct (S 31) b i) (S 31 (b + (i : Int))) (S 32 (b + (i : Int))) (S 33 (b + (i : Int))) = (if S 31 (b + (i : Int)) = 3 then 1 else 2, q.1, q.2) := by unfold fx; rw [if_neg (by omega), if_pos (by omega), hv]
              have e : w_up (w_up (w_up Z 31 (b + (i : Int)) (if Z 31 (b + (i : Int)) = 3 then 1 else 2)) 32 (b + (i : Int)) q.1) 33 (b + (i : Int)) q.2 = Sq109 := hrs
              rw [← e]
              refine fnI_n hb.1 hz (by omega) (by rw [fxe, o31]; exact ⟨(w_up_slot (by decide)).trans ((w_up_slot (by decide)).trans (w_up_same _ _ _ _)), (w_up_slot (by decide)).trans (w_up_same _ _ _ _), w_up_same _ _ _ _⟩) (fun j x hj => (w_up_no (by omega)).trans ((w_up_no (by omega)).trans ((w_up_no (by omega)).trans (rfl)))) (gI_up (gI_up (gI_up a9 (by omega) (by omega) (by omega)) (by omega) (by omega) (by omega)) (by omega) (by omega) (by omega)) (rmR_up (rmR_up (rmR_up (rmR_rfl Z) (by omega) (by decide)) (by omega) (by decide)) (by omega) (by decide))
          exact wJ_S (ih (i + 1) _ (by omega) (by omega) hz2) ⟨rfl, rfl, rfl, trivial⟩
        · skip
          refine wa_iload (n := 4) rfl ?_
          refine wa_iconst ?_
          refine wa_icmpne (w_rg0 (by omega) (by omega)) (w_rg0 (by omega) (by omega)) ⟨_, rfl⟩ (fun c111 => ?_) (fun c111 => ?_)
          · skip
            refine wa_iinc rfl rfl ?_
            refine wa_goto ⟨_, rfl⟩ ?_
            rw [show ((i : Int) + 1) = ((i + 1 : Nat) : Int) by omega]
            have fxe : fx f F g (sb + fct (S 31) b i) (S 31 (b + (i : Int))) (S 32 (b + (i : Int))) (S 33 (b + (i : Int))) = (S 31 (b + (i : Int)), S 32 (b + (i : Int)), S 33 (b + (i : Int))) := by unfold fx; rw [if_neg (by omega), if_neg (by omega)]
            have hz2 : fnI f F g b sb (i + 1) S Z := fnI_n hb.1 hz (by omega) (by rw [fxe]; exact ⟨o31, o32, o33⟩) (fun _ _ _ => rfl) a9 hR
            exact wJ_S (ih (i + 1) _ (by omega) (by omega) hz2) ⟨rfl, rfl, rfl, trivial⟩
          · skip
            refine wa_fall ⟨_, rfl⟩ ?_
            refine wa_aload_n (n := 0) rfl ?_
            refine wa_iload_n (n := 1) rfl ?_
            refine wa_iload_n (n := 3) rfl ?_
            refine wa_cv 63 rfl (wy_pr rfl) wt_63 (M2 := fun _ => False) rfl at_XP_resolve ⟨_, rfl⟩ rfl rfl ⟨trivial, trivial, (Or.inr ⟨wy_pr rfl, fun q => q⟩), trivial, trivial, trivial⟩ trivial (fun _ _ q => False.elim q) (rs_ok (S := Z) (at0 := (b + (i : Int))) (g := g) zk hg ⟨by omega, by omega⟩ (q32.trans (l32.trans q31.symm)) (q33.trans (l33.trans q31.symm))) (fun oq112 Sq112 hp113 q112 => ?_)
            rcases q112 with ⟨rfl, hrs⟩
            show wJ _ _ _ _ _ _ _ _ _ _
            refine wa_fall ⟨_, rfl⟩ ?_
            refine wa_iinc rfl rfl ?_
            refine wa_goto ⟨_, rfl⟩ ?_
            rw [show ((i : Int) + 1) = ((i + 1 : Nat) : Int) by omega]
            have hz2 : fnI f F g b sb (i + 1) S Sq112 := by
              cases hv : rvf f F (S 32 (b + (i : Int))) F.length g 0 with
              | none =>
                rw [o32, hv] at hrs
                have fxe : fx f F g (sb + fct (S 31) b i) (S 31 (b + (i : Int))) (S 32 (b + (i : Int))) (S 33 (b + (i : Int))) = (S 31 (b + (i : Int)), S 32 (b + (i : Int)), S 33 (b + (i : Int))) := by unfold fx; rw [if_neg (by omega), if_pos (by omega), hv]
                have e : Z = Sq112 := hrs
                rw [← e]
                exact fnI_n hb.1 hz (by omega) (by rw [fxe]; exact ⟨o31, o32, o33⟩) (fun _ _ _ => rfl) a9 hR
              | some q =>
                rw [o32, hv] at hrs
                have fxe : fx f F g (sb + fct (S 31) b i) (S 31 (b + (i : Int))) (S 32 (b + (i : Int))) (S 33 (b + (i : Int))) = (if S 31 (b + (i : Int)) = 3 then 1 else 2, q.1, q.2) := by unfold fx; rw [if_neg (by omega), if_pos (by omega), hv]
                have e : w_up (w_up (w_up Z 31 (b + (i : Int)) (if Z 31 (b + (i : Int)) = 3 then 1 else 2)) 32 (b + (i : Int)) q.1) 33 (b + (i : Int)) q.2 = Sq112 := hrs
                rw [← e]
                refine fnI_n hb.1 hz (by omega) (by rw [fxe, o31]; exact ⟨(w_up_slot (by decide)).trans ((w_up_slot (by decide)).trans (w_up_same _ _ _ _)), (w_up_slot (by decide)).trans (w_up_same _ _ _ _), w_up_same _ _ _ _⟩) (fun j x hj => (w_up_no (by omega)).trans ((w_up_no (by omega)).trans ((w_up_no (by omega)).trans (rfl)))) (gI_up (gI_up (gI_up a9 (by omega) (by omega) (by omega)) (by omega) (by omega) (by omega)) (by omega) (by omega) (by omega)) (rmR_up (rmR_up (rmR_up (rmR_rfl Z) (by omega) (by decide)) (by omega) (by decide)) (by omega) (by decide))
            exact wJ_S (ih (i + 1) _ (by omega) (by omega) hz2) ⟨rfl, rfl, rfl, trivial⟩
      · skip
        refine wa_aload_n (n := 0) rfl ?_
        refine wb_gf4 63 rfl (wy_pr rfl) wt_63 wf_1_2 (v := 19) wl_63_2 ?_
        refine wb_gf4 19 rfl (wy_pr rfl) wt_19 wf_0_5 (v := 32) wl_19_5 ?_
        refine wa_iload_n (n := 3) rfl ?_
        refine wb_iald 32 rfl (wy_pr rfl) wt_32 (n := (S 31 (-1))) ((q32.trans l32)) (by omega) (by omega) (v := (S 32 (b + (i : Int)))) (o32) (fun r114 => ?_)
        refine wa_istore (n := 5) rfl ?_
        refine wa_aload_n (n := 0) rfl ?_
        refine wb_gf4 63 rfl (wy_pr rfl) wt_63 wf_1_2 (v := 19) wl_63_2 ?_
        refine wb_gf4 19 rfl (wy_pr rfl) wt_19 wf_0_5 (v := 32) wl_19_5 ?_
        refine wa_iload_n (n := 3) rfl ?_
        refine wa_aload_n (n := 0) rfl ?_
        refine wb_gf4 63 rfl (wy_pr rfl) wt_63 wf_1_2 (v := 19) wl_63_2 ?_
        refine wa_iload (n := 5) rfl ?_
        refine wa_bipush (w_rg2 (by omega) (by omega)) ?_
        refine wa_fall ⟨_, rfl⟩ ?_
        refine wa_iand ?_
        refine wa_aload_n (n := 0) rfl ?_
        refine wb_gf4 63 rfl (wy_pr rfl) wt_63 wf_1_2 (v := 19) wl_63_2 ?_
        refine wb_gf4 19 rfl (wy_pr rfl) wt_19 wf_0_6 (v := 33) wl_19_6 ?_
        refine wa_iload_n (n := 3) rfl ?_
        refine wb_iald 33 rfl (wy_pr rfl) wt_33 (n := (S 31 (-1))) ((q33.trans l33)) (by omega) (by omega) (v := (S 33 (b + (i : Int)))) (o33) (fun r115 => ?_)
        refine wa_iload (n := 5) rfl ?_
        refine wa_iconst ?_
        refine wa_ishr ?_
        refine wa_iload_n (n := 1) rfl ?_
        refine wa_iload_n (n := 2) rfl ?_
        have hfx := fct_27 (O := S 31) (b := b) (i := i) (by omega)
        have hfm := fct_mo (S 31) b (show i + 1 ≤ h by omega)
        have hx15 := wb_and15 (S 32 (b + (i : Int)))
        have hx4 := wb_shr_rg (S 32 (b + (i : Int))) 4
        refine wa_cv 19 rfl (wy_pr rfl) wt_19 (M2 := mS [35, 36, 37, 38, 39, 40, 41, 42, 43, 44, 45, 46, 58, 59]) rfl at_XC_addSite ⟨_, rfl⟩ rfl rfl ⟨trivial, trivial, trivial, (Or.inr ⟨wy_pr rfl, mS_no rfl⟩), trivial, trivial, trivial⟩ ⟨trivial, (Or.inr ⟨wy_pr rfl, mS_no rfl⟩), trivial⟩ (fun _ _ q => q) (as_ok (S := Z) (k := (wb_iand (S 32 (b + (i : Int))) 15)) (y := (S 33 (b + (i : Int)))) (e := (wb_ishr (S 32 (b + (i : Int))) 4)) (fn := g) (ins := (i : Int)) a9 a7 (by omega) ⟨by omega, by omega⟩ ⟨by omega, by omega⟩ ⟨by omega, by omega⟩ ⟨by omega, by omega⟩ ⟨by omega, by omega⟩) (fun oq116 Sq116 hp117 q116 => ?_)
        rcases q116 with ⟨rfl, hq⟩
        show wJ _ _ _ _ _ _ _ _ _ _
        have rZ9 : 0 ≤ Z 19 9 ∧ Z 19 9 ≤ 4000 := ⟨by omega, by omega⟩
        refine wb_iast 32 rfl (wy_pr rfl) wt_32 (n := (S 31 (-1))) (((hq.2.2.1 32 (-1) (by decide) (by decide) (by decide) (by decide) (by decide) (by decide) (Or.inl (by decide))).trans (q32.trans l32))) (by omega) (by omega) ⟨(by omega), (by omega)⟩ ?_
        refine wa_aload_n (n := 0) rfl ?_
        refine wb_gf4 63 rfl (wy_pr rfl) wt_63 wf_1_2 (v := 19) wl_63_2 ?_
        refine wb_gf4 19 rfl (wy_pr rfl) wt_19 wf_0_6 (v := 33) wl_19_6 ?_
        refine wa_iload_n (n := 3) rfl ?_
        refine wa_iconst ?_
        refine wb_iast 33 rfl (wy_pr rfl) wt_33 (n := (S 31 (-1))) ((w_up_slot (by decide)).trans (((hq.2.2.1 33 (-1) (by decide) (by decide) (by decide) (by decide) (by decide) (by decide) (Or.inl (by decide))).trans (q33.trans l33)))) (by omega) (by omega) ⟨(by omega), (by omega)⟩ ?_
        refine wa_goto ⟨_, rfl⟩ ?_
        refine wa_iinc rfl rfl ?_
        refine wa_goto ⟨_, rfl⟩ ?_
        rw [show ((i : Int) + 1) = ((i + 1 : Nat) : Int) by omega]
        have hz2 : fnI f F g b sb (i + 1) S (w_up (w_up Sq116 32 (b + (i : Int)) (Z 19 9)) 33 (b + (i : Int)) 0) := fnI_s hb.1 hsb.1 hz (by omega) hq ⟨(((w_up_slot (by decide)).trans ((w_up_slot (by decide)).trans (((hq.2.2.1 31 (b + (i : Int)) (by decide) (by decide) (by decide) (by decide) (by decide) (by decide) (Or.inl (by decide))).trans o31))))).trans (by omega), ((w_up_slot (by decide)).trans (w_up_same _ _ _ _)), (w_up_same _ _ _ _)⟩ (fun j x hj => (w_up_no (by omega)).trans ((w_up_no (by omega)).trans (rfl))) (gI_up (gI_up hq.2.2.2.2.2.1 (by omega) (by omega) (by omega)) (by omega) (by omega) (by omega)) (rmR_up (rmR_up (rmR_rfl Sq116) (by omega) (by decide)) (by omega) (by decide))
        exact wJ_S (ih (i + 1) _ (by omega) (by omega) hz2) ⟨rfl, rfl, rfl, trivial⟩
theorem fin_ok {g b : Int} {h : Nat} (hk : kf_I f F S) (hg : f ≤ g ∧ g < f + (F.length : Int)) (h27 : S 27 g = b) (h24 : S 24 g = (h : Int)) (hb : 0 ≤ b ∧ b + (h : Int) ≤ S 31 (-1) ∧ S 31 (-1) ≤ 40000) (l32 : S 32 (-1) = S 31 (-1)) (l33 : S 33 (-1) = S 31 (-1)) (hs : si_L S) (hd : dN (S 35) (S 36) (S 37) (S 40) (S 19 9) (S 19 16)) (hI : gI S) (h9 : S 19 9 + fct (S 31) b h ≤ 4000) : wJ (pe_GA xs) wY0 (mS [35, 36, 37, 38, 39, 40, 41, 42, 43, 44, 45, 46, 58, 59]) (d + 4) t_XP_finish ((pe_at t_XP_finish.bl 0).getD (0, [])).2 [(0, (2, 63)), (1, (0, g))] [] S (fun o Z => o = .inl none ∧ ∃ Z1 : wS, fnI f F g b (S 19 9) h (w_up S 25 g (S 19 9)) Z1 ∧ Z = w_up Z1 26 g (fct (S 31) b h)) := by
  have hC := hk.1.1
  have h0 := hk.2.1
  have hs0 := hs.1
  refine wa_aload_n (n := 0) rfl ?_
  refine wb_gf4 63 rfl (wy_pr rfl) wt_63 wf_1_9 (v := 20) wl_63_9 ?_
  refine wa_iconst ?_
  refine wb_aald5 20 4 rfl rfl (wy_pr rfl) wt_20 (by rw [show _ = _ from ((cl_20 hC))]; omega) wl_20_4 ?_
  refine wa_iload_n (n := 1) rfl ?_
  refine wa_aload_n (n := 0) rfl ?_
  refine wb_gf4 63 rfl (wy_pr rfl) wt_63 wf_1_2 (v := 19) wl_63_2 ?_
  refine wb_gfi 19 rfl (wy_pr rfl) wt_19 wf_0_9 (v := (S 19 9)) rfl (fun r101 => ?_)
  refine wb_iast 25 rfl (wy_pr rfl) wt_25 (n := 400) ((cl_25 hC)) (by omega) (by omega) ⟨(by omega), (by omega)⟩ ?_
  refine wa_iconst ?_
  refine wa_istore_n (n := 2) rfl ?_
  refine wa_fall ⟨_, rfl⟩ ?_
  have zk : kf_I f F (w_up S 25 g (S 19 9)) := kf_ag hk (w_CL_up hk.1.1 (by omega)) (fun j x hj => w_up_no (by omega))
  exact wJ_S (fin_l (S := (w_up S 25 g (S 19 9))) zk hg h27 h24 hb l32 l33 (w_up_same _ _ _ _) ⟨hs0.1, h9⟩ (h + 1) 0 _ (by omega) (Nat.zero_le _) (fnI_0 rfl (si_L_ag hs (fun j x hj => w_up_no (by omega))) hd (gI_up hI (by omega) (by omega) (by omega)))) ⟨rfl, rfl, rfl, trivial⟩
end Wbn
