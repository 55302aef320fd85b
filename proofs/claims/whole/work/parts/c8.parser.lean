/-! PART c8: the reference's parser as a relation; its operators. -/
section Wc8
variable {xs : List (Nat × List Int32)} {M : Nat → Prop} {d : Nat} {A B C S Z S0 : wS} {Q : wO → wS → Prop} {T : Int → Int} {n f0 u dp b0 b1 : Int} {N X : List (List Int)} {c i k pm : Nat} {I : List pz_I} {F : List pz_F} {o : pz_O}
variable {PA : Nat → Int} {R : pz_R} {K V P : Nat → Int} {f : Int} {I2 I3 : List pz_I} {x z : pz_I} {v : Int}
/-- the one's instructions stand ahead of the other's -/
def pz_px (I I2 : List pz_I) : Prop := ∃ J : List pz_I, I2 = I ++ J
theorem px_rfl : pz_px I I := ⟨[], (List.append_nil I).symm⟩
theorem px_tr (h : pz_px I I2) (k : pz_px I2 I3) : pz_px I I3 := by
  obtain ⟨J, rfl⟩ := h
  obtain ⟨J2, rfl⟩ := k
  exact ⟨J ++ J2, List.append_assoc _ _ _⟩
theorem px_ap (I : List pz_I) (x : pz_I) : pz_px I (I ++ [x]) := ⟨[x], rfl⟩
theorem px_len (h : pz_px I I2) : I.length ≤ I2.length := by
  obtain ⟨J, rfl⟩ := h
  rw [List.length_append]; exact Nat.le_add_right _ _
theorem px_len1 (h : pz_px (I ++ [x]) I2) : I.length < I2.length := by
  have := px_len h
  rw [List.length_append] at this
  exact this
theorem px_a {j : Nat} (h : pz_px I I2) (hj : I.length ≤ j) : pz_px I (pz_a I2 j v) := by
  obtain ⟨J, rfl⟩ := h
  refine ⟨J.set (j - I.length) (((I ++ J).getD j (0, 0, 0, 0)).1, v, ((I ++ J).getD j (0, 0, 0, 0)).2.2), ?_⟩
  unfold pz_a
  rw [List.set_append_right _ _ hj]
theorem px_take (h : pz_px (I ++ [x]) I2) : I2.take I.length = I := by
  obtain ⟨J, rfl⟩ := h
  rw [List.append_assoc]
  exact List.take_left
theorem px_get (h : pz_px (I ++ [x]) I2) : I2.getD I.length (0, 0, 0, 0) = x := by
  obtain ⟨J, rfl⟩ := h
  rw [List.append_assoc, List.getD_eq_getElem?_getD, List.getElem?_append_right (Nat.le_refl _), Nat.sub_self]
  rfl
theorem rQ_pa (h : rQ T n N X f0 b0 b1 S0 u dp i I F PA S) : S (nP (u - f0).toNat) 5 = ((nP (u - f0).toNat + 3 : Nat) : Int) ∧ w_pr wY0 S (nP (u - f0).toNat + 3) := by
  obtain ⟨k, la, pm, ⟨hu, hk4, hkF⟩, ⟨l1, l2⟩, hp, ⟨h28, h59⟩, hc, hB, hR⟩ := rQ_pt h
  have hk : (u - f0).toNat = k := by omega
  rw [hk]
  exact ⟨hp.1.2.2.2.2.2.1, hp.2.2.2.2.2.1.1.2.2⟩
theorem rQ_n (h : rQ T n N X f0 b0 b1 S0 u dp i I F PA S) : (0 ≤ tp T n 0 i ∧ tp T n 0 i ≤ n) ∧ n ≤ 65536 := by
  obtain ⟨a1, a2, a3, a4, a5, a6, a7⟩ := h.1
  rw [a2] at a5 a6
  exact ⟨a6, a5.2⟩
theorem pI_nx (ip : ((i : Nat) : Int) ≤ tp T n 0 i) (hn : (0 ≤ tp T n 0 i ∧ tp T n 0 i ≤ n) ∧ n ≤ 65536) (hk : kq T n N X i ≠ 0 ∧ kq T n N X i ≠ 1) : (((i + 1) : Nat) : Int) ≤ tp T n 0 (i + 1) := by
  have hq := kq_cs T n N X i
  have h0 := tk_x0 (T := T) (n := n) (h := 0) (p := tp T n 0 i)
  have h1 : tp T n 0 i < n := by
    refine Classical.byContradiction (fun q => ?_)
    have := h0.2 (by omega)
    omega
  have h2 := lx_en_gt (T := T) (n := n) (h := 0) h1
  have h3 := (lx_en_le (T := T) (n := n) (h := 0) (p := tp T n 0 i) (by omega)).2.1 (by omega)
  have h4 := (lx_bl_rg T n ((n - lx_en T n 0 (tp T n 0 i)).toNat + 1) (lx_en T n 0 (tp T n 0 i)) h3).1
  show _ ≤ lx_bl T n ((n - lx_en T n 0 (tp T n 0 i)).toNat + 1) (lx_en T n 0 (tp T n 0 i))
  omega
theorem renc_id {s op a b w : Int} (h : op ≠ 3 ∧ op ≠ 4 ∧ op ≠ 27 ∧ op ≠ 24) : renc f0 s (op, a, b, w) = (op, a, b) := by
  unfold renc
  rw [if_neg h.1, if_neg h.2.1, if_neg h.2.2.1, if_neg h.2.2.2, if_neg h.2.2.1]
/-- a derivation's next thing -/
theorem qtk_o {k : Int} {kk : Nat → List pz_I → List pz_F → Int → pz_O → Prop} (h : pz_qf (pz_tk K P k i I F) kk o) (hk : K i = k) : kk (i + 1) I F 0 o := by
  unfold pz_tk at h
  rw [if_pos hk] at h
  rcases h with ⟨v, a, b⟩ | ⟨i2, I2, F2, t, a, b⟩
  · exact absurd a (by simp)
  · obtain ⟨rfl, rfl, rfl, rfl⟩ : i2 = i + 1 ∧ I2 = I ∧ F2 = F ∧ t = 0 := by simpa using a
    exact b
theorem qtk_1 {k : Int} {kk : Nat → List pz_I → List pz_F → Int → pz_O → Prop} (h : pz_qf (pz_tk K P k i I F) kk o) (hk : K i ≠ k) : o = .inl (1 + 16 * P i) := by
  unfold pz_tk pz_fa at h
  rw [if_neg hk] at h
  rcases h with ⟨v, a, b⟩ | ⟨i2, I2, F2, t, a, b⟩
  · rw [b]; exact a
  · exact absurd a (by simp)
theorem qtt_o {k : Int} (h : o = pz_tk K P k i I F) (hk : K i = k) : o = .inr (i + 1, I, F, 0) := by unfold pz_tk at h; rw [if_pos hk] at h; exact h
theorem qtt_1 {k : Int} (h : o = pz_tk K P k i I F) (hk : K i ≠ k) : o = .inl (1 + 16 * P i) := by unfold pz_tk pz_fa at h; rw [if_neg hk] at h; exact h
theorem qop_o {k d5 : Int} {kk : Nat → List pz_I → List pz_F → Int → pz_O → Prop} (h : pz_qf (pz_op K P k d5 i I F) kk o) (hk : K i = k) (hd : d5 < 50) : kk (i + 1) I F 0 o := by
  unfold pz_op at h
  rw [if_neg (fun q => q hk), if_neg (by omega)] at h
  rcases h with ⟨v, a, b⟩ | ⟨i2, I2, F2, t, a, b⟩
  · exact absurd a (by simp)
  · obtain ⟨rfl, rfl, rfl, rfl⟩ : i2 = i + 1 ∧ I2 = I ∧ F2 = F ∧ t = 0 := by simpa using a
    exact b
theorem qop_1 {k d5 : Int} {kk : Nat → List pz_I → List pz_F → Int → pz_O → Prop} (h : pz_qf (pz_op K P k d5 i I F) kk o) (hk : K i ≠ k) : o = .inl (1 + 16 * P i) := by
  unfold pz_op pz_fa at h
  rw [if_pos hk] at h
  rcases h with ⟨v, a, b⟩ | ⟨i2, I2, F2, t, a, b⟩
  · rw [b]; exact a
  · exact absurd a (by simp)
theorem qop_4 {k d5 : Int} {kk : Nat → List pz_I → List pz_F → Int → pz_O → Prop} (h : pz_qf (pz_op K P k d5 i I F) kk o) (hk : K i = k) (hd : 50 ≤ d5) : o = .inl (4 + 16 * P i) := by
  unfold pz_op pz_fa at h
  rw [if_neg (fun q => q hk), if_pos hd] at h
  rcases h with ⟨v, a, b⟩ | ⟨i2, I2, F2, t, a, b⟩
  · rw [b]; exact a
  · exact absurd a (by simp)
theorem qnm_o {kk : Nat → List pz_I → List pz_F → Int → pz_O → Prop} (h : pz_qf (pz_nm K V P i I F) kk o) (hk : K i = 5) : kk (i + 1) I F (V i) o := by
  unfold pz_nm at h
  rw [if_neg (by omega), if_neg (by omega)] at h
  rcases h with ⟨v, a, b⟩ | ⟨i2, I2, F2, t, a, b⟩
  · exact absurd a (by simp)
  · obtain ⟨rfl, rfl, rfl, rfl⟩ : i2 = i + 1 ∧ I2 = I ∧ F2 = F ∧ t = V i := by simpa using a
    exact b
theorem qnm_7 {kk : Nat → List pz_I → List pz_F → Int → pz_O → Prop} (h : pz_qf (pz_nm K V P i I F) kk o) (hk : K i = 6) : o = .inl (7 + 16 * P i) := by
  unfold pz_nm pz_fa at h
  rw [if_neg (by omega), if_pos hk] at h
  rcases h with ⟨v, a, b⟩ | ⟨i2, I2, F2, t, a, b⟩
  · rw [b]; exact a
  · exact absurd a (by simp)
theorem qnm_1 {kk : Nat → List pz_I → List pz_F → Int → pz_O → Prop} (h : pz_qf (pz_nm K V P i I F) kk o) (hk : K i ≠ 5 ∧ K i ≠ 6) : o = .inl (1 + 16 * P i) := by
  unfold pz_nm pz_fa at h
  rw [if_pos hk] at h
  rcases h with ⟨v, a, b⟩ | ⟨i2, I2, F2, t, a, b⟩
  · rw [b]; exact a
  · exact absurd a (by simp)
/-- what the last value may be assigned to -/
def tE (u : Int) (m : Nat) (t : Int) (I : List pz_I) (S : wS) : Prop := t = 0 ∨ ((1 ≤ t ∧ t ≤ 3) ∧ ∃ (J : List pz_I) (x : pz_I), I = J ++ [x] ∧ m ≤ J.length ∧ ((t = 1 ∧ x = (3, S 237 60, 0, u) ∧ 0 ≤ S 237 60) ∨ (t = 2 ∧ x = (27, 0, S 237 61, u)) ∨ (t = 3 ∧ x = (27, 2, -1, u))))
theorem tE_rg {m : Nat} {t : Int} (h : tE u m t I S) : 0 ≤ t ∧ t ≤ 3 := by
  rcases h with h | h
  · omega
  · have := h.1; omega
theorem tE_mo {m m2 : Nat} {t : Int} (h : tE u m t I S) (hm : m2 ≤ m) : tE u m2 t I S := by
  rcases h with h | ⟨h1, J, x, h2, h3, h4⟩
  · exact Or.inl h
  · exact Or.inr ⟨h1, J, x, h2, by omega, h4⟩
def rPre (T : Int → Int) (n dp : Int) (i : Nat) (I : List pz_I) : Prop := (0 ≤ dp ∧ dp ≤ 50) ∧ I.length ≤ 1 * i + 8 ∧ ((i : Nat) : Int) ≤ tp T n 0 i
def rPst (T : Int → Int) (n : Int) (i : Nat) (I : List pz_I) (e i2 : Nat) (I2 : List pz_I) : Prop := i + e ≤ i2 ∧ I2.length + 1 * i + (e - 1) ≤ I.length + 1 * i2 ∧ ((i2 : Nat) : Int) ≤ tp T n 0 i2 ∧ pz_px I I2
/-- the same behind some turns of a loop: there may be one instruction more than tokens -/
def rPsq (T : Int → Int) (n : Int) (i : Nat) (I : List pz_I) (i2 : Nat) (I2 : List pz_I) : Prop := i ≤ i2 ∧ I2.length + 1 * i ≤ I.length + 1 * i2 + 1 ∧ ((i2 : Nat) : Int) ≤ tp T n 0 i2 ∧ pz_px I I2
/-- a method of the reference comes to this -/
def rM (xs : List (Nat × List Int32)) (T : Int → Int) (n : Int) (N X : List (List Int)) (f0 b0 b1 : Int) (S0 : wS) (off : Int) (mt : pe_Mt) (L : wL) (rv : Int → Option wv) (e : Nat) (E : Int → List pz_I → wS → Prop) (dp u : Int) (i : Nat) (I : List pz_I) (F : List pz_F) (o : pz_O) : Prop := rPre T n dp i I → ∀ (M : Nat → Prop) (D : Nat) (S : wS), 20 * (51 - dp) + off ≤ (D : Int) → rQ T n N X f0 b0 b1 S0 u dp i I F (pA F) S → wJ (pe_GA xs) wY0 M D mt ((pe_at mt.bl 0).getD (0, [])).2 L [] S (fun q Z => match o with | .inl v => q = .inr 238 ∧ rFu T n N X f0 b0 b1 S0 v Z | .inr (i2, I2, F2, t) => q = .inl (rv t) ∧ rQ T n N X f0 b0 b1 S0 u dp i2 I2 F2 (pA F2) Z ∧ rPst T n i I e i2 I2 ∧ E t I2 Z)
/-- a loop of the reference comes to this -/
def rLp (xs : List (Nat × List Int32)) (T : Int → Int) (n : Int) (N X : List (List Int)) (f0 b0 b1 : Int) (S0 : wS) (off : Int) (mt : pe_Mt) (bh be : Nat) (L Lx : Int → wL) (t dp u : Int) (i : Nat) (I : List pz_I) (F : List pz_F) (o : pz_O) : Prop := rPre T n dp i I → ∀ (M : Nat → Prop) (D : Nat) (S : wS) (Q : wO → wS → Prop) (m : Nat), 20 * (51 - dp) + off ≤ (D : Int) → m ≤ I.length → rQ T n N X f0 b0 b1 S0 u dp i I F (pA F) S → tE u m t I S → (∀ v : Int, o = .inl v → ∀ Z : wS, rFu T n N X f0 b0 b1 S0 v Z → Q (.inr 238) Z) → (∀ (i2 : Nat) (I2 : List pz_I) (F2 : List pz_F) (t2 : Int), o = .inr (i2, I2, F2, t2) → ∀ Z : wS, rQ T n N X f0 b0 b1 S0 u dp i2 I2 F2 (pA F2) Z → rPst T n i I 0 i2 I2 → tE u m t2 I2 Z → wJ (pe_GA xs) wY0 M D mt ((pe_at mt.bl be).getD (0, [])).2 (Lx t2) [] Z Q) → wJ (pe_GA xs) wY0 M D mt ((pe_at mt.bl bh).getD (0, [])).2 (L t) [] S Q
/-- a loop that reads values comes to this -/
def rLq (xs : List (Nat × List Int32)) (T : Int → Int) (n : Int) (N X : List (List Int)) (f0 b0 b1 : Int) (S0 : wS) (off : Int) (mt : pe_Mt) (bh be : Nat) (L : wL) (Lx : Int → wL) (A : Nat → Int → Prop) (dp u : Int) (i : Nat) (I : List pz_I) (F : List pz_F) (o : pz_O) : Prop := rPre T n dp i I → ∀ (M : Nat → Prop) (D : Nat) (S : wS) (Q : wO → wS → Prop), 20 * (51 - dp) + off ≤ (D : Int) → rQ T n N X f0 b0 b1 S0 u dp i I F (pA F) S → (∀ v : Int, o = .inl v → ∀ Z : wS, rFu T n N X f0 b0 b1 S0 v Z → Q (.inr 238) Z) → (∀ (i2 : Nat) (I2 : List pz_I) (F2 : List pz_F) (t2 : Int), o = .inr (i2, I2, F2, t2) → ∀ Z : wS, rQ T n N X f0 b0 b1 S0 u dp i2 I2 F2 (pA F2) Z → rPst T n i I 0 i2 I2 → A i2 t2 → wJ (pe_GA xs) wY0 M D mt ((pe_at mt.bl be).getD (0, [])).2 (Lx t2) [] Z Q) → wJ (pe_GA xs) wY0 M D mt ((pe_at mt.bl bh).getD (0, [])).2 L [] S Q
/-- the same where there may be one instruction more than tokens -/
def rLq1 (xs : List (Nat × List Int32)) (T : Int → Int) (n : Int) (N X : List (List Int)) (f0 b0 b1 : Int) (S0 : wS) (off : Int) (mt : pe_Mt) (bh be : Nat) (L : wL) (Lx : Int → wL) (A : Nat → Int → Prop) (dp u : Int) (i : Nat) (I : List pz_I) (F : List pz_F) (o : pz_O) : Prop := rPre T n dp i I → ∀ (M : Nat → Prop) (D : Nat) (S : wS) (Q : wO → wS → Prop), 20 * (51 - dp) + off ≤ (D : Int) → rQ T n N X f0 b0 b1 S0 u dp i I F (pA F) S → (∀ v : Int, o = .inl v → ∀ Z : wS, rFu T n N X f0 b0 b1 S0 v Z → Q (.inr 238) Z) → (∀ (i2 : Nat) (I2 : List pz_I) (F2 : List pz_F) (t2 : Int), o = .inr (i2, I2, F2, t2) → ∀ Z : wS, rQ T n N X f0 b0 b1 S0 u dp i2 I2 F2 (pA F2) Z → rPsq T n i I i2 I2 → A i2 t2 → wJ (pe_GA xs) wY0 M D mt ((pe_at mt.bl be).getD (0, [])).2 (Lx t2) [] Z Q) → wJ (pe_GA xs) wY0 M D mt ((pe_at mt.bl bh).getD (0, [])).2 L [] S Q
/-- a loop of statements comes to this -/
def rL0 (xs : List (Nat × List Int32)) (T : Int → Int) (n : Int) (N X : List (List Int)) (f0 b0 b1 : Int) (S0 : wS) (mt : pe_Mt) (bh be : Nat) (ke : Int) (dp u : Int) (i : Nat) (I : List pz_I) (F : List pz_F) (o : pz_O) : Prop := rPre T n dp i I → ∀ (M : Nat → Prop) (D : Nat) (S : wS) (Q : wO → wS → Prop), 20 * (51 - dp) + 19 ≤ (D : Int) → rQ T n N X f0 b0 b1 S0 u dp i I F (pA F) S → (∀ v : Int, o = .inl v → ∀ Z : wS, rFu T n N X f0 b0 b1 S0 v Z → Q (.inr 238) Z) → (∀ (i2 : Nat) (I2 : List pz_I) (F2 : List pz_F) (t2 : Int), o = .inr (i2, I2, F2, t2) → ∀ Z : wS, rQ T n N X f0 b0 b1 S0 u dp i2 I2 F2 (pA F2) Z → rPst T n i I 0 i2 I2 → kq T n N X i2 = ke → wJ (pe_GA xs) wY0 M D mt ((pe_at mt.bl be).getD (0, [])).2 [(0, (2, 237))] [] Z Q) → (∀ (i2 : Nat) (I2 : List pz_I) (F2 : List pz_F) (t2 : Int), o = .inr (i2, I2, F2, t2) → kq T n N X i2 ≠ ke → ∀ Z : wS, rFu T n N X f0 b0 b1 S0 (1 + 16 * tp T n 0 i2) Z → Q (.inr 238) Z) → wJ (pe_GA xs) wY0 M D mt ((pe_at mt.bl bh).getD (0, [])).2 [(0, (2, 237))] [] S Q
/-- parameters of the functions that have been read; of this one x have come -/
def pX (f0 : Int) (F : List pz_F) (u x : Int) (k : Nat) : Int := if k = (u - f0).toNat then x else pA F k
/-- the reference's parameter(), and what readsFunction does behind it, come to this -/
def rP2 (xs : List (Nat × List Int32)) (T : Int → Int) (n : Int) (N X : List (List Int)) (f0 b0 b1 : Int) (S0 : wS) (x dp u : Int) (i : Nat) (I : List pz_I) (F : List pz_F) (o : pz_O) : Prop := (0 ≤ x ∧ x ≤ 8) → ((pz_f f0 F u).2.2.length : Int) = x → f0 < u → ((0 ≤ dp ∧ dp < 50) ∧ I.length ≤ 1 * i + 8 ∧ ((i : Nat) : Int) ≤ tp T n 0 i) → ∀ (M M2 : Nat → Prop) (D : Nat) (S : wS) (Q : wO → wS → Prop) (a g : Int), 20 * (51 - dp) ≤ (D : Int) → rQ T n N X f0 b0 b1 S0 u (dp + 1) i I F (pX f0 F u x) S → (∀ v : Int, o = .inl v → ∀ Z : wS, rFu T n N X f0 b0 b1 S0 v Z → Q (.inr 238) Z) → (∀ (i2 : Nat) (I2 : List pz_I) (F2 : List pz_F) (t2 : Int), o = .inr (i2, I2, F2, t2) → ∀ Z : wS, rQ T n N X f0 b0 b1 S0 u (dp + 1) i2 I2 F2 (pX f0 F2 u ((pz_f f0 F2 u).2.2.length : Int)) Z → rPst T n i I 1 i2 I2 → wJ (pe_GA xs) wY0 M (D + 1) t_M_readsFunction ((pe_at t_M_readsFunction.bl 2).getD (0, [])).2 [(0, (2, 237)), (1, (0, a)), (2, (0, g))] [] Z Q) → wJ (pe_GA xs) wY0 M2 D t_M_parameter ((pe_at t_M_parameter.bl 0).getD (0, [])).2 [(0, (2, 237))] [] S (fun q Z => (q = .inr 238 ∧ Q (.inr 238) Z) ∨ (q = .inl none ∧ wJ (pe_GA xs) wY0 M (D + 1) t_M_readsFunction ((pe_at t_M_readsFunction.bl 1).getD (0, [])).2 [(0, (2, 237)), (1, (0, a)), (2, (0, g))] [] Z Q))
/-- the free jumps of a choice, from the newest on -/
def chn (S0 : wS) (f0 u : Int) (I : List pz_I) : List Int → Int → Prop
  | [], w => w = -1
  | j :: J, w => (w = pz_h (I.take j.toNat) u ∧ (0 ≤ j ∧ j.toNat < I.length) ∧ I.getD j.toNat (0, 0, 0, 0) = (20, -9, 0, u) ∧ ∀ y ∈ J, y < j) ∧ ∃ w2 : Int, (j.toNat < 20000 → S0 (nP (u - f0).toNat + 5) w = w2) ∧ chn S0 f0 u I J w2
/-- a choice comes to this -/
def rC3 (xs : List (Nat × List Int32)) (T : Int → Int) (n : Int) (N X : List (List Int)) (f0 b0 b1 : Int) (S0 : wS) (J : List Int) (dp u : Int) (i : Nat) (I : List pz_I) (F : List pz_F) (o : pz_O) : Prop := rPre T n dp i I → ∀ (M : Nat → Prop) (D : Nat) (S : wS) (w : Int), 20 * (51 - dp) + 17 ≤ (D : Int) → rQ T n N X f0 b0 b1 S0 u dp i I F (pA F) S → chn S0 f0 u I J w → kq T n N X i = 42 → wJ (pe_GA xs) wY0 M D t_M_choice ((pe_at t_M_choice.bl 1).getD (0, [])).2 [(0, (2, 237)), (1, (0, w)), (2, (0, 1))] [] S (fun q Z => match o with | .inl v => q = .inr 238 ∧ rFu T n N X f0 b0 b1 S0 v Z | .inr (i2, I2, F2, _) => q = .inl none ∧ rQ T n N X f0 b0 b1 S0 u dp i2 I2 F2 (pA F2) Z ∧ (i + 1 ≤ i2 ∧ I2.length + 1 * i ≤ I.length + 1 * i2 ∧ ((i2 : Nat) : Int) ≤ tp T n 0 i2) ∧ ∃ v : Int, 0 ≤ v ∧ pz_px (pz_aa I v J) I2)
/-- the reference's parser -/
def rR (xs : List (Nat × List Int32)) (T : Int → Int) (n : Int) (N X : List (List Int)) (f0 b0 b1 : Int) (S0 : wS) : pz_R := fun k x J i dp u I F o => match k with
  | 0 => rL0 xs T n N X f0 b0 b1 S0 t_M_block 1 2 13 dp u i I F o ∧ rL0 xs T n N X f0 b0 b1 S0 t_M_readsUnit 5 6 0 dp u i I F o
  | 1 => rM xs T n N X f0 b0 b1 S0 18 t_M_statement [(0, (2, 237))] (fun _ => none) 1 (fun _ _ _ => True) dp u i I F o
  | 2 => rP2 xs T n N X f0 b0 b1 S0 x dp u i I F o
  | 3 => rC3 xs T n N X f0 b0 b1 S0 J dp u i I F o
  | 4 => rM xs T n N X f0 b0 b1 S0 16 t_M_value [(0, (2, 237))] (fun _ => none) 1 (fun _ _ _ => True) dp u i I F o
  | 5 => if x = 1 then rM xs T n N X f0 b0 b1 S0 15 t_M_or [(0, (2, 237))] (fun t => some (0, t)) 1 (tE u I.length) dp u i I F o else if x = 2 then rM xs T n N X f0 b0 b1 S0 14 t_M_and [(0, (2, 237))] (fun t => some (0, t)) 1 (tE u I.length) dp u i I F o else (3 ≤ x ∧ x ≤ 7 → rM xs T n N X f0 b0 b1 S0 (16 - x) t_M_binary [(0, (2, 237)), (1, (0, x - 3))] (fun t => some (0, t)) 1 (tE u I.length) dp u i I F o)
  | 6 => if x = 1 then rLp xs T n N X f0 b0 b1 S0 15 t_M_or 1 2 (fun t => [(0, (2, 237)), (1, (0, t))]) (fun t => [(0, (2, 237)), (1, (0, t))]) (J.headD 0) dp u i I F o else if x = 2 then rLp xs T n N X f0 b0 b1 S0 14 t_M_and 1 2 (fun t => [(0, (2, 237)), (1, (0, t))]) (fun t => [(0, (2, 237)), (1, (0, t))]) (J.headD 0) dp u i I F o else (3 ≤ x ∧ x ≤ 6 → rLp xs T n N X f0 b0 b1 S0 (16 - x) t_M_binary 2 3 (fun t => [(0, (2, 237)), (1, (0, x - 3)), (2, (0, t))]) (fun t => [(0, (2, 237)), (1, (0, x - 3)), (2, (0, t))]) (J.headD 0) dp u i I F o)
  | 7 => rM xs T n N X f0 b0 b1 S0 8 t_M_front [(0, (2, 237))] (fun t => some (0, t)) 1 (tE u I.length) dp u i I F o
  | 8 => rM xs T n N X f0 b0 b1 S0 7 t_M_behind [(0, (2, 237))] (fun t => some (0, t)) 1 (tE u I.length) dp u i I F o
  | 9 => (0 ≤ x ∧ x ≤ 1 → rM xs T n N X f0 b0 b1 S0 (3 + 3 * x) t_M_first [(0, (2, 237)), (1, (0, x))] (fun t => some (0, t)) 1 (tE u I.length) dp u i I F o)
  | 10 => rLp xs T n N X f0 b0 b1 S0 7 t_M_behind 1 7 (fun t => [(0, (2, 237)), (1, (0, t)), (2, (0, 1))]) (fun t => [(0, (2, 237)), (1, (0, t))]) (J.headD 0) dp u i I F o
  | 11 => (0 ≤ x ∧ x ≤ 8 → rLq xs T n N X f0 b0 b1 S0 17 t_M_values 3 10 [(0, (2, 237)), (1, (0, x)), (2, (0, 1))] (fun t => [(0, (2, 237)), (1, (0, t))]) (fun j t => kq T n N X j = 11 ∧ (0 ≤ t ∧ t ≤ 8)) dp u i I F o ∧ ∀ w : Int, rLq xs T n N X f0 b0 b1 S0 17 t_M_builtin 3 8 [(0, (2, 237)), (1, (0, w)), (2, (0, x)), (3, (0, 1))] (fun t => [(0, (2, 237)), (1, (0, w)), (2, (0, t))]) (fun j t => kq T n N X j = 11 ∧ (0 ≤ t ∧ t ≤ 8)) dp u i I F o)
  | 12 => (0 ≤ x ∧ x ≤ i → rLq xs T n N X f0 b0 b1 S0 17 t_M_first 7 8 [(0, (2, 237)), (2, (0, x)), (3, (0, 1))] (fun t => [(0, (2, 237)), (2, (0, t))]) (fun j t => 0 ≤ t ∧ t ≤ j) dp u i I F o)
  | 13 => rLq1 xs T n N X f0 b0 b1 S0 17 t_M_object 3 4 [(0, (2, 237)), (1, (0, 1))] (fun _ => [(0, (2, 237))]) (fun _ _ => True) dp u i I F o
  | 14 => rLq xs T n N X f0 b0 b1 S0 4 t_M_maker 1 4 [(0, (2, 237)), (1, (0, 1))] (fun _ => [(0, (2, 237))]) (fun _ _ => True) dp u i I F o
  | _ => True
theorem pz_lv3 {k : Int} : (pz_lv k = 1 ↔ k = 34) ∧ (pz_lv k = 2 ↔ k = 33) ∧ (pz_lv k = 3 ↔ (k = 29 ∨ k = 30)) ∧ (pz_lv k = 4 ↔ (k = 21 ∨ k = 31 ∨ k = 22 ∨ k = 32)) ∧ (pz_lv k = 5 ↔ (k = 23 ∨ k = 24)) ∧ (pz_lv k = 6 ↔ (k = 25 ∨ k = 26 ∨ k = 27)) := by
  unfold pz_lv
  refine ⟨?_, ?_, ?_, ?_, ?_, ?_⟩
  all_goals
    constructor
    · intro h
      repeat' (split at h; · omega)
      omega
    · intro h
      repeat' (split; · omega)
      omega
theorem opz0 {k c : Int} (e : k = sk c) (h1 : c ≠ 256) (h2 : c ≠ 257) : pz_lv k ≠ 3 := fun q => by
  rcases (pz_lv3 (k := k)).2.2.1.1 q with q | q
  · exact h1 (sk_256.1 (e.symm.trans q))
  · exact h2 (sk_257.1 (e.symm.trans q))
theorem opz1 {k c : Int} (e : k = sk c) (h1 : c ≠ 60) (h2 : c ≠ 258) (h3 : c ≠ 62) (h4 : c ≠ 259) : pz_lv k ≠ 4 := fun q => by
  rcases (pz_lv3 (k := k)).2.2.2.1.1 q with q | q | q | q
  · exact h1 (sk_60.1 (e.symm.trans q))
  · exact h2 (sk_258.1 (e.symm.trans q))
  · exact h3 (sk_62.1 (e.symm.trans q))
  · exact h4 (sk_259.1 (e.symm.trans q))
theorem opz2 {k c : Int} (e : k = sk c) (h1 : c ≠ 43) (h2 : c ≠ 45) : pz_lv k ≠ 5 := fun q => by
  rcases (pz_lv3 (k := k)).2.2.2.2.1.1 q with q | q
  · exact h1 (sk_43.1 (e.symm.trans q))
  · exact h2 (sk_45.1 (e.symm.trans q))
theorem opz3 {k c : Int} (e : k = sk c) (h1 : c ≠ 42) (h2 : c ≠ 47) (h3 : c ≠ 37) : pz_lv k ≠ 6 := fun q => by
  rcases (pz_lv3 (k := k)).2.2.2.2.2.1 q with q | q | q
  · exact h1 (sk_42.1 (e.symm.trans q))
  · exact h2 (sk_47.1 (e.symm.trans q))
  · exact h3 (sk_37.1 (e.symm.trans q))
theorem opz {k l : Int} (hl : 0 ≤ l) (h : k < 10 ∨ 40 ≤ k) : pz_lv k ≠ l + 3 := by
  have : pz_lv k = 0 := by
    unfold pz_lv
    rw [if_neg (by omega), if_neg (by omega), if_neg (by omega), if_neg (by omega), if_neg (by omega), if_neg (by omega)]
  omega
theorem opr {l : Int} (hl : 0 ≤ l ∧ l ≤ 3) (h : rQ T n N X f0 b0 b1 S0 u dp i I F PA S) : wJ (pe_GA xs) wY0 M d t_M_operator ((pe_at t_M_operator.bl 0).getD (0, [])).2 [(0, (2, 237)), (1, (0, l))] [] S (fun q Z => S = Z ∧ ((pz_lv (kq T n N X i) = l + 3 ∧ q = .inl (some (0, pz_or (kq T n N X i))) ∧ 7 ≤ pz_or (kq T n N X i) ∧ pz_or (kq T n N X i) ≤ 19) ∨ (pz_lv (kq T n N X i) ≠ l + 3 ∧ q = .inl (some (0, -1))))) := by
  obtain ⟨t6, t7, t8, t9⟩ := rL_tk h.1
  have hsk : S 237 6 = 4 → kq T n N X i = sk (S 237 9) := fun e => by
    have hq := kq_cs T n N X i
    rw [t9 e]
    omega
  have hsn : S 237 6 ≠ 4 → kq T n N X i < 10 ∨ 40 ≤ kq T n N X i := fun e => by
    have hq := kq_cs T n N X i
    omega
  refine wa_aload_n (n := 0) rfl ?_
  refine wb_gfi 237 rfl (wy_pr rfl) wt_237 wf_15_6 (v := (S 237 6)) rfl (fun r101 => ?_)
  refine wa_iconst ?_
  refine wa_icmpeq (w_rg0 (by omega) (by omega)) (w_rg0 (by omega) (by omega)) ⟨_, rfl⟩ (fun c102 => ?_) (fun c102 => ?_)
  · skip
    refine wa_iload_n (n := 1) rfl ?_
    by_cases c103 : l = 0
    · refine wb_sw (w_rg0 (by omega) (by omega)) (tb := 2) (by rw [c103]; rfl) ⟨_, rfl⟩ ?_
      refine wa_aload_n (n := 0) rfl ?_
      refine wb_gfi 237 rfl (wy_pr rfl) wt_237 wf_15_9 (v := (S 237 9)) rfl (fun r104 => ?_)
      refine wa_sipush (by omega) ?_
      refine wa_icmpne (w_rg0 (by omega) (by omega)) (w_rg0 (by omega) (by omega)) ⟨_, rfl⟩ (fun c105 => ?_) (fun c105 => ?_)
      · skip
        refine wa_aload_n (n := 0) rfl ?_
        refine wb_gfi 237 rfl (wy_pr rfl) wt_237 wf_15_9 (v := (S 237 9)) rfl (fun r106 => ?_)
        refine wa_sipush (by omega) ?_
        refine wa_icmpne (w_rg0 (by omega) (by omega)) (w_rg0 (by omega) (by omega)) ⟨_, rfl⟩ (fun c107 => ?_) (fun c107 => ?_)
        · skip
          refine wa_iconst ?_
          refine wa_fall ⟨_, rfl⟩ ?_
          refine wa_ireturn rfl ?_
          refine ⟨rfl, Or.inr ⟨?_, rfl⟩⟩
          first
            | exact fun q => opz0 (hsk (by omega)) (by omega) (by omega) (q.trans (by omega))
            | exact fun q => opz1 (hsk (by omega)) (by omega) (by omega) (by omega) (by omega) (q.trans (by omega))
            | exact fun q => opz2 (hsk (by omega)) (by omega) (by omega) (q.trans (by omega))
            | exact fun q => opz3 (hsk (by omega)) (by omega) (by omega) (by omega) (q.trans (by omega))
            | exact opz hl.1 (hsn (by omega))
        · skip
          refine wa_bipush (w_rg2 (by omega) (by omega)) ?_
          refine wa_goto ⟨_, rfl⟩ ?_
          refine wa_ireturn rfl ?_
          have e := hsk (by omega)
          have e2 : kq T n N X i = 30 := e.trans (sk_257.2 (by omega))
          have e3 : pz_or (kq T n N X i) = 15 := by rw [e2]; rfl
          have e4 : pz_lv (kq T n N X i) = 3 := by rw [e2]; rfl
          exact ⟨rfl, Or.inl ⟨by omega, by rw [e3], by omega, by omega⟩⟩
      · skip
        refine wa_bipush (w_rg2 (by omega) (by omega)) ?_
        refine wa_goto ⟨_, rfl⟩ ?_
        refine wa_ireturn rfl ?_
        have e := hsk (by omega)
        have e2 : kq T n N X i = 29 := e.trans (sk_256.2 (by omega))
        have e3 : pz_or (kq T n N X i) = 14 := by rw [e2]; rfl
        have e4 : pz_lv (kq T n N X i) = 3 := by rw [e2]; rfl
        exact ⟨rfl, Or.inl ⟨by omega, by rw [e3], by omega, by omega⟩⟩
    by_cases c108 : l = 1
    · refine wb_sw (w_rg0 (by omega) (by omega)) (tb := 6) (by rw [c108]; rfl) ⟨_, rfl⟩ ?_
      refine wa_aload_n (n := 0) rfl ?_
      refine wb_gfi 237 rfl (wy_pr rfl) wt_237 wf_15_9 (v := (S 237 9)) rfl (fun r109 => ?_)
      refine wa_bipush (w_rg2 (by omega) (by omega)) ?_
      refine wa_icmpne (w_rg0 (by omega) (by omega)) (w_rg0 (by omega) (by omega)) ⟨_, rfl⟩ (fun c110 => ?_) (fun c110 => ?_)
      · skip
        refine wa_aload_n (n := 0) rfl ?_
        refine wb_gfi 237 rfl (wy_pr rfl) wt_237 wf_15_9 (v := (S 237 9)) rfl (fun r111 => ?_)
        refine wa_sipush (by omega) ?_
        refine wa_icmpne (w_rg0 (by omega) (by omega)) (w_rg0 (by omega) (by omega)) ⟨_, rfl⟩ (fun c112 => ?_) (fun c112 => ?_)
        · skip
          refine wa_aload_n (n := 0) rfl ?_
          refine wb_gfi 237 rfl (wy_pr rfl) wt_237 wf_15_9 (v := (S 237 9)) rfl (fun r113 => ?_)
          refine wa_bipush (w_rg2 (by omega) (by omega)) ?_
          refine wa_icmpne (w_rg0 (by omega) (by omega)) (w_rg0 (by omega) (by omega)) ⟨_, rfl⟩ (fun c114 => ?_) (fun c114 => ?_)
          · skip
            refine wa_aload_n (n := 0) rfl ?_
            refine wb_gfi 237 rfl (wy_pr rfl) wt_237 wf_15_9 (v := (S 237 9)) rfl (fun r115 => ?_)
            refine wa_sipush (by omega) ?_
            refine wa_icmpne (w_rg0 (by omega) (by omega)) (w_rg0 (by omega) (by omega)) ⟨_, rfl⟩ (fun c116 => ?_) (fun c116 => ?_)
            · skip
              refine wa_iconst ?_
              refine wa_fall ⟨_, rfl⟩ ?_
              refine wa_ireturn rfl ?_
              refine ⟨rfl, Or.inr ⟨?_, rfl⟩⟩
              first
                | exact fun q => opz0 (hsk (by omega)) (by omega) (by omega) (q.trans (by omega))
                | exact fun q => opz1 (hsk (by omega)) (by omega) (by omega) (by omega) (by omega) (q.trans (by omega))
                | exact fun q => opz2 (hsk (by omega)) (by omega) (by omega) (q.trans (by omega))
                | exact fun q => opz3 (hsk (by omega)) (by omega) (by omega) (by omega) (q.trans (by omega))
                | exact opz hl.1 (hsn (by omega))
            · skip
              refine wa_bipush (w_rg2 (by omega) (by omega)) ?_
              refine wa_goto ⟨_, rfl⟩ ?_
              refine wa_ireturn rfl ?_
              have e := hsk (by omega)
              have e2 : kq T n N X i = 32 := e.trans (sk_259.2 (by omega))
              have e3 : pz_or (kq T n N X i) = 19 := by rw [e2]; rfl
              have e4 : pz_lv (kq T n N X i) = 4 := by rw [e2]; rfl
              exact ⟨rfl, Or.inl ⟨by omega, by rw [e3], by omega, by omega⟩⟩
          · skip
            refine wa_bipush (w_rg2 (by omega) (by omega)) ?_
            refine wa_goto ⟨_, rfl⟩ ?_
            refine wa_ireturn rfl ?_
            have e := hsk (by omega)
            have e2 : kq T n N X i = 22 := e.trans (sk_62.2 (by omega))
            have e3 : pz_or (kq T n N X i) = 18 := by rw [e2]; rfl
            have e4 : pz_lv (kq T n N X i) = 4 := by rw [e2]; rfl
            exact ⟨rfl, Or.inl ⟨by omega, by rw [e3], by omega, by omega⟩⟩
        · skip
          refine wa_bipush (w_rg2 (by omega) (by omega)) ?_
          refine wa_goto ⟨_, rfl⟩ ?_
          refine wa_ireturn rfl ?_
          have e := hsk (by omega)
          have e2 : kq T n N X i = 31 := e.trans (sk_258.2 (by omega))
          have e3 : pz_or (kq T n N X i) = 17 := by rw [e2]; rfl
          have e4 : pz_lv (kq T n N X i) = 4 := by rw [e2]; rfl
          exact ⟨rfl, Or.inl ⟨by omega, by rw [e3], by omega, by omega⟩⟩
      · skip
        refine wa_bipush (w_rg2 (by omega) (by omega)) ?_
        refine wa_goto ⟨_, rfl⟩ ?_
        refine wa_ireturn rfl ?_
        have e := hsk (by omega)
        have e2 : kq T n N X i = 21 := e.trans (sk_60.2 (by omega))
        have e3 : pz_or (kq T n N X i) = 16 := by rw [e2]; rfl
        have e4 : pz_lv (kq T n N X i) = 4 := by rw [e2]; rfl
        exact ⟨rfl, Or.inl ⟨by omega, by rw [e3], by omega, by omega⟩⟩
    by_cases c117 : l = 2
    · refine wb_sw (w_rg0 (by omega) (by omega)) (tb := 12) (by rw [c117]; rfl) ⟨_, rfl⟩ ?_
      refine wa_aload_n (n := 0) rfl ?_
      refine wb_gfi 237 rfl (wy_pr rfl) wt_237 wf_15_9 (v := (S 237 9)) rfl (fun r118 => ?_)
      refine wa_bipush (w_rg2 (by omega) (by omega)) ?_
      refine wa_icmpne (w_rg0 (by omega) (by omega)) (w_rg0 (by omega) (by omega)) ⟨_, rfl⟩ (fun c119 => ?_) (fun c119 => ?_)
      · skip
        refine wa_aload_n (n := 0) rfl ?_
        refine wb_gfi 237 rfl (wy_pr rfl) wt_237 wf_15_9 (v := (S 237 9)) rfl (fun r120 => ?_)
        refine wa_bipush (w_rg2 (by omega) (by omega)) ?_
        refine wa_icmpne (w_rg0 (by omega) (by omega)) (w_rg0 (by omega) (by omega)) ⟨_, rfl⟩ (fun c121 => ?_) (fun c121 => ?_)
        · skip
          refine wa_iconst ?_
          refine wa_fall ⟨_, rfl⟩ ?_
          refine wa_ireturn rfl ?_
          refine ⟨rfl, Or.inr ⟨?_, rfl⟩⟩
          first
            | exact fun q => opz0 (hsk (by omega)) (by omega) (by omega) (q.trans (by omega))
            | exact fun q => opz1 (hsk (by omega)) (by omega) (by omega) (by omega) (by omega) (q.trans (by omega))
            | exact fun q => opz2 (hsk (by omega)) (by omega) (by omega) (q.trans (by omega))
            | exact fun q => opz3 (hsk (by omega)) (by omega) (by omega) (by omega) (q.trans (by omega))
            | exact opz hl.1 (hsn (by omega))
        · skip
          refine wa_bipush (w_rg2 (by omega) (by omega)) ?_
          refine wa_goto ⟨_, rfl⟩ ?_
          refine wa_ireturn rfl ?_
          have e := hsk (by omega)
          have e2 : kq T n N X i = 24 := e.trans (sk_45.2 (by omega))
          have e3 : pz_or (kq T n N X i) = 8 := by rw [e2]; rfl
          have e4 : pz_lv (kq T n N X i) = 5 := by rw [e2]; rfl
          exact ⟨rfl, Or.inl ⟨by omega, by rw [e3], by omega, by omega⟩⟩
      · skip
        refine wa_bipush (w_rg2 (by omega) (by omega)) ?_
        refine wa_goto ⟨_, rfl⟩ ?_
        refine wa_ireturn rfl ?_
        have e := hsk (by omega)
        have e2 : kq T n N X i = 23 := e.trans (sk_43.2 (by omega))
        have e3 : pz_or (kq T n N X i) = 7 := by rw [e2]; rfl
        have e4 : pz_lv (kq T n N X i) = 5 := by rw [e2]; rfl
        exact ⟨rfl, Or.inl ⟨by omega, by rw [e3], by omega, by omega⟩⟩
    refine wb_sw (w_rg0 (by omega) (by omega)) (tb := 16) (w_tb_df (by simp only [List.length_cons, List.length_nil]; omega)) ⟨_, rfl⟩ ?_
    refine wa_aload_n (n := 0) rfl ?_
    refine wb_gfi 237 rfl (wy_pr rfl) wt_237 wf_15_9 (v := (S 237 9)) rfl (fun r122 => ?_)
    refine wa_bipush (w_rg2 (by omega) (by omega)) ?_
    refine wa_icmpne (w_rg0 (by omega) (by omega)) (w_rg0 (by omega) (by omega)) ⟨_, rfl⟩ (fun c123 => ?_) (fun c123 => ?_)
    · skip
      refine wa_aload_n (n := 0) rfl ?_
      refine wb_gfi 237 rfl (wy_pr rfl) wt_237 wf_15_9 (v := (S 237 9)) rfl (fun r124 => ?_)
      refine wa_bipush (w_rg2 (by omega) (by omega)) ?_
      refine wa_icmpne (w_rg0 (by omega) (by omega)) (w_rg0 (by omega) (by omega)) ⟨_, rfl⟩ (fun c125 => ?_) (fun c125 => ?_)
      · skip
        refine wa_aload_n (n := 0) rfl ?_
        refine wb_gfi 237 rfl (wy_pr rfl) wt_237 wf_15_9 (v := (S 237 9)) rfl (fun r126 => ?_)
        refine wa_bipush (w_rg2 (by omega) (by omega)) ?_
        refine wa_icmpne (w_rg0 (by omega) (by omega)) (w_rg0 (by omega) (by omega)) ⟨_, rfl⟩ (fun c127 => ?_) (fun c127 => ?_)
        · skip
          refine wa_iconst ?_
          refine wa_fall ⟨_, rfl⟩ ?_
          refine wa_ireturn rfl ?_
          refine ⟨rfl, Or.inr ⟨?_, rfl⟩⟩
          first
            | exact fun q => opz0 (hsk (by omega)) (by omega) (by omega) (q.trans (by omega))
            | exact fun q => opz1 (hsk (by omega)) (by omega) (by omega) (by omega) (by omega) (q.trans (by omega))
            | exact fun q => opz2 (hsk (by omega)) (by omega) (by omega) (q.trans (by omega))
            | exact fun q => opz3 (hsk (by omega)) (by omega) (by omega) (by omega) (q.trans (by omega))
            | exact opz hl.1 (hsn (by omega))
        · skip
          refine wa_bipush (w_rg2 (by omega) (by omega)) ?_
          refine wa_goto ⟨_, rfl⟩ ?_
          refine wa_ireturn rfl ?_
          have e := hsk (by omega)
          have e2 : kq T n N X i = 27 := e.trans (sk_37.2 (by omega))
          have e3 : pz_or (kq T n N X i) = 11 := by rw [e2]; rfl
          have e4 : pz_lv (kq T n N X i) = 6 := by rw [e2]; rfl
          exact ⟨rfl, Or.inl ⟨by omega, by rw [e3], by omega, by omega⟩⟩
      · skip
        refine wa_bipush (w_rg2 (by omega) (by omega)) ?_
        refine wa_goto ⟨_, rfl⟩ ?_
        refine wa_ireturn rfl ?_
        have e := hsk (by omega)
        have e2 : kq T n N X i = 26 := e.trans (sk_47.2 (by omega))
        have e3 : pz_or (kq T n N X i) = 10 := by rw [e2]; rfl
        have e4 : pz_lv (kq T n N X i) = 6 := by rw [e2]; rfl
        exact ⟨rfl, Or.inl ⟨by omega, by rw [e3], by omega, by omega⟩⟩
    · skip
      refine wa_bipush (w_rg2 (by omega) (by omega)) ?_
      refine wa_goto ⟨_, rfl⟩ ?_
      refine wa_ireturn rfl ?_
      have e := hsk (by omega)
      have e2 : kq T n N X i = 25 := e.trans (sk_42.2 (by omega))
      have e3 : pz_or (kq T n N X i) = 9 := by rw [e2]; rfl
      have e4 : pz_lv (kq T n N X i) = 6 := by rw [e2]; rfl
      exact ⟨rfl, Or.inl ⟨by omega, by rw [e3], by omega, by omega⟩⟩
  · skip
    refine wa_iconst ?_
    refine wa_ireturn rfl ?_
    refine ⟨rfl, Or.inr ⟨?_, rfl⟩⟩
    first
      | exact fun q => opz0 (hsk (by omega)) (by omega) (by omega) (q.trans (by omega))
      | exact fun q => opz1 (hsk (by omega)) (by omega) (by omega) (by omega) (by omega) (q.trans (by omega))
      | exact fun q => opz2 (hsk (by omega)) (by omega) (by omega) (q.trans (by omega))
      | exact fun q => opz3 (hsk (by omega)) (by omega) (by omega) (by omega) (q.trans (by omega))
      | exact opz hl.1 (hsn (by omega))
end Wc8
