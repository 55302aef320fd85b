/-! PART 9h: words taken back, arrays filled, a host cleared, the reader's read. -/
section W9h
variable {xs : List (Nat × List Int32)} {M : Nat → Prop} {d : Nat} {A B C S Z : wS} {Q : wO → wS → Prop} {T : Int → Int} {n : Int}
theorem wd_at_ag {w : Nat} {H : Int} (h : wd_at S w H) (e : ∀ x : Nat, x ≤ 10 → Z (w + x) = S (w + x)) : wd_at Z w H := by
  have e0 := e 0 (by omega)
  rw [Nat.add_zero] at e0
  unfold wd_at
  rw [e0, e 1 (by omega), e 2 (by omega), e 3 (by omega), e 4 (by omega), e 10 (by omega)]
  exact h
theorem wd_L_ag {w : Nat} {H : Int} (h : wd_L S w H) (e : ∀ x : Nat, x ≤ 10 → Z (w + x) (-1) = S (w + x) (-1)) : wd_L Z w H := by
  unfold wd_L
  rw [e 1 (by omega), e 2 (by omega), e 3 (by omega), e 4 (by omega), e 5 (by omega), e 6 (by omega), e 10 (by omega)]
  exact h
theorem tb_W {w : Nat} {H : Int} (h : wd_at S w H) (g : tb_ag w H S Z) (hm : mk_I S w) (hu : ∀ k : Int, 0 ≤ k → k < S (w + 9) 1 → S (w + 2) k + S (w + 3) k ≤ S (w + 9) 0) : wd_at Z w H := by
  obtain ⟨⟨g1, g2, -, -⟩, -, -, g5, g6⟩ := g
  obtain ⟨-, m0, m1, -, -⟩ := hm
  obtain ⟨c1, c2, c3, c4, c5, c6⟩ := h
  have f1 : Z (w + 1) = S (w + 1) := funext fun i => g6 _ i (by omega)
  have f2 : Z (w + 2) = S (w + 2) := funext fun i => g6 _ i (by omega)
  have f3 : Z (w + 3) = S (w + 3) := funext fun i => g6 _ i (by omega)
  have f4 : Z (w + 4) = S (w + 4) := funext fun i => g6 _ i (by omega)
  unfold wd_at
  rw [f1, f2, f3, f4, g1, g2]
  refine ⟨⟨m1.1, by omega⟩, ⟨m0.1, by omega⟩, fun k k0 k1 => ?_, g5, fun k k1 => c5 k (by omega), fun k q k0 k1 q0 q1 hw => c6 k q k0 (by omega) q0 (by omega) hw⟩
  have := c3 k k0 (by omega)
  have := hu k k0 k1
  omega
theorem tb_L {w : Nat} {H : Int} (h : wd_L S w H) (g : tb_ag w H S Z) : wd_L Z w H := wd_L_ag h (fun _ _ => g.2.2.2.2 _ _ (Or.inl (by omega)))
theorem tb_V {NO NM Z : Int → Int} {m nc cnt c1 : Int} (h : wv_I NO NM nc cnt) (g : tb_q NO Z m nc cnt) (hm : 0 ≤ m ∧ m ≤ nc) (hc : c1 ≤ cnt) (hn : ∀ n : Int, 0 ≤ n → n < m → NM n < c1) : wv_I Z NM m c1 := by
  refine ⟨hm.1, fun n n0 n1 => ?_, fun k k0 k1 => ?_⟩
  · obtain ⟨a1, a2, a3⟩ := h.2.1 n n0 (by omega)
    have := hn n n0 n1
    refine ⟨a1, this, ?_⟩
    rw [g _ a1 a2, a3, if_neg (by omega)]
  · rw [g k k0 (by omega)]
    by_cases hq : m ≤ NO k ∧ NO k < nc
    · exact Or.inl (if_pos hq)
    · rw [if_neg hq]
      rcases h.2.2 k k0 (by omega) with q | q
      · exact Or.inl q
      · exact Or.inr ⟨q.1, by omega, q.2.2⟩
theorem fi_l {a : Nat} {v len : Int} (ha : Nat.blt a 388 = true) (hta : wY0.ty a = 0) (hl : S a (-1) = len) (hv : -2147483648 ≤ v ∧ v ≤ 2147483647) (hln : len ≤ 2147483647) (hk : ∀ Z, (∀ i : Int, 0 ≤ i → i < len → Z a i = v) → (∀ (j : Nat) (i : Int), (j ≠ a ∨ i < 0) → Z j i = S j i) → Q (.inl none) Z) : ∀ (f : Nat) (t : Int) (Z : wS), (len - t).toNat < f → 0 ≤ t → t ≤ len → (∀ i : Int, 0 ≤ i → i < t → Z a i = v) → (∀ (j : Nat) (i : Int), (j ≠ a ∨ i < 0) → Z j i = S j i) → wJ (pe_GA xs) wY0 M d t_JA_fill ((pe_at t_JA_fill.bl 1).getD (0, [])).2 [(0, (2, (a : Int))), (1, (0, v)), (2, (0, t)), (3, (0, len))] [] Z Q := by
  intro f
  induction f with
  | zero => intro t Z h; exact absurd h (Nat.not_lt_zero _)
  | succ f ih =>
    intro t Z hf h0 h1 hd hz
    have zl : Z a (-1) = len := (hz a (-1) (Or.inr (by decide))).trans hl
    refine wa_iload_n (n := 2) rfl ?_
    refine wa_iload_n (n := 3) rfl ?_
    refine wa_icmpge (w_rg0 (by omega) (by omega)) (w_rg0 (by omega) (by omega)) ⟨_, rfl⟩ (fun c1 => ?_) (fun c1 => ?_)
    · skip
      refine wa_return rfl ?_
      have htl : t = len := by omega
      subst htl
      exact hk Z hd hz
    · skip
      refine wa_aload_n (n := 0) rfl ?_
      refine wa_iload_n (n := 2) rfl ?_
      refine wa_iload_n (n := 1) rfl ?_
      refine wb_iast a rfl (wy_pr ha) hta (n := len) (zl) (by omega) (by omega) ⟨(by omega), (by omega)⟩ ?_
      refine wa_iinc rfl rfl ?_
      refine wa_goto ⟨_, rfl⟩ ?_
      refine wJ_S (ih (t + 1) _ (by omega) (by omega) (by omega) (fun i i0 i1 => ?_) (fun j i hj => (w_up_no (by omega)).trans (hz j i hj))) ⟨rfl, rfl, rfl, rfl, trivial⟩
      by_cases hi : i = t
      · rw [hi, w_up_same]
      · rw [w_up_at hi]; exact hd i i0 (by omega)
theorem fi_ok {a : Nat} {v len : Int} (ha : Nat.blt a 388 = true) (hta : wY0.ty a = 0) (hl : S a (-1) = len) (hv : -2147483648 ≤ v ∧ v ≤ 2147483647) : wJ (pe_GA xs) wY0 M d t_JA_fill ((pe_at t_JA_fill.bl 0).getD (0, [])).2 [(0, (2, (a : Int))), (1, (0, v))] [] S (fun o Z => o = .inl none ∧ (∀ i : Int, 0 ≤ i → i < len → Z a i = v) ∧ ∀ (j : Nat) (i : Int), (j ≠ a ∨ i < 0) → Z j i = S j i) := by
  refine wa_iconst ?_
  refine wa_istore_n (n := 2) rfl ?_
  refine wa_aload_n (n := 0) rfl ?_
  refine wb_alen a rfl (wy_pr ha) (by rw [hta]; rfl) (v := len) (hl) (fun r1 => ?_)
  refine wa_istore_n (n := 3) rfl ?_
  refine wa_fall ⟨_, rfl⟩ ?_
  exact wJ_S (fi_l ha hta hl hv (by omega) (fun Z h1 h2 => ⟨rfl, h1, h2⟩) (len.toNat + 1) 0 S (by omega) (by omega) (by omega) (fun i i0 i1 => absurd i1 (by omega)) (fun _ _ _ => rfl)) ⟨rfl, rfl, rfl, rfl, trivial⟩
/-- the words of a host from the beginning on: 13, of 56 bytes; none has a number -/
def hw_I (S : wS) (w : Nat) : Prop := wd_at S w 64 ∧ wd_L S w 64 ∧ (S w 14 = 13 ∧ S w 15 = 56 ∧ S w 10 = 0 ∧ S w 12 = 0) ∧ (13 ≤ S w 7 ∧ 56 ≤ S w 1) ∧ (S (w + 9) (-1) = 4 ∧ S (w + 7) (-1) = 64 ∧ S (w + 8) (-1) = 64) ∧ (∀ k : Int, 0 ≤ k → k < S w 7 → S (w + 5) k = -1 ∧ S (w + 6) k = -1) ∧ ∀ k : Int, 0 ≤ k → k < 13 → S (w + 2) k + S (w + 3) k ≤ 56
/-- a host is cleared -/
def oc_ag (b w st kh : Nat) (S Z : wS) : Prop := (Z b 2 = 0 ∧ Z b 4 = 0 ∧ Z st 2 = 0 ∧ Z b 16 = 0 ∧ Z b 18 = 0) ∧ (∀ i : Int, 0 ≤ i → i < S kh (-1) → Z kh i = 0) ∧ (Z w 1 = 56 ∧ Z w 7 = 13) ∧ hw_I Z w ∧ ∀ (j : Nat) (i : Int), (i < 0 ∨ ((j ≠ w + 5 ∧ j ≠ w + 6 ∧ j ≠ w + 9 ∧ j ≠ w + 10 ∧ j ≠ kh) ∧ (j ≠ w ∨ (i ≠ 1 ∧ i ≠ 7 ∧ i ≠ 10 ∧ i ≠ 12)) ∧ (j ≠ b ∨ (i ≠ 2 ∧ i ≠ 4 ∧ i ≠ 16 ∧ i ≠ 18)) ∧ (j ≠ st ∨ i ≠ 2))) → Z j i = S j i
theorem hw_marks {w : Nat} (h : hw_I S w) (hZ9 : ∀ i : Int, Z (w + 9) i = if i = 0 then 56 else if i = 1 then 13 else if i = 2 then 0 else if i = 3 then 0 else S (w + 9) i) (hz : ∀ (j : Nat) (i : Int), j ≠ w + 9 → Z j i = S j i) : wd_at Z w 64 ∧ wd_L Z w 64 ∧ wv_L Z w ∧ mk_I Z w := by
  obtain ⟨h1, h2, ⟨h3, h4, h5, h6⟩, ⟨h7, h8⟩, ⟨h9, h10, h11⟩, h12, h13⟩ := h
  have er : ∀ j : Nat, j ≠ w + 9 → Z j = S j := fun j hj => funext fun i => hz j i hj
  have l9 : Z (w + 9) (-1) = S (w + 9) (-1) := by rw [hZ9, if_neg (by decide), if_neg (by decide), if_neg (by decide), if_neg (by decide)]
  have v : ∀ j m : Nat, (j = w + 5 ∨ j = w + 6) → wv_I (S j) (S m) 0 (S w 7) := fun j m hj => ⟨by decide, fun n n0 n1 => absurd n1 (by omega), fun k k0 k1 => Or.inl (by rcases hj with rfl | rfl; exact (h12 k k0 k1).1; exact (h12 k k0 k1).2)⟩
  refine ⟨?_, ?_, ?_, ?_⟩
  · unfold wd_at
    rw [er (w + 1) (by omega), er (w + 2) (by omega), er (w + 3) (by omega), er (w + 4) (by omega), er (w + 10) (by omega), er w (by omega)]; exact h1
  · unfold wd_L
    rw [er (w + 1) (by omega), er (w + 2) (by omega), er (w + 3) (by omega), er (w + 4) (by omega), er (w + 5) (by omega), er (w + 6) (by omega), er (w + 10) (by omega)]; exact h2
  · unfold wv_L
    rw [er (w + 5) (by omega), er (w + 6) (by omega), er (w + 7) (by omega), er (w + 8) (by omega), er w (by omega), h5, h6, h10, h11]
    exact ⟨v _ _ (Or.inl rfl), v _ _ (Or.inr rfl), by decide, by decide, by decide, by decide, by decide, by decide⟩
  · have A0 : Z (w + 9) 0 = 56 := by rw [hZ9, if_pos rfl]
    have A1 : Z (w + 9) 1 = 13 := by rw [hZ9, if_neg (by decide), if_pos rfl]
    have A2 : Z (w + 9) 2 = 0 := by rw [hZ9, if_neg (by decide), if_neg (by decide), if_pos rfl]
    have A3 : Z (w + 9) 3 = 0 := by rw [hZ9, if_neg (by decide), if_neg (by decide), if_neg (by decide), if_pos rfl]
    unfold mk_I
    rw [l9, er w (by omega), A0, A1, A2, A3, h5, h6]
    exact ⟨h9, ⟨by omega, h8⟩, ⟨by omega, h7⟩, ⟨by omega, by omega⟩, ⟨by omega, by omega⟩⟩
theorem hw_ag {w : Nat} (h : hw_I S w) (e : ∀ x : Nat, x ≤ 10 → Z (w + x) = S (w + x)) : hw_I Z w := by
  have e0 := e 0 (by omega)
  rw [Nat.add_zero] at e0
  refine ⟨wd_at_ag h.1 e, wd_L_ag h.2.1 (fun x hx => by rw [e x hx]), ?_⟩
  rw [e0, e 9 (by omega), e 7 (by omega), e 8 (by omega), e 5 (by omega), e 6 (by omega), e 2 (by omega), e 3 (by omega)]
  exact h.2.2
theorem hw_tb {w : Nat} (h : hw_I S w) (hA9 : ∀ i : Int, A (w + 9) i = if i = 0 then 56 else if i = 1 then 13 else if i = 2 then 0 else if i = 3 then 0 else S (w + 9) i) (hz : ∀ (j : Nat) (i : Int), j ≠ w + 9 → A j i = S j i) (g : tb_ag w 64 A Z) : hw_I Z w ∧ Z w 1 = 56 ∧ Z w 7 = 13 := by
  obtain ⟨k1, k2, k3, k4⟩ := hw_marks h hA9 hz
  have a0 : A (w + 9) 0 = 56 := by rw [hA9, if_pos rfl]
  have a1 : A (w + 9) 1 = 13 := by rw [hA9, if_neg (by decide), if_pos rfl]
  have a2 : A (w + 9) 2 = 0 := by rw [hA9, if_neg (by decide), if_neg (by decide), if_pos rfl]
  have a3 : A (w + 9) 3 = 0 := by rw [hA9, if_neg (by decide), if_neg (by decide), if_neg (by decide), if_pos rfl]
  have al : A (w + 9) (-1) = S (w + 9) (-1) := by rw [hA9, if_neg (by decide), if_neg (by decide), if_neg (by decide), if_neg (by decide)]
  obtain ⟨h1, h2, ⟨h3, h4, h5, h6⟩, ⟨h7, h8⟩, ⟨h9, h10, h11⟩, h12, h13⟩ := h
  have hW := tb_W k1 g k4 (fun k q0 q1 => by rw [a1] at q1; rw [a0, hz (w + 2) k (by omega), hz (w + 3) k (by omega)]; exact h13 k q0 q1)
  have hL := tb_L k2 g
  obtain ⟨⟨g1, g2, g3, g4⟩, g5, g6, -, g7⟩ := g
  refine ⟨⟨hW, hL, ⟨?_, ?_, g3.trans a2, g4.trans a3⟩, ⟨by rw [g2, a1]; omega, by rw [g1, a0]; omega⟩, ⟨?_, ?_, ?_⟩, fun k q0 q1 => ⟨?_, ?_⟩, fun k q0 q1 => ?_⟩, g1.trans a0, g2.trans a1⟩
  · rw [g7 w 14 (by omega), hz w 14 (by omega)]; exact h3
  · rw [g7 w 15 (by omega), hz w 15 (by omega)]; exact h4
  · rw [g7 (w + 9) (-1) (by omega), al]; exact h9
  · rw [g7 (w + 7) (-1) (by omega), hz (w + 7) (-1) (by omega)]; exact h10
  · rw [g7 (w + 8) (-1) (by omega), hz (w + 8) (-1) (by omega)]; exact h11
  · rw [g2, a1] at q1
    have e := hz w 7 (by omega)
    rw [g5 k q0 (by omega), hz (w + 5) k (by omega), (h12 k q0 (by omega)).1]
    split <;> rfl
  · rw [g2, a1] at q1
    have e := hz w 7 (by omega)
    rw [g6 k q0 (by omega), hz (w + 6) k (by omega), (h12 k q0 (by omega)).2]
    split <;> rfl
  · rw [g7 (w + 2) k (by omega), g7 (w + 3) k (by omega), hz (w + 2) k (by omega), hz (w + 3) k (by omega)]; exact h13 k q0 q1
theorem ocl_73 (hI : hw_I S 74) : wJ (pe_GA xs) wY0 M (d + 3) t_XO_clear ((pe_at t_XO_clear.bl 0).getD (0, [])).2 [(0, (2, 73))] [] S (fun o Z => o = .inl none ∧ oc_ag 73 74 116 125 S Z) := by
  have i1 : S 74 14 = 13 := hI.2.2.1.1
  have i2 : S 74 15 = 56 := hI.2.2.1.2.1
  have i3 : S 83 (-1) = 4 := hI.2.2.2.2.1.1
  refine wa_aload_n (n := 0) rfl ?_
  refine wb_gf4 73 rfl (wy_pr rfl) wt_73 wf_3_0 (v := 74) wl_73_0 ?_
  refine wa_cv 74 rfl (wy_pr rfl) wt_74 (M2 := fun _ => False) rfl at_XW_clear ⟨_, rfl⟩ rfl rfl ⟨(Or.inr ⟨wy_pr rfl, fun q => q⟩), trivial⟩ trivial (fun _ _ q => False.elim q) ?_ (fun _ _ _ q => q)
  refine wa_aload_n (n := 0) rfl ?_
  refine wb_gf4 74 rfl (wy_pr rfl) wt_74 wf_9_13 (v := 83) wl_74_13 ?_
  refine wa_iconst ?_
  refine wa_aload_n (n := 0) rfl ?_
  refine wb_gfi 74 rfl (wy_pr rfl) wt_74 wf_9_15 (v := 56) (i2) (fun r1 => ?_)
  refine wb_iast 83 rfl (wy_pr rfl) wt_83 (n := 4) (i3) (by omega) (by omega) ⟨(by omega), (by omega)⟩ ?_
  refine wa_aload_n (n := 0) rfl ?_
  refine wb_gf4 74 rfl (wy_pr rfl) wt_74 wf_9_13 (v := 83) wl_74_13 ?_
  refine wa_iconst ?_
  refine wa_aload_n (n := 0) rfl ?_
  refine wb_gfi 74 rfl (wy_pr rfl) wt_74 wf_9_14 (v := 13) ((w_up_slot (by decide)).trans (i1)) (fun r2 => ?_)
  refine wb_iast 83 rfl (wy_pr rfl) wt_83 (n := 4) ((w_up_at (by decide)).trans (i3)) (by omega) (by omega) ⟨(by omega), (by omega)⟩ ?_
  refine wa_aload_n (n := 0) rfl ?_
  refine wb_gf4 74 rfl (wy_pr rfl) wt_74 wf_9_13 (v := 83) wl_74_13 ?_
  refine wa_iconst ?_
  refine wa_iconst ?_
  refine wb_iast 83 rfl (wy_pr rfl) wt_83 (n := 4) ((w_up_at (by decide)).trans ((w_up_at (by decide)).trans (i3))) (by omega) (by omega) ⟨(by omega), (by omega)⟩ ?_
  refine wa_aload_n (n := 0) rfl ?_
  refine wb_gf4 74 rfl (wy_pr rfl) wt_74 wf_9_13 (v := 83) wl_74_13 ?_
  refine wa_iconst ?_
  refine wa_iconst ?_
  refine wb_iast 83 rfl (wy_pr rfl) wt_83 (n := 4) ((w_up_at (by decide)).trans ((w_up_at (by decide)).trans ((w_up_at (by decide)).trans (i3)))) (by omega) (by omega) ⟨(by omega), (by omega)⟩ ?_
  refine wa_aload_n (n := 0) rfl ?_
  have h9i : ∀ i : Int, ((w_up (w_up (w_up (w_up S 83 0 56) 83 1 13) 83 2 0) 83 3 0)) (74 + 9) i = if i = 0 then 56 else if i = 1 then 13 else if i = 2 then 0 else if i = 3 then 0 else S (74 + 9) i := by
    intro i; show ((w_up (w_up (w_up (w_up S 83 0 56) 83 1 13) 83 2 0) 83 3 0)) 83 i = if i = 0 then 56 else if i = 1 then 13 else if i = 2 then 0 else if i = 3 then 0 else S 83 i
    by_cases c0 : i = 0
    · subst c0; rfl
    by_cases c1 : i = 1
    · subst c1; rfl
    by_cases c2 : i = 2
    · subst c2; rfl
    by_cases c3 : i = 3
    · subst c3; rfl
    rw [if_neg c0, if_neg c1, if_neg c2, if_neg c3, w_up_at c3, w_up_at c2, w_up_at c1, w_up_at c0]
  have h9j : ∀ (j : Nat) (i : Int), j ≠ 74 + 9 → ((w_up (w_up (w_up (w_up S 83 0 56) 83 1 13) 83 2 0) 83 3 0)) j i = S j i := fun j i hj => (w_up_no (by omega)).trans ((w_up_no (by omega)).trans ((w_up_no (by omega)).trans ((w_up_no (by omega)).trans rfl)))
  have hmk := hw_marks hI h9i h9j
  refine wa_cv 74 rfl (wy_pr rfl) wt_74 (M2 := fun _ => False) rfl at_XW_takeBack ⟨_, rfl⟩ rfl rfl ⟨(Or.inr ⟨wy_pr rfl, fun q => q⟩), trivial⟩ trivial (fun _ _ q => False.elim q) (tb_74 (S := (w_up (w_up (w_up (w_up S 83 0 56) 83 1 13) 83 2 0) 83 3 0)) hmk.1 hmk.2.1 hmk.2.2.1 hmk.2.2.2) (fun oq3 Sq3 hp4 q3 => ?_)
  rcases q3 with ⟨rfl, tb⟩
  show wJ _ _ _ _ _ _ _ _ _ _
  generalize Sq3 = Zt at tb ⊢
  have hwt := hw_tb hI h9i h9j tb
  refine wa_return rfl ?_
  show wJ _ _ _ _ _ _ _ _ _ _
  refine wa_aload_n (n := 0) rfl ?_
  refine wa_iconst ?_
  refine wb_pfi 73 rfl (wy_pr rfl) wt_73 wf_3_2 (n := 2) rfl ⟨(by omega), (by omega)⟩ ?_
  refine wa_aload_n (n := 0) rfl ?_
  refine wa_iconst ?_
  refine wb_pfi 73 rfl (wy_pr rfl) wt_73 wf_3_4 (n := 4) rfl ⟨(by omega), (by omega)⟩ ?_
  refine wa_aload_n (n := 0) rfl ?_
  refine wb_gf4 73 rfl (wy_pr rfl) wt_73 wf_3_7 (v := 116) wl_73_7 ?_
  refine wa_iconst ?_
  refine wb_pfi 116 rfl (wy_pr rfl) wt_116 wf_7_2 (n := 2) rfl ⟨(by omega), (by omega)⟩ ?_
  refine wa_aload_n (n := 0) rfl ?_
  refine wb_gf4 73 rfl (wy_pr rfl) wt_73 wf_3_15 (v := 125) wl_73_15 ?_
  refine wa_iconst ?_
  refine wa_cs (M2 := fun _ => False) rfl at_JA_fill ⟨_, rfl⟩ rfl rfl ⟨(Or.inr ⟨wy_pr rfl, fun q => q⟩), trivial⟩ trivial (fun _ _ q => False.elim q) (fi_ok (S := (w_up (w_up (w_up Zt 73 2 0) 73 4 0) 116 2 0)) (a := 125) (v := 0) (len := (S 125 (-1))) rfl wt_125 ((w_up_slot (by decide)).trans ((w_up_slot (by decide)).trans ((w_up_slot (by decide)).trans (((tb.2.2.2.2 125 (-1) (by omega)).trans ((w_up_slot (by decide)).trans ((w_up_slot (by decide)).trans ((w_up_slot (by decide)).trans (w_up_slot (by decide)))))))))) ⟨by omega, by omega⟩) (fun oq5 Sq5 hp6 q5 => ?_)
  rcases q5 with ⟨rfl, fi⟩
  show wJ _ _ _ _ _ _ _ _ _ _
  generalize Sq5 = Zf at fi ⊢
  refine wa_aload_n (n := 0) rfl ?_
  refine wa_iconst ?_
  refine wb_pfi 73 rfl (wy_pr rfl) wt_73 wf_3_16 (n := 16) rfl ⟨(by omega), (by omega)⟩ ?_
  refine wa_aload_n (n := 0) rfl ?_
  refine wa_iconst ?_
  refine wb_pfi 73 rfl (wy_pr rfl) wt_73 wf_3_18 (n := 18) rfl ⟨(by omega), (by omega)⟩ ?_
  refine wa_return rfl ?_
  have zf : ∀ (j : Nat) (i : Int), (i < 0 ∨ ((j ≠ 79 ∧ j ≠ 80 ∧ j ≠ 83 ∧ j ≠ 84 ∧ j ≠ 125) ∧ (j ≠ 74 ∨ (i ≠ 1 ∧ i ≠ 7 ∧ i ≠ 10 ∧ i ≠ 12)) ∧ (j ≠ 73 ∨ (i ≠ 2 ∧ i ≠ 4 ∧ i ≠ 16 ∧ i ≠ 18)) ∧ (j ≠ 116 ∨ i ≠ 2))) → ((w_up (w_up Zf 73 16 0) 73 18 0)) j i = S j i := fun j i h => (w_up_no (by omega)).trans ((w_up_no (by omega)).trans ((fi.2 j i (by omega)).trans ((w_up_no (by omega)).trans ((w_up_no (by omega)).trans ((w_up_no (by omega)).trans ((tb.2.2.2.2 j i (by omega)).trans ((w_up_no (by omega)).trans ((w_up_no (by omega)).trans ((w_up_no (by omega)).trans ((w_up_no (by omega)).trans rfl))))))))))
  have zw : ∀ (j : Nat) (i : Int), (74 ≤ j ∧ j ≤ 84) → ((w_up (w_up Zf 73 16 0) 73 18 0)) j i = Zt j i := fun j i h => (w_up_no (by omega)).trans ((w_up_no (by omega)).trans ((fi.2 j i (by omega)).trans ((w_up_no (by omega)).trans ((w_up_no (by omega)).trans ((w_up_no (by omega)).trans rfl)))))
  refine ⟨rfl, ⟨((w_up_at (by decide)).trans ((w_up_at (by decide)).trans (((fi.2 73 2 (by omega)).trans ((w_up_slot (by decide)).trans ((w_up_at (by decide)).trans (w_up_same _ _ _ _))))))), ((w_up_at (by decide)).trans ((w_up_at (by decide)).trans (((fi.2 73 4 (by omega)).trans ((w_up_slot (by decide)).trans (w_up_same _ _ _ _)))))), ((w_up_slot (by decide)).trans ((w_up_slot (by decide)).trans (((fi.2 116 2 (by omega)).trans (w_up_same _ _ _ _))))), ((w_up_at (by decide)).trans (w_up_same _ _ _ _)), (w_up_same _ _ _ _)⟩, fun i i0 i1 => ?_, ⟨(zw 74 1 (by omega)).trans hwt.2.1, (zw 74 7 (by omega)).trans hwt.2.2⟩, ?_, zf⟩
  · exact (w_up_no (by omega)).trans ((w_up_no (by omega)).trans (fi.1 i i0 i1))
  · exact hw_ag hwt.1 (fun x hx => funext fun i => zw (74 + x) i ⟨by omega, by omega⟩)
theorem ocl_162 (hI : hw_I S 163) : wJ (pe_GA xs) wY0 M (d + 3) t_XO_clear ((pe_at t_XO_clear.bl 0).getD (0, [])).2 [(0, (2, 162))] [] S (fun o Z => o = .inl none ∧ oc_ag 162 163 205 214 S Z) := by
  have i1 : S 163 14 = 13 := hI.2.2.1.1
  have i2 : S 163 15 = 56 := hI.2.2.1.2.1
  have i3 : S 172 (-1) = 4 := hI.2.2.2.2.1.1
  refine wa_aload_n (n := 0) rfl ?_
  refine wb_gf4 162 rfl (wy_pr rfl) wt_162 wf_3_0 (v := 163) wl_162_0 ?_
  refine wa_cv 163 rfl (wy_pr rfl) wt_163 (M2 := fun _ => False) rfl at_XW_clear ⟨_, rfl⟩ rfl rfl ⟨(Or.inr ⟨wy_pr rfl, fun q => q⟩), trivial⟩ trivial (fun _ _ q => False.elim q) ?_ (fun _ _ _ q => q)
  refine wa_aload_n (n := 0) rfl ?_
  refine wb_gf4 163 rfl (wy_pr rfl) wt_163 wf_9_13 (v := 172) wl_163_13 ?_
  refine wa_iconst ?_
  refine wa_aload_n (n := 0) rfl ?_
  refine wb_gfi 163 rfl (wy_pr rfl) wt_163 wf_9_15 (v := 56) (i2) (fun r1 => ?_)
  refine wb_iast 172 rfl (wy_pr rfl) wt_172 (n := 4) (i3) (by omega) (by omega) ⟨(by omega), (by omega)⟩ ?_
  refine wa_aload_n (n := 0) rfl ?_
  refine wb_gf4 163 rfl (wy_pr rfl) wt_163 wf_9_13 (v := 172) wl_163_13 ?_
  refine wa_iconst ?_
  refine wa_aload_n (n := 0) rfl ?_
  refine wb_gfi 163 rfl (wy_pr rfl) wt_163 wf_9_14 (v := 13) ((w_up_slot (by decide)).trans (i1)) (fun r2 => ?_)
  refine wb_iast 172 rfl (wy_pr rfl) wt_172 (n := 4) ((w_up_at (by decide)).trans (i3)) (by omega) (by omega) ⟨(by omega), (by omega)⟩ ?_
  refine wa_aload_n (n := 0) rfl ?_
  refine wb_gf4 163 rfl (wy_pr rfl) wt_163 wf_9_13 (v := 172) wl_163_13 ?_
  refine wa_iconst ?_
  refine wa_iconst ?_
  refine wb_iast 172 rfl (wy_pr rfl) wt_172 (n := 4) ((w_up_at (by decide)).trans ((w_up_at (by decide)).trans (i3))) (by omega) (by omega) ⟨(by omega), (by omega)⟩ ?_
  refine wa_aload_n (n := 0) rfl ?_
  refine wb_gf4 163 rfl (wy_pr rfl) wt_163 wf_9_13 (v := 172) wl_163_13 ?_
  refine wa_iconst ?_
  refine wa_iconst ?_
  refine wb_iast 172 rfl (wy_pr rfl) wt_172 (n := 4) ((w_up_at (by decide)).trans ((w_up_at (by decide)).trans ((w_up_at (by decide)).trans (i3)))) (by omega) (by omega) ⟨(by omega), (by omega)⟩ ?_
  refine wa_aload_n (n := 0) rfl ?_
  have h9i : ∀ i : Int, ((w_up (w_up (w_up (w_up S 172 0 56) 172 1 13) 172 2 0) 172 3 0)) (163 + 9) i = if i = 0 then 56 else if i = 1 then 13 else if i = 2 then 0 else if i = 3 then 0 else S (163 + 9) i := by
    intro i; show ((w_up (w_up (w_up (w_up S 172 0 56) 172 1 13) 172 2 0) 172 3 0)) 172 i = if i = 0 then 56 else if i = 1 then 13 else if i = 2 then 0 else if i = 3 then 0 else S 172 i
    by_cases c0 : i = 0
    · subst c0; rfl
    by_cases c1 : i = 1
    · subst c1; rfl
    by_cases c2 : i = 2
    · subst c2; rfl
    by_cases c3 : i = 3
    · subst c3; rfl
    rw [if_neg c0, if_neg c1, if_neg c2, if_neg c3, w_up_at c3, w_up_at c2, w_up_at c1, w_up_at c0]
  have h9j : ∀ (j : Nat) (i : Int), j ≠ 163 + 9 → ((w_up (w_up (w_up (w_up S 172 0 56) 172 1 13) 172 2 0) 172 3 0)) j i = S j i := fun j i hj => (w_up_no (by omega)).trans ((w_up_no (by omega)).trans ((w_up_no (by omega)).trans ((w_up_no (by omega)).trans rfl)))
  have hmk := hw_marks hI h9i h9j
  refine wa_cv 163 rfl (wy_pr rfl) wt_163 (M2 := fun _ => False) rfl at_XW_takeBack ⟨_, rfl⟩ rfl rfl ⟨(Or.inr ⟨wy_pr rfl, fun q => q⟩), trivial⟩ trivial (fun _ _ q => False.elim q) (tb_163 (S := (w_up (w_up (w_up (w_up S 172 0 56) 172 1 13) 172 2 0) 172 3 0)) hmk.1 hmk.2.1 hmk.2.2.1 hmk.2.2.2) (fun oq3 Sq3 hp4 q3 => ?_)
  rcases q3 with ⟨rfl, tb⟩
  show wJ _ _ _ _ _ _ _ _ _ _
  generalize Sq3 = Zt at tb ⊢
  have hwt := hw_tb hI h9i h9j tb
  refine wa_return rfl ?_
  show wJ _ _ _ _ _ _ _ _ _ _
  refine wa_aload_n (n := 0) rfl ?_
  refine wa_iconst ?_
  refine wb_pfi 162 rfl (wy_pr rfl) wt_162 wf_3_2 (n := 2) rfl ⟨(by omega), (by omega)⟩ ?_
  refine wa_aload_n (n := 0) rfl ?_
  refine wa_iconst ?_
  refine wb_pfi 162 rfl (wy_pr rfl) wt_162 wf_3_4 (n := 4) rfl ⟨(by omega), (by omega)⟩ ?_
  refine wa_aload_n (n := 0) rfl ?_
  refine wb_gf4 162 rfl (wy_pr rfl) wt_162 wf_3_7 (v := 205) wl_162_7 ?_
  refine wa_iconst ?_
  refine wb_pfi 205 rfl (wy_pr rfl) wt_205 wf_7_2 (n := 2) rfl ⟨(by omega), (by omega)⟩ ?_
  refine wa_aload_n (n := 0) rfl ?_
  refine wb_gf4 162 rfl (wy_pr rfl) wt_162 wf_3_15 (v := 214) wl_162_15 ?_
  refine wa_iconst ?_
  refine wa_cs (M2 := fun _ => False) rfl at_JA_fill ⟨_, rfl⟩ rfl rfl ⟨(Or.inr ⟨wy_pr rfl, fun q => q⟩), trivial⟩ trivial (fun _ _ q => False.elim q) (fi_ok (S := (w_up (w_up (w_up Zt 162 2 0) 162 4 0) 205 2 0)) (a := 214) (v := 0) (len := (S 214 (-1))) rfl wt_214 ((w_up_slot (by decide)).trans ((w_up_slot (by decide)).trans ((w_up_slot (by decide)).trans (((tb.2.2.2.2 214 (-1) (by omega)).trans ((w_up_slot (by decide)).trans ((w_up_slot (by decide)).trans ((w_up_slot (by decide)).trans (w_up_slot (by decide)))))))))) ⟨by omega, by omega⟩) (fun oq5 Sq5 hp6 q5 => ?_)
  rcases q5 with ⟨rfl, fi⟩
  show wJ _ _ _ _ _ _ _ _ _ _
  generalize Sq5 = Zf at fi ⊢
  refine wa_aload_n (n := 0) rfl ?_
  refine wa_iconst ?_
  refine wb_pfi 162 rfl (wy_pr rfl) wt_162 wf_3_16 (n := 16) rfl ⟨(by omega), (by omega)⟩ ?_
  refine wa_aload_n (n := 0) rfl ?_
  refine wa_iconst ?_
  refine wb_pfi 162 rfl (wy_pr rfl) wt_162 wf_3_18 (n := 18) rfl ⟨(by omega), (by omega)⟩ ?_
  refine wa_return rfl ?_
  have zf : ∀ (j : Nat) (i : Int), (i < 0 ∨ ((j ≠ 168 ∧ j ≠ 169 ∧ j ≠ 172 ∧ j ≠ 173 ∧ j ≠ 214) ∧ (j ≠ 163 ∨ (i ≠ 1 ∧ i ≠ 7 ∧ i ≠ 10 ∧ i ≠ 12)) ∧ (j ≠ 162 ∨ (i ≠ 2 ∧ i ≠ 4 ∧ i ≠ 16 ∧ i ≠ 18)) ∧ (j ≠ 205 ∨ i ≠ 2))) → ((w_up (w_up Zf 162 16 0) 162 18 0)) j i = S j i := fun j i h => (w_up_no (by omega)).trans ((w_up_no (by omega)).trans ((fi.2 j i (by omega)).trans ((w_up_no (by omega)).trans ((w_up_no (by omega)).trans ((w_up_no (by omega)).trans ((tb.2.2.2.2 j i (by omega)).trans ((w_up_no (by omega)).trans ((w_up_no (by omega)).trans ((w_up_no (by omega)).trans ((w_up_no (by omega)).trans rfl))))))))))
  have zw : ∀ (j : Nat) (i : Int), (163 ≤ j ∧ j ≤ 173) → ((w_up (w_up Zf 162 16 0) 162 18 0)) j i = Zt j i := fun j i h => (w_up_no (by omega)).trans ((w_up_no (by omega)).trans ((fi.2 j i (by omega)).trans ((w_up_no (by omega)).trans ((w_up_no (by omega)).trans ((w_up_no (by omega)).trans rfl)))))
  refine ⟨rfl, ⟨((w_up_at (by decide)).trans ((w_up_at (by decide)).trans (((fi.2 162 2 (by omega)).trans ((w_up_slot (by decide)).trans ((w_up_at (by decide)).trans (w_up_same _ _ _ _))))))), ((w_up_at (by decide)).trans ((w_up_at (by decide)).trans (((fi.2 162 4 (by omega)).trans ((w_up_slot (by decide)).trans (w_up_same _ _ _ _)))))), ((w_up_slot (by decide)).trans ((w_up_slot (by decide)).trans (((fi.2 205 2 (by omega)).trans (w_up_same _ _ _ _))))), ((w_up_at (by decide)).trans (w_up_same _ _ _ _)), (w_up_same _ _ _ _)⟩, fun i i0 i1 => ?_, ⟨(zw 163 1 (by omega)).trans hwt.2.1, (zw 163 7 (by omega)).trans hwt.2.2⟩, ?_, zf⟩
  · exact (w_up_no (by omega)).trans ((w_up_no (by omega)).trans (fi.1 i i0 i1))
  · exact hw_ag hwt.1 (fun x hx => funext fun i => zw (163 + x) i ⟨by omega, by omega⟩)
theorem rdr_74 (hA : as_74 xs) (hn : 0 ≤ n ∧ n ≤ 65536 ∧ n ≤ S 1 (-1) ∧ S 1 (-1) ≤ 2147483647) (hT : ∀ i : Int, 0 ≤ i → i < n → S 1 i = T i) (hC : ∀ i : Int, 0 ≤ i → i < n → T i = 10 ∨ (32 ≤ T i ∧ T i ≤ 126)) (h18 : S 18 (-1) = 60) (hI : gI S) (hW : wd_at S 74 64) (hL : wd_L S 74 64) (hR : S 16 (-1) = S 15 (-1) ∧ S 17 (-1) = S 15 (-1) ∧ 64 ≤ S 15 (-1) ∧ S 15 (-1) ≤ 1048576) (hb : S 74 7 ≤ 200000 ∧ S 74 1 ≤ 2000000 ∧ S 76 (-1) ≤ 1000000 ∧ S 75 (-1) ≤ 10000000) : wJ (pe_GA xs) wY0 (mS [15, 16, 17, 75, 76, 77, 78, 79, 80]) (d + 8) t_XR_read ((pe_at t_XR_read.bl 0).getD (0, [])).2 [(0, (2, 14)), (1, (2, 1)), (2, (0, n)), (3, (2, 74)), (4, (0, 1))] [] S (fun o Z => o = .inl none ∧ ∃ c : Nat, rh_I 74 64 T n (w_up (w_up (w_up (w_up (w_up (w_up S 14 5 1) 14 6 n) 14 7 74) 14 8 1) 14 3 0) 14 4 0) Z c) := by
  refine wa_aload_n (n := 0) rfl ?_
  refine wa_aload_n (n := 1) rfl ?_
  refine wb_pf6 14 rfl (wy_pr rfl) wt_14 wf_6_5 (n := 5) rfl (Or.inr (wy_pr rfl)) ?_
  refine wa_aload_n (n := 0) rfl ?_
  refine wa_iload_n (n := 2) rfl ?_
  refine wb_pfi 14 rfl (wy_pr rfl) wt_14 wf_6_6 (n := 6) rfl ⟨(by omega), (by omega)⟩ ?_
  refine wa_aload_n (n := 0) rfl ?_
  refine wa_aload_n (n := 3) rfl ?_
  refine wb_pfr 14 rfl (wy_pr rfl) wt_14 wf_6_7 (n := 7) rfl (Or.inr ⟨wy_pr rfl, by decide⟩) ?_
  refine wa_aload_n (n := 0) rfl ?_
  refine wa_iload (n := 4) rfl ?_
  refine wb_pfz 14 rfl (wy_pr rfl) wt_14 wf_6_8 (n := 8) rfl ⟨(by omega), (by omega)⟩ ?_
  refine wa_aload_n (n := 0) rfl ?_
  refine wa_iconst ?_
  refine wb_pfi 14 rfl (wy_pr rfl) wt_14 wf_6_3 (n := 3) rfl ⟨(by omega), (by omega)⟩ ?_
  refine wa_aload_n (n := 0) rfl ?_
  refine wa_iconst ?_
  refine wb_pfi 14 rfl (wy_pr rfl) wt_14 wf_6_4 (n := 4) rfl ⟨(by omega), (by omega)⟩ ?_
  refine wa_aload_n (n := 0) rfl ?_
  refine wa_iconst ?_
  have hB : rd_B T n (w_up (w_up (w_up (w_up (w_up (w_up S 14 5 1) 14 6 n) 14 7 74) 14 8 1) 14 3 0) 14 4 0) := ⟨rfl, rfl, ⟨hn.1, hn.2.1⟩, hn.2.2.1, hn.2.2.2, hT, hC⟩
  refine wa_cv 14 rfl (wy_pr rfl) wt_14 (M2 := fun _ => False) rfl at_XR_behindBlanks ⟨_, rfl⟩ rfl rfl ⟨(Or.inr ⟨wy_pr rfl, fun q => q⟩), (Or.inr ⟨wy_pr rfl, fun q => q⟩), trivial, (Or.inr ⟨wy_pr rfl, fun q => q⟩), trivial, trivial⟩ trivial (fun _ _ q => False.elim q) (bb_ok (S := (w_up (w_up (w_up (w_up (w_up (w_up S 14 5 1) 14 6 n) 14 7 74) 14 8 1) 14 3 0) 14 4 0)) (p := 0) hB ⟨by omega, by omega⟩) (fun oq1 Sq1 hp2 q1 => ?_)
  rcases q1 with ⟨rfl, rfl⟩
  show wJ _ _ _ _ _ _ _ _ _ _
  refine wa_istore (n := 5) rfl ?_
  refine wa_iconst ?_
  refine wa_istore (n := 6) rfl ?_
  refine wa_fall ⟨_, rfl⟩ ?_
  have e : ∀ x : Nat, x ≤ 10 → (w_up (w_up (w_up (w_up (w_up (w_up S 14 5 1) 14 6 n) 14 7 74) 14 8 1) 14 3 0) 14 4 0) (74 + x) = S (74 + x) := fun x hx => funext fun i => (w_up_slot (by omega)).trans ((w_up_slot (by omega)).trans ((w_up_slot (by omega)).trans ((w_up_slot (by omega)).trans ((w_up_slot (by omega)).trans ((w_up_slot (by omega)).trans rfl)))))
  have hW6 := wd_at_ag (Z := (w_up (w_up (w_up (w_up (w_up (w_up S 14 5 1) 14 6 n) 14 7 74) 14 8 1) 14 3 0) 14 4 0)) hW e
  have hL6 := wd_L_ag (Z := (w_up (w_up (w_up (w_up (w_up (w_up S 14 5 1) 14 6 n) 14 7 74) 14 8 1) 14 3 0) 14 4 0)) hL (fun x hx => by rw [e x hx])
  have hR6 : rd_L (w_up (w_up (w_up (w_up (w_up (w_up S 14 5 1) 14 6 n) 14 7 74) 14 8 1) 14 3 0) 14 4 0) := ⟨⟨by show (0 : Int) ≤ 0; omega, by show (0 : Int) ≤ S 15 (-1); omega⟩, hR⟩
  have hge := lx_bl_rg T n ((n - 0).toNat + 1) 0 hn.1
  have hge : 0 ≤ lx_go T n 0 ∧ lx_go T n 0 ≤ n := hge
  refine wJ_S (rl_74 hA hB rfl rfl h18 hW6 hb rfl (n.toNat + 1) 0 (lx_go T n 0) (w_up (w_up (w_up (w_up (w_up (w_up S 14 5 1) 14 6 n) 14 7 74) 14 8 1) 14 3 0) 14 4 0) (by omega) ⟨rx_rfl hW6 hL6 hR6 (gI_up (gI_up (gI_up (gI_up (gI_up (gI_up hI (by omega) (by omega) (by omega)) (by omega) (by omega) (by omega)) (by omega) (by omega) (by omega)) (by omega) (by omega) (by omega)) (by omega) (by omega) (by omega)) (by omega) (by omega) (by omega)), rfl, fun k hk => absurd hk (Nat.not_lt_zero _), Or.inl rfl, fun k hk => absurd hk (by omega), ⟨by omega, hge.2⟩, ⟨by omega, fun k k0 k1 => absurd k1 (by omega)⟩, by omega⟩) ⟨rfl, rfl, rfl, trivial⟩
theorem rdr_163 (hA : as_163 xs) (hn : 0 ≤ n ∧ n ≤ 65536 ∧ n ≤ S 1 (-1) ∧ S 1 (-1) ≤ 2147483647) (hT : ∀ i : Int, 0 ≤ i → i < n → S 1 i = T i) (hC : ∀ i : Int, 0 ≤ i → i < n → T i = 10 ∨ (32 ≤ T i ∧ T i ≤ 126)) (h18 : S 18 (-1) = 60) (hI : gI S) (hW : wd_at S 163 64) (hL : wd_L S 163 64) (hR : S 16 (-1) = S 15 (-1) ∧ S 17 (-1) = S 15 (-1) ∧ 64 ≤ S 15 (-1) ∧ S 15 (-1) ≤ 1048576) (hb : S 163 7 ≤ 200000 ∧ S 163 1 ≤ 2000000 ∧ S 165 (-1) ≤ 1000000 ∧ S 164 (-1) ≤ 10000000) : wJ (pe_GA xs) wY0 (mS [15, 16, 17, 164, 165, 166, 167, 168, 169]) (d + 8) t_XR_read ((pe_at t_XR_read.bl 0).getD (0, [])).2 [(0, (2, 14)), (1, (2, 1)), (2, (0, n)), (3, (2, 163)), (4, (0, 1))] [] S (fun o Z => o = .inl none ∧ ∃ c : Nat, rh_I 163 64 T n (w_up (w_up (w_up (w_up (w_up (w_up S 14 5 1) 14 6 n) 14 7 163) 14 8 1) 14 3 0) 14 4 0) Z c) := by
  refine wa_aload_n (n := 0) rfl ?_
  refine wa_aload_n (n := 1) rfl ?_
  refine wb_pf6 14 rfl (wy_pr rfl) wt_14 wf_6_5 (n := 5) rfl (Or.inr (wy_pr rfl)) ?_
  refine wa_aload_n (n := 0) rfl ?_
  refine wa_iload_n (n := 2) rfl ?_
  refine wb_pfi 14 rfl (wy_pr rfl) wt_14 wf_6_6 (n := 6) rfl ⟨(by omega), (by omega)⟩ ?_
  refine wa_aload_n (n := 0) rfl ?_
  refine wa_aload_n (n := 3) rfl ?_
  refine wb_pfr 14 rfl (wy_pr rfl) wt_14 wf_6_7 (n := 7) rfl (Or.inr ⟨wy_pr rfl, by decide⟩) ?_
  refine wa_aload_n (n := 0) rfl ?_
  refine wa_iload (n := 4) rfl ?_
  refine wb_pfz 14 rfl (wy_pr rfl) wt_14 wf_6_8 (n := 8) rfl ⟨(by omega), (by omega)⟩ ?_
  refine wa_aload_n (n := 0) rfl ?_
  refine wa_iconst ?_
  refine wb_pfi 14 rfl (wy_pr rfl) wt_14 wf_6_3 (n := 3) rfl ⟨(by omega), (by omega)⟩ ?_
  refine wa_aload_n (n := 0) rfl ?_
  refine wa_iconst ?_
  refine wb_pfi 14 rfl (wy_pr rfl) wt_14 wf_6_4 (n := 4) rfl ⟨(by omega), (by omega)⟩ ?_
  refine wa_aload_n (n := 0) rfl ?_
  refine wa_iconst ?_
  have hB : rd_B T n (w_up (w_up (w_up (w_up (w_up (w_up S 14 5 1) 14 6 n) 14 7 163) 14 8 1) 14 3 0) 14 4 0) := ⟨rfl, rfl, ⟨hn.1, hn.2.1⟩, hn.2.2.1, hn.2.2.2, hT, hC⟩
  refine wa_cv 14 rfl (wy_pr rfl) wt_14 (M2 := fun _ => False) rfl at_XR_behindBlanks ⟨_, rfl⟩ rfl rfl ⟨(Or.inr ⟨wy_pr rfl, fun q => q⟩), (Or.inr ⟨wy_pr rfl, fun q => q⟩), trivial, (Or.inr ⟨wy_pr rfl, fun q => q⟩), trivial, trivial⟩ trivial (fun _ _ q => False.elim q) (bb_ok (S := (w_up (w_up (w_up (w_up (w_up (w_up S 14 5 1) 14 6 n) 14 7 163) 14 8 1) 14 3 0) 14 4 0)) (p := 0) hB ⟨by omega, by omega⟩) (fun oq1 Sq1 hp2 q1 => ?_)
  rcases q1 with ⟨rfl, rfl⟩
  show wJ _ _ _ _ _ _ _ _ _ _
  refine wa_istore (n := 5) rfl ?_
  refine wa_iconst ?_
  refine wa_istore (n := 6) rfl ?_
  refine wa_fall ⟨_, rfl⟩ ?_
  have e : ∀ x : Nat, x ≤ 10 → (w_up (w_up (w_up (w_up (w_up (w_up S 14 5 1) 14 6 n) 14 7 163) 14 8 1) 14 3 0) 14 4 0) (163 + x) = S (163 + x) := fun x hx => funext fun i => (w_up_slot (by omega)).trans ((w_up_slot (by omega)).trans ((w_up_slot (by omega)).trans ((w_up_slot (by omega)).trans ((w_up_slot (by omega)).trans ((w_up_slot (by omega)).trans rfl)))))
  have hW6 := wd_at_ag (Z := (w_up (w_up (w_up (w_up (w_up (w_up S 14 5 1) 14 6 n) 14 7 163) 14 8 1) 14 3 0) 14 4 0)) hW e
  have hL6 := wd_L_ag (Z := (w_up (w_up (w_up (w_up (w_up (w_up S 14 5 1) 14 6 n) 14 7 163) 14 8 1) 14 3 0) 14 4 0)) hL (fun x hx => by rw [e x hx])
  have hR6 : rd_L (w_up (w_up (w_up (w_up (w_up (w_up S 14 5 1) 14 6 n) 14 7 163) 14 8 1) 14 3 0) 14 4 0) := ⟨⟨by show (0 : Int) ≤ 0; omega, by show (0 : Int) ≤ S 15 (-1); omega⟩, hR⟩
  have hge := lx_bl_rg T n ((n - 0).toNat + 1) 0 hn.1
  have hge : 0 ≤ lx_go T n 0 ∧ lx_go T n 0 ≤ n := hge
  refine wJ_S (rl_163 hA hB rfl rfl h18 hW6 hb rfl (n.toNat + 1) 0 (lx_go T n 0) (w_up (w_up (w_up (w_up (w_up (w_up S 14 5 1) 14 6 n) 14 7 163) 14 8 1) 14 3 0) 14 4 0) (by omega) ⟨rx_rfl hW6 hL6 hR6 (gI_up (gI_up (gI_up (gI_up (gI_up (gI_up hI (by omega) (by omega) (by omega)) (by omega) (by omega) (by omega)) (by omega) (by omega) (by omega)) (by omega) (by omega) (by omega)) (by omega) (by omega) (by omega)) (by omega) (by omega) (by omega)), rfl, fun k hk => absurd hk (Nat.not_lt_zero _), Or.inl rfl, fun k hk => absurd hk (by omega), ⟨by omega, hge.2⟩, ⟨by omega, fun k k0 k1 => absurd k1 (by omega)⟩, by omega⟩) ⟨rfl, rfl, rfl, trivial⟩
end W9h
