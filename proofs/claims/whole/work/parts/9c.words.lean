/-! PART 9c: the class's Words: takeBack, clear, mark. -/
section W9c
variable {xs : List (Nat × List Int32)} {M : Nat → Prop} {d : Nat} {A S : wS} {Q : wO → wS → Prop}
/-- numbers of words: NO k the number of the word k, NM n the word of the number n -/
def wv_I (NO NM : Int → Int) (nc cnt : Int) : Prop := 0 ≤ nc ∧ (∀ n : Int, 0 ≤ n → n < nc → 0 ≤ NM n ∧ NM n < cnt ∧ NO (NM n) = n) ∧ ∀ k : Int, 0 ≤ k → k < cnt → NO k = -1 ∨ (0 ≤ NO k ∧ NO k < nc ∧ NM (NO k) = k)
/-- those numbers from m to n taken back -/
def tb_q (NO Z : Int → Int) (m n cnt : Int) : Prop := ∀ k : Int, 0 ≤ k → k < cnt → Z k = if m ≤ NO k ∧ NO k < n then -1 else NO k
theorem tb_s {NO NM Z : Int → Int} {m n nc cnt : Int} (h : tb_q NO Z m n cnt) (hv : wv_I NO NM nc cnt) (hn : 0 ≤ m ∧ m ≤ n ∧ n < nc) {Z2 : Int → Int} (h1 : Z2 (NM n) = -1) (h2 : ∀ k : Int, k ≠ NM n → Z2 k = Z k) : tb_q NO Z2 m (n + 1) cnt := by
  intro k k0 k1
  by_cases hk : k = NM n
  · have := (hv.2.1 n (by omega) (by omega)).2.2
    rw [hk, h1, this, if_pos (by omega)]
  · rw [h2 k hk, h k k0 k1]
    have : NO k ≠ n := by
      intro e
      rcases hv.2.2 k k0 k1 with q | q
      · omega
      · exact hk (by rw [← e]; exact q.2.2.symm)
    by_cases hc : m ≤ NO k ∧ NO k < n
    · rw [if_pos hc, if_pos (by omega)]
    · rw [if_neg hc, if_neg (by omega)]
/-- the words from the m-th on taken out of the chains -/
def tb_h (H : Int) (P ST SZ HD : Int → Int) (t : Int) : Prop := ∀ x : Int, 0 ≤ x → x < H → HD x = wl_of (hs H P ST SZ) x t.toNat
theorem tb_hs {H : Int} {P ST SZ HD HD2 : Int → Int} {t v : Int} (h : tb_h H P ST SZ HD (t + 1)) (ht : 0 ≤ t) (hv : v = wl_of (hs H P ST SZ) (hs H P ST SZ t) t.toNat) (h1 : HD2 (hs H P ST SZ t) = v) (h2 : ∀ x : Int, x ≠ hs H P ST SZ t → HD2 x = HD x) : tb_h H P ST SZ HD2 t := by
  intro x x0 x1
  by_cases hx : x = hs H P ST SZ t
  · rw [hx, h1, hv]
  · rw [h2 x hx, h x x0 x1, show (t + 1).toNat = t.toNat + 1 by omega]
    show (if hs H P ST SZ ((t.toNat : Nat) : Int) = x then ((t.toNat : Nat) : Int) + 1 else wl_of (hs H P ST SZ) x t.toNat) = _
    rw [Int.toNat_of_nonneg ht, if_neg (fun e => hx e.symm)]
/-- what takeBack does -/
def tb_ag (w : Nat) (H : Int) (S Z : wS) : Prop := (Z w 1 = S (w + 9) 0 ∧ Z w 7 = S (w + 9) 1 ∧ Z w 10 = S (w + 9) 2 ∧ Z w 12 = S (w + 9) 3) ∧ tb_q (S (w + 5)) (Z (w + 5)) (S (w + 9) 2) (S w 10) (S w 7) ∧ tb_q (S (w + 6)) (Z (w + 6)) (S (w + 9) 3) (S w 12) (S w 7) ∧ tb_h H (S (w + 1)) (S (w + 2)) (S (w + 3)) (Z (w + 10)) (S (w + 9) 1) ∧ ∀ (j : Nat) (i : Int), (i < 0 ∨ ((j ≠ w + 5 ∧ j ≠ w + 6 ∧ j ≠ w + 10) ∧ (j ≠ w ∨ (i ≠ 1 ∧ i ≠ 7 ∧ i ≠ 10 ∧ i ≠ 12)))) → Z j i = S j i
/-- the marks -/
def mk_I (S : wS) (w : Nat) : Prop := S (w + 9) (-1) = 4 ∧ (0 ≤ S (w + 9) 0 ∧ S (w + 9) 0 ≤ S w 1) ∧ (0 ≤ S (w + 9) 1 ∧ S (w + 9) 1 ≤ S w 7) ∧ (0 ≤ S (w + 9) 2 ∧ S (w + 9) 2 ≤ S w 10) ∧ (0 ≤ S (w + 9) 3 ∧ S (w + 9) 3 ≤ S w 12)
/-- the rows of numbers -/
def wv_L (S : wS) (w : Nat) : Prop := wv_I (S (w + 5)) (S (w + 7)) (S w 10) (S w 7) ∧ wv_I (S (w + 6)) (S (w + 8)) (S w 12) (S w 7) ∧ S w 10 ≤ S (w + 7) (-1) ∧ S w 12 ≤ S (w + 8) (-1) ∧ (64 ≤ S (w + 7) (-1) ∧ S (w + 7) (-1) ≤ 8192) ∧ (64 ≤ S (w + 8) (-1) ∧ S (w + 8) (-1) ≤ 8192) ∧ S w 10 ≤ 4000 ∧ S w 12 ≤ 4000
theorem tb1_2 {m nc cnt : Int} (hv : wv_I (S 7) (S 9) nc cnt) (hm : 0 ≤ m ∧ m ≤ nc) (h1 : S 2 10 = nc) (h2 : nc ≤ S 9 (-1)) (h3 : cnt ≤ S 7 (-1)) (hk : ∀ Z, tb_q (S 7) (Z 7) m nc cnt → (∀ (j : Nat) (i : Int), (j ≠ 7 ∨ i < 0) → Z j i = S j i) → wJ (pe_GA xs) wY0 M d t_XW_takeBack ((pe_at t_XW_takeBack.bl 2).getD (0, [])).2 [(0, (2, 2))] [] Z Q) : ∀ (f : Nat) (n : Int) (Z : wS), (nc - n).toNat < f → m ≤ n → n ≤ nc → tb_q (S 7) (Z 7) m n cnt → (∀ (j : Nat) (i : Int), (j ≠ 7 ∨ i < 0) → Z j i = S j i) → wJ (pe_GA xs) wY0 M d t_XW_takeBack ((pe_at t_XW_takeBack.bl 1).getD (0, [])).2 [(0, (2, 2)), (1, (0, n))] [] Z Q := by
  intro f
  induction f with
  | zero => intro n Z h; exact absurd h (Nat.not_lt_zero _)
  | succ f ih =>
    intro n Z hf hn0 hn1 ht hz
    refine wa_iload_n (n := 1) rfl ?_
    refine wa_aload_n (n := 0) rfl ?_
    refine wb_gfi 2 rfl (wy_pr rfl) wt_2 wf_9_10 (v := nc) (((hz 2 10 (by omega)).trans h1)) (fun r1 => ?_)
    refine wa_icmpge (w_rg0 (by omega) (by omega)) (w_rg0 (by omega) (by omega)) ⟨_, rfl⟩ (fun c2 => ?_) (fun c2 => ?_)
    · skip
      have hnn : n = nc := by omega
      subst hnn
      exact wJ_S (hk Z ht hz) ⟨rfl, trivial⟩
    · skip
      refine wa_aload_n (n := 0) rfl ?_
      refine wb_gf4 2 rfl (wy_pr rfl) wt_2 wf_9_5 (v := 7) wl_2_5 ?_
      refine wa_aload_n (n := 0) rfl ?_
      refine wb_gf4 2 rfl (wy_pr rfl) wt_2 wf_9_9 (v := 9) wl_2_9 ?_
      refine wa_iload_n (n := 1) rfl ?_
      have hvn := hv.2.1 n (by omega) (by omega)
      have hzn : Z 9 n = S 9 n := hz 9 n (by omega)
      refine wb_iald 9 rfl (wy_pr rfl) wt_9 (n := (S 9 (-1))) ((hz 9 (-1) (by omega))) (by omega) (by omega) (v := (S 9 n)) ((hz 9 n (by omega))) (fun r3 => ?_)
      refine wa_iconst ?_
      refine wb_iast 7 rfl (wy_pr rfl) wt_7 (n := (S 7 (-1))) ((hz 7 (-1) (by omega))) (by omega) (by omega) ⟨(by omega), (by omega)⟩ ?_
      refine wa_iinc rfl rfl ?_
      refine wa_goto ⟨_, rfl⟩ ?_
      refine wJ_S (ih (n + 1) _ (by omega) (by omega) (by omega) (tb_s (NM := S 9) ht hv ⟨by omega, by omega, by omega⟩ (w_up_same _ _ _ _) (fun k hk => w_up_at hk)) (fun j i hj => (w_up_no (by omega)).trans (hz j i hj))) ⟨rfl, rfl, trivial⟩
theorem tb3_2 {m nc cnt : Int} (hv : wv_I (S 8) (S 10) nc cnt) (hm : 0 ≤ m ∧ m ≤ nc) (h1 : S 2 12 = nc) (h2 : nc ≤ S 10 (-1)) (h3 : cnt ≤ S 8 (-1)) (hk : ∀ Z, tb_q (S 8) (Z 8) m nc cnt → (∀ (j : Nat) (i : Int), (j ≠ 8 ∨ i < 0) → Z j i = S j i) → wJ (pe_GA xs) wY0 M d t_XW_takeBack ((pe_at t_XW_takeBack.bl 4).getD (0, [])).2 [(0, (2, 2))] [] Z Q) : ∀ (f : Nat) (n : Int) (Z : wS), (nc - n).toNat < f → m ≤ n → n ≤ nc → tb_q (S 8) (Z 8) m n cnt → (∀ (j : Nat) (i : Int), (j ≠ 8 ∨ i < 0) → Z j i = S j i) → wJ (pe_GA xs) wY0 M d t_XW_takeBack ((pe_at t_XW_takeBack.bl 3).getD (0, [])).2 [(0, (2, 2)), (1, (0, n))] [] Z Q := by
  intro f
  induction f with
  | zero => intro n Z h; exact absurd h (Nat.not_lt_zero _)
  | succ f ih =>
    intro n Z hf hn0 hn1 ht hz
    refine wa_iload_n (n := 1) rfl ?_
    refine wa_aload_n (n := 0) rfl ?_
    refine wb_gfi 2 rfl (wy_pr rfl) wt_2 wf_9_12 (v := nc) (((hz 2 12 (by omega)).trans h1)) (fun r1 => ?_)
    refine wa_icmpge (w_rg0 (by omega) (by omega)) (w_rg0 (by omega) (by omega)) ⟨_, rfl⟩ (fun c2 => ?_) (fun c2 => ?_)
    · skip
      have hnn : n = nc := by omega
      subst hnn
      exact wJ_S (hk Z ht hz) ⟨rfl, trivial⟩
    · skip
      refine wa_aload_n (n := 0) rfl ?_
      refine wb_gf4 2 rfl (wy_pr rfl) wt_2 wf_9_6 (v := 8) wl_2_6 ?_
      refine wa_aload_n (n := 0) rfl ?_
      refine wb_gf4 2 rfl (wy_pr rfl) wt_2 wf_9_11 (v := 10) wl_2_11 ?_
      refine wa_iload_n (n := 1) rfl ?_
      have hvn := hv.2.1 n (by omega) (by omega)
      have hzn : Z 10 n = S 10 n := hz 10 n (by omega)
      refine wb_iald 10 rfl (wy_pr rfl) wt_10 (n := (S 10 (-1))) ((hz 10 (-1) (by omega))) (by omega) (by omega) (v := (S 10 n)) ((hz 10 n (by omega))) (fun r3 => ?_)
      refine wa_iconst ?_
      refine wb_iast 8 rfl (wy_pr rfl) wt_8 (n := (S 8 (-1))) ((hz 8 (-1) (by omega))) (by omega) (by omega) ⟨(by omega), (by omega)⟩ ?_
      refine wa_iinc rfl rfl ?_
      refine wa_goto ⟨_, rfl⟩ ?_
      refine wJ_S (ih (n + 1) _ (by omega) (by omega) (by omega) (tb_s (NM := S 10) ht hv ⟨by omega, by omega, by omega⟩ (w_up_same _ _ _ _) (fun k hk => w_up_at hk)) (fun j i hj => (w_up_no (by omega)).trans (hz j i hj))) ⟨rfl, rfl, trivial⟩
theorem tb5_2 {m : Int} (hW : wd_at S 2 1024) (hL : wd_L S 2 1024) (hm : 0 ≤ m ∧ m ≤ S 2 7) (h9 : S 11 (-1) = 4 ∧ S 11 1 = m) (hk : ∀ Z, tb_h 1024 (S 3) (S 4) (S 5) (Z 12) m → (∀ (j : Nat) (i : Int), (j ≠ 12 ∨ i < 0) → Z j i = S j i) → wJ (pe_GA xs) wY0 M (d + 1) t_XW_takeBack ((pe_at t_XW_takeBack.bl 6).getD (0, [])).2 [(0, (2, 2))] [] Z Q) : ∀ (f : Nat) (t : Int) (Z : wS), (t + 1 - m).toNat < f → m ≤ t + 1 → t + 1 ≤ S 2 7 → tb_h 1024 (S 3) (S 4) (S 5) (Z 12) (t + 1) → (∀ (j : Nat) (i : Int), (j ≠ 12 ∨ i < 0) → Z j i = S j i) → wJ (pe_GA xs) wY0 M (d + 1) t_XW_takeBack ((pe_at t_XW_takeBack.bl 5).getD (0, [])).2 [(0, (2, 2)), (1, (0, t))] [] Z Q := by
  intro f
  induction f with
  | zero => intro n Z h; exact absurd h (Nat.not_lt_zero _)
  | succ f ih =>
    intro t Z hf hn0 hn1 ht hz
    have l10 : S 12 (-1) = 1024 := hL.1
    have l3 : S 5 (-1) = S 4 (-1) := hL.2.1
    have l4 : S 6 (-1) = S 4 (-1) := hL.2.2.1
    have l8 : S 4 (-1) ≤ 2147483647 := hL.2.2.2.2.2.2.2.1
    have l9 : S 3 (-1) ≤ 2147483647 := hL.2.2.2.2.2.2.2.2
    have hc1 : 0 ≤ S 2 7 ∧ S 2 7 ≤ S 4 (-1) := hW.1
    have hu1 : 0 ≤ S 2 1 ∧ S 2 1 ≤ S 3 (-1) := hW.2.1
    have h94 := h9.1
    have zl10 : Z 12 (-1) = 1024 := (hz 12 (-1) (by omega)).trans l10
    have zl1 : Z 3 (-1) = S 3 (-1) := hz 3 (-1) (by omega)
    have zp : Z 3 = S 3 := funext fun i => hz 3 i (by omega)
    have hr := hd_rg (f := S 3) (a := S 4 t) (n := S 5 t) (H := 1024) (by omega)
    refine wa_iload_n (n := 1) rfl ?_
    refine wa_aload_n (n := 0) rfl ?_
    refine wb_gf4 2 rfl (wy_pr rfl) wt_2 wf_9_13 (v := 11) wl_2_13 ?_
    refine wa_iconst ?_
    refine wb_iald 11 rfl (wy_pr rfl) wt_11 (n := 4) (((hz 11 (-1) (by omega)).trans h9.1)) (by omega) (by omega) (v := m) (((hz 11 1 (by omega)).trans h9.2)) (fun r1 => ?_)
    refine wa_icmplt (w_rg0 (by omega) (by omega)) (w_rg0 (by omega) (by omega)) ⟨_, rfl⟩ (fun c2 => ?_) (fun c2 => ?_)
    · skip
      have hnn : t + 1 = m := by omega
      subst hnn
      exact wJ_S (hk Z ht hz) ⟨rfl, trivial⟩
    · skip
      have h3 := hW.2.2.1 t (by omega) (by omega)
      have h3a : 0 ≤ S 4 t ∧ 0 ≤ S 5 t ∧ S 5 t ≤ 60 ∧ S 4 t + S 5 t ≤ S 2 1 := h3
      have h5 : S 6 t = wl_of (hs 1024 (S 3) (S 4) (S 5)) ((hs 1024 (S 3) (S 4) (S 5)) t) t.toNat := by have := hW.2.2.2.2.1 t.toNat (by show ((t.toNat : Nat) : Int) < S 2 7; omega); rw [Int.toNat_of_nonneg (show 0 ≤ t by omega)] at this; exact this
      refine wa_aload_n (n := 0) rfl ?_
      refine wb_gf4 2 rfl (wy_pr rfl) wt_2 wf_9_8 (v := 12) wl_2_8 ?_
      refine wa_aload_n (n := 0) rfl ?_
      refine wa_aload_n (n := 0) rfl ?_
      refine wb_gf4 2 rfl (wy_pr rfl) wt_2 wf_9_0 (v := 3) wl_2_0 ?_
      refine wa_aload_n (n := 0) rfl ?_
      refine wb_gf4 2 rfl (wy_pr rfl) wt_2 wf_9_2 (v := 4) wl_2_2 ?_
      refine wa_iload_n (n := 1) rfl ?_
      refine wb_iald 4 rfl (wy_pr rfl) wt_4 (n := (S 4 (-1))) ((hz 4 (-1) (by omega))) (by omega) (by omega) (v := (S 4 t)) ((hz 4 t (by omega))) (fun r3 => ?_)
      refine wa_aload_n (n := 0) rfl ?_
      refine wb_gf4 2 rfl (wy_pr rfl) wt_2 wf_9_3 (v := 5) wl_2_3 ?_
      refine wa_iload_n (n := 1) rfl ?_
      refine wb_iald 5 rfl (wy_pr rfl) wt_5 (n := (S 4 (-1))) (((hz 5 (-1) (by omega)).trans l3)) (by omega) (by omega) (v := (S 5 t)) ((hz 5 t (by omega))) (fun r4 => ?_)
      refine wa_cv 2 rfl (wy_pr rfl) wt_2 (M2 := fun _ => False) rfl at_XW_headOf ⟨_, rfl⟩ rfl rfl ⟨(Or.inr ⟨wy_pr rfl, fun q => q⟩), trivial, trivial⟩ ⟨(Or.inr ⟨wy_pr rfl, fun q => q⟩), trivial⟩ (fun _ _ q => False.elim q) (hd_2 (S := Z) (b := 3) (a0 := S 4 t) (n := S 5 t) (wy_pr rfl) wt_3 ⟨by omega, by omega, by omega, by omega⟩ zl10) (fun oq5 Sq5 hp6 q5 => ?_)
      rcases q5 with ⟨rfl, rfl⟩
      show wJ _ _ _ _ _ _ _ _ _ _
      rw [show hd_of (Z 3) (S 4 t) (S 5 t) 1024 = (hs 1024 (S 3) (S 4) (S 5)) t by rw [zp]; rfl]
      have hr2 : 0 ≤ (hs 1024 (S 3) (S 4) (S 5)) t ∧ (hs 1024 (S 3) (S 4) (S 5)) t < 1024 := hr
      refine wa_aload_n (n := 0) rfl ?_
      refine wb_gf4 2 rfl (wy_pr rfl) wt_2 wf_9_4 (v := 6) wl_2_4 ?_
      refine wa_iload_n (n := 1) rfl ?_
      refine wb_iald 6 rfl (wy_pr rfl) wt_6 (n := (S 4 (-1))) (((hz 6 (-1) (by omega)).trans l4)) (by omega) (by omega) (v := (S 6 t)) ((hz 6 t (by omega))) (fun r7 => ?_)
      refine wb_iast 12 rfl (wy_pr rfl) wt_12 (n := 1024) (zl10) (by omega) (by omega) ⟨(by omega), (by omega)⟩ ?_
      refine wa_iinc rfl rfl ?_
      refine wa_goto ⟨_, rfl⟩ ?_
      refine wJ_S (ih (t + (-1)) _ (by omega) (by omega) (by omega) (by rw [show t + (-1) + 1 = t by omega]; exact tb_hs ht (by omega) h5 (w_up_same _ _ _ _) (fun x hx => w_up_at hx)) (fun j i hj => (w_up_no (by omega)).trans (hz j i hj))) ⟨rfl, rfl, trivial⟩
theorem tb_2 (hW : wd_at S 2 1024) (hL : wd_L S 2 1024) (hV : wv_L S 2) (hM : mk_I S 2) : wJ (pe_GA xs) wY0 M (d + 1) t_XW_takeBack ((pe_at t_XW_takeBack.bl 0).getD (0, [])).2 [(0, (2, 2))] [] S (fun o Z => o = .inl none ∧ tb_ag 2 1024 S Z) := by
  obtain ⟨v1, v2, v3, v4, v5, v6, v7, v8⟩ := hV
  obtain ⟨m1, m2, m3, m4, m5⟩ := hM
  have l5 : S 7 (-1) = S 4 (-1) := hL.2.2.2.1
  have l6 : S 8 (-1) = S 4 (-1) := hL.2.2.2.2.1
  have hc1 : 0 ≤ S 2 7 ∧ S 2 7 ≤ S 4 (-1) := hW.1
  have m1' : S 11 (-1) = 4 := m1
  have m4' : 0 ≤ S 11 2 ∧ S 11 2 ≤ S 2 10 := m4
  have m5' : 0 ≤ S 11 3 ∧ S 11 3 ≤ S 2 12 := m5
  have m3' : 0 ≤ S 11 1 ∧ S 11 1 ≤ S 2 7 := m3
  have m2' : 0 ≤ S 11 0 ∧ S 11 0 ≤ S 2 1 := m2
  have hwI : 0 ≤ S 2 1 ∧ S 2 1 ≤ S 3 (-1) := hW.2.1
  refine wa_aload_n (n := 0) rfl ?_
  refine wb_gf4 2 rfl (wy_pr rfl) wt_2 wf_9_13 (v := 11) wl_2_13 ?_
  refine wa_iconst ?_
  refine wb_iald 11 rfl (wy_pr rfl) wt_11 (n := 4) (m1') (by omega) (by omega) (v := (S 11 2)) rfl (fun r1 => ?_)
  refine wa_istore_n (n := 1) rfl ?_
  refine wa_fall ⟨_, rfl⟩ ?_
  refine wJ_S (tb1_2 (m := S 11 2) (nc := S 2 10) (cnt := S 2 7) v1 m4 rfl v3 (by omega) (fun Z1 t1 z1 => ?_) ((S 2 10 - S 11 2).toNat + 1) (S 11 2) S (by omega) (by omega) (by omega) (fun k k0 k1 => (if_neg (by omega)).symm) (fun j i _ => rfl)) ⟨rfl, rfl, trivial⟩
  refine wa_aload_n (n := 0) rfl ?_
  refine wb_gf4 2 rfl (wy_pr rfl) wt_2 wf_9_13 (v := 11) wl_2_13 ?_
  refine wa_iconst ?_
  refine wb_iald 11 rfl (wy_pr rfl) wt_11 (n := 4) (((z1 11 (-1) (by omega)).trans m1')) (by omega) (by omega) (v := (S 11 3)) ((z1 11 3 (by omega))) (fun r52 => ?_)
  refine wa_istore_n (n := 1) rfl ?_
  refine wa_fall ⟨_, rfl⟩ ?_
  have e6 : Z1 8 = S 8 := funext fun i => z1 8 i (by omega)
  have e8 : Z1 10 = S 10 := funext fun i => z1 10 i (by omega)
  refine wJ_S (tb3_2 (S := Z1) (m := S 11 3) (nc := S 2 12) (cnt := S 2 7) (by rw [e6, e8]; exact v2) m5 (z1 2 12 (by omega)) (by rw [e8]; exact v4) (by rw [e6]; omega) (fun Z2 t2 z2 => ?_) ((S 2 12 - S 11 3).toNat + 1) (S 11 3) Z1 (by omega) (by omega) (by omega) (fun k k0 k1 => (if_neg (by omega)).symm) (fun j i _ => rfl)) ⟨rfl, rfl, trivial⟩
  rw [e6] at t2
  have z3 : ∀ (j : Nat) (i : Int), ((j ≠ 7 ∧ j ≠ 8) ∨ i < 0) → Z2 j i = S j i := fun j i h => (z2 j i (by omega)).trans (z1 j i (by omega))
  refine wa_aload_n (n := 0) rfl ?_
  refine wb_gfi 2 rfl (wy_pr rfl) wt_2 wf_9_7 (v := (S 2 7)) ((z3 2 7 (by omega))) (fun r103 => ?_)
  refine wa_iconst ?_
  refine wa_isub ?_
  refine wa_istore_n (n := 1) rfl ?_
  refine wa_fall ⟨_, rfl⟩ ?_
  have g1 : Z2 3 = S 3 := funext fun i => z3 3 i (by omega)
  have g2 : Z2 4 = S 4 := funext fun i => z3 4 i (by omega)
  have g3 : Z2 5 = S 5 := funext fun i => z3 5 i (by omega)
  have g4 : Z2 6 = S 6 := funext fun i => z3 6 i (by omega)
  have g10 : Z2 12 = S 12 := funext fun i => z3 12 i (by omega)
  have gw1 : Z2 2 1 = S 2 1 := z3 2 1 (by omega)
  have gw7 : Z2 2 7 = S 2 7 := z3 2 7 (by omega)
  have hW2 : wd_at Z2 2 1024 := by
    show wd_I 1024 (Z2 3) (Z2 4) (Z2 5) (Z2 6) (Z2 12) (Z2 2 1) (Z2 3 (-1)) (Z2 2 7) (Z2 4 (-1))
    rw [g1, g2, g3, g4, g10, gw1, gw7]; exact hW
  have hL2 : wd_L Z2 2 1024 := by
    show Z2 12 (-1) = 1024 ∧ Z2 5 (-1) = Z2 4 (-1) ∧ Z2 6 (-1) = Z2 4 (-1) ∧ Z2 7 (-1) = Z2 4 (-1) ∧ Z2 8 (-1) = Z2 4 (-1) ∧ 64 ≤ Z2 4 (-1) ∧ 1024 ≤ Z2 3 (-1) ∧ Z2 4 (-1) ≤ 2147483647 ∧ Z2 3 (-1) ≤ 2147483647
    rw [z3 7 (-1) (by omega), z3 8 (-1) (by omega), g1, g2, g3, g4, g10]; exact hL
  refine wJ_S (tb5_2 (S := Z2) (m := S 11 1) hW2 hL2 (by rw [gw7]; exact m3) ⟨(z3 11 (-1) (by omega)).trans m1, z3 11 1 (by omega)⟩ (fun Z4 t4 z4 => ?_) ((S 2 7 - S 11 1).toNat + 1) (S 2 7 - 1) Z2 (by omega) (by omega) (by omega) (by rw [show S 2 7 - 1 + 1 = S 2 7 by omega, g1, g2, g3, g10]; exact hW.2.2.2.1) (fun j i _ => rfl)) ⟨rfl, rfl, trivial⟩
  rw [g1, g2, g3] at t4
  have z5 : ∀ (j : Nat) (i : Int), ((j ≠ 7 ∧ j ≠ 8 ∧ j ≠ 12) ∨ i < 0) → Z4 j i = S j i := fun j i h => (z4 j i (by omega)).trans (z3 j i (by omega))
  refine wa_aload_n (n := 0) rfl ?_
  refine wa_aload_n (n := 0) rfl ?_
  refine wb_gf4 2 rfl (wy_pr rfl) wt_2 wf_9_13 (v := 11) wl_2_13 ?_
  refine wa_iconst ?_
  refine wb_iald 11 rfl (wy_pr rfl) wt_11 (n := 4) (((z5 11 (-1) (by omega)).trans m1')) (by omega) (by omega) (v := (S 11 0)) ((z5 11 0 (by omega))) (fun r154 => ?_)
  refine wb_pfi 2 rfl (wy_pr rfl) wt_2 wf_9_1 (n := 1) rfl ⟨(by omega), (by omega)⟩ ?_
  refine wa_aload_n (n := 0) rfl ?_
  refine wa_aload_n (n := 0) rfl ?_
  refine wb_gf4 2 rfl (wy_pr rfl) wt_2 wf_9_13 (v := 11) wl_2_13 ?_
  refine wa_iconst ?_
  refine wb_iald 11 rfl (wy_pr rfl) wt_11 (n := 4) ((w_up_slot (by decide)).trans (((z5 11 (-1) (by omega)).trans m1'))) (by omega) (by omega) (v := (S 11 1)) ((w_up_slot (by decide)).trans ((z5 11 1 (by omega)))) (fun r155 => ?_)
  refine wb_pfi 2 rfl (wy_pr rfl) wt_2 wf_9_7 (n := 7) rfl ⟨(by omega), (by omega)⟩ ?_
  refine wa_aload_n (n := 0) rfl ?_
  refine wa_aload_n (n := 0) rfl ?_
  refine wb_gf4 2 rfl (wy_pr rfl) wt_2 wf_9_13 (v := 11) wl_2_13 ?_
  refine wa_iconst ?_
  refine wb_iald 11 rfl (wy_pr rfl) wt_11 (n := 4) ((w_up_slot (by decide)).trans ((w_up_slot (by decide)).trans (((z5 11 (-1) (by omega)).trans m1')))) (by omega) (by omega) (v := (S 11 2)) ((w_up_slot (by decide)).trans ((w_up_slot (by decide)).trans ((z5 11 2 (by omega))))) (fun r156 => ?_)
  refine wb_pfi 2 rfl (wy_pr rfl) wt_2 wf_9_10 (n := 10) rfl ⟨(by omega), (by omega)⟩ ?_
  refine wa_aload_n (n := 0) rfl ?_
  refine wa_aload_n (n := 0) rfl ?_
  refine wb_gf4 2 rfl (wy_pr rfl) wt_2 wf_9_13 (v := 11) wl_2_13 ?_
  refine wa_iconst ?_
  refine wb_iald 11 rfl (wy_pr rfl) wt_11 (n := 4) ((w_up_slot (by decide)).trans ((w_up_slot (by decide)).trans ((w_up_slot (by decide)).trans (((z5 11 (-1) (by omega)).trans m1'))))) (by omega) (by omega) (v := (S 11 3)) ((w_up_slot (by decide)).trans ((w_up_slot (by decide)).trans ((w_up_slot (by decide)).trans ((z5 11 3 (by omega)))))) (fun r157 => ?_)
  refine wb_pfi 2 rfl (wy_pr rfl) wt_2 wf_9_12 (n := 12) rfl ⟨(by omega), (by omega)⟩ ?_
  refine wa_return rfl ?_
  refine ⟨rfl, ⟨((w_up_at (by decide)).trans ((w_up_at (by decide)).trans ((w_up_at (by decide)).trans (w_up_same _ _ _ _)))), ((w_up_at (by decide)).trans ((w_up_at (by decide)).trans (w_up_same _ _ _ _))), ((w_up_at (by decide)).trans (w_up_same _ _ _ _)), (w_up_same _ _ _ _)⟩, fun k k0 k1 => ?_, fun k k0 k1 => ?_, fun x x0 x1 => ?_, fun j i h => ?_⟩
  · exact (w_up_no (by omega)).trans ((w_up_no (by omega)).trans ((w_up_no (by omega)).trans ((w_up_no (by omega)).trans ((z4 7 k (by omega)).trans ((z2 7 k (by omega)).trans (t1 k k0 k1))))))
  · exact (w_up_no (by omega)).trans ((w_up_no (by omega)).trans ((w_up_no (by omega)).trans ((w_up_no (by omega)).trans ((z4 8 k (by omega)).trans (t2 k k0 k1)))))
  · exact (w_up_no (by omega)).trans ((w_up_no (by omega)).trans ((w_up_no (by omega)).trans ((w_up_no (by omega)).trans (t4 x x0 x1))))
  · exact (w_up_no (by omega)).trans ((w_up_no (by omega)).trans ((w_up_no (by omega)).trans ((w_up_no (by omega)).trans (z5 j i (by omega)))))
theorem tb1_74 {m nc cnt : Int} (hv : wv_I (S 79) (S 81) nc cnt) (hm : 0 ≤ m ∧ m ≤ nc) (h1 : S 74 10 = nc) (h2 : nc ≤ S 81 (-1)) (h3 : cnt ≤ S 79 (-1)) (hk : ∀ Z, tb_q (S 79) (Z 79) m nc cnt → (∀ (j : Nat) (i : Int), (j ≠ 79 ∨ i < 0) → Z j i = S j i) → wJ (pe_GA xs) wY0 M d t_XW_takeBack ((pe_at t_XW_takeBack.bl 2).getD (0, [])).2 [(0, (2, 74))] [] Z Q) : ∀ (f : Nat) (n : Int) (Z : wS), (nc - n).toNat < f → m ≤ n → n ≤ nc → tb_q (S 79) (Z 79) m n cnt → (∀ (j : Nat) (i : Int), (j ≠ 79 ∨ i < 0) → Z j i = S j i) → wJ (pe_GA xs) wY0 M d t_XW_takeBack ((pe_at t_XW_takeBack.bl 1).getD (0, [])).2 [(0, (2, 74)), (1, (0, n))] [] Z Q := by
  intro f
  induction f with
  | zero => intro n Z h; exact absurd h (Nat.not_lt_zero _)
  | succ f ih =>
    intro n Z hf hn0 hn1 ht hz
    refine wa_iload_n (n := 1) rfl ?_
    refine wa_aload_n (n := 0) rfl ?_
    refine wb_gfi 74 rfl (wy_pr rfl) wt_74 wf_9_10 (v := nc) (((hz 74 10 (by omega)).trans h1)) (fun r1 => ?_)
    refine wa_icmpge (w_rg0 (by omega) (by omega)) (w_rg0 (by omega) (by omega)) ⟨_, rfl⟩ (fun c2 => ?_) (fun c2 => ?_)
    · skip
      have hnn : n = nc := by omega
      subst hnn
      exact wJ_S (hk Z ht hz) ⟨rfl, trivial⟩
    · skip
      refine wa_aload_n (n := 0) rfl ?_
      refine wb_gf4 74 rfl (wy_pr rfl) wt_74 wf_9_5 (v := 79) wl_74_5 ?_
      refine wa_aload_n (n := 0) rfl ?_
      refine wb_gf4 74 rfl (wy_pr rfl) wt_74 wf_9_9 (v := 81) wl_74_9 ?_
      refine wa_iload_n (n := 1) rfl ?_
      have hvn := hv.2.1 n (by omega) (by omega)
      have hzn : Z 81 n = S 81 n := hz 81 n (by omega)
      refine wb_iald 81 rfl (wy_pr rfl) wt_81 (n := (S 81 (-1))) ((hz 81 (-1) (by omega))) (by omega) (by omega) (v := (S 81 n)) ((hz 81 n (by omega))) (fun r3 => ?_)
      refine wa_iconst ?_
      refine wb_iast 79 rfl (wy_pr rfl) wt_79 (n := (S 79 (-1))) ((hz 79 (-1) (by omega))) (by omega) (by omega) ⟨(by omega), (by omega)⟩ ?_
      refine wa_iinc rfl rfl ?_
      refine wa_goto ⟨_, rfl⟩ ?_
      refine wJ_S (ih (n + 1) _ (by omega) (by omega) (by omega) (tb_s (NM := S 81) ht hv ⟨by omega, by omega, by omega⟩ (w_up_same _ _ _ _) (fun k hk => w_up_at hk)) (fun j i hj => (w_up_no (by omega)).trans (hz j i hj))) ⟨rfl, rfl, trivial⟩
theorem tb3_74 {m nc cnt : Int} (hv : wv_I (S 80) (S 82) nc cnt) (hm : 0 ≤ m ∧ m ≤ nc) (h1 : S 74 12 = nc) (h2 : nc ≤ S 82 (-1)) (h3 : cnt ≤ S 80 (-1)) (hk : ∀ Z, tb_q (S 80) (Z 80) m nc cnt → (∀ (j : Nat) (i : Int), (j ≠ 80 ∨ i < 0) → Z j i = S j i) → wJ (pe_GA xs) wY0 M d t_XW_takeBack ((pe_at t_XW_takeBack.bl 4).getD (0, [])).2 [(0, (2, 74))] [] Z Q) : ∀ (f : Nat) (n : Int) (Z : wS), (nc - n).toNat < f → m ≤ n → n ≤ nc → tb_q (S 80) (Z 80) m n cnt → (∀ (j : Nat) (i : Int), (j ≠ 80 ∨ i < 0) → Z j i = S j i) → wJ (pe_GA xs) wY0 M d t_XW_takeBack ((pe_at t_XW_takeBack.bl 3).getD (0, [])).2 [(0, (2, 74)), (1, (0, n))] [] Z Q := by
  intro f
  induction f with
  | zero => intro n Z h; exact absurd h (Nat.not_lt_zero _)
  | succ f ih =>
    intro n Z hf hn0 hn1 ht hz
    refine wa_iload_n (n := 1) rfl ?_
    refine wa_aload_n (n := 0) rfl ?_
    refine wb_gfi 74 rfl (wy_pr rfl) wt_74 wf_9_12 (v := nc) (((hz 74 12 (by omega)).trans h1)) (fun r1 => ?_)
    refine wa_icmpge (w_rg0 (by omega) (by omega)) (w_rg0 (by omega) (by omega)) ⟨_, rfl⟩ (fun c2 => ?_) (fun c2 => ?_)
    · skip
      have hnn : n = nc := by omega
      subst hnn
      exact wJ_S (hk Z ht hz) ⟨rfl, trivial⟩
    · skip
      refine wa_aload_n (n := 0) rfl ?_
      refine wb_gf4 74 rfl (wy_pr rfl) wt_74 wf_9_6 (v := 80) wl_74_6 ?_
      refine wa_aload_n (n := 0) rfl ?_
      refine wb_gf4 74 rfl (wy_pr rfl) wt_74 wf_9_11 (v := 82) wl_74_11 ?_
      refine wa_iload_n (n := 1) rfl ?_
      have hvn := hv.2.1 n (by omega) (by omega)
      have hzn : Z 82 n = S 82 n := hz 82 n (by omega)
      refine wb_iald 82 rfl (wy_pr rfl) wt_82 (n := (S 82 (-1))) ((hz 82 (-1) (by omega))) (by omega) (by omega) (v := (S 82 n)) ((hz 82 n (by omega))) (fun r3 => ?_)
      refine wa_iconst ?_
      refine wb_iast 80 rfl (wy_pr rfl) wt_80 (n := (S 80 (-1))) ((hz 80 (-1) (by omega))) (by omega) (by omega) ⟨(by omega), (by omega)⟩ ?_
      refine wa_iinc rfl rfl ?_
      refine wa_goto ⟨_, rfl⟩ ?_
      refine wJ_S (ih (n + 1) _ (by omega) (by omega) (by omega) (tb_s (NM := S 82) ht hv ⟨by omega, by omega, by omega⟩ (w_up_same _ _ _ _) (fun k hk => w_up_at hk)) (fun j i hj => (w_up_no (by omega)).trans (hz j i hj))) ⟨rfl, rfl, trivial⟩
theorem tb5_74 {m : Int} (hW : wd_at S 74 64) (hL : wd_L S 74 64) (hm : 0 ≤ m ∧ m ≤ S 74 7) (h9 : S 83 (-1) = 4 ∧ S 83 1 = m) (hk : ∀ Z, tb_h 64 (S 75) (S 76) (S 77) (Z 84) m → (∀ (j : Nat) (i : Int), (j ≠ 84 ∨ i < 0) → Z j i = S j i) → wJ (pe_GA xs) wY0 M (d + 1) t_XW_takeBack ((pe_at t_XW_takeBack.bl 6).getD (0, [])).2 [(0, (2, 74))] [] Z Q) : ∀ (f : Nat) (t : Int) (Z : wS), (t + 1 - m).toNat < f → m ≤ t + 1 → t + 1 ≤ S 74 7 → tb_h 64 (S 75) (S 76) (S 77) (Z 84) (t + 1) → (∀ (j : Nat) (i : Int), (j ≠ 84 ∨ i < 0) → Z j i = S j i) → wJ (pe_GA xs) wY0 M (d + 1) t_XW_takeBack ((pe_at t_XW_takeBack.bl 5).getD (0, [])).2 [(0, (2, 74)), (1, (0, t))] [] Z Q := by
  intro f
  induction f with
  | zero => intro n Z h; exact absurd h (Nat.not_lt_zero _)
  | succ f ih =>
    intro t Z hf hn0 hn1 ht hz
    have l10 : S 84 (-1) = 64 := hL.1
    have l3 : S 77 (-1) = S 76 (-1) := hL.2.1
    have l4 : S 78 (-1) = S 76 (-1) := hL.2.2.1
    have l8 : S 76 (-1) ≤ 2147483647 := hL.2.2.2.2.2.2.2.1
    have l9 : S 75 (-1) ≤ 2147483647 := hL.2.2.2.2.2.2.2.2
    have hc1 : 0 ≤ S 74 7 ∧ S 74 7 ≤ S 76 (-1) := hW.1
    have hu1 : 0 ≤ S 74 1 ∧ S 74 1 ≤ S 75 (-1) := hW.2.1
    have h94 := h9.1
    have zl10 : Z 84 (-1) = 64 := (hz 84 (-1) (by omega)).trans l10
    have zl1 : Z 75 (-1) = S 75 (-1) := hz 75 (-1) (by omega)
    have zp : Z 75 = S 75 := funext fun i => hz 75 i (by omega)
    have hr := hd_rg (f := S 75) (a := S 76 t) (n := S 77 t) (H := 64) (by omega)
    refine wa_iload_n (n := 1) rfl ?_
    refine wa_aload_n (n := 0) rfl ?_
    refine wb_gf4 74 rfl (wy_pr rfl) wt_74 wf_9_13 (v := 83) wl_74_13 ?_
    refine wa_iconst ?_
    refine wb_iald 83 rfl (wy_pr rfl) wt_83 (n := 4) (((hz 83 (-1) (by omega)).trans h9.1)) (by omega) (by omega) (v := m) (((hz 83 1 (by omega)).trans h9.2)) (fun r1 => ?_)
    refine wa_icmplt (w_rg0 (by omega) (by omega)) (w_rg0 (by omega) (by omega)) ⟨_, rfl⟩ (fun c2 => ?_) (fun c2 => ?_)
    · skip
      have hnn : t + 1 = m := by omega
      subst hnn
      exact wJ_S (hk Z ht hz) ⟨rfl, trivial⟩
    · skip
      have h3 := hW.2.2.1 t (by omega) (by omega)
      have h3a : 0 ≤ S 76 t ∧ 0 ≤ S 77 t ∧ S 77 t ≤ 60 ∧ S 76 t + S 77 t ≤ S 74 1 := h3
      have h5 : S 78 t = wl_of (hs 64 (S 75) (S 76) (S 77)) ((hs 64 (S 75) (S 76) (S 77)) t) t.toNat := by have := hW.2.2.2.2.1 t.toNat (by show ((t.toNat : Nat) : Int) < S 74 7; omega); rw [Int.toNat_of_nonneg (show 0 ≤ t by omega)] at this; exact this
      refine wa_aload_n (n := 0) rfl ?_
      refine wb_gf4 74 rfl (wy_pr rfl) wt_74 wf_9_8 (v := 84) wl_74_8 ?_
      refine wa_aload_n (n := 0) rfl ?_
      refine wa_aload_n (n := 0) rfl ?_
      refine wb_gf4 74 rfl (wy_pr rfl) wt_74 wf_9_0 (v := 75) wl_74_0 ?_
      refine wa_aload_n (n := 0) rfl ?_
      refine wb_gf4 74 rfl (wy_pr rfl) wt_74 wf_9_2 (v := 76) wl_74_2 ?_
      refine wa_iload_n (n := 1) rfl ?_
      refine wb_iald 76 rfl (wy_pr rfl) wt_76 (n := (S 76 (-1))) ((hz 76 (-1) (by omega))) (by omega) (by omega) (v := (S 76 t)) ((hz 76 t (by omega))) (fun r3 => ?_)
      refine wa_aload_n (n := 0) rfl ?_
      refine wb_gf4 74 rfl (wy_pr rfl) wt_74 wf_9_3 (v := 77) wl_74_3 ?_
      refine wa_iload_n (n := 1) rfl ?_
      refine wb_iald 77 rfl (wy_pr rfl) wt_77 (n := (S 76 (-1))) (((hz 77 (-1) (by omega)).trans l3)) (by omega) (by omega) (v := (S 77 t)) ((hz 77 t (by omega))) (fun r4 => ?_)
      refine wa_cv 74 rfl (wy_pr rfl) wt_74 (M2 := fun _ => False) rfl at_XW_headOf ⟨_, rfl⟩ rfl rfl ⟨(Or.inr ⟨wy_pr rfl, fun q => q⟩), trivial, trivial⟩ ⟨(Or.inr ⟨wy_pr rfl, fun q => q⟩), trivial⟩ (fun _ _ q => False.elim q) (hd_74 (S := Z) (b := 75) (a0 := S 76 t) (n := S 77 t) (wy_pr rfl) wt_75 ⟨by omega, by omega, by omega, by omega⟩ zl10) (fun oq5 Sq5 hp6 q5 => ?_)
      rcases q5 with ⟨rfl, rfl⟩
      show wJ _ _ _ _ _ _ _ _ _ _
      rw [show hd_of (Z 75) (S 76 t) (S 77 t) 64 = (hs 64 (S 75) (S 76) (S 77)) t by rw [zp]; rfl]
      have hr2 : 0 ≤ (hs 64 (S 75) (S 76) (S 77)) t ∧ (hs 64 (S 75) (S 76) (S 77)) t < 64 := hr
      refine wa_aload_n (n := 0) rfl ?_
      refine wb_gf4 74 rfl (wy_pr rfl) wt_74 wf_9_4 (v := 78) wl_74_4 ?_
      refine wa_iload_n (n := 1) rfl ?_
      refine wb_iald 78 rfl (wy_pr rfl) wt_78 (n := (S 76 (-1))) (((hz 78 (-1) (by omega)).trans l4)) (by omega) (by omega) (v := (S 78 t)) ((hz 78 t (by omega))) (fun r7 => ?_)
      refine wb_iast 84 rfl (wy_pr rfl) wt_84 (n := 64) (zl10) (by omega) (by omega) ⟨(by omega), (by omega)⟩ ?_
      refine wa_iinc rfl rfl ?_
      refine wa_goto ⟨_, rfl⟩ ?_
      refine wJ_S (ih (t + (-1)) _ (by omega) (by omega) (by omega) (by rw [show t + (-1) + 1 = t by omega]; exact tb_hs ht (by omega) h5 (w_up_same _ _ _ _) (fun x hx => w_up_at hx)) (fun j i hj => (w_up_no (by omega)).trans (hz j i hj))) ⟨rfl, rfl, trivial⟩
theorem tb_74 (hW : wd_at S 74 64) (hL : wd_L S 74 64) (hV : wv_L S 74) (hM : mk_I S 74) : wJ (pe_GA xs) wY0 M (d + 1) t_XW_takeBack ((pe_at t_XW_takeBack.bl 0).getD (0, [])).2 [(0, (2, 74))] [] S (fun o Z => o = .inl none ∧ tb_ag 74 64 S Z) := by
  obtain ⟨v1, v2, v3, v4, v5, v6, v7, v8⟩ := hV
  obtain ⟨m1, m2, m3, m4, m5⟩ := hM
  have l5 : S 79 (-1) = S 76 (-1) := hL.2.2.2.1
  have l6 : S 80 (-1) = S 76 (-1) := hL.2.2.2.2.1
  have hc1 : 0 ≤ S 74 7 ∧ S 74 7 ≤ S 76 (-1) := hW.1
  have m1' : S 83 (-1) = 4 := m1
  have m4' : 0 ≤ S 83 2 ∧ S 83 2 ≤ S 74 10 := m4
  have m5' : 0 ≤ S 83 3 ∧ S 83 3 ≤ S 74 12 := m5
  have m3' : 0 ≤ S 83 1 ∧ S 83 1 ≤ S 74 7 := m3
  have m2' : 0 ≤ S 83 0 ∧ S 83 0 ≤ S 74 1 := m2
  have hwI : 0 ≤ S 74 1 ∧ S 74 1 ≤ S 75 (-1) := hW.2.1
  refine wa_aload_n (n := 0) rfl ?_
  refine wb_gf4 74 rfl (wy_pr rfl) wt_74 wf_9_13 (v := 83) wl_74_13 ?_
  refine wa_iconst ?_
  refine wb_iald 83 rfl (wy_pr rfl) wt_83 (n := 4) (m1') (by omega) (by omega) (v := (S 83 2)) rfl (fun r1 => ?_)
  refine wa_istore_n (n := 1) rfl ?_
  refine wa_fall ⟨_, rfl⟩ ?_
  refine wJ_S (tb1_74 (m := S 83 2) (nc := S 74 10) (cnt := S 74 7) v1 m4 rfl v3 (by omega) (fun Z1 t1 z1 => ?_) ((S 74 10 - S 83 2).toNat + 1) (S 83 2) S (by omega) (by omega) (by omega) (fun k k0 k1 => (if_neg (by omega)).symm) (fun j i _ => rfl)) ⟨rfl, rfl, trivial⟩
  refine wa_aload_n (n := 0) rfl ?_
  refine wb_gf4 74 rfl (wy_pr rfl) wt_74 wf_9_13 (v := 83) wl_74_13 ?_
  refine wa_iconst ?_
  refine wb_iald 83 rfl (wy_pr rfl) wt_83 (n := 4) (((z1 83 (-1) (by omega)).trans m1')) (by omega) (by omega) (v := (S 83 3)) ((z1 83 3 (by omega))) (fun r52 => ?_)
  refine wa_istore_n (n := 1) rfl ?_
  refine wa_fall ⟨_, rfl⟩ ?_
  have e6 : Z1 80 = S 80 := funext fun i => z1 80 i (by omega)
  have e8 : Z1 82 = S 82 := funext fun i => z1 82 i (by omega)
  refine wJ_S (tb3_74 (S := Z1) (m := S 83 3) (nc := S 74 12) (cnt := S 74 7) (by rw [e6, e8]; exact v2) m5 (z1 74 12 (by omega)) (by rw [e8]; exact v4) (by rw [e6]; omega) (fun Z2 t2 z2 => ?_) ((S 74 12 - S 83 3).toNat + 1) (S 83 3) Z1 (by omega) (by omega) (by omega) (fun k k0 k1 => (if_neg (by omega)).symm) (fun j i _ => rfl)) ⟨rfl, rfl, trivial⟩
  rw [e6] at t2
  have z3 : ∀ (j : Nat) (i : Int), ((j ≠ 79 ∧ j ≠ 80) ∨ i < 0) → Z2 j i = S j i := fun j i h => (z2 j i (by omega)).trans (z1 j i (by omega))
  refine wa_aload_n (n := 0) rfl ?_
  refine wb_gfi 74 rfl (wy_pr rfl) wt_74 wf_9_7 (v := (S 74 7)) ((z3 74 7 (by omega))) (fun r103 => ?_)
  refine wa_iconst ?_
  refine wa_isub ?_
  refine wa_istore_n (n := 1) rfl ?_
  refine wa_fall ⟨_, rfl⟩ ?_
  have g1 : Z2 75 = S 75 := funext fun i => z3 75 i (by omega)
  have g2 : Z2 76 = S 76 := funext fun i => z3 76 i (by omega)
  have g3 : Z2 77 = S 77 := funext fun i => z3 77 i (by omega)
  have g4 : Z2 78 = S 78 := funext fun i => z3 78 i (by omega)
  have g10 : Z2 84 = S 84 := funext fun i => z3 84 i (by omega)
  have gw1 : Z2 74 1 = S 74 1 := z3 74 1 (by omega)
  have gw7 : Z2 74 7 = S 74 7 := z3 74 7 (by omega)
  have hW2 : wd_at Z2 74 64 := by
    show wd_I 64 (Z2 75) (Z2 76) (Z2 77) (Z2 78) (Z2 84) (Z2 74 1) (Z2 75 (-1)) (Z2 74 7) (Z2 76 (-1))
    rw [g1, g2, g3, g4, g10, gw1, gw7]; exact hW
  have hL2 : wd_L Z2 74 64 := by
    show Z2 84 (-1) = 64 ∧ Z2 77 (-1) = Z2 76 (-1) ∧ Z2 78 (-1) = Z2 76 (-1) ∧ Z2 79 (-1) = Z2 76 (-1) ∧ Z2 80 (-1) = Z2 76 (-1) ∧ 64 ≤ Z2 76 (-1) ∧ 1024 ≤ Z2 75 (-1) ∧ Z2 76 (-1) ≤ 2147483647 ∧ Z2 75 (-1) ≤ 2147483647
    rw [z3 79 (-1) (by omega), z3 80 (-1) (by omega), g1, g2, g3, g4, g10]; exact hL
  refine wJ_S (tb5_74 (S := Z2) (m := S 83 1) hW2 hL2 (by rw [gw7]; exact m3) ⟨(z3 83 (-1) (by omega)).trans m1, z3 83 1 (by omega)⟩ (fun Z4 t4 z4 => ?_) ((S 74 7 - S 83 1).toNat + 1) (S 74 7 - 1) Z2 (by omega) (by omega) (by omega) (by rw [show S 74 7 - 1 + 1 = S 74 7 by omega, g1, g2, g3, g10]; exact hW.2.2.2.1) (fun j i _ => rfl)) ⟨rfl, rfl, trivial⟩
  rw [g1, g2, g3] at t4
  have z5 : ∀ (j : Nat) (i : Int), ((j ≠ 79 ∧ j ≠ 80 ∧ j ≠ 84) ∨ i < 0) → Z4 j i = S j i := fun j i h => (z4 j i (by omega)).trans (z3 j i (by omega))
  refine wa_aload_n (n := 0) rfl ?_
  refine wa_aload_n (n := 0) rfl ?_
  refine wb_gf4 74 rfl (wy_pr rfl) wt_74 wf_9_13 (v := 83) wl_74_13 ?_
  refine wa_iconst ?_
  refine wb_iald 83 rfl (wy_pr rfl) wt_83 (n := 4) (((z5 83 (-1) (by omega)).trans m1')) (by omega) (by omega) (v := (S 83 0)) ((z5 83 0 (by omega))) (fun r154 => ?_)
  refine wb_pfi 74 rfl (wy_pr rfl) wt_74 wf_9_1 (n := 1) rfl ⟨(by omega), (by omega)⟩ ?_
  refine wa_aload_n (n := 0) rfl ?_
  refine wa_aload_n (n := 0) rfl ?_
  refine wb_gf4 74 rfl (wy_pr rfl) wt_74 wf_9_13 (v := 83) wl_74_13 ?_
  refine wa_iconst ?_
  refine wb_iald 83 rfl (wy_pr rfl) wt_83 (n := 4) ((w_up_slot (by decide)).trans (((z5 83 (-1) (by omega)).trans m1'))) (by omega) (by omega) (v := (S 83 1)) ((w_up_slot (by decide)).trans ((z5 83 1 (by omega)))) (fun r155 => ?_)
  refine wb_pfi 74 rfl (wy_pr rfl) wt_74 wf_9_7 (n := 7) rfl ⟨(by omega), (by omega)⟩ ?_
  refine wa_aload_n (n := 0) rfl ?_
  refine wa_aload_n (n := 0) rfl ?_
  refine wb_gf4 74 rfl (wy_pr rfl) wt_74 wf_9_13 (v := 83) wl_74_13 ?_
  refine wa_iconst ?_
  refine wb_iald 83 rfl (wy_pr rfl) wt_83 (n := 4) ((w_up_slot (by decide)).trans ((w_up_slot (by decide)).trans (((z5 83 (-1) (by omega)).trans m1')))) (by omega) (by omega) (v := (S 83 2)) ((w_up_slot (by decide)).trans ((w_up_slot (by decide)).trans ((z5 83 2 (by omega))))) (fun r156 => ?_)
  refine wb_pfi 74 rfl (wy_pr rfl) wt_74 wf_9_10 (n := 10) rfl ⟨(by omega), (by omega)⟩ ?_
  refine wa_aload_n (n := 0) rfl ?_
  refine wa_aload_n (n := 0) rfl ?_
  refine wb_gf4 74 rfl (wy_pr rfl) wt_74 wf_9_13 (v := 83) wl_74_13 ?_
  refine wa_iconst ?_
  refine wb_iald 83 rfl (wy_pr rfl) wt_83 (n := 4) ((w_up_slot (by decide)).trans ((w_up_slot (by decide)).trans ((w_up_slot (by decide)).trans (((z5 83 (-1) (by omega)).trans m1'))))) (by omega) (by omega) (v := (S 83 3)) ((w_up_slot (by decide)).trans ((w_up_slot (by decide)).trans ((w_up_slot (by decide)).trans ((z5 83 3 (by omega)))))) (fun r157 => ?_)
  refine wb_pfi 74 rfl (wy_pr rfl) wt_74 wf_9_12 (n := 12) rfl ⟨(by omega), (by omega)⟩ ?_
  refine wa_return rfl ?_
  refine ⟨rfl, ⟨((w_up_at (by decide)).trans ((w_up_at (by decide)).trans ((w_up_at (by decide)).trans (w_up_same _ _ _ _)))), ((w_up_at (by decide)).trans ((w_up_at (by decide)).trans (w_up_same _ _ _ _))), ((w_up_at (by decide)).trans (w_up_same _ _ _ _)), (w_up_same _ _ _ _)⟩, fun k k0 k1 => ?_, fun k k0 k1 => ?_, fun x x0 x1 => ?_, fun j i h => ?_⟩
  · exact (w_up_no (by omega)).trans ((w_up_no (by omega)).trans ((w_up_no (by omega)).trans ((w_up_no (by omega)).trans ((z4 79 k (by omega)).trans ((z2 79 k (by omega)).trans (t1 k k0 k1))))))
  · exact (w_up_no (by omega)).trans ((w_up_no (by omega)).trans ((w_up_no (by omega)).trans ((w_up_no (by omega)).trans ((z4 80 k (by omega)).trans (t2 k k0 k1)))))
  · exact (w_up_no (by omega)).trans ((w_up_no (by omega)).trans ((w_up_no (by omega)).trans ((w_up_no (by omega)).trans (t4 x x0 x1))))
  · exact (w_up_no (by omega)).trans ((w_up_no (by omega)).trans ((w_up_no (by omega)).trans ((w_up_no (by omega)).trans (z5 j i (by omega)))))
theorem tb1_163 {m nc cnt : Int} (hv : wv_I (S 168) (S 170) nc cnt) (hm : 0 ≤ m ∧ m ≤ nc) (h1 : S 163 10 = nc) (h2 : nc ≤ S 170 (-1)) (h3 : cnt ≤ S 168 (-1)) (hk : ∀ Z, tb_q (S 168) (Z 168) m nc cnt → (∀ (j : Nat) (i : Int), (j ≠ 168 ∨ i < 0) → Z j i = S j i) → wJ (pe_GA xs) wY0 M d t_XW_takeBack ((pe_at t_XW_takeBack.bl 2).getD (0, [])).2 [(0, (2, 163))] [] Z Q) : ∀ (f : Nat) (n : Int) (Z : wS), (nc - n).toNat < f → m ≤ n → n ≤ nc → tb_q (S 168) (Z 168) m n cnt → (∀ (j : Nat) (i : Int), (j ≠ 168 ∨ i < 0) → Z j i = S j i) → wJ (pe_GA xs) wY0 M d t_XW_takeBack ((pe_at t_XW_takeBack.bl 1).getD (0, [])).2 [(0, (2, 163)), (1, (0, n))] [] Z Q := by
  intro f
  induction f with
  | zero => intro n Z h; exact absurd h (Nat.not_lt_zero _)
  | succ f ih =>
    intro n Z hf hn0 hn1 ht hz
    refine wa_iload_n (n := 1) rfl ?_
    refine wa_aload_n (n := 0) rfl ?_
    refine wb_gfi 163 rfl (wy_pr rfl) wt_163 wf_9_10 (v := nc) (((hz 163 10 (by omega)).trans h1)) (fun r1 => ?_)
    refine wa_icmpge (w_rg0 (by omega) (by omega)) (w_rg0 (by omega) (by omega)) ⟨_, rfl⟩ (fun c2 => ?_) (fun c2 => ?_)
    · skip
      have hnn : n = nc := by omega
      subst hnn
      exact wJ_S (hk Z ht hz) ⟨rfl, trivial⟩
    · skip
      refine wa_aload_n (n := 0) rfl ?_
      refine wb_gf4 163 rfl (wy_pr rfl) wt_163 wf_9_5 (v := 168) wl_163_5 ?_
      refine wa_aload_n (n := 0) rfl ?_
      refine wb_gf4 163 rfl (wy_pr rfl) wt_163 wf_9_9 (v := 170) wl_163_9 ?_
      refine wa_iload_n (n := 1) rfl ?_
      have hvn := hv.2.1 n (by omega) (by omega)
      have hzn : Z 170 n = S 170 n := hz 170 n (by omega)
      refine wb_iald 170 rfl (wy_pr rfl) wt_170 (n := (S 170 (-1))) ((hz 170 (-1) (by omega))) (by omega) (by omega) (v := (S 170 n)) ((hz 170 n (by omega))) (fun r3 => ?_)
      refine wa_iconst ?_
      refine wb_iast 168 rfl (wy_pr rfl) wt_168 (n := (S 168 (-1))) ((hz 168 (-1) (by omega))) (by omega) (by omega) ⟨(by omega), (by omega)⟩ ?_
      refine wa_iinc rfl rfl ?_
      refine wa_goto ⟨_, rfl⟩ ?_
      refine wJ_S (ih (n + 1) _ (by omega) (by omega) (by omega) (tb_s (NM := S 170) ht hv ⟨by omega, by omega, by omega⟩ (w_up_same _ _ _ _) (fun k hk => w_up_at hk)) (fun j i hj => (w_up_no (by omega)).trans (hz j i hj))) ⟨rfl, rfl, trivial⟩
theorem tb3_163 {m nc cnt : Int} (hv : wv_I (S 169) (S 171) nc cnt) (hm : 0 ≤ m ∧ m ≤ nc) (h1 : S 163 12 = nc) (h2 : nc ≤ S 171 (-1)) (h3 : cnt ≤ S 169 (-1)) (hk : ∀ Z, tb_q (S 169) (Z 169) m nc cnt → (∀ (j : Nat) (i : Int), (j ≠ 169 ∨ i < 0) → Z j i = S j i) → wJ (pe_GA xs) wY0 M d t_XW_takeBack ((pe_at t_XW_takeBack.bl 4).getD (0, [])).2 [(0, (2, 163))] [] Z Q) : ∀ (f : Nat) (n : Int) (Z : wS), (nc - n).toNat < f → m ≤ n → n ≤ nc → tb_q (S 169) (Z 169) m n cnt → (∀ (j : Nat) (i : Int), (j ≠ 169 ∨ i < 0) → Z j i = S j i) → wJ (pe_GA xs) wY0 M d t_XW_takeBack ((pe_at t_XW_takeBack.bl 3).getD (0, [])).2 [(0, (2, 163)), (1, (0, n))] [] Z Q := by
  intro f
  induction f with
  | zero => intro n Z h; exact absurd h (Nat.not_lt_zero _)
  | succ f ih =>
    intro n Z hf hn0 hn1 ht hz
    refine wa_iload_n (n := 1) rfl ?_
    refine wa_aload_n (n := 0) rfl ?_
    refine wb_gfi 163 rfl (wy_pr rfl) wt_163 wf_9_12 (v := nc) (((hz 163 12 (by omega)).trans h1)) (fun r1 => ?_)
    refine wa_icmpge (w_rg0 (by omega) (by omega)) (w_rg0 (by omega) (by omega)) ⟨_, rfl⟩ (fun c2 => ?_) (fun c2 => ?_)
    · skip
      have hnn : n = nc := by omega
      subst hnn
      exact wJ_S (hk Z ht hz) ⟨rfl, trivial⟩
    · skip
      refine wa_aload_n (n := 0) rfl ?_
      refine wb_gf4 163 rfl (wy_pr rfl) wt_163 wf_9_6 (v := 169) wl_163_6 ?_
      refine wa_aload_n (n := 0) rfl ?_
      refine wb_gf4 163 rfl (wy_pr rfl) wt_163 wf_9_11 (v := 171) wl_163_11 ?_
      refine wa_iload_n (n := 1) rfl ?_
      have hvn := hv.2.1 n (by omega) (by omega)
      have hzn : Z 171 n = S 171 n := hz 171 n (by omega)
      refine wb_iald 171 rfl (wy_pr rfl) wt_171 (n := (S 171 (-1))) ((hz 171 (-1) (by omega))) (by omega) (by omega) (v := (S 171 n)) ((hz 171 n (by omega))) (fun r3 => ?_)
      refine wa_iconst ?_
      refine wb_iast 169 rfl (wy_pr rfl) wt_169 (n := (S 169 (-1))) ((hz 169 (-1) (by omega))) (by omega) (by omega) ⟨(by omega), (by omega)⟩ ?_
      refine wa_iinc rfl rfl ?_
      refine wa_goto ⟨_, rfl⟩ ?_
      refine wJ_S (ih (n + 1) _ (by omega) (by omega) (by omega) (tb_s (NM := S 171) ht hv ⟨by omega, by omega, by omega⟩ (w_up_same _ _ _ _) (fun k hk => w_up_at hk)) (fun j i hj => (w_up_no (by omega)).trans (hz j i hj))) ⟨rfl, rfl, trivial⟩
theorem tb5_163 {m : Int} (hW : wd_at S 163 64) (hL : wd_L S 163 64) (hm : 0 ≤ m ∧ m ≤ S 163 7) (h9 : S 172 (-1) = 4 ∧ S 172 1 = m) (hk : ∀ Z, tb_h 64 (S 164) (S 165) (S 166) (Z 173) m → (∀ (j : Nat) (i : Int), (j ≠ 173 ∨ i < 0) → Z j i = S j i) → wJ (pe_GA xs) wY0 M (d + 1) t_XW_takeBack ((pe_at t_XW_takeBack.bl 6).getD (0, [])).2 [(0, (2, 163))] [] Z Q) : ∀ (f : Nat) (t : Int) (Z : wS), (t + 1 - m).toNat < f → m ≤ t + 1 → t + 1 ≤ S 163 7 → tb_h 64 (S 164) (S 165) (S 166) (Z 173) (t + 1) → (∀ (j : Nat) (i : Int), (j ≠ 173 ∨ i < 0) → Z j i = S j i) → wJ (pe_GA xs) wY0 M (d + 1) t_XW_takeBack ((pe_at t_XW_takeBack.bl 5).getD (0, [])).2 [(0, (2, 163)), (1, (0, t))] [] Z Q := by
  intro f
  induction f with
  | zero => intro n Z h; exact absurd h (Nat.not_lt_zero _)
  | succ f ih =>
    intro t Z hf hn0 hn1 ht hz
    have l10 : S 173 (-1) = 64 := hL.1
    have l3 : S 166 (-1) = S 165 (-1) := hL.2.1
    have l4 : S 167 (-1) = S 165 (-1) := hL.2.2.1
    have l8 : S 165 (-1) ≤ 2147483647 := hL.2.2.2.2.2.2.2.1
    have l9 : S 164 (-1) ≤ 2147483647 := hL.2.2.2.2.2.2.2.2
    have hc1 : 0 ≤ S 163 7 ∧ S 163 7 ≤ S 165 (-1) := hW.1
    have hu1 : 0 ≤ S 163 1 ∧ S 163 1 ≤ S 164 (-1) := hW.2.1
    have h94 := h9.1
    have zl10 : Z 173 (-1) = 64 := (hz 173 (-1) (by omega)).trans l10
    have zl1 : Z 164 (-1) = S 164 (-1) := hz 164 (-1) (by omega)
    have zp : Z 164 = S 164 := funext fun i => hz 164 i (by omega)
    have hr := hd_rg (f := S 164) (a := S 165 t) (n := S 166 t) (H := 64) (by omega)
    refine wa_iload_n (n := 1) rfl ?_
    refine wa_aload_n (n := 0) rfl ?_
    refine wb_gf4 163 rfl (wy_pr rfl) wt_163 wf_9_13 (v := 172) wl_163_13 ?_
    refine wa_iconst ?_
    refine wb_iald 172 rfl (wy_pr rfl) wt_172 (n := 4) (((hz 172 (-1) (by omega)).trans h9.1)) (by omega) (by omega) (v := m) (((hz 172 1 (by omega)).trans h9.2)) (fun r1 => ?_)
    refine wa_icmplt (w_rg0 (by omega) (by omega)) (w_rg0 (by omega) (by omega)) ⟨_, rfl⟩ (fun c2 => ?_) (fun c2 => ?_)
    · skip
      have hnn : t + 1 = m := by omega
      subst hnn
      exact wJ_S (hk Z ht hz) ⟨rfl, trivial⟩
    · skip
      have h3 := hW.2.2.1 t (by omega) (by omega)
      have h3a : 0 ≤ S 165 t ∧ 0 ≤ S 166 t ∧ S 166 t ≤ 60 ∧ S 165 t + S 166 t ≤ S 163 1 := h3
      have h5 : S 167 t = wl_of (hs 64 (S 164) (S 165) (S 166)) ((hs 64 (S 164) (S 165) (S 166)) t) t.toNat := by have := hW.2.2.2.2.1 t.toNat (by show ((t.toNat : Nat) : Int) < S 163 7; omega); rw [Int.toNat_of_nonneg (show 0 ≤ t by omega)] at this; exact this
      refine wa_aload_n (n := 0) rfl ?_
      refine wb_gf4 163 rfl (wy_pr rfl) wt_163 wf_9_8 (v := 173) wl_163_8 ?_
      refine wa_aload_n (n := 0) rfl ?_
      refine wa_aload_n (n := 0) rfl ?_
      refine wb_gf4 163 rfl (wy_pr rfl) wt_163 wf_9_0 (v := 164) wl_163_0 ?_
      refine wa_aload_n (n := 0) rfl ?_
      refine wb_gf4 163 rfl (wy_pr rfl) wt_163 wf_9_2 (v := 165) wl_163_2 ?_
      refine wa_iload_n (n := 1) rfl ?_
      refine wb_iald 165 rfl (wy_pr rfl) wt_165 (n := (S 165 (-1))) ((hz 165 (-1) (by omega))) (by omega) (by omega) (v := (S 165 t)) ((hz 165 t (by omega))) (fun r3 => ?_)
      refine wa_aload_n (n := 0) rfl ?_
      refine wb_gf4 163 rfl (wy_pr rfl) wt_163 wf_9_3 (v := 166) wl_163_3 ?_
      refine wa_iload_n (n := 1) rfl ?_
      refine wb_iald 166 rfl (wy_pr rfl) wt_166 (n := (S 165 (-1))) (((hz 166 (-1) (by omega)).trans l3)) (by omega) (by omega) (v := (S 166 t)) ((hz 166 t (by omega))) (fun r4 => ?_)
      refine wa_cv 163 rfl (wy_pr rfl) wt_163 (M2 := fun _ => False) rfl at_XW_headOf ⟨_, rfl⟩ rfl rfl ⟨(Or.inr ⟨wy_pr rfl, fun q => q⟩), trivial, trivial⟩ ⟨(Or.inr ⟨wy_pr rfl, fun q => q⟩), trivial⟩ (fun _ _ q => False.elim q) (hd_163 (S := Z) (b := 164) (a0 := S 165 t) (n := S 166 t) (wy_pr rfl) wt_164 ⟨by omega, by omega, by omega, by omega⟩ zl10) (fun oq5 Sq5 hp6 q5 => ?_)
      rcases q5 with ⟨rfl, rfl⟩
      show wJ _ _ _ _ _ _ _ _ _ _
      rw [show hd_of (Z 164) (S 165 t) (S 166 t) 64 = (hs 64 (S 164) (S 165) (S 166)) t by rw [zp]; rfl]
      have hr2 : 0 ≤ (hs 64 (S 164) (S 165) (S 166)) t ∧ (hs 64 (S 164) (S 165) (S 166)) t < 64 := hr
      refine wa_aload_n (n := 0) rfl ?_
      refine wb_gf4 163 rfl (wy_pr rfl) wt_163 wf_9_4 (v := 167) wl_163_4 ?_
      refine wa_iload_n (n := 1) rfl ?_
      refine wb_iald 167 rfl (wy_pr rfl) wt_167 (n := (S 165 (-1))) (((hz 167 (-1) (by omega)).trans l4)) (by omega) (by omega) (v := (S 167 t)) ((hz 167 t (by omega))) (fun r7 => ?_)
      refine wb_iast 173 rfl (wy_pr rfl) wt_173 (n := 64) (zl10) (by omega) (by omega) ⟨(by omega), (by omega)⟩ ?_
      refine wa_iinc rfl rfl ?_
      refine wa_goto ⟨_, rfl⟩ ?_
      refine wJ_S (ih (t + (-1)) _ (by omega) (by omega) (by omega) (by rw [show t + (-1) + 1 = t by omega]; exact tb_hs ht (by omega) h5 (w_up_same _ _ _ _) (fun x hx => w_up_at hx)) (fun j i hj => (w_up_no (by omega)).trans (hz j i hj))) ⟨rfl, rfl, trivial⟩
theorem tb_163 (hW : wd_at S 163 64) (hL : wd_L S 163 64) (hV : wv_L S 163) (hM : mk_I S 163) : wJ (pe_GA xs) wY0 M (d + 1) t_XW_takeBack ((pe_at t_XW_takeBack.bl 0).getD (0, [])).2 [(0, (2, 163))] [] S (fun o Z => o = .inl none ∧ tb_ag 163 64 S Z) := by
  obtain ⟨v1, v2, v3, v4, v5, v6, v7, v8⟩ := hV
  obtain ⟨m1, m2, m3, m4, m5⟩ := hM
  have l5 : S 168 (-1) = S 165 (-1) := hL.2.2.2.1
  have l6 : S 169 (-1) = S 165 (-1) := hL.2.2.2.2.1
  have hc1 : 0 ≤ S 163 7 ∧ S 163 7 ≤ S 165 (-1) := hW.1
  have m1' : S 172 (-1) = 4 := m1
  have m4' : 0 ≤ S 172 2 ∧ S 172 2 ≤ S 163 10 := m4
  have m5' : 0 ≤ S 172 3 ∧ S 172 3 ≤ S 163 12 := m5
  have m3' : 0 ≤ S 172 1 ∧ S 172 1 ≤ S 163 7 := m3
  have m2' : 0 ≤ S 172 0 ∧ S 172 0 ≤ S 163 1 := m2
  have hwI : 0 ≤ S 163 1 ∧ S 163 1 ≤ S 164 (-1) := hW.2.1
  refine wa_aload_n (n := 0) rfl ?_
  refine wb_gf4 163 rfl (wy_pr rfl) wt_163 wf_9_13 (v := 172) wl_163_13 ?_
  refine wa_iconst ?_
  refine wb_iald 172 rfl (wy_pr rfl) wt_172 (n := 4) (m1') (by omega) (by omega) (v := (S 172 2)) rfl (fun r1 => ?_)
  refine wa_istore_n (n := 1) rfl ?_
  refine wa_fall ⟨_, rfl⟩ ?_
  refine wJ_S (tb1_163 (m := S 172 2) (nc := S 163 10) (cnt := S 163 7) v1 m4 rfl v3 (by omega) (fun Z1 t1 z1 => ?_) ((S 163 10 - S 172 2).toNat + 1) (S 172 2) S (by omega) (by omega) (by omega) (fun k k0 k1 => (if_neg (by omega)).symm) (fun j i _ => rfl)) ⟨rfl, rfl, trivial⟩
  refine wa_aload_n (n := 0) rfl ?_
  refine wb_gf4 163 rfl (wy_pr rfl) wt_163 wf_9_13 (v := 172) wl_163_13 ?_
  refine wa_iconst ?_
  refine wb_iald 172 rfl (wy_pr rfl) wt_172 (n := 4) (((z1 172 (-1) (by omega)).trans m1')) (by omega) (by omega) (v := (S 172 3)) ((z1 172 3 (by omega))) (fun r52 => ?_)
  refine wa_istore_n (n := 1) rfl ?_
  refine wa_fall ⟨_, rfl⟩ ?_
  have e6 : Z1 169 = S 169 := funext fun i => z1 169 i (by omega)
  have e8 : Z1 171 = S 171 := funext fun i => z1 171 i (by omega)
  refine wJ_S (tb3_163 (S := Z1) (m := S 172 3) (nc := S 163 12) (cnt := S 163 7) (by rw [e6, e8]; exact v2) m5 (z1 163 12 (by omega)) (by rw [e8]; exact v4) (by rw [e6]; omega) (fun Z2 t2 z2 => ?_) ((S 163 12 - S 172 3).toNat + 1) (S 172 3) Z1 (by omega) (by omega) (by omega) (fun k k0 k1 => (if_neg (by omega)).symm) (fun j i _ => rfl)) ⟨rfl, rfl, trivial⟩
  rw [e6] at t2
  have z3 : ∀ (j : Nat) (i : Int), ((j ≠ 168 ∧ j ≠ 169) ∨ i < 0) → Z2 j i = S j i := fun j i h => (z2 j i (by omega)).trans (z1 j i (by omega))
  refine wa_aload_n (n := 0) rfl ?_
  refine wb_gfi 163 rfl (wy_pr rfl) wt_163 wf_9_7 (v := (S 163 7)) ((z3 163 7 (by omega))) (fun r103 => ?_)
  refine wa_iconst ?_
  refine wa_isub ?_
  refine wa_istore_n (n := 1) rfl ?_
  refine wa_fall ⟨_, rfl⟩ ?_
  have g1 : Z2 164 = S 164 := funext fun i => z3 164 i (by omega)
  have g2 : Z2 165 = S 165 := funext fun i => z3 165 i (by omega)
  have g3 : Z2 166 = S 166 := funext fun i => z3 166 i (by omega)
  have g4 : Z2 167 = S 167 := funext fun i => z3 167 i (by omega)
  have g10 : Z2 173 = S 173 := funext fun i => z3 173 i (by omega)
  have gw1 : Z2 163 1 = S 163 1 := z3 163 1 (by omega)
  have gw7 : Z2 163 7 = S 163 7 := z3 163 7 (by omega)
  have hW2 : wd_at Z2 163 64 := by
    show wd_I 64 (Z2 164) (Z2 165) (Z2 166) (Z2 167) (Z2 173) (Z2 163 1) (Z2 164 (-1)) (Z2 163 7) (Z2 165 (-1))
    rw [g1, g2, g3, g4, g10, gw1, gw7]; exact hW
  have hL2 : wd_L Z2 163 64 := by
    show Z2 173 (-1) = 64 ∧ Z2 166 (-1) = Z2 165 (-1) ∧ Z2 167 (-1) = Z2 165 (-1) ∧ Z2 168 (-1) = Z2 165 (-1) ∧ Z2 169 (-1) = Z2 165 (-1) ∧ 64 ≤ Z2 165 (-1) ∧ 1024 ≤ Z2 164 (-1) ∧ Z2 165 (-1) ≤ 2147483647 ∧ Z2 164 (-1) ≤ 2147483647
    rw [z3 168 (-1) (by omega), z3 169 (-1) (by omega), g1, g2, g3, g4, g10]; exact hL
  refine wJ_S (tb5_163 (S := Z2) (m := S 172 1) hW2 hL2 (by rw [gw7]; exact m3) ⟨(z3 172 (-1) (by omega)).trans m1, z3 172 1 (by omega)⟩ (fun Z4 t4 z4 => ?_) ((S 163 7 - S 172 1).toNat + 1) (S 163 7 - 1) Z2 (by omega) (by omega) (by omega) (by rw [show S 163 7 - 1 + 1 = S 163 7 by omega, g1, g2, g3, g10]; exact hW.2.2.2.1) (fun j i _ => rfl)) ⟨rfl, rfl, trivial⟩
  rw [g1, g2, g3] at t4
  have z5 : ∀ (j : Nat) (i : Int), ((j ≠ 168 ∧ j ≠ 169 ∧ j ≠ 173) ∨ i < 0) → Z4 j i = S j i := fun j i h => (z4 j i (by omega)).trans (z3 j i (by omega))
  refine wa_aload_n (n := 0) rfl ?_
  refine wa_aload_n (n := 0) rfl ?_
  refine wb_gf4 163 rfl (wy_pr rfl) wt_163 wf_9_13 (v := 172) wl_163_13 ?_
  refine wa_iconst ?_
  refine wb_iald 172 rfl (wy_pr rfl) wt_172 (n := 4) (((z5 172 (-1) (by omega)).trans m1')) (by omega) (by omega) (v := (S 172 0)) ((z5 172 0 (by omega))) (fun r154 => ?_)
  refine wb_pfi 163 rfl (wy_pr rfl) wt_163 wf_9_1 (n := 1) rfl ⟨(by omega), (by omega)⟩ ?_
  refine wa_aload_n (n := 0) rfl ?_
  refine wa_aload_n (n := 0) rfl ?_
  refine wb_gf4 163 rfl (wy_pr rfl) wt_163 wf_9_13 (v := 172) wl_163_13 ?_
  refine wa_iconst ?_
  refine wb_iald 172 rfl (wy_pr rfl) wt_172 (n := 4) ((w_up_slot (by decide)).trans (((z5 172 (-1) (by omega)).trans m1'))) (by omega) (by omega) (v := (S 172 1)) ((w_up_slot (by decide)).trans ((z5 172 1 (by omega)))) (fun r155 => ?_)
  refine wb_pfi 163 rfl (wy_pr rfl) wt_163 wf_9_7 (n := 7) rfl ⟨(by omega), (by omega)⟩ ?_
  refine wa_aload_n (n := 0) rfl ?_
  refine wa_aload_n (n := 0) rfl ?_
  refine wb_gf4 163 rfl (wy_pr rfl) wt_163 wf_9_13 (v := 172) wl_163_13 ?_
  refine wa_iconst ?_
  refine wb_iald 172 rfl (wy_pr rfl) wt_172 (n := 4) ((w_up_slot (by decide)).trans ((w_up_slot (by decide)).trans (((z5 172 (-1) (by omega)).trans m1')))) (by omega) (by omega) (v := (S 172 2)) ((w_up_slot (by decide)).trans ((w_up_slot (by decide)).trans ((z5 172 2 (by omega))))) (fun r156 => ?_)
  refine wb_pfi 163 rfl (wy_pr rfl) wt_163 wf_9_10 (n := 10) rfl ⟨(by omega), (by omega)⟩ ?_
  refine wa_aload_n (n := 0) rfl ?_
  refine wa_aload_n (n := 0) rfl ?_
  refine wb_gf4 163 rfl (wy_pr rfl) wt_163 wf_9_13 (v := 172) wl_163_13 ?_
  refine wa_iconst ?_
  refine wb_iald 172 rfl (wy_pr rfl) wt_172 (n := 4) ((w_up_slot (by decide)).trans ((w_up_slot (by decide)).trans ((w_up_slot (by decide)).trans (((z5 172 (-1) (by omega)).trans m1'))))) (by omega) (by omega) (v := (S 172 3)) ((w_up_slot (by decide)).trans ((w_up_slot (by decide)).trans ((w_up_slot (by decide)).trans ((z5 172 3 (by omega)))))) (fun r157 => ?_)
  refine wb_pfi 163 rfl (wy_pr rfl) wt_163 wf_9_12 (n := 12) rfl ⟨(by omega), (by omega)⟩ ?_
  refine wa_return rfl ?_
  refine ⟨rfl, ⟨((w_up_at (by decide)).trans ((w_up_at (by decide)).trans ((w_up_at (by decide)).trans (w_up_same _ _ _ _)))), ((w_up_at (by decide)).trans ((w_up_at (by decide)).trans (w_up_same _ _ _ _))), ((w_up_at (by decide)).trans (w_up_same _ _ _ _)), (w_up_same _ _ _ _)⟩, fun k k0 k1 => ?_, fun k k0 k1 => ?_, fun x x0 x1 => ?_, fun j i h => ?_⟩
  · exact (w_up_no (by omega)).trans ((w_up_no (by omega)).trans ((w_up_no (by omega)).trans ((w_up_no (by omega)).trans ((z4 168 k (by omega)).trans ((z2 168 k (by omega)).trans (t1 k k0 k1))))))
  · exact (w_up_no (by omega)).trans ((w_up_no (by omega)).trans ((w_up_no (by omega)).trans ((w_up_no (by omega)).trans ((z4 169 k (by omega)).trans (t2 k k0 k1)))))
  · exact (w_up_no (by omega)).trans ((w_up_no (by omega)).trans ((w_up_no (by omega)).trans ((w_up_no (by omega)).trans (t4 x x0 x1))))
  · exact (w_up_no (by omega)).trans ((w_up_no (by omega)).trans ((w_up_no (by omega)).trans ((w_up_no (by omega)).trans (z5 j i (by omega)))))
end W9c
