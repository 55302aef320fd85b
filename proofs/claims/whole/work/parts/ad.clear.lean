/-! PART ad: Words.clear of the names and texts, Heap.clear. -/
section Wad
variable {xs : List (Nat × List Int32)} {M : Nat → Prop} {d : Nat} {A B C S Z : wS} {Q : wO → wS → Prop}
/-- what the class knows of memory -/
def tx_1 : List Int32 := [8000, 60000, 12000, 200000, 4000, 2000]
theorem wb_xald {G : pe_G} {Y : wY} {mt : pe_Mt} {rest : List pe_I} {L : wL} {st : List wv} {x i v : Int} (j : Nat) {tx : List Int32} (hx : x = -10 - (j : Int)) (ht : pe_at G.xs j = some (1, tx)) (hl : tx.length ≤ 2147483647) (h0 : 0 ≤ i) (h1 : i < (tx.length : Nat)) (hv : w_tx tx i = v) (k : w_rg 0 v → wJ G Y M d mt rest L ((0, v) :: st) S Q) : wJ G Y M d mt (.inl .iaload :: rest) L ((0, i) :: (2, x) :: st) S Q := by
  subst hv
  exact wa_xald j hx ht hl h0 h1 (k (w_tx_rg _ _))
/-- the words of the language, at rest -/
def w2_I (S : wS) : Prop := wd_at S 2 1024 ∧ wd_L S 2 1024 ∧ wv_L S 2 ∧ (S 2 14 = 33 ∧ S 2 15 = 133) ∧ (33 ≤ S 2 7 ∧ 133 ≤ S 2 1) ∧ S 11 (-1) = 4 ∧ ∀ k : Int, 0 ≤ k → k < 33 → S 4 k + S 5 k ≤ 133
/-- what Words.clear leaves -/
def wc_ag (S Z : wS) : Prop := (Z 2 1 = 133 ∧ Z 2 7 = 33 ∧ Z 2 10 = 0 ∧ Z 2 12 = 0) ∧ (∀ k : Int, 0 ≤ k → k < 33 → Z 7 k = -1 ∧ Z 8 k = -1) ∧ ∀ (j : Nat) (i : Int), (i < 0 ∨ ((j ≠ 7 ∧ j ≠ 8 ∧ j ≠ 11 ∧ j ≠ 12) ∧ (j ≠ 2 ∨ (i ≠ 1 ∧ i ≠ 7 ∧ i ≠ 10 ∧ i ≠ 12)))) → Z j i = S j i
theorem wv_no {NO NM : Int → Int} {nc cnt k : Int} (h : wv_I NO NM nc cnt) {Z : Int → Int} (g : tb_q NO Z 0 nc cnt) (k0 : 0 ≤ k) (k1 : k < cnt) : Z k = -1 := by
  rw [g k k0 k1]
  rcases h.2.2 k k0 k1 with q | q
  · rw [if_neg (by omega)]; exact q
  · rw [if_pos (by omega)]
theorem w2_marks (h : w2_I S) (hZ9 : ∀ i : Int, Z 11 i = if i = 0 then 133 else if i = 1 then 33 else if i = 2 then 0 else if i = 3 then 0 else S 11 i) (hz : ∀ (j : Nat) (i : Int), j ≠ 11 → Z j i = S j i) : wd_at Z 2 1024 ∧ wd_L Z 2 1024 ∧ wv_L Z 2 ∧ mk_I Z 2 := by
  obtain ⟨h1, h2, h3, ⟨h5, h6⟩, ⟨h7, h8⟩, h9, h10⟩ := h
  have er : ∀ j : Nat, j ≠ 11 → Z j = S j := fun j hj => funext fun i => hz j i hj
  have l9 : Z 11 (-1) = S 11 (-1) := by rw [hZ9, if_neg (by decide), if_neg (by decide), if_neg (by decide), if_neg (by decide)]
  refine ⟨?_, ?_, ?_, ?_⟩
  · unfold wd_at
    rw [er (2 + 1) (by omega), er (2 + 2) (by omega), er (2 + 3) (by omega), er (2 + 4) (by omega), er (2 + 10) (by omega), er 2 (by omega)]; exact h1
  · unfold wd_L
    rw [er (2 + 1) (by omega), er (2 + 2) (by omega), er (2 + 3) (by omega), er (2 + 4) (by omega), er (2 + 5) (by omega), er (2 + 6) (by omega), er (2 + 10) (by omega)]; exact h2
  · unfold wv_L
    rw [er (2 + 5) (by omega), er (2 + 6) (by omega), er (2 + 7) (by omega), er (2 + 8) (by omega), er 2 (by omega)]; exact h3
  · have A0 : Z 11 0 = 133 := by rw [hZ9, if_pos rfl]
    have A1 : Z 11 1 = 33 := by rw [hZ9, if_neg (by decide), if_pos rfl]
    have A2 : Z 11 2 = 0 := by rw [hZ9, if_neg (by decide), if_neg (by decide), if_pos rfl]
    have A3 : Z 11 3 = 0 := by rw [hZ9, if_neg (by decide), if_neg (by decide), if_neg (by decide), if_pos rfl]
    have n1 := h3.1.1
    have n2 := h3.2.1.1
    show Z 11 (-1) = 4 ∧ (0 ≤ Z 11 0 ∧ Z 11 0 ≤ Z 2 1) ∧ (0 ≤ Z 11 1 ∧ Z 11 1 ≤ Z 2 7) ∧ (0 ≤ Z 11 2 ∧ Z 11 2 ≤ Z 2 10) ∧ (0 ≤ Z 11 3 ∧ Z 11 3 ≤ Z 2 12)
    rw [l9, er 2 (by omega), A0, A1, A2, A3]
    exact ⟨h9, ⟨by omega, h8⟩, ⟨by omega, h7⟩, ⟨by omega, n1⟩, ⟨by omega, n2⟩⟩
theorem w2_tb (h : w2_I S) (hA9 : ∀ i : Int, A 11 i = if i = 0 then 133 else if i = 1 then 33 else if i = 2 then 0 else if i = 3 then 0 else S 11 i) (hz : ∀ (j : Nat) (i : Int), j ≠ 11 → A j i = S j i) (g : tb_ag 2 1024 A Z) : w2_I Z ∧ wc_ag S Z := by
  obtain ⟨k1, k2, k3, k4⟩ := w2_marks h hA9 hz
  have a0 : A 11 0 = 133 := by rw [hA9, if_pos rfl]
  have a1 : A 11 1 = 33 := by rw [hA9, if_neg (by decide), if_pos rfl]
  have a2 : A 11 2 = 0 := by rw [hA9, if_neg (by decide), if_neg (by decide), if_pos rfl]
  have a3 : A 11 3 = 0 := by rw [hA9, if_neg (by decide), if_neg (by decide), if_neg (by decide), if_pos rfl]
  have al : A 11 (-1) = S 11 (-1) := by rw [hA9, if_neg (by decide), if_neg (by decide), if_neg (by decide), if_neg (by decide)]
  obtain ⟨h1, h2, h3, ⟨h5, h6⟩, ⟨h7, h8⟩, h9, h10⟩ := h
  have hW := tb_W k1 g k4 (fun k q0 q1 => by rw [show A (2 + 9) 1 = 33 from a1] at q1; rw [show A (2 + 9) 0 = 133 from a0, hz (2 + 2) k (by omega), hz (2 + 3) k (by omega)]; exact h10 k q0 q1)
  have hL := tb_L k2 g
  obtain ⟨⟨g1, g2, g3, g4⟩, g5, g6, -, g7⟩ := g
  have g1 : Z 2 1 = 133 := g1.trans a0
  have g2 : Z 2 7 = 33 := g2.trans a1
  have g3 : Z 2 10 = 0 := g3.trans a2
  have g4 : Z 2 12 = 0 := g4.trans a3
  have e7 := hz 2 7 (by omega)
  have q5 : ∀ k : Int, 0 ≤ k → k < 33 → Z 7 k = -1 := fun k k0 k1 => wv_no (NO := A 7) k3.1 (by rw [show A (2 + 9) 2 = 0 from a2] at g5; exact g5) k0 (by omega)
  have q6 : ∀ k : Int, 0 ≤ k → k < 33 → Z 8 k = -1 := fun k k0 k1 => wv_no (NO := A 8) k3.2.1 (by rw [show A (2 + 9) 3 = 0 from a3] at g6; exact g6) k0 (by omega)
  have zz : ∀ (j : Nat) (i : Int), (i < 0 ∨ ((j ≠ 7 ∧ j ≠ 8 ∧ j ≠ 11 ∧ j ≠ 12) ∧ (j ≠ 2 ∨ (i ≠ 1 ∧ i ≠ 7 ∧ i ≠ 10 ∧ i ≠ 12)))) → Z j i = S j i := by
    intro j i hj
    rw [g7 j i (by omega)]
    by_cases e : j = 11
    · subst e; rw [hA9, if_neg (by omega), if_neg (by omega), if_neg (by omega), if_neg (by omega)]
    · exact hz j i e
  obtain ⟨-, -, -, -, v5, v6, -, -⟩ := h3
  refine ⟨⟨hW, hL, ?_, ⟨(zz 2 14 (by omega)).trans h5, (zz 2 15 (by omega)).trans h6⟩, ⟨by omega, by omega⟩, (zz 11 (-1) (by omega)).trans h9, fun k k0 k1 => by rw [zz 4 k (by omega), zz 5 k (by omega)]; exact h10 k k0 k1⟩, ⟨g1, g2, g3, g4⟩, fun k k0 k1 => ⟨q5 k k0 k1, q6 k k0 k1⟩, zz⟩
  show wv_I (Z 7) (Z 9) (Z 2 10) (Z 2 7) ∧ wv_I (Z 8) (Z 10) (Z 2 12) (Z 2 7) ∧ Z 2 10 ≤ Z 9 (-1) ∧ Z 2 12 ≤ Z 10 (-1) ∧ (64 ≤ Z 9 (-1) ∧ Z 9 (-1) ≤ 8192) ∧ (64 ≤ Z 10 (-1) ∧ Z 10 (-1) ≤ 8192) ∧ Z 2 10 ≤ 4000 ∧ Z 2 12 ≤ 4000
  have v5 : 64 ≤ S 9 (-1) ∧ S 9 (-1) ≤ 8192 := v5
  have v6 : 64 ≤ S 10 (-1) ∧ S 10 (-1) ≤ 8192 := v6
  rw [g2, g3, g4, zz 9 (-1) (by omega), zz 10 (-1) (by omega)]
  exact ⟨⟨by omega, fun n n0 n1 => absurd n1 (by omega), fun k k0 k1 => Or.inl (q5 k k0 k1)⟩, ⟨by omega, fun n n0 n1 => absurd n1 (by omega), fun k k0 k1 => Or.inl (q6 k k0 k1)⟩, by omega, by omega, v5, v6, by omega, by omega⟩
theorem wcl_2 (hI : w2_I S) : wJ (pe_GA xs) wY0 M (d + 2) t_XW_clear ((pe_at t_XW_clear.bl 0).getD (0, [])).2 [(0, (2, 2))] [] S (fun o Z => o = .inl none ∧ w2_I Z ∧ wc_ag S Z) := by
  have i1 : S 2 14 = 33 := hI.2.2.2.1.1
  have i2 : S 2 15 = 133 := hI.2.2.2.1.2
  have i3 : S 11 (-1) = 4 := hI.2.2.2.2.2.1
  refine wa_aload_n (n := 0) rfl ?_
  refine wb_gf4 2 rfl (wy_pr rfl) wt_2 wf_9_13 (v := 11) wl_2_13 ?_
  refine wa_iconst ?_
  refine wa_aload_n (n := 0) rfl ?_
  refine wb_gfi 2 rfl (wy_pr rfl) wt_2 wf_9_15 (v := 133) (i2) (fun r1 => ?_)
  refine wb_iast 11 rfl (wy_pr rfl) wt_11 (n := 4) (i3) (by omega) (by omega) ⟨(by omega), (by omega)⟩ ?_
  refine wa_aload_n (n := 0) rfl ?_
  refine wb_gf4 2 rfl (wy_pr rfl) wt_2 wf_9_13 (v := 11) wl_2_13 ?_
  refine wa_iconst ?_
  refine wa_aload_n (n := 0) rfl ?_
  refine wb_gfi 2 rfl (wy_pr rfl) wt_2 wf_9_14 (v := 33) ((w_up_slot (by decide)).trans (i1)) (fun r2 => ?_)
  refine wb_iast 11 rfl (wy_pr rfl) wt_11 (n := 4) ((w_up_at (by decide)).trans (i3)) (by omega) (by omega) ⟨(by omega), (by omega)⟩ ?_
  refine wa_aload_n (n := 0) rfl ?_
  refine wb_gf4 2 rfl (wy_pr rfl) wt_2 wf_9_13 (v := 11) wl_2_13 ?_
  refine wa_iconst ?_
  refine wa_iconst ?_
  refine wb_iast 11 rfl (wy_pr rfl) wt_11 (n := 4) ((w_up_at (by decide)).trans ((w_up_at (by decide)).trans (i3))) (by omega) (by omega) ⟨(by omega), (by omega)⟩ ?_
  refine wa_aload_n (n := 0) rfl ?_
  refine wb_gf4 2 rfl (wy_pr rfl) wt_2 wf_9_13 (v := 11) wl_2_13 ?_
  refine wa_iconst ?_
  refine wa_iconst ?_
  refine wb_iast 11 rfl (wy_pr rfl) wt_11 (n := 4) ((w_up_at (by decide)).trans ((w_up_at (by decide)).trans ((w_up_at (by decide)).trans (i3)))) (by omega) (by omega) ⟨(by omega), (by omega)⟩ ?_
  refine wa_aload_n (n := 0) rfl ?_
  have h9i : ∀ i : Int, ((w_up (w_up (w_up (w_up S 11 0 133) 11 1 33) 11 2 0) 11 3 0)) 11 i = if i = 0 then 133 else if i = 1 then 33 else if i = 2 then 0 else if i = 3 then 0 else S 11 i := by
    intro i
    by_cases c0 : i = 0
    · subst c0; rfl
    by_cases c1 : i = 1
    · subst c1; rfl
    by_cases c2 : i = 2
    · subst c2; rfl
    by_cases c3 : i = 3
    · subst c3; rfl
    rw [if_neg c0, if_neg c1, if_neg c2, if_neg c3, w_up_at c3, w_up_at c2, w_up_at c1, w_up_at c0]
  have h9j : ∀ (j : Nat) (i : Int), j ≠ 11 → ((w_up (w_up (w_up (w_up S 11 0 133) 11 1 33) 11 2 0) 11 3 0)) j i = S j i := fun j i hj => (w_up_no (by omega)).trans ((w_up_no (by omega)).trans ((w_up_no (by omega)).trans ((w_up_no (by omega)).trans rfl)))
  have hmk := w2_marks hI h9i h9j
  refine wa_cv 2 rfl (wy_pr rfl) wt_2 (M2 := fun _ => False) rfl at_XW_takeBack ⟨_, rfl⟩ rfl rfl ⟨(Or.inr ⟨wy_pr rfl, fun q => q⟩), trivial⟩ trivial (fun _ _ q => False.elim q) (tb_2 (S := (w_up (w_up (w_up (w_up S 11 0 133) 11 1 33) 11 2 0) 11 3 0)) hmk.1 hmk.2.1 hmk.2.2.1 hmk.2.2.2) (fun oq3 Sq3 hp4 q3 => ?_)
  rcases q3 with ⟨rfl, tb⟩
  show wJ _ _ _ _ _ _ _ _ _ _
  generalize Sq3 = Zt at tb ⊢
  have hwt := w2_tb hI h9i h9j tb
  refine wa_return rfl ?_
  exact ⟨rfl, hwt⟩
/-- what Heap.clear leaves -/
def hc_ag (a b : Nat) (S Z : wS) : Prop := (Z 150 5 = S 150 5 + S a 16 ∧ Z b 17 = 2000 - (S 150 5 + S a 16) ∧ Z 72 1 = b ∧ Z 72 3 = 0 ∧ Z 72 5 = 0 ∧ Z 72 8 = 1 ∧ Z 72 11 = 0 ∧ Z 72 13 = 0 ∧ Z 72 15 = 0 ∧ Z 140 2 = 0 ∧ Z 153 2 = 0 ∧ Z 144 0 = -1 ∧ Z 145 0 = 0 ∧ Z 146 0 = -1 ∧ Z 147 0 = -1) ∧ (∀ i : Int, 0 ≤ i → i < 1024 → Z 149 i = 0) ∧ ∀ (j : Nat) (i : Int), (i < 0 ∨ ((j ≠ 150 ∨ i ≠ 5) ∧ (j ≠ b ∨ i ≠ 17) ∧ (j ≠ 72 ∨ (i ≠ 1 ∧ i ≠ 3 ∧ i ≠ 5 ∧ i ≠ 8 ∧ i ≠ 11 ∧ i ≠ 13 ∧ i ≠ 15)) ∧ (j ≠ 140 ∨ i ≠ 2) ∧ (j ≠ 153 ∨ i ≠ 2) ∧ ((j ≠ 144 ∧ j ≠ 145 ∧ j ≠ 146 ∧ j ≠ 147) ∨ i ≠ 0) ∧ j ≠ 149)) → Z j i = S j i
theorem hcl_73 (hx1 : pe_at (pe_GA xs).xs 1 = some (1, tx_1)) (hC : w_CL S) (h1 : S 72 1 = 73) (hk : (0 ≤ S 150 5 ∧ S 150 5 ≤ 2000) ∧ 0 ≤ S 73 16 ∧ S 73 16 ≤ 2000) (hL : 64 ≤ S 144 (-1) ∧ 64 ≤ S 145 (-1) ∧ 64 ≤ S 146 (-1) ∧ 64 ≤ S 147 (-1) ∧ 64 ≤ S 148 (-1)) : wJ (pe_GA xs) wY0 M (d + 3) t_XH_clear ((pe_at t_XH_clear.bl 0).getD (0, [])).2 [(0, (2, 72)), (1, (2, 162))] [] S (fun o Z => o = .inl none ∧ hc_ag 73 162 S Z) := by
  have k1 := hk.1
  have k2 := hk.2
  obtain ⟨l144, l145, l146, l147, l148⟩ := hL
  refine wa_aload_n (n := 0) rfl ?_
  refine wb_gf4 72 rfl (wy_pr rfl) wt_72 wf_2_10 (v := 150) wl_72_10 ?_
  refine wa_iconst ?_
  refine wa_dup2 (by decide) (by decide) ?_
  refine wb_iald 150 rfl (wy_pr rfl) wt_150 (n := 6) ((cl_150 hC)) (by omega) (by omega) (v := (S 150 5)) rfl (fun r1 => ?_)
  refine wa_aload_n (n := 0) rfl ?_
  refine wb_gf5 72 rfl (wy_pr rfl) wt_72 wf_2_1 (v := 73) (h1) (fun r2 => ?_)
  refine wb_gfi 73 rfl (wy_pr rfl) wt_73 wf_3_16 (v := (S 73 16)) rfl (fun r3 => ?_)
  refine wa_iadd ?_
  refine wb_iast 150 rfl (wy_pr rfl) wt_150 (n := 6) ((cl_150 hC)) (by omega) (by omega) ⟨(by omega), (by omega)⟩ ?_
  refine wa_aload_n (n := 1) rfl ?_
  refine wa_gs ?_
  refine wa_iconst ?_
  refine wb_xald 1 rfl hx1 (by decide) (by omega) (by decide) (v := 2000) (by decide) (fun r4 => ?_)
  refine wa_aload_n (n := 0) rfl ?_
  refine wb_gf4 72 rfl (wy_pr rfl) wt_72 wf_2_10 (v := 150) wl_72_10 ?_
  refine wa_iconst ?_
  refine wb_iald 150 rfl (wy_pr rfl) wt_150 (n := 6) ((w_up_at (by decide)).trans ((cl_150 hC))) (by omega) (by omega) (v := ((S 150 5) + (S 73 16))) (w_up_same _ _ _ _) (fun r5 => ?_)
  refine wa_isub ?_
  refine wb_pfi 162 rfl (wy_pr rfl) wt_162 wf_3_17 (n := 17) rfl ⟨(by omega), (by omega)⟩ ?_
  refine wa_aload_n (n := 0) rfl ?_
  refine wa_aload_n (n := 1) rfl ?_
  refine wb_pfr 72 rfl (wy_pr rfl) wt_72 wf_2_1 (n := 1) rfl (Or.inr ⟨wy_pr rfl, by decide⟩) ?_
  refine wa_aload_n (n := 0) rfl ?_
  refine wa_iconst ?_
  refine wb_pfi 72 rfl (wy_pr rfl) wt_72 wf_2_3 (n := 3) rfl ⟨(by omega), (by omega)⟩ ?_
  refine wa_aload_n (n := 0) rfl ?_
  refine wa_iconst ?_
  refine wb_pfi 72 rfl (wy_pr rfl) wt_72 wf_2_5 (n := 5) rfl ⟨(by omega), (by omega)⟩ ?_
  refine wa_aload_n (n := 0) rfl ?_
  refine wb_gf4 72 rfl (wy_pr rfl) wt_72 wf_2_6 (v := 140) wl_72_6 ?_
  refine wa_iconst ?_
  refine wb_pfi 140 rfl (wy_pr rfl) wt_140 wf_7_2 (n := 2) rfl ⟨(by omega), (by omega)⟩ ?_
  refine wa_aload_n (n := 0) rfl ?_
  refine wa_iconst ?_
  refine wb_pfi 72 rfl (wy_pr rfl) wt_72 wf_2_8 (n := 8) rfl ⟨(by omega), (by omega)⟩ ?_
  refine wa_aload_n (n := 0) rfl ?_
  refine wa_iconst ?_
  refine wb_pfi 72 rfl (wy_pr rfl) wt_72 wf_2_11 (n := 11) rfl ⟨(by omega), (by omega)⟩ ?_
  refine wa_aload_n (n := 0) rfl ?_
  refine wa_iconst ?_
  refine wb_pfi 72 rfl (wy_pr rfl) wt_72 wf_2_13 (n := 13) rfl ⟨(by omega), (by omega)⟩ ?_
  refine wa_aload_n (n := 0) rfl ?_
  refine wa_iconst ?_
  refine wb_pfi 72 rfl (wy_pr rfl) wt_72 wf_2_15 (n := 15) rfl ⟨(by omega), (by omega)⟩ ?_
  refine wa_aload_n (n := 0) rfl ?_
  refine wb_gf4 72 rfl (wy_pr rfl) wt_72 wf_2_16 (v := 153) wl_72_16 ?_
  refine wa_iconst ?_
  refine wb_pfi 153 rfl (wy_pr rfl) wt_153 wf_7_2 (n := 2) rfl ⟨(by omega), (by omega)⟩ ?_
  refine wa_aload_n (n := 0) rfl ?_
  refine wb_gf4 72 rfl (wy_pr rfl) wt_72 wf_2_9 (v := 149) wl_72_9 ?_
  refine wa_iconst ?_
  refine wa_cs (M2 := fun _ => False) rfl at_JA_fill ⟨_, rfl⟩ rfl rfl ⟨(Or.inr ⟨wy_pr rfl, fun q => q⟩), (Or.inr ⟨wy_pr rfl, fun q => q⟩), trivial⟩ trivial (fun _ _ q => False.elim q) (fi_ok (S := (w_up (w_up (w_up (w_up (w_up (w_up (w_up (w_up (w_up (w_up (w_up S 150 5 ((S 150 5) + (S 73 16))) 162 17 (2000 - ((S 150 5) + (S 73 16)))) 72 1 162) 72 3 0) 72 5 0) 140 2 0) 72 8 0) 72 11 0) 72 13 0) 72 15 0) 153 2 0)) (a := 149) (v := 0) (len := 1024) rfl wt_149 ((w_up_slot (by decide)).trans ((w_up_slot (by decide)).trans ((w_up_slot (by decide)).trans ((w_up_slot (by decide)).trans ((w_up_slot (by decide)).trans ((w_up_slot (by decide)).trans ((w_up_slot (by decide)).trans ((w_up_slot (by decide)).trans ((w_up_slot (by decide)).trans ((w_up_slot (by decide)).trans ((w_up_slot (by decide)).trans ((cl_149 hC))))))))))))) ⟨by omega, by omega⟩) (fun oq6 Sq6 hp7 q6 => ?_)
  rcases q6 with ⟨rfl, fi⟩
  show wJ _ _ _ _ _ _ _ _ _ _
  generalize Sq6 = Zf at fi ⊢
  refine wa_aload_n (n := 0) rfl ?_
  refine wa_iconst ?_
  refine wa_iconst ?_
  refine wa_iconst ?_
  refine wa_cv 72 rfl (wy_pr rfl) wt_72 (M2 := fun _ => False) rfl at_XH_addShape ⟨_, rfl⟩ rfl rfl ⟨(Or.inr ⟨wy_pr rfl, fun q => q⟩), (Or.inr ⟨wy_pr rfl, fun q => q⟩), trivial⟩ trivial (fun _ _ q => False.elim q) ?_ (fun _ _ _ q => q)
  refine wa_aload_n (n := 0) rfl ?_
  refine wb_gfi 72 rfl (wy_pr rfl) wt_72 wf_2_8 (v := 0) (((fi.2 72 8 (by omega)).trans ((w_up_slot (by decide)).trans ((w_up_at (by decide)).trans ((w_up_at (by decide)).trans ((w_up_at (by decide)).trans (w_up_same _ _ _ _))))))) (fun r8 => ?_)
  refine wa_istore (n := 4) rfl ?_
  refine wa_aload_n (n := 0) rfl ?_
  refine wb_gf4 72 rfl (wy_pr rfl) wt_72 wf_2_7 (v := 143) wl_72_7 ?_
  refine wa_iconst ?_
  refine wb_aald5 143 0 rfl rfl (wy_pr rfl) wt_143 (by rw [show _ = _ from (((fi.2 143 (-1) (by omega)).trans ((w_up_slot (by decide)).trans ((w_up_slot (by decide)).trans ((w_up_slot (by decide)).trans ((w_up_slot (by decide)).trans ((w_up_slot (by decide)).trans ((w_up_slot (by decide)).trans ((w_up_slot (by decide)).trans ((w_up_slot (by decide)).trans ((w_up_slot (by decide)).trans ((w_up_slot (by decide)).trans ((w_up_slot (by decide)).trans ((cl_143 hC)))))))))))))))]; omega) wl_143_0 ?_
  refine wa_iload (n := 4) rfl ?_
  refine wa_iload_n (n := 1) rfl ?_
  refine wb_iast 144 rfl (wy_pr rfl) wt_144 (n := (S 144 (-1))) (((fi.2 144 (-1) (by omega)).trans ((w_up_slot (by decide)).trans ((w_up_slot (by decide)).trans ((w_up_slot (by decide)).trans ((w_up_slot (by decide)).trans ((w_up_slot (by decide)).trans ((w_up_slot (by decide)).trans ((w_up_slot (by decide)).trans ((w_up_slot (by decide)).trans ((w_up_slot (by decide)).trans ((w_up_slot (by decide)).trans (w_up_slot (by decide)))))))))))))) (by omega) (by omega) ⟨(by omega), (by omega)⟩ ?_
  refine wa_aload_n (n := 0) rfl ?_
  refine wb_gf4 72 rfl (wy_pr rfl) wt_72 wf_2_7 (v := 143) wl_72_7 ?_
  refine wa_iconst ?_
  refine wb_aald5 143 2 rfl rfl (wy_pr rfl) wt_143 (by rw [show _ = _ from ((w_up_slot (by decide)).trans (((fi.2 143 (-1) (by omega)).trans ((w_up_slot (by decide)).trans ((w_up_slot (by decide)).trans ((w_up_slot (by decide)).trans ((w_up_slot (by decide)).trans ((w_up_slot (by decide)).trans ((w_up_slot (by decide)).trans ((w_up_slot (by decide)).trans ((w_up_slot (by decide)).trans ((w_up_slot (by decide)).trans ((w_up_slot (by decide)).trans ((w_up_slot (by decide)).trans ((cl_143 hC))))))))))))))))]; omega) wl_143_2 ?_
  refine wa_iload (n := 4) rfl ?_
  refine wa_iload_n (n := 3) rfl ?_
  refine wb_iast 146 rfl (wy_pr rfl) wt_146 (n := (S 146 (-1))) ((w_up_slot (by decide)).trans (((fi.2 146 (-1) (by omega)).trans ((w_up_slot (by decide)).trans ((w_up_slot (by decide)).trans ((w_up_slot (by decide)).trans ((w_up_slot (by decide)).trans ((w_up_slot (by decide)).trans ((w_up_slot (by decide)).trans ((w_up_slot (by decide)).trans ((w_up_slot (by decide)).trans ((w_up_slot (by decide)).trans ((w_up_slot (by decide)).trans (w_up_slot (by decide))))))))))))))) (by omega) (by omega) ⟨(by omega), (by omega)⟩ ?_
  refine wa_aload_n (n := 0) rfl ?_
  refine wb_gf4 72 rfl (wy_pr rfl) wt_72 wf_2_7 (v := 143) wl_72_7 ?_
  refine wa_iconst ?_
  refine wb_aald5 143 3 rfl rfl (wy_pr rfl) wt_143 (by rw [show _ = _ from ((w_up_slot (by decide)).trans ((w_up_slot (by decide)).trans (((fi.2 143 (-1) (by omega)).trans ((w_up_slot (by decide)).trans ((w_up_slot (by decide)).trans ((w_up_slot (by decide)).trans ((w_up_slot (by decide)).trans ((w_up_slot (by decide)).trans ((w_up_slot (by decide)).trans ((w_up_slot (by decide)).trans ((w_up_slot (by decide)).trans ((w_up_slot (by decide)).trans ((w_up_slot (by decide)).trans ((w_up_slot (by decide)).trans ((cl_143 hC)))))))))))))))))]; omega) wl_143_3 ?_
  refine wa_iload (n := 4) rfl ?_
  refine wa_iload_n (n := 2) rfl ?_
  refine wb_iast 147 rfl (wy_pr rfl) wt_147 (n := (S 147 (-1))) ((w_up_slot (by decide)).trans ((w_up_slot (by decide)).trans (((fi.2 147 (-1) (by omega)).trans ((w_up_slot (by decide)).trans ((w_up_slot (by decide)).trans ((w_up_slot (by decide)).trans ((w_up_slot (by decide)).trans ((w_up_slot (by decide)).trans ((w_up_slot (by decide)).trans ((w_up_slot (by decide)).trans ((w_up_slot (by decide)).trans ((w_up_slot (by decide)).trans ((w_up_slot (by decide)).trans (w_up_slot (by decide)))))))))))))))) (by omega) (by omega) ⟨(by omega), (by omega)⟩ ?_
  refine wa_aload_n (n := 0) rfl ?_
  refine wb_gf4 72 rfl (wy_pr rfl) wt_72 wf_2_7 (v := 143) wl_72_7 ?_
  refine wa_iconst ?_
  refine wb_aald5 143 1 rfl rfl (wy_pr rfl) wt_143 (by rw [show _ = _ from ((w_up_slot (by decide)).trans ((w_up_slot (by decide)).trans ((w_up_slot (by decide)).trans (((fi.2 143 (-1) (by omega)).trans ((w_up_slot (by decide)).trans ((w_up_slot (by decide)).trans ((w_up_slot (by decide)).trans ((w_up_slot (by decide)).trans ((w_up_slot (by decide)).trans ((w_up_slot (by decide)).trans ((w_up_slot (by decide)).trans ((w_up_slot (by decide)).trans ((w_up_slot (by decide)).trans ((w_up_slot (by decide)).trans ((w_up_slot (by decide)).trans ((cl_143 hC))))))))))))))))))]; omega) wl_143_1 ?_
  refine wa_iload (n := 4) rfl ?_
  refine wa_iload_n (n := 2) rfl ?_
  refine wa_iconst ?_
  refine wa_icmpne (w_rg0 (by omega) (by omega)) (w_rg0 (by omega) (by omega)) ⟨_, rfl⟩ (fun c9 => ?_) (fun c9 => ?_)
  · skip
    exact absurd c9 (by omega)
  · skip
    refine wa_iconst ?_
    refine wa_goto ⟨_, rfl⟩ ?_
    refine wb_iast 145 rfl (wy_pr rfl) wt_145 (n := (S 145 (-1))) ((w_up_slot (by decide)).trans ((w_up_slot (by decide)).trans ((w_up_slot (by decide)).trans (((fi.2 145 (-1) (by omega)).trans ((w_up_slot (by decide)).trans ((w_up_slot (by decide)).trans ((w_up_slot (by decide)).trans ((w_up_slot (by decide)).trans ((w_up_slot (by decide)).trans ((w_up_slot (by decide)).trans ((w_up_slot (by decide)).trans ((w_up_slot (by decide)).trans ((w_up_slot (by decide)).trans ((w_up_slot (by decide)).trans (w_up_slot (by decide))))))))))))))))) (by omega) (by omega) ⟨(by omega), (by omega)⟩ ?_
    refine wa_iload_n (n := 2) rfl ?_
    refine wa_iconst ?_
    refine wa_icmpeq (w_rg0 (by omega) (by omega)) (w_rg0 (by omega) (by omega)) ⟨_, rfl⟩ (fun c10 => ?_) (fun c10 => ?_)
    · skip
      refine wa_aload_n (n := 0) rfl ?_
      refine wa_dup (by decide) ?_
      refine wb_gfi 72 rfl (wy_pr rfl) wt_72 wf_2_8 (v := 0) ((w_up_slot (by decide)).trans ((w_up_slot (by decide)).trans ((w_up_slot (by decide)).trans ((w_up_slot (by decide)).trans (((fi.2 72 8 (by omega)).trans ((w_up_slot (by decide)).trans ((w_up_at (by decide)).trans ((w_up_at (by decide)).trans ((w_up_at (by decide)).trans (w_up_same _ _ _ _))))))))))) (fun r11 => ?_)
      refine wa_iconst ?_
      refine wa_iadd ?_
      refine wb_pfi 72 rfl (wy_pr rfl) wt_72 wf_2_8 (n := 8) rfl ⟨(by omega), (by omega)⟩ ?_
      refine wa_iload (n := 4) rfl ?_
      refine wa_ireturn rfl ?_
      show wJ _ _ _ _ _ _ _ _ _ _
      refine wa_pop (by decide) ?_
      refine wa_return rfl ?_
      refine ⟨rfl, ⟨((w_up_slot (by decide)).trans ((w_up_slot (by decide)).trans ((w_up_slot (by decide)).trans ((w_up_slot (by decide)).trans ((w_up_slot (by decide)).trans (((fi.2 150 5 (by omega)).trans ((w_up_slot (by decide)).trans ((w_up_slot (by decide)).trans ((w_up_slot (by decide)).trans ((w_up_slot (by decide)).trans ((w_up_slot (by decide)).trans ((w_up_slot (by decide)).trans ((w_up_slot (by decide)).trans ((w_up_slot (by decide)).trans ((w_up_slot (by decide)).trans ((w_up_slot (by decide)).trans (w_up_same _ _ _ _)))))))))))))))))), ((w_up_slot (by decide)).trans ((w_up_slot (by decide)).trans ((w_up_slot (by decide)).trans ((w_up_slot (by decide)).trans ((w_up_slot (by decide)).trans (((fi.2 162 17 (by omega)).trans ((w_up_slot (by decide)).trans ((w_up_slot (by decide)).trans ((w_up_slot (by decide)).trans ((w_up_slot (by decide)).trans ((w_up_slot (by decide)).trans ((w_up_slot (by decide)).trans ((w_up_slot (by decide)).trans ((w_up_slot (by decide)).trans ((w_up_slot (by decide)).trans (w_up_same _ _ _ _))))))))))))))))), ((w_up_at (by decide)).trans ((w_up_slot (by decide)).trans ((w_up_slot (by decide)).trans ((w_up_slot (by decide)).trans ((w_up_slot (by decide)).trans (((fi.2 72 1 (by omega)).trans ((w_up_slot (by decide)).trans ((w_up_at (by decide)).trans ((w_up_at (by decide)).trans ((w_up_at (by decide)).trans ((w_up_at (by decide)).trans ((w_up_slot (by decide)).trans ((w_up_at (by decide)).trans ((w_up_at (by decide)).trans (w_up_same _ _ _ _)))))))))))))))), ((w_up_at (by decide)).trans ((w_up_slot (by decide)).trans ((w_up_slot (by decide)).trans ((w_up_slot (by decide)).trans ((w_up_slot (by decide)).trans (((fi.2 72 3 (by omega)).trans ((w_up_slot (by decide)).trans ((w_up_at (by decide)).trans ((w_up_at (by decide)).trans ((w_up_at (by decide)).trans ((w_up_at (by decide)).trans ((w_up_slot (by decide)).trans ((w_up_at (by decide)).trans (w_up_same _ _ _ _))))))))))))))), ((w_up_at (by decide)).trans ((w_up_slot (by decide)).trans ((w_up_slot (by decide)).trans ((w_up_slot (by decide)).trans ((w_up_slot (by decide)).trans (((fi.2 72 5 (by omega)).trans ((w_up_slot (by decide)).trans ((w_up_at (by decide)).trans ((w_up_at (by decide)).trans ((w_up_at (by decide)).trans ((w_up_at (by decide)).trans ((w_up_slot (by decide)).trans (w_up_same _ _ _ _)))))))))))))), (w_up_same _ _ _ _), ((w_up_at (by decide)).trans ((w_up_slot (by decide)).trans ((w_up_slot (by decide)).trans ((w_up_slot (by decide)).trans ((w_up_slot (by decide)).trans (((fi.2 72 11 (by omega)).trans ((w_up_slot (by decide)).trans ((w_up_at (by decide)).trans ((w_up_at (by decide)).trans (w_up_same _ _ _ _))))))))))), ((w_up_at (by decide)).trans ((w_up_slot (by decide)).trans ((w_up_slot (by decide)).trans ((w_up_slot (by decide)).trans ((w_up_slot (by decide)).trans (((fi.2 72 13 (by omega)).trans ((w_up_slot (by decide)).trans ((w_up_at (by decide)).trans (w_up_same _ _ _ _)))))))))), ((w_up_at (by decide)).trans ((w_up_slot (by decide)).trans ((w_up_slot (by decide)).trans ((w_up_slot (by decide)).trans ((w_up_slot (by decide)).trans (((fi.2 72 15 (by omega)).trans ((w_up_slot (by decide)).trans (w_up_same _ _ _ _))))))))), ((w_up_slot (by decide)).trans ((w_up_slot (by decide)).trans ((w_up_slot (by decide)).trans ((w_up_slot (by decide)).trans ((w_up_slot (by decide)).trans (((fi.2 140 2 (by omega)).trans ((w_up_slot (by decide)).trans ((w_up_slot (by decide)).trans ((w_up_slot (by decide)).trans ((w_up_slot (by decide)).trans ((w_up_slot (by decide)).trans (w_up_same _ _ _ _))))))))))))), ((w_up_slot (by decide)).trans ((w_up_slot (by decide)).trans ((w_up_slot (by decide)).trans ((w_up_slot (by decide)).trans ((w_up_slot (by decide)).trans (((fi.2 153 2 (by omega)).trans (w_up_same _ _ _ _)))))))), ((w_up_slot (by decide)).trans ((w_up_slot (by decide)).trans ((w_up_slot (by decide)).trans ((w_up_slot (by decide)).trans (w_up_same _ _ _ _))))), ((w_up_slot (by decide)).trans (w_up_same _ _ _ _)), ((w_up_slot (by decide)).trans ((w_up_slot (by decide)).trans ((w_up_slot (by decide)).trans (w_up_same _ _ _ _)))), ((w_up_slot (by decide)).trans ((w_up_slot (by decide)).trans (w_up_same _ _ _ _)))⟩, fun i i0 i1 => (w_up_no (by omega)).trans ((w_up_no (by omega)).trans ((w_up_no (by omega)).trans ((w_up_no (by omega)).trans ((w_up_no (by omega)).trans (fi.1 i i0 i1))))), fun j i hj => (w_up_no (by omega)).trans ((w_up_no (by omega)).trans ((w_up_no (by omega)).trans ((w_up_no (by omega)).trans ((w_up_no (by omega)).trans ((fi.2 j i (by omega)).trans ((w_up_no (by omega)).trans ((w_up_no (by omega)).trans ((w_up_no (by omega)).trans ((w_up_no (by omega)).trans ((w_up_no (by omega)).trans ((w_up_no (by omega)).trans ((w_up_no (by omega)).trans ((w_up_no (by omega)).trans ((w_up_no (by omega)).trans ((w_up_no (by omega)).trans ((w_up_no (by omega)).trans (rfl)))))))))))))))))⟩
    · skip
      exact absurd c10 (by omega)
theorem hcl_162 (hx1 : pe_at (pe_GA xs).xs 1 = some (1, tx_1)) (hC : w_CL S) (h1 : S 72 1 = 162) (hk : (0 ≤ S 150 5 ∧ S 150 5 ≤ 2000) ∧ 0 ≤ S 162 16 ∧ S 162 16 ≤ 2000) (hL : 64 ≤ S 144 (-1) ∧ 64 ≤ S 145 (-1) ∧ 64 ≤ S 146 (-1) ∧ 64 ≤ S 147 (-1) ∧ 64 ≤ S 148 (-1)) : wJ (pe_GA xs) wY0 M (d + 3) t_XH_clear ((pe_at t_XH_clear.bl 0).getD (0, [])).2 [(0, (2, 72)), (1, (2, 73))] [] S (fun o Z => o = .inl none ∧ hc_ag 162 73 S Z) := by
  have k1 := hk.1
  have k2 := hk.2
  obtain ⟨l144, l145, l146, l147, l148⟩ := hL
  refine wa_aload_n (n := 0) rfl ?_
  refine wb_gf4 72 rfl (wy_pr rfl) wt_72 wf_2_10 (v := 150) wl_72_10 ?_
  refine wa_iconst ?_
  refine wa_dup2 (by decide) (by decide) ?_
  refine wb_iald 150 rfl (wy_pr rfl) wt_150 (n := 6) ((cl_150 hC)) (by omega) (by omega) (v := (S 150 5)) rfl (fun r1 => ?_)
  refine wa_aload_n (n := 0) rfl ?_
  refine wb_gf5 72 rfl (wy_pr rfl) wt_72 wf_2_1 (v := 162) (h1) (fun r2 => ?_)
  refine wb_gfi 162 rfl (wy_pr rfl) wt_162 wf_3_16 (v := (S 162 16)) rfl (fun r3 => ?_)
  refine wa_iadd ?_
  refine wb_iast 150 rfl (wy_pr rfl) wt_150 (n := 6) ((cl_150 hC)) (by omega) (by omega) ⟨(by omega), (by omega)⟩ ?_
  refine wa_aload_n (n := 1) rfl ?_
  refine wa_gs ?_
  refine wa_iconst ?_
  refine wb_xald 1 rfl hx1 (by decide) (by omega) (by decide) (v := 2000) (by decide) (fun r4 => ?_)
  refine wa_aload_n (n := 0) rfl ?_
  refine wb_gf4 72 rfl (wy_pr rfl) wt_72 wf_2_10 (v := 150) wl_72_10 ?_
  refine wa_iconst ?_
  refine wb_iald 150 rfl (wy_pr rfl) wt_150 (n := 6) ((w_up_at (by decide)).trans ((cl_150 hC))) (by omega) (by omega) (v := ((S 150 5) + (S 162 16))) (w_up_same _ _ _ _) (fun r5 => ?_)
  refine wa_isub ?_
  refine wb_pfi 73 rfl (wy_pr rfl) wt_73 wf_3_17 (n := 17) rfl ⟨(by omega), (by omega)⟩ ?_
  refine wa_aload_n (n := 0) rfl ?_
  refine wa_aload_n (n := 1) rfl ?_
  refine wb_pfr 72 rfl (wy_pr rfl) wt_72 wf_2_1 (n := 1) rfl (Or.inr ⟨wy_pr rfl, by decide⟩) ?_
  refine wa_aload_n (n := 0) rfl ?_
  refine wa_iconst ?_
  refine wb_pfi 72 rfl (wy_pr rfl) wt_72 wf_2_3 (n := 3) rfl ⟨(by omega), (by omega)⟩ ?_
  refine wa_aload_n (n := 0) rfl ?_
  refine wa_iconst ?_
  refine wb_pfi 72 rfl (wy_pr rfl) wt_72 wf_2_5 (n := 5) rfl ⟨(by omega), (by omega)⟩ ?_
  refine wa_aload_n (n := 0) rfl ?_
  refine wb_gf4 72 rfl (wy_pr rfl) wt_72 wf_2_6 (v := 140) wl_72_6 ?_
  refine wa_iconst ?_
  refine wb_pfi 140 rfl (wy_pr rfl) wt_140 wf_7_2 (n := 2) rfl ⟨(by omega), (by omega)⟩ ?_
  refine wa_aload_n (n := 0) rfl ?_
  refine wa_iconst ?_
  refine wb_pfi 72 rfl (wy_pr rfl) wt_72 wf_2_8 (n := 8) rfl ⟨(by omega), (by omega)⟩ ?_
  refine wa_aload_n (n := 0) rfl ?_
  refine wa_iconst ?_
  refine wb_pfi 72 rfl (wy_pr rfl) wt_72 wf_2_11 (n := 11) rfl ⟨(by omega), (by omega)⟩ ?_
  refine wa_aload_n (n := 0) rfl ?_
  refine wa_iconst ?_
  refine wb_pfi 72 rfl (wy_pr rfl) wt_72 wf_2_13 (n := 13) rfl ⟨(by omega), (by omega)⟩ ?_
  refine wa_aload_n (n := 0) rfl ?_
  refine wa_iconst ?_
  refine wb_pfi 72 rfl (wy_pr rfl) wt_72 wf_2_15 (n := 15) rfl ⟨(by omega), (by omega)⟩ ?_
  refine wa_aload_n (n := 0) rfl ?_
  refine wb_gf4 72 rfl (wy_pr rfl) wt_72 wf_2_16 (v := 153) wl_72_16 ?_
  refine wa_iconst ?_
  refine wb_pfi 153 rfl (wy_pr rfl) wt_153 wf_7_2 (n := 2) rfl ⟨(by omega), (by omega)⟩ ?_
  refine wa_aload_n (n := 0) rfl ?_
  refine wb_gf4 72 rfl (wy_pr rfl) wt_72 wf_2_9 (v := 149) wl_72_9 ?_
  refine wa_iconst ?_
  refine wa_cs (M2 := fun _ => False) rfl at_JA_fill ⟨_, rfl⟩ rfl rfl ⟨(Or.inr ⟨wy_pr rfl, fun q => q⟩), (Or.inr ⟨wy_pr rfl, fun q => q⟩), trivial⟩ trivial (fun _ _ q => False.elim q) (fi_ok (S := (w_up (w_up (w_up (w_up (w_up (w_up (w_up (w_up (w_up (w_up (w_up S 150 5 ((S 150 5) + (S 162 16))) 73 17 (2000 - ((S 150 5) + (S 162 16)))) 72 1 73) 72 3 0) 72 5 0) 140 2 0) 72 8 0) 72 11 0) 72 13 0) 72 15 0) 153 2 0)) (a := 149) (v := 0) (len := 1024) rfl wt_149 ((w_up_slot (by decide)).trans ((w_up_slot (by decide)).trans ((w_up_slot (by decide)).trans ((w_up_slot (by decide)).trans ((w_up_slot (by decide)).trans ((w_up_slot (by decide)).trans ((w_up_slot (by decide)).trans ((w_up_slot (by decide)).trans ((w_up_slot (by decide)).trans ((w_up_slot (by decide)).trans ((w_up_slot (by decide)).trans ((cl_149 hC))))))))))))) ⟨by omega, by omega⟩) (fun oq6 Sq6 hp7 q6 => ?_)
  rcases q6 with ⟨rfl, fi⟩
  show wJ _ _ _ _ _ _ _ _ _ _
  generalize Sq6 = Zf at fi ⊢
  refine wa_aload_n (n := 0) rfl ?_
  refine wa_iconst ?_
  refine wa_iconst ?_
  refine wa_iconst ?_
  refine wa_cv 72 rfl (wy_pr rfl) wt_72 (M2 := fun _ => False) rfl at_XH_addShape ⟨_, rfl⟩ rfl rfl ⟨(Or.inr ⟨wy_pr rfl, fun q => q⟩), (Or.inr ⟨wy_pr rfl, fun q => q⟩), trivial⟩ trivial (fun _ _ q => False.elim q) ?_ (fun _ _ _ q => q)
  refine wa_aload_n (n := 0) rfl ?_
  refine wb_gfi 72 rfl (wy_pr rfl) wt_72 wf_2_8 (v := 0) (((fi.2 72 8 (by omega)).trans ((w_up_slot (by decide)).trans ((w_up_at (by decide)).trans ((w_up_at (by decide)).trans ((w_up_at (by decide)).trans (w_up_same _ _ _ _))))))) (fun r8 => ?_)
  refine wa_istore (n := 4) rfl ?_
  refine wa_aload_n (n := 0) rfl ?_
  refine wb_gf4 72 rfl (wy_pr rfl) wt_72 wf_2_7 (v := 143) wl_72_7 ?_
  refine wa_iconst ?_
  refine wb_aald5 143 0 rfl rfl (wy_pr rfl) wt_143 (by rw [show _ = _ from (((fi.2 143 (-1) (by omega)).trans ((w_up_slot (by decide)).trans ((w_up_slot (by decide)).trans ((w_up_slot (by decide)).trans ((w_up_slot (by decide)).trans ((w_up_slot (by decide)).trans ((w_up_slot (by decide)).trans ((w_up_slot (by decide)).trans ((w_up_slot (by decide)).trans ((w_up_slot (by decide)).trans ((w_up_slot (by decide)).trans ((w_up_slot (by decide)).trans ((cl_143 hC)))))))))))))))]; omega) wl_143_0 ?_
  refine wa_iload (n := 4) rfl ?_
  refine wa_iload_n (n := 1) rfl ?_
  refine wb_iast 144 rfl (wy_pr rfl) wt_144 (n := (S 144 (-1))) (((fi.2 144 (-1) (by omega)).trans ((w_up_slot (by decide)).trans ((w_up_slot (by decide)).trans ((w_up_slot (by decide)).trans ((w_up_slot (by decide)).trans ((w_up_slot (by decide)).trans ((w_up_slot (by decide)).trans ((w_up_slot (by decide)).trans ((w_up_slot (by decide)).trans ((w_up_slot (by decide)).trans ((w_up_slot (by decide)).trans (w_up_slot (by decide)))))))))))))) (by omega) (by omega) ⟨(by omega), (by omega)⟩ ?_
  refine wa_aload_n (n := 0) rfl ?_
  refine wb_gf4 72 rfl (wy_pr rfl) wt_72 wf_2_7 (v := 143) wl_72_7 ?_
  refine wa_iconst ?_
  refine wb_aald5 143 2 rfl rfl (wy_pr rfl) wt_143 (by rw [show _ = _ from ((w_up_slot (by decide)).trans (((fi.2 143 (-1) (by omega)).trans ((w_up_slot (by decide)).trans ((w_up_slot (by decide)).trans ((w_up_slot (by decide)).trans ((w_up_slot (by decide)).trans ((w_up_slot (by decide)).trans ((w_up_slot (by decide)).trans ((w_up_slot (by decide)).trans ((w_up_slot (by decide)).trans ((w_up_slot (by decide)).trans ((w_up_slot (by decide)).trans ((w_up_slot (by decide)).trans ((cl_143 hC))))))))))))))))]; omega) wl_143_2 ?_
  refine wa_iload (n := 4) rfl ?_
  refine wa_iload_n (n := 3) rfl ?_
  refine wb_iast 146 rfl (wy_pr rfl) wt_146 (n := (S 146 (-1))) ((w_up_slot (by decide)).trans (((fi.2 146 (-1) (by omega)).trans ((w_up_slot (by decide)).trans ((w_up_slot (by decide)).trans ((w_up_slot (by decide)).trans ((w_up_slot (by decide)).trans ((w_up_slot (by decide)).trans ((w_up_slot (by decide)).trans ((w_up_slot (by decide)).trans ((w_up_slot (by decide)).trans ((w_up_slot (by decide)).trans ((w_up_slot (by decide)).trans (w_up_slot (by decide))))))))))))))) (by omega) (by omega) ⟨(by omega), (by omega)⟩ ?_
  refine wa_aload_n (n := 0) rfl ?_
  refine wb_gf4 72 rfl (wy_pr rfl) wt_72 wf_2_7 (v := 143) wl_72_7 ?_
  refine wa_iconst ?_
  refine wb_aald5 143 3 rfl rfl (wy_pr rfl) wt_143 (by rw [show _ = _ from ((w_up_slot (by decide)).trans ((w_up_slot (by decide)).trans (((fi.2 143 (-1) (by omega)).trans ((w_up_slot (by decide)).trans ((w_up_slot (by decide)).trans ((w_up_slot (by decide)).trans ((w_up_slot (by decide)).trans ((w_up_slot (by decide)).trans ((w_up_slot (by decide)).trans ((w_up_slot (by decide)).trans ((w_up_slot (by decide)).trans ((w_up_slot (by decide)).trans ((w_up_slot (by decide)).trans ((w_up_slot (by decide)).trans ((cl_143 hC)))))))))))))))))]; omega) wl_143_3 ?_
  refine wa_iload (n := 4) rfl ?_
  refine wa_iload_n (n := 2) rfl ?_
  refine wb_iast 147 rfl (wy_pr rfl) wt_147 (n := (S 147 (-1))) ((w_up_slot (by decide)).trans ((w_up_slot (by decide)).trans (((fi.2 147 (-1) (by omega)).trans ((w_up_slot (by decide)).trans ((w_up_slot (by decide)).trans ((w_up_slot (by decide)).trans ((w_up_slot (by decide)).trans ((w_up_slot (by decide)).trans ((w_up_slot (by decide)).trans ((w_up_slot (by decide)).trans ((w_up_slot (by decide)).trans ((w_up_slot (by decide)).trans ((w_up_slot (by decide)).trans (w_up_slot (by decide)))))))))))))))) (by omega) (by omega) ⟨(by omega), (by omega)⟩ ?_
  refine wa_aload_n (n := 0) rfl ?_
  refine wb_gf4 72 rfl (wy_pr rfl) wt_72 wf_2_7 (v := 143) wl_72_7 ?_
  refine wa_iconst ?_
  refine wb_aald5 143 1 rfl rfl (wy_pr rfl) wt_143 (by rw [show _ = _ from ((w_up_slot (by decide)).trans ((w_up_slot (by decide)).trans ((w_up_slot (by decide)).trans (((fi.2 143 (-1) (by omega)).trans ((w_up_slot (by decide)).trans ((w_up_slot (by decide)).trans ((w_up_slot (by decide)).trans ((w_up_slot (by decide)).trans ((w_up_slot (by decide)).trans ((w_up_slot (by decide)).trans ((w_up_slot (by decide)).trans ((w_up_slot (by decide)).trans ((w_up_slot (by decide)).trans ((w_up_slot (by decide)).trans ((w_up_slot (by decide)).trans ((cl_143 hC))))))))))))))))))]; omega) wl_143_1 ?_
  refine wa_iload (n := 4) rfl ?_
  refine wa_iload_n (n := 2) rfl ?_
  refine wa_iconst ?_
  refine wa_icmpne (w_rg0 (by omega) (by omega)) (w_rg0 (by omega) (by omega)) ⟨_, rfl⟩ (fun c9 => ?_) (fun c9 => ?_)
  · skip
    exact absurd c9 (by omega)
  · skip
    refine wa_iconst ?_
    refine wa_goto ⟨_, rfl⟩ ?_
    refine wb_iast 145 rfl (wy_pr rfl) wt_145 (n := (S 145 (-1))) ((w_up_slot (by decide)).trans ((w_up_slot (by decide)).trans ((w_up_slot (by decide)).trans (((fi.2 145 (-1) (by omega)).trans ((w_up_slot (by decide)).trans ((w_up_slot (by decide)).trans ((w_up_slot (by decide)).trans ((w_up_slot (by decide)).trans ((w_up_slot (by decide)).trans ((w_up_slot (by decide)).trans ((w_up_slot (by decide)).trans ((w_up_slot (by decide)).trans ((w_up_slot (by decide)).trans ((w_up_slot (by decide)).trans (w_up_slot (by decide))))))))))))))))) (by omega) (by omega) ⟨(by omega), (by omega)⟩ ?_
    refine wa_iload_n (n := 2) rfl ?_
    refine wa_iconst ?_
    refine wa_icmpeq (w_rg0 (by omega) (by omega)) (w_rg0 (by omega) (by omega)) ⟨_, rfl⟩ (fun c10 => ?_) (fun c10 => ?_)
    · skip
      refine wa_aload_n (n := 0) rfl ?_
      refine wa_dup (by decide) ?_
      refine wb_gfi 72 rfl (wy_pr rfl) wt_72 wf_2_8 (v := 0) ((w_up_slot (by decide)).trans ((w_up_slot (by decide)).trans ((w_up_slot (by decide)).trans ((w_up_slot (by decide)).trans (((fi.2 72 8 (by omega)).trans ((w_up_slot (by decide)).trans ((w_up_at (by decide)).trans ((w_up_at (by decide)).trans ((w_up_at (by decide)).trans (w_up_same _ _ _ _))))))))))) (fun r11 => ?_)
      refine wa_iconst ?_
      refine wa_iadd ?_
      refine wb_pfi 72 rfl (wy_pr rfl) wt_72 wf_2_8 (n := 8) rfl ⟨(by omega), (by omega)⟩ ?_
      refine wa_iload (n := 4) rfl ?_
      refine wa_ireturn rfl ?_
      show wJ _ _ _ _ _ _ _ _ _ _
      refine wa_pop (by decide) ?_
      refine wa_return rfl ?_
      refine ⟨rfl, ⟨((w_up_slot (by decide)).trans ((w_up_slot (by decide)).trans ((w_up_slot (by decide)).trans ((w_up_slot (by decide)).trans ((w_up_slot (by decide)).trans (((fi.2 150 5 (by omega)).trans ((w_up_slot (by decide)).trans ((w_up_slot (by decide)).trans ((w_up_slot (by decide)).trans ((w_up_slot (by decide)).trans ((w_up_slot (by decide)).trans ((w_up_slot (by decide)).trans ((w_up_slot (by decide)).trans ((w_up_slot (by decide)).trans ((w_up_slot (by decide)).trans ((w_up_slot (by decide)).trans (w_up_same _ _ _ _)))))))))))))))))), ((w_up_slot (by decide)).trans ((w_up_slot (by decide)).trans ((w_up_slot (by decide)).trans ((w_up_slot (by decide)).trans ((w_up_slot (by decide)).trans (((fi.2 73 17 (by omega)).trans ((w_up_slot (by decide)).trans ((w_up_slot (by decide)).trans ((w_up_slot (by decide)).trans ((w_up_slot (by decide)).trans ((w_up_slot (by decide)).trans ((w_up_slot (by decide)).trans ((w_up_slot (by decide)).trans ((w_up_slot (by decide)).trans ((w_up_slot (by decide)).trans (w_up_same _ _ _ _))))))))))))))))), ((w_up_at (by decide)).trans ((w_up_slot (by decide)).trans ((w_up_slot (by decide)).trans ((w_up_slot (by decide)).trans ((w_up_slot (by decide)).trans (((fi.2 72 1 (by omega)).trans ((w_up_slot (by decide)).trans ((w_up_at (by decide)).trans ((w_up_at (by decide)).trans ((w_up_at (by decide)).trans ((w_up_at (by decide)).trans ((w_up_slot (by decide)).trans ((w_up_at (by decide)).trans ((w_up_at (by decide)).trans (w_up_same _ _ _ _)))))))))))))))), ((w_up_at (by decide)).trans ((w_up_slot (by decide)).trans ((w_up_slot (by decide)).trans ((w_up_slot (by decide)).trans ((w_up_slot (by decide)).trans (((fi.2 72 3 (by omega)).trans ((w_up_slot (by decide)).trans ((w_up_at (by decide)).trans ((w_up_at (by decide)).trans ((w_up_at (by decide)).trans ((w_up_at (by decide)).trans ((w_up_slot (by decide)).trans ((w_up_at (by decide)).trans (w_up_same _ _ _ _))))))))))))))), ((w_up_at (by decide)).trans ((w_up_slot (by decide)).trans ((w_up_slot (by decide)).trans ((w_up_slot (by decide)).trans ((w_up_slot (by decide)).trans (((fi.2 72 5 (by omega)).trans ((w_up_slot (by decide)).trans ((w_up_at (by decide)).trans ((w_up_at (by decide)).trans ((w_up_at (by decide)).trans ((w_up_at (by decide)).trans ((w_up_slot (by decide)).trans (w_up_same _ _ _ _)))))))))))))), (w_up_same _ _ _ _), ((w_up_at (by decide)).trans ((w_up_slot (by decide)).trans ((w_up_slot (by decide)).trans ((w_up_slot (by decide)).trans ((w_up_slot (by decide)).trans (((fi.2 72 11 (by omega)).trans ((w_up_slot (by decide)).trans ((w_up_at (by decide)).trans ((w_up_at (by decide)).trans (w_up_same _ _ _ _))))))))))), ((w_up_at (by decide)).trans ((w_up_slot (by decide)).trans ((w_up_slot (by decide)).trans ((w_up_slot (by decide)).trans ((w_up_slot (by decide)).trans (((fi.2 72 13 (by omega)).trans ((w_up_slot (by decide)).trans ((w_up_at (by decide)).trans (w_up_same _ _ _ _)))))))))), ((w_up_at (by decide)).trans ((w_up_slot (by decide)).trans ((w_up_slot (by decide)).trans ((w_up_slot (by decide)).trans ((w_up_slot (by decide)).trans (((fi.2 72 15 (by omega)).trans ((w_up_slot (by decide)).trans (w_up_same _ _ _ _))))))))), ((w_up_slot (by decide)).trans ((w_up_slot (by decide)).trans ((w_up_slot (by decide)).trans ((w_up_slot (by decide)).trans ((w_up_slot (by decide)).trans (((fi.2 140 2 (by omega)).trans ((w_up_slot (by decide)).trans ((w_up_slot (by decide)).trans ((w_up_slot (by decide)).trans ((w_up_slot (by decide)).trans ((w_up_slot (by decide)).trans (w_up_same _ _ _ _))))))))))))), ((w_up_slot (by decide)).trans ((w_up_slot (by decide)).trans ((w_up_slot (by decide)).trans ((w_up_slot (by decide)).trans ((w_up_slot (by decide)).trans (((fi.2 153 2 (by omega)).trans (w_up_same _ _ _ _)))))))), ((w_up_slot (by decide)).trans ((w_up_slot (by decide)).trans ((w_up_slot (by decide)).trans ((w_up_slot (by decide)).trans (w_up_same _ _ _ _))))), ((w_up_slot (by decide)).trans (w_up_same _ _ _ _)), ((w_up_slot (by decide)).trans ((w_up_slot (by decide)).trans ((w_up_slot (by decide)).trans (w_up_same _ _ _ _)))), ((w_up_slot (by decide)).trans ((w_up_slot (by decide)).trans (w_up_same _ _ _ _)))⟩, fun i i0 i1 => (w_up_no (by omega)).trans ((w_up_no (by omega)).trans ((w_up_no (by omega)).trans ((w_up_no (by omega)).trans ((w_up_no (by omega)).trans (fi.1 i i0 i1))))), fun j i hj => (w_up_no (by omega)).trans ((w_up_no (by omega)).trans ((w_up_no (by omega)).trans ((w_up_no (by omega)).trans ((w_up_no (by omega)).trans ((fi.2 j i (by omega)).trans ((w_up_no (by omega)).trans ((w_up_no (by omega)).trans ((w_up_no (by omega)).trans ((w_up_no (by omega)).trans ((w_up_no (by omega)).trans ((w_up_no (by omega)).trans ((w_up_no (by omega)).trans ((w_up_no (by omega)).trans ((w_up_no (by omega)).trans ((w_up_no (by omega)).trans ((w_up_no (by omega)).trans (rfl)))))))))))))))))⟩
    · skip
      exact absurd c10 (by omega)
end Wad
