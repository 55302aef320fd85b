/-! PART by: the reference's small methods while it reads a unit. -/
section Wby
variable {xs : List (Nat × List Int32)} {M : Nat → Prop} {d : Nat} {A B C S Z S0 : wS} {Q : wO → wS → Prop} {T : Int → Int} {n f0 u dp b0 b1 : Int} {N X : List (List Int)} {c i k pm : Nat} {I : List pz_I} {F : List pz_F} {PA : Nat → Int}
theorem mX_lx {L : List (List Int)} (h : mX L S) (g : lx_ag S Z) : mX L Z := by
  obtain ⟨h1, h2, h3, h4⟩ := h
  have e : ∀ j : Nat, (j = 283 ∨ j = 284 ∨ j = 285) → Z j = S j := fun j hj => funext fun x => g j x (Or.inl (by omega)) (Or.inl (by omega))
  have e19 : Z 237 19 = S 237 19 := g 237 19 (Or.inl (by decide)) (Or.inr (by decide))
  have e20 : Z 237 20 = S 237 20 := g 237 20 (Or.inl (by decide)) (Or.inr (by decide))
  unfold mX
  rw [e19, e20, e 283 (by omega), e 284 (by omega), e 285 (by omega)]
  exact ⟨h1, h2, h3, h4⟩
theorem NL_nx (h : kq T n N X i ≠ 5 ∧ kq T n N X i ≠ 6) : NL T n N (i + 1) = NL T n N i := by
  have hq := kq_cs T n N X i
  show Nn T n (tp T n 0 i) (NL T n N i) = _
  unfold Nn
  rw [if_neg (fun q => by omega)]
theorem XL_nx (h : kq T n N X i ≠ 3 ∧ kq T n N X i ≠ 4) : XL T n X (i + 1) = XL T n X i := by
  have hq := kq_cs T n N X i
  have hs := sk_rx (lx_si T n 0 (tp T n 0 i))
  show Xn T n (tp T n 0 i) (XL T n X i) = _
  unfold Xn
  rw [if_neg (fun q => by omega)]
/-- what a change of the lexer, the depth and such leaves -/
theorem rB_lx (h : rB S0 f0 I F PA pm S) (g : lx_ag S Z) : rB S0 f0 I F PA pm Z ∧ phA pm Z = phA pm S := rB_ag h (fun j x hj => g j x (Or.inl (by omega)) (Or.inl (by omega)))
theorem rQ_lx (h : rQ T n N X f0 b0 b1 S0 u dp i I F PA S) (g : lx_ag S Z) (hz : lx_I Z (lx_ne S (tp T n 0 i))) (hk : kq T n N X i ≠ 3 ∧ kq T n N X i ≠ 4 ∧ kq T n N X i ≠ 5 ∧ kq T n N X i ≠ 6) : rQ T n N X f0 b0 b1 S0 u dp (i + 1) I F PA Z := by
  obtain ⟨h1, ⟨h2, h3⟩, h4, h5, pm, ⟨⟨c1, c2⟩, c3, c4, c5, c6, c7⟩, h7, h8, h9⟩ := h
  have hG : ∀ x : Int, Z wG x = S wG x := fun x => g wG x (Or.inl (by decide)) (Or.inl (by decide))
  have e : ∀ x : Int, 12 < x → Z 237 x = S 237 x := fun x hx => g 237 x (Or.inl (by decide)) (Or.inr (by omega))
  obtain ⟨q1, q2⟩ := rB_lx h7 g
  refine ⟨rL_nx h1 g hz, ⟨by rw [NL_nx (X := X) ⟨hk.2.2.1, hk.2.2.2⟩]; exact mN_lx h2 g, by rw [XL_nx (N := N) ⟨hk.1, hk.2.1⟩]; exact mX_lx h3 g⟩, by rw [NL_nx (X := X) ⟨hk.2.2.1, hk.2.2.2⟩]; exact h4, fun j x j1 j2 j3 j4 j5 => (g j x (by omega) (by omega)).trans (h5 j x j1 j2 j3 j4 j5), pm, ⟨⟨(e 27 (by decide)).trans c1, (e 28 (by decide)).trans c2⟩, (e 29 (by decide)).trans c3, (e 26 (by decide)).trans c4, (e 25 (by decide)).trans c5, (e 34 (by decide)).trans c6, (e 59 (by decide)).trans c7⟩, q1, ?_, ?_⟩
  · rw [hG, q2]; omega
  · rw [hG, hG]; exact ⟨h9.1, by have := h9.2; omega⟩
/-- a fault: from a state of the reading -/
def rFu (T : Int → Int) (n : Int) (N X : List (List Int)) (f0 b0 b1 : Int) (S0 : wS) (v : Int) (Z : wS) : Prop := ∃ (Sx S1 : wS) (u dp : Int) (i : Nat) (I : List pz_I) (F : List pz_F) (PA : Nat → Int) (k p : Int), (∀ (j : Nat) (x : Int), (j < 2000000 ∨ 4000000 ≤ j) → Sx j x = S0 j x) ∧ (rQ T n N X f0 b0 b1 Sx u dp i I F PA S1 ∧ ((i : Nat) : Int) ≤ tp T n 0 i) ∧ w_hl S1 k p = Z ∧ v = k + 16 * p
theorem rFu_mk {k : Int} (h : rQ T n N X f0 b0 b1 S0 u dp i I F PA S) (ip : ((i : Nat) : Int) ≤ tp T n 0 i) : rFu T n N X f0 b0 b1 S0 (k + 16 * tp T n 0 i) (w_hl S k (S 237 7)) := ⟨S0, S, u, dp, i, I, F, PA, k, tp T n 0 i, fun _ _ _ => rfl, ⟨h, ip⟩, by rw [(rL_tk h.1).2.1], rfl⟩
theorem isw {c k : Int} (h : rQ T n N X f0 b0 b1 S0 u dp i I F PA S) (hk : ∀ a : Int, sk a = k ↔ a = c) (hr : 10 ≤ k ∧ k ≤ 34) (hc : -2147483648 ≤ c ∧ c ≤ 2147483647) : wJ (pe_GA xs) wY0 M d t_M_isSign ((pe_at t_M_isSign.bl 0).getD (0, [])).2 [(0, (2, 237)), (1, (0, c))] [] S (fun o Z => S = Z ∧ ((o = .inl (some (0, 1)) ∧ kq T n N X i = k) ∨ (o = .inl (some (0, 0)) ∧ kq T n N X i ≠ k))) :=
  wJ_mono (isSign_ok hc) (fun o Z q => ⟨q.1, q.2.imp (fun a => ⟨a.1, (rL_is h.1 hk hr).1 a.2⟩) (fun a => ⟨a.1, (rL_is0 h.1 hk hr).1 a.2⟩)⟩)
theorem rL_7 (h : rL T n i S) : (0 ≤ S 237 7 ∧ S 237 7 ≤ 65540) ∧ 0 ≤ S 237 8 ∧ S 237 8 ≤ 65540 := by
  obtain ⟨h1, h2, h3, h4⟩ := rL_tk h
  obtain ⟨a1, a2, a3, a4, a5, a6, -⟩ := h
  rw [a2] at a5 a6
  have := lx_en_le (T := T) (n := n) (h := 0) (p := tp T n 0 i) a6.2
  omega
theorem wdw {j : Nat} {tx : List Int32} {k : Nat} (h : rQ T n N X f0 b0 b1 S0 u dp i I F PA S) (hx : pe_at (pe_GA xs).xs j = some (0, tx)) (ht : tx = kwl k) (hk : k < 22) : wJ (pe_GA xs) wY0 M (d + 4) t_M_isWord ((pe_at t_M_isWord.bl 0).getD (0, [])).2 [(0, (2, 237)), (1, (2, -10 - (j : Int)))] [] S (fun o Z => S = Z ∧ ((o = .inl (some (0, 1)) ∧ kq T n N X i = 40 + (k : Int)) ∨ (o = .inl (some (0, 0)) ∧ kq T n N X i ≠ 40 + (k : Int)))) := by
  subst ht
  have hl : (kwl k).length ≤ 200 := by
    have : ∀ k : Nat, k < 22 → (kwl k).length ≤ 200 := by decide +kernel
    exact this k hk
  have h7 := rL_7 h.1
  refine wJ_mono (isWord_ok h.1.2.2.2.1 hx hl ⟨h7.1.1, h7.1.2, h7.2.1, h7.2.2⟩) (fun o Z q => ⟨q.1, q.2.imp (fun a => ⟨a.1, (rL_wd h.1 hk).1 a.2⟩) (fun a => ⟨a.1, fun e => ?_⟩)⟩)
  have := (rL_wd (N := N) (X := X) h.1 hk).2 e
  rw [a.2] at this
  exact absurd this (by decide)
theorem nxw (h : rQ T n N X f0 b0 b1 S0 u dp i I F PA S) (hk : kq T n N X i ≠ 1 ∧ kq T n N X i ≠ 3 ∧ kq T n N X i ≠ 4 ∧ kq T n N X i ≠ 5 ∧ kq T n N X i ≠ 6) : wJ (pe_GA xs) wY0 M (d + 2) t_M_next ((pe_at t_M_next.bl 0).getD (0, [])).2 [(0, (2, 237))] [] S (fun o Z => o = .inl none ∧ rQ T n N X f0 b0 b1 S0 u dp (i + 1) I F PA Z ∧ lx_ag S Z) := by
  have h5 : S 237 6 ≠ 5 := fun q => by
    rw [(rL_tk h.1).1] at q
    have := kq_cs T n N X i
    omega
  exact wJ_mono (nx_I h.1.2.2.2 h5) (fun o Z q => ⟨q.1, rQ_lx h q.2.1 q.2.2 hk.2, q.2.1⟩)
theorem acw {c k : Int} (h : rQ T n N X f0 b0 b1 S0 u dp i I F PA S) (hk : ∀ a : Int, sk a = k ↔ a = c) (hr : 10 ≤ k ∧ k ≤ 34) (hc : -2147483648 ≤ c ∧ c ≤ 2147483647) : wJ (pe_GA xs) wY0 M (d + 3) t_M_accepts ((pe_at t_M_accepts.bl 0).getD (0, [])).2 [(0, (2, 237)), (1, (0, c))] [] S (fun o Z => (o = .inl (some (0, 1)) ∧ kq T n N X i = k ∧ rQ T n N X f0 b0 b1 S0 u dp (i + 1) I F PA Z ∧ lx_ag S Z) ∨ (o = .inl (some (0, 0)) ∧ kq T n N X i ≠ k ∧ S = Z)) :=
  wJ_mono (accepts_ok h.1.2.2.2 hc) (fun o Z q => q.imp (fun a => have e := (rL_is (N := N) (X := X) h.1 hk hr).1 a.2.1; ⟨a.1, e, rQ_lx h a.2.2.1 a.2.2.2 (by omega), a.2.2.1⟩) (fun a => ⟨a.1, (rL_is0 h.1 hk hr).1 a.2.1, a.2.2⟩))
theorem tkw {c k : Int} (h : rQ T n N X f0 b0 b1 S0 u dp i I F PA S) (ip : ((i : Nat) : Int) ≤ tp T n 0 i) (hk : ∀ a : Int, sk a = k ↔ a = c) (hr : 10 ≤ k ∧ k ≤ 34) (hc : -2147483648 ≤ c ∧ c ≤ 2147483647) : wJ (pe_GA xs) wY0 M (d + 3) t_M_takes ((pe_at t_M_takes.bl 0).getD (0, [])).2 [(0, (2, 237)), (1, (0, c))] [] S (fun o Z => (o = .inl none ∧ kq T n N X i = k ∧ rQ T n N X f0 b0 b1 S0 u dp (i + 1) I F PA Z ∧ lx_ag S Z) ∨ (o = .inr 238 ∧ kq T n N X i ≠ k ∧ rFu T n N X f0 b0 b1 S0 (1 + 16 * tp T n 0 i) Z)) :=
  wJ_mono (takes_ok h.1.2.2.2 hc) (fun o Z q => q.imp (fun a => have e := (rL_is (N := N) (X := X) h.1 hk hr).1 a.2.1; ⟨a.1, e, rQ_lx h a.2.2.1 a.2.2.2 (by omega), a.2.2.1⟩) (fun a => ⟨a.1, (rL_is0 h.1 hk hr).1 a.2.1, by have q := rFu_mk (k := 1) h ip; rw [(rL_tk h.1).2.1, a.2.2] at q; exact q⟩))
/-- another depth -/
theorem rQ_dp {x : Int} (h : rQ T n N X f0 b0 b1 S0 u dp i I F PA S) : rQ T n N X f0 b0 b1 S0 u x i I F PA (w_up S 237 29 x) := by
  obtain ⟨h1, ⟨h2, h3⟩, h4, h5, pm, ⟨⟨c1, c2⟩, c3, c4, c5, c6, c7⟩, h7, h8, h9⟩ := h
  obtain ⟨q1, q2⟩ := rB_ag (Z := w_up S 237 29 x) h7 (fun j y hj => w_up_slot (by omega))
  have hn : ∀ (j : Nat) (y : Int), ((y = -1 ∧ j < 400) ∨ j = 239 ∨ j = 240 ∨ (281 ≤ j ∧ j ≤ 285) ∨ (j = 237 ∧ y ≤ 20)) → w_up S 237 29 x j y = S j y := fun j y hj => w_up_no (by omega)
  refine ⟨rL_ag h1 hn, ⟨mN_ag h2 hn, mX_ag h3 hn⟩, h4, fun j y j1 j2 j3 j4 j5 => (w_up_no (by omega)).trans (h5 j y j1 j2 j3 j4 j5), pm, ⟨⟨c1, c2⟩, w_up_same _ _ _ _, c4, c5, c6, c7⟩, q1, ?_, h9⟩
  rw [q2]; exact h8
theorem rQ_29 (h : rQ T n N X f0 b0 b1 S0 u dp i I F PA S) : S 237 29 = dp := by
  obtain ⟨h1, h2, h4, h5, pm, c, h7, h8, h9⟩ := h
  exact c.2.1
theorem dew (h : rQ T n N X f0 b0 b1 S0 u dp i I F PA S) (ip : ((i : Nat) : Int) ≤ tp T n 0 i) (hd : 0 ≤ dp ∧ dp ≤ 1000) : wJ (pe_GA xs) wY0 M (d + 2) t_M_deeper ((pe_at t_M_deeper.bl 0).getD (0, [])).2 [(0, (2, 237))] [] S (fun o Z => (o = .inl none ∧ dp < 50 ∧ w_up S 237 29 (dp + 1) = Z) ∨ (o = .inr 238 ∧ 50 ≤ dp ∧ rFu T n N X f0 b0 b1 S0 (4 + 16 * tp T n 0 i) Z)) := by
  have h29 := rQ_29 h
  refine wa_aload_n (n := 0) rfl ?_
  refine wa_aload_n (n := 0) rfl ?_
  refine wb_gfi 237 rfl (wy_pr rfl) wt_237 wf_15_29 (v := dp) (h29) (fun r101 => ?_)
  refine wa_bipush (w_rg2 (by omega) (by omega)) ?_
  refine wa_icmpge (w_rg0 (by omega) (by omega)) (w_rg0 (by omega) (by omega)) ⟨_, rfl⟩ (fun c102 => ?_) (fun c102 => ?_)
  · skip
    refine wa_iconst ?_
    refine wa_fall ⟨_, rfl⟩ ?_
    refine wa_iconst ?_
    refine wa_cv 237 rfl (wy_pr rfl) wt_237 (M2 := fun _ => False) rfl at_M_must ⟨_, rfl⟩ rfl rfl ⟨(Or.inr ⟨wy_pr rfl, fun q => q⟩), trivial⟩ trivial (fun _ _ q => False.elim q) (must_ok (S := S) (g := 0) (n := 4) (by omega) ⟨by omega, by omega⟩) (fun oq103 Sq103 hp104 q103 => ?_)
    rcases q103 with ⟨hg, rfl, rfl⟩ | ⟨hg, rfl, rfl⟩
    · skip
      exact absurd hg (by decide)
    · skip
      refine ⟨rfl, ?_⟩
      first | exact Or.inr ⟨rfl, by omega, rFu_mk h ip⟩ | (exfalso; omega)
  · skip
    refine wa_iconst ?_
    refine wa_goto ⟨_, rfl⟩ ?_
    refine wa_iconst ?_
    refine wa_cv 237 rfl (wy_pr rfl) wt_237 (M2 := fun _ => False) rfl at_M_must ⟨_, rfl⟩ rfl rfl ⟨(Or.inr ⟨wy_pr rfl, fun q => q⟩), trivial⟩ trivial (fun _ _ q => False.elim q) (must_ok (S := S) (g := 1) (n := 4) (by omega) ⟨by omega, by omega⟩) (fun oq105 Sq105 hp106 q105 => ?_)
    rcases q105 with ⟨hg, rfl, rfl⟩ | ⟨hg, rfl, rfl⟩
    · skip
      show wJ _ _ _ _ _ _ _ _ _ _
      refine wa_aload_n (n := 0) rfl ?_
      refine wa_dup (by decide) ?_
      refine wb_gfi 237 rfl (wy_pr rfl) wt_237 wf_15_29 (v := dp) (h29) (fun r107 => ?_)
      refine wa_iconst ?_
      refine wa_iadd ?_
      refine wb_pfi 237 rfl (wy_pr rfl) wt_237 wf_15_29 (n := 29) rfl ⟨(by omega), (by omega)⟩ ?_
      refine wa_return rfl ?_
      first | exact Or.inl ⟨rfl, by omega, rfl⟩ | (exfalso; omega)
    · skip
      exact absurd hg (by decide)
theorem opw {c k : Int} (h : rQ T n N X f0 b0 b1 S0 u dp i I F PA S) (ip : ((i : Nat) : Int) ≤ tp T n 0 i) (hk : ∀ a : Int, sk a = k ↔ a = c) (hr : 10 ≤ k ∧ k ≤ 34) (hc : -2147483648 ≤ c ∧ c ≤ 2147483647) (hd : 0 ≤ dp ∧ dp ≤ 1000) : wJ (pe_GA xs) wY0 M (d + 3) t_M_opens ((pe_at t_M_opens.bl 0).getD (0, [])).2 [(0, (2, 237)), (1, (0, c))] [] S (fun o Z => (o = .inl none ∧ (kq T n N X i = k ∧ dp < 50) ∧ rQ T n N X f0 b0 b1 S0 u (dp + 1) (i + 1) I F PA Z ∧ lx_ag (w_up S 237 29 (dp + 1)) Z) ∨ (o = .inr 238 ∧ kq T n N X i ≠ k ∧ rFu T n N X f0 b0 b1 S0 (1 + 16 * tp T n 0 i) Z) ∨ (o = .inr 238 ∧ (kq T n N X i = k ∧ 50 ≤ dp) ∧ rFu T n N X f0 b0 b1 S0 (4 + 16 * tp T n 0 i) Z)) := by
  refine wa_aload_n (n := 0) rfl ?_
  refine wa_aload_n (n := 0) rfl ?_
  refine wa_iload_n (n := 1) rfl ?_
  refine wa_cv 237 rfl (wy_pr rfl) wt_237 (M2 := fun _ => False) rfl at_M_isSign ⟨_, rfl⟩ rfl rfl ⟨(Or.inr ⟨wy_pr rfl, fun q => q⟩), trivial, trivial⟩ ⟨(Or.inr ⟨wy_pr rfl, fun q => q⟩), trivial⟩ (fun _ _ q => False.elim q) (isw h hk hr hc) (fun oq101 Sq101 hp102 q101 => ?_)
  rcases q101 with ⟨rfl, ⟨rfl, hs⟩ | ⟨rfl, hs⟩⟩
  · skip
    show wJ _ _ _ _ _ _ _ _ _ _
    refine wa_iconst ?_
    refine wa_cv 237 rfl (wy_pr rfl) wt_237 (M2 := fun _ => False) rfl at_M_must ⟨_, rfl⟩ rfl rfl ⟨(Or.inr ⟨wy_pr rfl, fun q => q⟩), trivial, trivial⟩ trivial (fun _ _ q => False.elim q) (must_ok (S := S) (g := 1) (n := 1) (by omega) ⟨by omega, by omega⟩) (fun oq103 Sq103 hp104 q103 => ?_)
    rcases q103 with ⟨hg, rfl, rfl⟩ | ⟨hg, rfl, rfl⟩
    · skip
      show wJ _ _ _ _ _ _ _ _ _ _
      refine wa_aload_n (n := 0) rfl ?_
      refine wa_cv 237 rfl (wy_pr rfl) wt_237 (M2 := fun _ => False) rfl at_M_deeper ⟨_, rfl⟩ rfl rfl ⟨(Or.inr ⟨wy_pr rfl, fun q => q⟩), trivial, trivial⟩ trivial (fun _ _ q => False.elim q) (dew h ip hd) (fun oq105 Sq105 hp106 q105 => ?_)
      rcases q105 with ⟨rfl, hd5, rfl⟩ | ⟨rfl, hd5, hf5⟩
      · skip
        show wJ _ _ _ _ _ _ _ _ _ _
        have h2 := rQ_dp (x := dp + 1) h
        refine wa_aload_n (n := 0) rfl ?_
        refine wa_cv 237 rfl (wy_pr rfl) wt_237 (M2 := fun _ => False) rfl at_M_next ⟨_, rfl⟩ rfl rfl ⟨(Or.inr ⟨wy_pr rfl, fun q => q⟩), trivial, trivial⟩ trivial (fun _ _ q => False.elim q) (nxw (S := (w_up S 237 29 (dp + 1))) h2 (by omega)) (fun oq107 Sq107 hp108 q107 => ?_)
        rcases q107 with ⟨rfl, hz, hl⟩
        show wJ _ _ _ _ _ _ _ _ _ _
        refine wa_return rfl ?_
        first | exact Or.inl ⟨rfl, ⟨hs, hd5⟩, hz, hl⟩ | (exfalso; omega)
      · skip
        exact ⟨rfl, Or.inr (Or.inr ⟨rfl, ⟨hs, hd5⟩, hf5⟩)⟩
    · skip
      exact absurd hg (by decide)
  · skip
    show wJ _ _ _ _ _ _ _ _ _ _
    refine wa_iconst ?_
    refine wa_cv 237 rfl (wy_pr rfl) wt_237 (M2 := fun _ => False) rfl at_M_must ⟨_, rfl⟩ rfl rfl ⟨(Or.inr ⟨wy_pr rfl, fun q => q⟩), trivial, trivial⟩ trivial (fun _ _ q => False.elim q) (must_ok (S := S) (g := 0) (n := 1) (by omega) ⟨by omega, by omega⟩) (fun oq109 Sq109 hp110 q109 => ?_)
    rcases q109 with ⟨hg, rfl, rfl⟩ | ⟨hg, rfl, rfl⟩
    · skip
      exact absurd hg (by decide)
    · skip
      refine ⟨rfl, ?_⟩
      first | exact Or.inr (Or.inl ⟨rfl, hs, rFu_mk h ip⟩) | (exfalso; omega)
theorem clw {c k : Int} (h : rQ T n N X f0 b0 b1 S0 u dp i I F PA S) (ip : ((i : Nat) : Int) ≤ tp T n 0 i) (hk : ∀ a : Int, sk a = k ↔ a = c) (hr : 10 ≤ k ∧ k ≤ 34) (hc : -2147483648 ≤ c ∧ c ≤ 2147483647) (hd : 0 ≤ dp ∧ dp ≤ 1000) : wJ (pe_GA xs) wY0 M (d + 4) t_M_closes ((pe_at t_M_closes.bl 0).getD (0, [])).2 [(0, (2, 237)), (1, (0, c))] [] S (fun o Z => (o = .inl none ∧ kq T n N X i = k ∧ rQ T n N X f0 b0 b1 S0 u (dp - 1) (i + 1) I F PA Z ∧ ∃ Z1 : wS, lx_ag S Z1 ∧ w_up Z1 237 29 (dp - 1) = Z) ∨ (o = .inr 238 ∧ kq T n N X i ≠ k ∧ rFu T n N X f0 b0 b1 S0 (1 + 16 * tp T n 0 i) Z)) := by
  refine wa_aload_n (n := 0) rfl ?_
  refine wa_iload_n (n := 1) rfl ?_
  refine wa_cv 237 rfl (wy_pr rfl) wt_237 (M2 := fun _ => False) rfl at_M_takes ⟨_, rfl⟩ rfl rfl ⟨(Or.inr ⟨wy_pr rfl, fun q => q⟩), trivial, trivial⟩ trivial (fun _ _ q => False.elim q) (tkw h ip hk hr hc) (fun oq101 Sq101 hp102 q101 => ?_)
  rcases q101 with ⟨rfl, hs, hz, hl⟩ | ⟨rfl, hs, hf5⟩
  · skip
    show wJ _ _ _ _ _ _ _ _ _ _
    refine wa_aload_n (n := 0) rfl ?_
    refine wa_dup (by decide) ?_
    refine wb_gfi 237 rfl (wy_pr rfl) wt_237 wf_15_29 (v := dp) ((rQ_29 hz)) (fun r103 => ?_)
    refine wa_iconst ?_
    refine wa_isub ?_
    refine wb_pfi 237 rfl (wy_pr rfl) wt_237 wf_15_29 (n := 29) rfl ⟨(by omega), (by omega)⟩ ?_
    refine wa_return rfl ?_
    exact Or.inl ⟨rfl, hs, rQ_dp hz, _, hl, rfl⟩
  · skip
    exact ⟨rfl, Or.inr ⟨rfl, hs, hf5⟩⟩
end Wby
