/-! PART b9: the Compiler's endFunction, enterFunction. -/
section Wb9
variable {xs : List (Nat × List Int32)} {M : Nat → Prop} {d : Nat} {A B C S Z : wS} {Q : wO → wS → Prop} {T : Int → Int} {n : Int} {N X : List (List Int)} {c i : Nat} {f u w : Int} {I : List pz_I} {F : List pz_F}
theorem pz_q_mono {p p2 : pz_O → Prop} {k : (Nat → List pz_I → List pz_F → Int → pz_O → Prop)} {o : pz_O} (h : ∀ o, p o → p2 o) (q : pz_q p k o) : pz_q p2 k o := q.imp (fun ⟨v, a, b⟩ => ⟨v, h _ a, b⟩) (fun ⟨i, I, F, t, a, b⟩ => ⟨i, I, F, t, h _ a, b⟩)
theorem pz_p_len (f : Int) (F : List pz_F) (u : Int) : (pz_p f F u).length = F.length := by unfold pz_p; rw [List.length_set]
theorem pz_v_len (f : Int) (F : List pz_F) (u y : Int) : (pz_v f F u y).length = F.length := by unfold pz_v; rw [List.length_set]
/-- one more variable, where the reader has gone on already -/
theorem cQ_av2 {g y : Int} (h : cQ T n N X c f u w i I F S) (hg : f ≤ g ∧ g < f + (F.length : Int)) (a : av_ag g y S Z) (h13 : S 63 13 + 1 ≤ (i : Int)) (hl : (pz_f f F g).2.2.length + 1 ≤ i) : cQ T n N X c f u w i I (pz_v f F g y) Z := by
  obtain ⟨⟨a1, a2⟩, ⟨b1, b2⟩, ⟨c1, c2, c3, c4⟩, ⟨d1, d2, d3, d4, d5, d6⟩, ⟨e1, e2, e3⟩, ⟨g1, g2⟩, ⟨k1, k2⟩, l1⟩ := h
  have hlen : (pz_v f F g y).length = F.length := pz_v_len _ _ _ _
  have a0 := a
  obtain ⟨⟨v1, v2, v3, v4, v5⟩, vp, fr, ⟨vl1, vl2, vl3⟩, gi, -⟩ := a
  have hic : i ≤ c := a2.2.1
  have hcn : (c : Int) ≤ n := a1.2.2.2.2.1
  have hnn : n ≤ 8176 := a1.2.2.2.2.2.1
  have e : ∀ (j : Nat) (x : Int), j < 63 ∨ (63 < j ∧ j < 69) ∨ j = 71 → j ≠ 29 → j ≠ 23 → Z j x = S j x := fun j x h1 h2 h3 => fr j x (by omega) (by have : wG = 1000000 := rfl; omega) (by omega) (by omega) (Or.inl (by omega)) (Or.inl h2) (Or.inl h3)
  have q63 : ∀ x : Int, x ≠ 13 → Z 63 x = S 63 x := fun x hx => fr 63 x (by decide) (by decide) (by decide) (by decide) (Or.inr hx) (Or.inl (by decide)) (Or.inl (by decide))
  have e64 : Z 64 = S 64 := funext fun x => e 64 x (by decide) (by decide) (by decide)
  have e65 : Z 65 = S 65 := funext fun x => e 65 x (by decide) (by decide) (by decide)
  have e66 : Z 66 = S 66 := funext fun x => e 66 x (by decide) (by decide) (by decide)
  have e67 : Z 67 = S 67 := funext fun x => e 67 x (by decide) (by decide) (by decide)
  have hCZ : w_CL Z := fun q hq => (fr q.1 (-1) (wz_ub q hq).1 (wz_ub q hq).2 (wz_av q hq).1 (wz_av q hq).2 (Or.inr (by decide)) (Or.inr (by omega)) (Or.inr (by omega))).trans (b2 q hq)
  refine ⟨⟨qx_T_ag a1 (fun j x hj => e j x (by omega) (by omega) (by omega)), qx_P_ag a2 (e 14 4 (by decide) (by decide) (by decide))⟩, ⟨gi, hCZ⟩, ⟨?_, ?_, ?_, ?_⟩, ⟨(e 19 1 (by decide) (by decide) (by decide)).trans d1, ?_, by rw [hlen]; exact d3, ?_, by rw [hlen]; exact d5, fun k hk => ?_⟩, ⟨(q63 11 (by decide)).trans e1, e2, by rw [hlen]; exact e3⟩, ⟨?_, by rw [v1]; exact h13⟩, ⟨k1, by rw [e64]; exact k2⟩, by rw [q63 15 (by decide)]; exact l1⟩
  · unfold nt_L
    rw [q63 7 (by decide), e64, e65, e66, e67]; exact c1
  · exact (q63 7 (by decide)).trans c2
  · exact (q63 8 (by decide)).trans c3
  · intro k hk
    rw [e64, e65, e66, e67]
    exact c4 k hk
  · rw [hlen]; exact (q63 10 (by decide)).trans d2
  · rw [e 19 3 (by decide) (by decide) (by decide)]; exact d4
  · rw [hlen] at hk
    obtain ⟨x1, x2, x3, x4, x5, x6⟩ := d6 k hk
    have g28 : Z 28 (f + k) = S 28 (f + k) := e 28 _ (by decide) (by decide) (by decide)
    have g22 : Z 22 (f + k) = S 22 (f + k) := e 22 _ (by decide) (by decide) (by decide)
    have g24 : Z 24 (f + k) = S 24 (f + k) := e 24 _ (by decide) (by decide) (by decide)
    have g21 : Z 21 (f + k) = S 21 (f + k) := e 21 _ (by decide) (by decide) (by decide)
    have g193 : Z 19 3 = S 19 3 := e 19 3 (by decide) (by decide) (by decide)
    unfold fn_I pz_v
    rw [g28, g22, g24, g21, g193, gD_s hk]
    by_cases eq : k = (g - f).toNat
    · have eg : f + (k : Int) = g := by omega
      have ez : pz_f f F g = F.getD k (-1, 0, []) := by unfold pz_f; rw [eq]
      rw [if_pos eq]
      rw [ez] at hl ⊢
      refine ⟨x1, x2, ?_, hl, x5, x6⟩
      rw [eg]
      rw [eg] at x3
      exact fv_new x3 g1.2.1.1 a0
    · rw [if_neg eq]
      exact ⟨x1, x2, fv_old (by omega) x3 a0, x4, x5, x6⟩
  · obtain ⟨p1, p2, p3, p4, p5⟩ := g1
    refine ⟨(e 68 (-1) (by decide) (by decide) (by decide)).trans p1, ⟨by rw [v1]; omega, by rw [v1]; exact vl2⟩, vl1, by omega, by omega⟩
/-- a function has been entered -/
def cE (T : Int → Int) (n : Int) (N X : List (List Int)) (c : Nat) (f : Int) (G : (Nat → List pz_I → List pz_F → Int → pz_O → Prop) → pz_R → pz_O → Prop) (dp g w : Int) (i : Nat) (I : List pz_I) (F : List pz_F) (S : wS) (o : wO) (Z : wS) : Prop := (∃ (i2 : Nat) (F2 : List pz_F), o = .inl none ∧ (∀ R : pz_R, pz_C (kq T n N X) (vq T n N X) (tp T n 0) f R → ∀ (k : (Nat → List pz_I → List pz_F → Int → pz_O → Prop)) (o2 : pz_O), k i2 I F2 0 o2 → G k R o2) ∧ cQ T n N X c f g w i2 I F2 Z ∧ cQg f (I.length : Int) w S Z ∧ (i + 2 ≤ i2 ∧ pz_le F F2) ∧ dp < 50) ∨ (∃ (v : Nat) (x : Int), o = .inr v ∧ (∀ R : pz_R, pz_C (kq T n N X) (vq T n N X) (tp T n 0) f R → ∀ k : (Nat → List pz_I → List pz_F → Int → pz_O → Prop), G k R (.inl x)) ∧ cQf f S Z v x)
theorem cE_tr {G G2 : (Nat → List pz_I → List pz_F → Int → pz_O → Prop) → pz_R → pz_O → Prop} {dp g : Int} {i1 : Nat} {F1 : List pz_F} {S1 : wS} {o : wO} (hw : 0 ≤ w) (g1 : cQg f (I.length : Int) w S S1) (hi : i ≤ i1) (hle : pz_le F F1) (hG : ∀ R : pz_R, pz_C (kq T n N X) (vq T n N X) (tp T n 0) f R → ∀ (k : (Nat → List pz_I → List pz_F → Int → pz_O → Prop)) (o : pz_O), G2 k R o → G k R o) (h : cE T n N X c f G2 dp g w i1 I F1 S1 o Z) : cE T n N X c f G dp g w i I F S o Z := by
  rcases h with ⟨i2, F2, h1, h2, h3, h4, ⟨h5, h6⟩, h7⟩ | ⟨v, x, h1, h2, h3⟩
  · exact Or.inl ⟨i2, F2, h1, fun R hR k o hk => hG R hR k o (h2 R hR k o hk), h3, cQg_tr g1 h4, ⟨by omega, pz_le_tr hle h6⟩, h7⟩
  · exact Or.inr ⟨v, x, h1, fun R hR k => hG R hR k _ (h2 R hR k), cQf_tr g1 (by omega) hw h3⟩
theorem ef_q {u2 : Int} (h : cQ T n N X c f u w i I F S) (hu : (pz_f f F u).1 = u2) (hf : f ≤ u2) (hl : I.length + 2 ≤ 1 * i + 8) : wJ (pe_GA xs) wY0 (mS [64, 65, 66, 67]) (d + 4) t_XP_endFunction ((pe_at t_XP_endFunction.bl 0).getD (0, [])).2 [(0, (2, 63))] [] S (fun o Z => o = .inl none ∧ cQ T n N X c f u2 w i (I ++ [(0, 0, 0, u)] ++ [(29, 0, 0, u)]) F Z ∧ (∀ m w2 : Int, m ≤ (I.length : Int) → cQg f m w2 S Z)) := by
  have g0 : cQg f (I.length : Int) w S S := cQg_rfl
  obtain ⟨h1, h2⟩ := cQ_ur h
  have hff := (cQ_fn h h1).1
  refine wa_aload_n (n := 0) rfl ?_
  refine wa_iconst ?_
  refine wa_iconst ?_
  refine wa_iconst ?_
  refine wa_cv 63 rfl (wy_pr rfl) wt_63 (M2 := mS [64, 65, 66, 67]) rfl at_XP_note ⟨_, rfl⟩ rfl rfl ⟨(Or.inr ⟨wy_pr rfl, mS_no rfl⟩), trivial⟩ trivial (fun _ _ q => mS_sub (by decide) q) (nt_q (S := S) (op := 0) (a := 0) (b := 0) (l := I.length) h ⟨by omega, by omega⟩ ⟨by omega, by omega⟩ ⟨by omega, by omega⟩ (by omega) (by omega) (by omega)) (fun oq104 Sq104 hp105 q104 => ?_)
  rcases q104 with ⟨rfl, hc101, hg102, ht103⟩
  show wJ _ _ _ _ _ _ _ _ _ _
  have hSq104 : cQ T n N X c f u w i (I ++ [(0, 0, 0, u)]) F Sq104 := hc101
  have gSq104 : cQg f (I.length : Int) w S Sq104 := cQg_tr g0 (hg102 _ _ (by omega))
  have hlSq104 : (I ++ [(0, 0, 0, u)]).length = I.length + 1 := List.length_append
  refine wa_pop (by decide) ?_
  refine wa_aload_n (n := 0) rfl ?_
  refine wa_bipush (w_rg2 (by omega) (by omega)) ?_
  refine wa_iconst ?_
  refine wa_iconst ?_
  refine wa_cv 63 rfl (wy_pr rfl) wt_63 (M2 := mS [64, 65, 66, 67]) rfl at_XP_note ⟨_, rfl⟩ rfl rfl ⟨(Or.inr ⟨wy_pr rfl, mS_no rfl⟩), trivial⟩ trivial (fun _ _ q => mS_sub (by decide) q) (nt_q (S := Sq104) (op := 29) (a := 0) (b := 0) (l := (I.length + 1)) hSq104 ⟨by omega, by omega⟩ ⟨by omega, by omega⟩ ⟨by omega, by omega⟩ (by omega) (by omega) (by omega)) (fun oq109 Sq109 hp110 q109 => ?_)
  rcases q109 with ⟨rfl, hc106, hg107, ht108⟩
  show wJ _ _ _ _ _ _ _ _ _ _
  have hSq109 : cQ T n N X c f u w i ((I ++ [(0, 0, 0, u)]) ++ [(29, 0, 0, u)]) F Sq109 := hc106
  have gSq109 : cQg f (I.length : Int) w S Sq109 := cQg_tr gSq104 (hg107 _ _ (by omega))
  have hlSq109 : ((I ++ [(0, 0, 0, u)]) ++ [(29, 0, 0, u)]).length = (I ++ [(0, 0, 0, u)]).length + 1 := List.length_append
  refine wa_pop (by decide) ?_
  refine wa_aload_n (n := 0) rfl ?_
  refine wa_aload_n (n := 0) rfl ?_
  refine wb_gf4 63 rfl (wy_pr rfl) wt_63 wf_1_9 (v := 20) wl_63_9 ?_
  refine wa_bipush (w_rg2 (by omega) (by omega)) ?_
  refine wb_aald5 20 7 rfl rfl (wy_pr rfl) wt_20 (by rw [show _ = _ from ((cl_20 hSq109.2.1.2))]; omega) wl_20_7 ?_
  refine wa_aload_n (n := 0) rfl ?_
  refine wb_gfi 63 rfl (wy_pr rfl) wt_63 wf_1_11 (v := u) ((cQ_11 hSq109)) (fun r111 => ?_)
  refine wb_iald 28 rfl (wy_pr rfl) wt_28 (n := 400) ((cl_28 hSq109.2.1.2)) (by omega) (by omega) (v := (pz_f f F u).1) (((cQ_fn hSq109 ⟨by omega, by omega⟩).1.1)) (fun r112 => ?_)
  refine wb_pfi 63 rfl (wy_pr rfl) wt_63 wf_1_11 (n := 11) rfl ⟨(by omega), (by omega)⟩ ?_
  refine wa_return rfl ?_
  have h0 := cQ_u (u2 := (pz_f f F u).1) hSq109 ⟨by omega, by omega⟩
  refine ⟨rfl, ?_, fun m w2 hm => cQg_tr (cQg_tr (hg102 _ _ hm) (hg107 _ _ (by omega))) (cQg_up (by decide) (by decide) (Or.inl rfl))⟩
  rw [← hu]; exact h0
theorem en_9 {g dp : Int} (h : cQ T n N X c f u w i I F S) (hg : f ≤ g ∧ g < f + (F.length : Int)) (hdp : 0 ≤ dp ∧ dp ≤ 1000) : wJ (pe_GA xs) wY0 (mS [69, 70]) (d + 9) t_XP_enterFunction ((pe_at t_XP_enterFunction.bl 9).getD (0, [])).2 [(0, (2, 63)), (1, (0, g)), (2, (0, dp))] [] S (cE T n N X c f (fun k R => pz_qf (pz_tk (kq T n N X) (tp T n 0) 11 i I F) (fun i I F1 _ => pz_qf (pz_op (kq T n N X) (tp T n 0) 12 dp i I (pz_p f F1 g)) k)) dp g w i I F S) := by
  have g0 : cQg f (I.length : Int) w S S := cQg_rfl
  have kr0 := kq_rg T n N X i
  have ic0 := cQ_ic h
  have hcn := cQ_cn h
  have hwr := cQ_wr h
  obtain ⟨hu1, hu2⟩ := cQ_ur h
  have hpl := pz_p_len f F g
  refine wa_aload_n (n := 0) rfl ?_
  refine wa_bipush (w_rg2 (by omega) (by omega)) ?_
  refine wa_cv 63 rfl (wy_pr rfl) wt_63 (M2 := fun _ => False) rfl at_XP_take ⟨_, rfl⟩ rfl rfl ⟨(Or.inr ⟨wy_pr rfl, fun q => q⟩), trivial, trivial, trivial⟩ trivial (fun _ _ q => False.elim q) (tk_q (S := S) (k := 11) h ⟨by omega, by omega⟩) (fun oq108 Sq108 hp109 q108 => ?_)
  rcases q108 with ⟨rfl, hk104, hc101, hg102, ht103⟩ | ⟨v105, rfl, hk107, hz106⟩
  · skip
    show wJ _ _ _ _ _ _ _ _ _ _
    have hSq108 : cQ T n N X c f u w (i + 1) I F Sq108 := hc101
    have gSq108 : cQg f (I.length : Int) w S Sq108 := cQg_tr g0 (hg102 _ _)
    have krSq108 := kq_rg T n N X (i + 1)
    have icSq108 := cQ_ic hSq108
    have dSq108 : pz_tk (kq T n N X) (tp T n 0) 11 i I F = .inr ((i + 1), I, F, 0) := pz_tk_o hk104
    refine wa_aload_n (n := 0) rfl ?_
    refine wb_gf4 63 rfl (wy_pr rfl) wt_63 wf_1_9 (v := 20) wl_63_9 ?_
    refine wa_iconst ?_
    refine wb_aald5 20 1 rfl rfl (wy_pr rfl) wt_20 (by rw [show _ = _ from ((cl_20 hSq108.2.1.2))]; omega) wl_20_1 ?_
    refine wa_iload_n (n := 1) rfl ?_
    refine wa_aload_n (n := 0) rfl ?_
    refine wb_gf4 63 rfl (wy_pr rfl) wt_63 wf_1_9 (v := 20) wl_63_9 ?_
    refine wa_iconst ?_
    refine wb_aald5 20 2 rfl rfl (wy_pr rfl) wt_20 (by rw [show _ = _ from ((cl_20 hSq108.2.1.2))]; omega) wl_20_2 ?_
    refine wa_iload_n (n := 1) rfl ?_
    refine wb_iald 23 rfl (wy_pr rfl) wt_23 (n := 400) ((cl_23 hSq108.2.1.2)) (by omega) (by omega) (v := (Sq108 23 g)) rfl (fun r110 => ?_)
    refine wb_iast 22 rfl (wy_pr rfl) wt_22 (n := 400) ((cl_22 hSq108.2.1.2)) (by omega) (by omega) ⟨(by omega), (by omega)⟩ ?_
    refine wa_aload_n (n := 0) rfl ?_
    refine wa_bipush (w_rg2 (by omega) (by omega)) ?_
    refine wa_iload_n (n := 2) rfl ?_
    refine wa_cv 63 rfl (wy_pr rfl) wt_63 (M2 := fun _ => False) rfl at_XP_open ⟨_, rfl⟩ rfl rfl ⟨(Or.inr ⟨wy_pr rfl, fun q => q⟩), trivial, trivial, trivial⟩ trivial (fun _ _ q => False.elim q) (op_q (S := (w_up Sq108 22 g (Sq108 23 g))) (k := 12) (dp := dp) (cQ_pa (g := g) (v := (Sq108 23 g)) hSq108 ⟨by omega, by omega⟩ rfl) ⟨by omega, by omega⟩ ⟨by omega, by omega⟩) (fun oq121 Sq121 hp122 q121 => ?_)
    rcases q121 with ⟨rfl, hk114, hc111, hg112, ht113⟩ | ⟨v115, rfl, hk117, hz116⟩ | ⟨v118, rfl, hk120, hz119⟩
    · skip
      show wJ _ _ _ _ _ _ _ _ _ _
      have hSq121 : cQ T n N X c f u w (i + 2) I (pz_p f F g) Sq121 := hc111
      have gSq121 : cQg f (I.length : Int) w S Sq121 := cQg_tr (cQg_tr gSq108 (cQg_up (by omega) (by decide) (by omega))) (hg112 _ _)
      have krSq121 := kq_rg T n N X (i + 2)
      have icSq121 := cQ_ic hSq121
      have dSq121 : pz_op (kq T n N X) (tp T n 0) 12 dp (i + 1) I (pz_p f F g) = .inr ((i + 2), I, (pz_p f F g), 0) := pz_op_o hk114
      refine wa_aload_n (n := 0) rfl ?_
      refine wa_iload_n (n := 1) rfl ?_
      refine wb_pfi 63 rfl (wy_pr rfl) wt_63 wf_1_11 (n := 11) rfl ⟨(by omega), (by omega)⟩ ?_
      refine wa_return rfl ?_
      refine Or.inl ⟨_, _, rfl, fun R hR k o2 hk => ?_, (cQ_u (u2 := g) hSq121 ⟨by omega, by omega⟩), (cQg_tr gSq121 (cQg_up (by omega) (by decide) (by omega))), ⟨by omega, (pz_le_tr pz_le_rfl (pz_le_p _ _ _))⟩, by omega⟩
      try dsimp only
      repeat first | rw [if_pos (by omega)] | rw [if_neg (by omega)]
      first | refine pz_fo dSq108 ?_ | exact dSq108.symm | exact (pz_tk_o hk104).symm | skip
      repeat first | rw [if_pos (by omega)] | rw [if_neg (by omega)]
      first | refine pz_fo dSq121 ?_ | exact dSq121.symm | skip
      all_goals repeat first | rw [if_pos (by omega)] | rw [if_neg (by omega)]
      all_goals first | rfl | exact hk
    · skip
      refine ⟨rfl, ?_⟩
      refine Or.inr ⟨_, _, rfl, fun R hR k => ?_, cQf_of (cQg_tr gSq108 (cQg_up (by omega) (by decide) (by omega))) (by omega) (by omega) (cQn_of (cQ_pa (g := g) (v := (Sq108 23 g)) hSq108 ⟨by omega, by omega⟩ rfl)) hz116⟩
      try dsimp only
      repeat first | rw [if_pos (by omega)] | rw [if_neg (by omega)]
      first | refine pz_fo dSq108 ?_ | exact dSq108.symm | exact (pz_tk_o hk104).symm | skip
      repeat first | rw [if_pos (by omega)] | rw [if_neg (by omega)]
      first | exact pz_fi (pz_op_1 hk117) | exact (pz_op_1 hk117).symm | (exfalso; omega)
      all_goals repeat first | rw [if_pos (by omega)] | rw [if_neg (by omega)]
      all_goals first | rfl | exact hk
    · skip
      refine ⟨rfl, ?_⟩
      refine Or.inr ⟨_, _, rfl, fun R hR k => ?_, cQf_of (cQg_tr gSq108 (cQg_up (by omega) (by decide) (by omega))) (by omega) (by omega) (cQn_of (cQ_pa (g := g) (v := (Sq108 23 g)) hSq108 ⟨by omega, by omega⟩ rfl)) hz119⟩
      try dsimp only
      repeat first | rw [if_pos (by omega)] | rw [if_neg (by omega)]
      first | refine pz_fo dSq108 ?_ | exact dSq108.symm | exact (pz_tk_o hk104).symm | skip
      repeat first | rw [if_pos (by omega)] | rw [if_neg (by omega)]
      first | exact pz_fi (pz_op_4 hk120) | exact (pz_op_4 hk120).symm | rfl
      all_goals repeat first | rw [if_pos (by omega)] | rw [if_neg (by omega)]
      all_goals first | rfl | exact hk
  · skip
    refine ⟨rfl, ?_⟩
    refine Or.inr ⟨_, _, rfl, fun R hR k => ?_, cQf_of g0 (by omega) (by omega) (cQn_of h) hz106⟩
    try dsimp only
    repeat first | rw [if_pos (by omega)] | rw [if_neg (by omega)]
    first | exact pz_fi (pz_tk_f hk107) | exact (pz_tk_f hk107).symm | (exfalso; omega)
    all_goals repeat first | rw [if_pos (by omega)] | rw [if_neg (by omega)]
    all_goals first | rfl | exact hk
theorem en_3 {g dp : Int} (hdp : 0 ≤ dp ∧ dp ≤ 1000) : ∀ (fu : Nat) (x : Int) (i : Nat) (F : List pz_F) (S : wS), c - i < fu → cQ T n N X c f u w i I F S → (f ≤ g ∧ g < f + (F.length : Int)) → (0 ≤ x ∧ x ≤ 8 ∧ x ≤ (i : Int)) → wJ (pe_GA xs) wY0 (mS [69, 70]) (d + 9) t_XP_enterFunction ((pe_at t_XP_enterFunction.bl 3).getD (0, [])).2 [(0, (2, 63)), (1, (0, g)), (2, (0, dp)), (3, (0, 1)), (4, (0, x))] [] S (cE T n N X c f (fun k R => pz_q (R 2 x [] i dp g I F) (fun i I F1 _ => pz_qf (pz_tk (kq T n N X) (tp T n 0) 11 i I F1) (fun i I F1 _ => pz_qf (pz_op (kq T n N X) (tp T n 0) 12 dp i I (pz_p f F1 g)) k))) dp g w i I F S) := by
  intro fu
  induction fu with
  | zero => intro x i F S hf; exact absurd hf (Nat.not_lt_zero _)
  | succ fu ih =>
    intro x i F S hfu h hg hx
    have g0 : cQg f (I.length : Int) w S S := cQg_rfl
    have kr0 := kq_rg T n N X i
    have ic0 := cQ_ic h
    have hcn := cQ_cn h
    have hwr := cQ_wr h
    obtain ⟨hu1, hu2⟩ := cQ_ur h
    obtain ⟨-, hfv, hfl, -⟩ := cQ_fn h hg
    have hva := h.2.2.2.2.2.1.1
    have h13 := h.2.2.2.2.2.1.2
    refine wa_iload_n (n := 3) rfl ?_
    refine wa_ifeq (w_rg0 (by omega) (by omega)) ⟨_, rfl⟩ (fun c101 => ?_) (fun c101 => ?_)
    · skip
      exact absurd c101 (by omega)
    · skip
      refine wa_iload (n := 4) rfl ?_
      refine wa_aload_n (n := 0) rfl ?_
      refine wb_gf4 63 rfl (wy_pr rfl) wt_63 wf_1_0 (v := 14) wl_63_0 ?_
      refine wb_gfi 14 rfl (wy_pr rfl) wt_14 wf_6_3 (v := ((c : Int) + 1)) ((cQ_3 h)) (fun r102 => ?_)
      refine wa_icmpge (w_rg0 (by omega) (by omega)) (w_rg0 (by omega) (by omega)) ⟨_, rfl⟩ (fun c103 => ?_) (fun c103 => ?_)
      · skip
        exact absurd c103 (by omega)
      · skip
        refine wa_aload_n (n := 0) rfl ?_
        refine wa_cv 63 rfl (wy_pr rfl) wt_63 (M2 := fun _ => False) rfl at_XP_checkName ⟨_, rfl⟩ rfl rfl ⟨(Or.inr ⟨wy_pr rfl, fun q => q⟩), trivial, trivial, trivial, trivial, trivial⟩ trivial (fun _ _ q => False.elim q) (cnp (S := S) h.2.1.1 h.1.1 h.1.2) (fun oq107 Sq107 hp108 q107 => ?_)
        rcases q107 with ⟨rfl, hk106, rfl⟩ | ⟨v105, rfl, hk106, hz104⟩
        · skip
          show wJ _ _ _ _ _ _ _ _ _ _
          refine wa_aload_n (n := 0) rfl ?_
          refine wa_iload_n (n := 1) rfl ?_
          refine wa_aload_n (n := 0) rfl ?_
          refine wb_gf4 63 rfl (wy_pr rfl) wt_63 wf_1_0 (v := 14) wl_63_0 ?_
          refine wa_cv 14 rfl (wy_pr rfl) wt_14 (M2 := fun _ => False) rfl at_XR_value ⟨_, rfl⟩ rfl rfl ⟨(Or.inr ⟨wy_pr rfl, fun q => q⟩), trivial, trivial, trivial, trivial, trivial⟩ ⟨trivial, (Or.inr ⟨wy_pr rfl, fun q => q⟩), trivial⟩ (fun _ _ q => False.elim q) (vl_q (S := S) h ⟨by omega, by omega⟩) (fun oq110 Sq110 hp111 q110 => ?_)
          rcases q110 with ⟨⟨rfl, vr109⟩, rfl⟩
          show wJ _ _ _ _ _ _ _ _ _ _
          refine wa_cv 63 rfl (wy_pr rfl) wt_63 (M2 := fun _ => False) rfl at_XP_variableOf ⟨_, rfl⟩ rfl rfl ⟨(Or.inr ⟨wy_pr rfl, fun q => q⟩), trivial, trivial, trivial, trivial, trivial⟩ trivial (fun _ _ q => False.elim q) (vo_ok (S := S) (f := g) (y := vq T n N X i) h.2.1.2 hva ⟨by omega, by omega⟩ ⟨by omega, by omega⟩ hfv (by omega)) (fun oq112 Sq112 hp113 q112 => ?_)
          rcases q112 with ⟨rfl, rfl⟩
          show wJ _ _ _ _ _ _ _ _ _ _
          have hvx := vix_rg (pz_f f F g).2.2 (vq T n N X i)
          refine wa_iconst ?_
          refine wa_icmpeq (w_rg0 (by omega) (by omega)) (w_rg0 (by omega) (by omega)) ⟨_, rfl⟩ (fun c114 => ?_) (fun c114 => ?_)
          · skip
            refine wa_iload (n := 4) rfl ?_
            refine wa_bipush (w_rg2 (by omega) (by omega)) ?_
            refine wa_icmpne (w_rg0 (by omega) (by omega)) (w_rg0 (by omega) (by omega)) ⟨_, rfl⟩ (fun c115 => ?_) (fun c115 => ?_)
            · skip
              refine wa_aload_n (n := 0) rfl ?_
              refine wa_iload_n (n := 1) rfl ?_
              refine wa_aload_n (n := 0) rfl ?_
              refine wa_cv 63 rfl (wy_pr rfl) wt_63 (M2 := fun _ => False) rfl at_XP_takeName ⟨_, rfl⟩ rfl rfl ⟨(Or.inr ⟨wy_pr rfl, fun q => q⟩), trivial, trivial, trivial, trivial, trivial⟩ ⟨trivial, (Or.inr ⟨wy_pr rfl, fun q => q⟩), trivial⟩ (fun _ _ q => False.elim q) (tn_q (S := S) h) (fun oq126 Sq126 hp127 q126 => ?_)
              rcases q126 with ⟨rfl, hk119, hc116, hg117, ht118⟩ | ⟨v120, rfl, hk122, hz121⟩ | ⟨v123, rfl, hk125, hz124⟩
              · skip
                show wJ _ _ _ _ _ _ _ _ _ _
                have hSq126 : cQ T n N X c f u w (i + 1) I F Sq126 := hc116
                have gSq126 : cQg f (I.length : Int) w S Sq126 := cQg_tr g0 (hg117 _ _)
                have krSq126 := kq_rg T n N X (i + 1)
                have icSq126 := cQ_ic hSq126
                have dSq126 : pz_nm (kq T n N X) (vq T n N X) (tp T n 0) i I F = .inr ((i + 1), I, F, (vq T n N X i)) := pz_nm_o hk119.1
                have vnSq126 := vq_nn hk119.1
                refine wa_cv 63 rfl (wy_pr rfl) wt_63 (M2 := mS [69, 70]) rfl at_XP_addVariable ⟨_, rfl⟩ rfl rfl ⟨(Or.inr ⟨wy_pr rfl, mS_no rfl⟩), trivial, trivial, trivial, trivial, trivial⟩ trivial (fun _ _ q => q) (avp (S := Sq126) (f := g) (y := (vq T n N X i)) hSq126.2.1.2 hSq126.2.1.1 hSq126.2.2.2.2.2.1.1 ⟨by omega, by omega⟩ ⟨by omega, by omega⟩ (cQ_fn hSq126 hg).2.1.2.2 (by rw [(cQ_fn hSq126 hg).2.1.1]; omega)) (fun oq129 Sq129 hp130 q129 => ?_)
                rcases q129 with ⟨rfl, ha128⟩
                show wJ _ _ _ _ _ _ _ _ _ _
                have hSq129 : cQ T n N X c f u w (i + 1) I (pz_v f F g (vq T n N X i)) Sq129 := cQ_av2 hSq126 hg ha128 (by rw [ht118.2]; omega) (by omega)
                have gSq129 : cQg f (I.length : Int) w S Sq129 := cQg_tr gSq126 (cQg_av ha128 (by omega))
                have flSq129 := pz_v_len f F g (vq T n N X i)
                refine wa_aload_n (n := 0) rfl ?_
                refine wb_gf4 63 rfl (wy_pr rfl) wt_63 wf_1_0 (v := 14) wl_63_0 ?_
                refine wa_cv 14 rfl (wy_pr rfl) wt_14 (M2 := fun _ => False) rfl at_XR_kind ⟨_, rfl⟩ rfl rfl ⟨(Or.inr ⟨wy_pr rfl, fun q => q⟩), trivial, trivial, trivial, trivial, trivial⟩ trivial (fun _ _ q => False.elim q) (kd_q (S := Sq129) hSq129) (fun oq131 Sq131 hp132 q131 => ?_)
                rcases q131 with ⟨rfl, rfl⟩
                show wJ _ _ _ _ _ _ _ _ _ _
                refine wa_bipush (w_rg2 (by omega) (by omega)) ?_
                refine wa_icmpne (w_rg0 (by omega) (by omega)) (w_rg0 (by omega) (by omega)) ⟨_, rfl⟩ (fun c133 => ?_) (fun c133 => ?_)
                · skip
                  refine wa_iconst ?_
                  refine wa_fall ⟨_, rfl⟩ ?_
                  refine wa_istore_n (n := 3) rfl ?_
                  refine wa_iload_n (n := 3) rfl ?_
                  refine wa_ifeq (w_rg0 (by omega) (by omega)) ⟨_, rfl⟩ (fun c134 => ?_) (fun c134 => ?_)
                  · skip
                    refine wa_iinc rfl rfl ?_
                    refine wa_goto ⟨_, rfl⟩ ?_
                    refine wa_iload_n (n := 3) rfl ?_
                    refine wa_ifeq (w_rg0 (by omega) (by omega)) ⟨_, rfl⟩ (fun c135 => ?_) (fun c135 => ?_)
                    · skip
                      refine wJ_S (wJ_mono (en_9 (S := Sq129) (g := g) (dp := dp) hSq129 ⟨by omega, by omega⟩ hdp) (fun o Z hz => cE_tr (by omega) gSq129 (by omega) (pz_le_v _ _ _ _) (fun R hR k o hq => pz_qo (t := 0) (pz_cPM hR ?_) hq) hz)) ⟨rfl, rfl, rfl, trivial⟩
                      unfold pz_PM
                      repeat first | rw [if_pos (by omega)] | rw [if_neg (by omega)]
                      all_goals rfl
                    · skip
                      exact absurd c135 (by omega)
                  · skip
                    exact absurd c134 (by omega)
                · skip
                  refine wa_iconst ?_
                  refine wa_goto ⟨_, rfl⟩ ?_
                  refine wa_istore_n (n := 3) rfl ?_
                  refine wa_iload_n (n := 3) rfl ?_
                  refine wa_ifeq (w_rg0 (by omega) (by omega)) ⟨_, rfl⟩ (fun c136 => ?_) (fun c136 => ?_)
                  · skip
                    exact absurd c136 (by omega)
                  · skip
                    refine wa_aload_n (n := 0) rfl ?_
                    refine wb_gf4 63 rfl (wy_pr rfl) wt_63 wf_1_0 (v := 14) wl_63_0 ?_
                    refine wa_cv 14 rfl (wy_pr rfl) wt_14 (M2 := fun _ => False) rfl at_XR_next ⟨_, rfl⟩ rfl rfl ⟨trivial, (Or.inr ⟨wy_pr rfl, fun q => q⟩), trivial, trivial, trivial, trivial⟩ trivial (fun _ _ q => False.elim q) (nx_q (S := Sq129) hSq129 ⟨by omega, by omega⟩) (fun oq140 Sq140 hp141 q140 => ?_)
                    rcases q140 with ⟨rfl, hc137, hg138, ht139⟩
                    show wJ _ _ _ _ _ _ _ _ _ _
                    have hSq140 : cQ T n N X c f u w (i + 2) I (pz_v f F g (vq T n N X i)) Sq140 := hc137
                    have gSq140 : cQg f (I.length : Int) w S Sq140 := cQg_tr gSq129 (hg138 _ _)
                    have krSq140 := kq_rg T n N X (i + 2)
                    have icSq140 := cQ_ic hSq140
                    refine wa_fall ⟨_, rfl⟩ ?_
                    refine wa_iinc rfl rfl ?_
                    refine wa_goto ⟨_, rfl⟩ ?_
                    refine wJ_S (wJ_mono (ih (x + 1) (i + 2) (pz_v f F g (vq T n N X i)) Sq140 (by omega) hSq140 ⟨by omega, by omega⟩ ⟨by omega, by omega, by omega⟩) (fun o Z hz => cE_tr (by omega) gSq140 (by omega) (pz_le_v _ _ _ _) (fun R hR k o hq => pz_q_mono (fun o2 ho2 => pz_cPM hR ?_) hq) hz)) ⟨rfl, rfl, rfl, rfl, rfl, trivial⟩
                    unfold pz_PM
                    repeat first | rw [if_pos (by omega)] | rw [if_neg (by omega)]
                    exact ho2
              · skip
                refine ⟨rfl, ?_⟩
                refine Or.inr ⟨_, _, rfl, fun R hR k => ?_, cQf_of g0 (by omega) (by omega) (cQn_of h) hz121⟩
                try dsimp only
                first | refine pz_qi (pz_cPM hR ?_) | skip
                unfold pz_PM
                repeat first | rw [if_pos (by omega)] | rw [if_neg (by omega)]
                first | exact pz_fi (pz_nm_7 hk122) | rfl | (exfalso; omega)
                all_goals repeat first | rw [if_pos (by omega)] | rw [if_neg (by omega)]
                all_goals first | rfl | exact hk
              · skip
                refine ⟨rfl, ?_⟩
                refine Or.inr ⟨_, _, rfl, fun R hR k => ?_, cQf_of g0 (by omega) (by omega) (cQn_of h) hz124⟩
                try dsimp only
                first | refine pz_qi (pz_cPM hR ?_) | skip
                unfold pz_PM
                repeat first | rw [if_pos (by omega)] | rw [if_neg (by omega)]
                first | exact pz_fi (pz_nm_1 hk125) | rfl | (exfalso; omega)
                all_goals repeat first | rw [if_pos (by omega)] | rw [if_neg (by omega)]
                all_goals first | rfl | exact hk
            · skip
              refine wa_aload_n (n := 0) rfl ?_
              refine wa_bipush (w_rg2 (by omega) (by omega)) ?_
              refine wa_cv 63 rfl (wy_pr rfl) wt_63 (M2 := fun _ => False) rfl at_XP_refuse ⟨_, rfl⟩ rfl rfl ⟨(Or.inr ⟨wy_pr rfl, fun q => q⟩), trivial, trivial, trivial, trivial, trivial⟩ trivial (fun _ _ q => False.elim q) (rf_q (S := S) (k := 6) h ⟨by omega, by omega⟩) (fun oq144 Sq144 hp145 q144 => ?_)
              rcases q144 with ⟨v142, rfl, hz143⟩
              refine ⟨rfl, ?_⟩
              refine Or.inr ⟨_, _, rfl, fun R hR k => ?_, cQf_of g0 (by omega) (by omega) (cQn_of h) hz143⟩
              try dsimp only
              first | refine pz_qi (pz_cPM hR ?_) | skip
              unfold pz_PM
              repeat first | rw [if_pos (by omega)] | rw [if_neg (by omega)]
              rfl
              all_goals repeat first | rw [if_pos (by omega)] | rw [if_neg (by omega)]
              all_goals first | rfl | exact hk
          · skip
            refine wa_aload_n (n := 0) rfl ?_
            refine wa_iconst ?_
            refine wa_cv 63 rfl (wy_pr rfl) wt_63 (M2 := fun _ => False) rfl at_XP_refuse ⟨_, rfl⟩ rfl rfl ⟨(Or.inr ⟨wy_pr rfl, fun q => q⟩), trivial, trivial, trivial, trivial, trivial⟩ trivial (fun _ _ q => False.elim q) (rf_q (S := S) (k := 3) h ⟨by omega, by omega⟩) (fun oq148 Sq148 hp149 q148 => ?_)
            rcases q148 with ⟨v146, rfl, hz147⟩
            refine ⟨rfl, ?_⟩
            refine Or.inr ⟨_, _, rfl, fun R hR k => ?_, cQf_of g0 (by omega) (by omega) (cQn_of h) hz147⟩
            try dsimp only
            first | refine pz_qi (pz_cPM hR ?_) | skip
            unfold pz_PM
            repeat first | rw [if_pos (by omega)] | rw [if_neg (by omega)]
            rfl
            all_goals repeat first | rw [if_pos (by omega)] | rw [if_neg (by omega)]
            all_goals first | rfl | exact hk
        · skip
          refine ⟨rfl, ?_⟩
          refine Or.inr ⟨_, _, rfl, fun R hR k => ?_, cQf_of g0 (by omega) (by omega) (cQn_of h) hz104⟩
          try dsimp only
          first | refine pz_qi (pz_cPM hR ?_) | skip
          unfold pz_PM
          repeat first | rw [if_pos (by omega)] | rw [if_neg (by omega)]
          rfl
          all_goals repeat first | rw [if_pos (by omega)] | rw [if_neg (by omega)]
          all_goals first | rfl | exact hk
theorem en_q {g dp : Int} (h : cQ T n N X c f u w i I F S) (hg : f ≤ g ∧ g < f + (F.length : Int)) (hdp : 0 ≤ dp ∧ dp ≤ 1000) : wJ (pe_GA xs) wY0 (mS [69, 70]) (d + 9) t_XP_enterFunction ((pe_at t_XP_enterFunction.bl 0).getD (0, [])).2 [(0, (2, 63)), (1, (0, g)), (2, (0, dp))] [] S (cE T n N X c f (fun k R => pz_qf (pz_op (kq T n N X) (tp T n 0) 10 dp i I F) (fun i I F1 _ => pz_q (fun o => if kq T n N X i = 11 then o = .inr (i, I, F1, 0) else R 2 0 [] i dp g I F1 o) (fun i I F1 _ => pz_qf (pz_tk (kq T n N X) (tp T n 0) 11 i I F1) (fun i I F1 _ => pz_qf (pz_op (kq T n N X) (tp T n 0) 12 dp i I (pz_p f F1 g)) k)))) dp g w i I F S) := by
  have g0 : cQg f (I.length : Int) w S S := cQg_rfl
  have kr0 := kq_rg T n N X i
  have ic0 := cQ_ic h
  have hcn := cQ_cn h
  have hwr := cQ_wr h
  obtain ⟨hu1, hu2⟩ := cQ_ur h
  refine wa_aload_n (n := 0) rfl ?_
  refine wa_bipush (w_rg2 (by omega) (by omega)) ?_
  refine wa_iload_n (n := 2) rfl ?_
  refine wa_cv 63 rfl (wy_pr rfl) wt_63 (M2 := fun _ => False) rfl at_XP_open ⟨_, rfl⟩ rfl rfl ⟨(Or.inr ⟨wy_pr rfl, fun q => q⟩), trivial, trivial, trivial⟩ trivial (fun _ _ q => False.elim q) (op_q (S := S) (k := 10) (dp := dp) h ⟨by omega, by omega⟩ ⟨by omega, by omega⟩) (fun oq111 Sq111 hp112 q111 => ?_)
  rcases q111 with ⟨rfl, hk104, hc101, hg102, ht103⟩ | ⟨v105, rfl, hk107, hz106⟩ | ⟨v108, rfl, hk110, hz109⟩
  · skip
    show wJ _ _ _ _ _ _ _ _ _ _
    have hSq111 : cQ T n N X c f u w (i + 1) I F Sq111 := hc101
    have gSq111 : cQg f (I.length : Int) w S Sq111 := cQg_tr g0 (hg102 _ _)
    have krSq111 := kq_rg T n N X (i + 1)
    have icSq111 := cQ_ic hSq111
    have dSq111 : pz_op (kq T n N X) (tp T n 0) 10 dp i I F = .inr ((i + 1), I, F, 0) := pz_op_o hk104
    refine wa_aload_n (n := 0) rfl ?_
    refine wb_gf4 63 rfl (wy_pr rfl) wt_63 wf_1_0 (v := 14) wl_63_0 ?_
    refine wa_cv 14 rfl (wy_pr rfl) wt_14 (M2 := fun _ => False) rfl at_XR_kind ⟨_, rfl⟩ rfl rfl ⟨(Or.inr ⟨wy_pr rfl, fun q => q⟩), trivial, trivial, trivial⟩ trivial (fun _ _ q => False.elim q) (kd_q (S := Sq111) hSq111) (fun oq113 Sq113 hp114 q113 => ?_)
    rcases q113 with ⟨rfl, rfl⟩
    show wJ _ _ _ _ _ _ _ _ _ _
    refine wa_bipush (w_rg2 (by omega) (by omega)) ?_
    refine wa_icmpeq (w_rg0 (by omega) (by omega)) (w_rg0 (by omega) (by omega)) ⟨_, rfl⟩ (fun c115 => ?_) (fun c115 => ?_)
    · skip
      refine wa_iconst ?_
      refine wa_fall ⟨_, rfl⟩ ?_
      refine wa_istore_n (n := 3) rfl ?_
      refine wa_iconst ?_
      refine wa_istore (n := 4) rfl ?_
      refine wa_fall ⟨_, rfl⟩ ?_
      refine wa_iload_n (n := 3) rfl ?_
      refine wa_ifeq (w_rg0 (by omega) (by omega)) ⟨_, rfl⟩ (fun c116 => ?_) (fun c116 => ?_)
      · skip
        refine wJ_S (wJ_mono (en_9 (S := Sq111) (g := g) (dp := dp) hSq111 ⟨by omega, by omega⟩ hdp) (fun o Z hz => cE_tr (by omega) gSq111 (by omega) pz_le_rfl (fun R hR k o hq => ?_) hz)) ⟨rfl, rfl, rfl, trivial⟩
        first | refine pz_fo dSq111 ?_ | exact dSq111.symm | skip
        refine pz_qo (t := 0) ?_ hq
        repeat first | rw [if_pos (by omega)] | rw [if_neg (by omega)]
        all_goals rfl
      · skip
        exact absurd c116 (by omega)
    · skip
      refine wa_iconst ?_
      refine wa_goto ⟨_, rfl⟩ ?_
      refine wa_istore_n (n := 3) rfl ?_
      refine wa_iconst ?_
      refine wa_istore (n := 4) rfl ?_
      refine wa_fall ⟨_, rfl⟩ ?_
      refine wJ_S (wJ_mono (en_3 (dp := dp) (g := g) hdp (c + 1) 0 (i + 1) F Sq111 (by omega) hSq111 ⟨by omega, by omega⟩ ⟨by omega, by omega, by omega⟩) (fun o Z hz => cE_tr (by omega) gSq111 (by omega) pz_le_rfl (fun R hR k o hq => ?_) hz)) ⟨rfl, rfl, rfl, rfl, rfl, trivial⟩
      first | refine pz_fo dSq111 ?_ | exact dSq111.symm | skip
      refine pz_q_mono (fun o2 ho2 => ?_) hq
      repeat first | rw [if_pos (by omega)] | rw [if_neg (by omega)]
      exact ho2
  · skip
    refine ⟨rfl, ?_⟩
    refine Or.inr ⟨_, _, rfl, fun R hR k => ?_, cQf_of g0 (by omega) (by omega) (cQn_of h) hz106⟩
    try dsimp only
    repeat first | rw [if_pos (by omega)] | rw [if_neg (by omega)]
    first | exact pz_fi (pz_op_1 hk107) | exact (pz_op_1 hk107).symm | (exfalso; omega)
    all_goals repeat first | rw [if_pos (by omega)] | rw [if_neg (by omega)]
    all_goals first | rfl | exact hk
  · skip
    refine ⟨rfl, ?_⟩
    refine Or.inr ⟨_, _, rfl, fun R hR k => ?_, cQf_of g0 (by omega) (by omega) (cQn_of h) hz109⟩
    try dsimp only
    repeat first | rw [if_pos (by omega)] | rw [if_neg (by omega)]
    first | exact pz_fi (pz_op_4 hk110) | exact (pz_op_4 hk110).symm | rfl
    all_goals repeat first | rw [if_pos (by omega)] | rw [if_neg (by omega)]
    all_goals first | rfl | exact hk
end Wb9
