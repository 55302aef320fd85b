/-! PART ba: the Compiler's statements. -/
section Wba
variable {xs : List (Nat × List Int32)} {M : Nat → Prop} {d : Nat} {A B C S Z : wS} {Q : wO → wS → Prop} {T : Int → Int} {n : Int} {N X : List (List Int)} {c i : Nat} {f u w : Int} {I : List pz_I} {F : List pz_F}
/-- expressions are read from i on, where less than m tokens are left -/
def cX (xs : List (Nat × List Int32)) (T : Int → Int) (n : Int) (N X : List (List Int)) (c : Nat) (f : Int) (m : Nat) : Prop := ∀ (D : Nat) (dp u w : Int) (i : Nat) (I : List pz_I) (F : List pz_F) (S : wS), c - i < m → (0 ≤ dp ∧ dp ≤ 50 ∧ 10 * (51 - dp) + 20 ≤ (D : Int)) → (I.length ≤ 1 * i ∧ w ≤ 20 * dp) → cQ T n N X c f u w i I F S → wJ (pe_GA xs) wY0 (mS [64, 65, 66, 67, 69, 70]) D t_XP_readExpression ((pe_at t_XP_readExpression.bl 0).getD (0, [])).2 [(0, (2, 63)), (1, (0, dp))] [] S (cR T n N X c f (fun R => R 4 0 [] i dp u I F) u w i I F 1 (fun _ _ Z => Z 63 16 = 0) S)
/-- statements -/
def cST (xs : List (Nat × List Int32)) (T : Int → Int) (n : Int) (N X : List (List Int)) (c : Nat) (f : Int) (m : Nat) : Prop := ∀ (D : Nat) (dp u w : Int) (i : Nat) (I : List pz_I) (F : List pz_F) (S : wS), c - i < m → (0 ≤ dp ∧ dp ≤ 50 ∧ 10 * (51 - dp) + 24 ≤ (D : Int)) → (I.length ≤ 1 * i ∧ w ≤ 20 * dp) → cQ T n N X c f u w i I F S → wJ (pe_GA xs) wY0 (mS [64, 65, 66, 67, 69, 70]) D t_XP_readStatements ((pe_at t_XP_readStatements.bl 0).getD (0, [])).2 [(0, (2, 63)), (1, (0, dp))] [] S (cR T n N X c f (fun R => R 0 0 [] i dp u I F) u w i I F 0 (fun _ _ _ => True) S)
theorem cX_le {m : Nat} (h : cX xs T n N X c f (m + 1)) : cX xs T n N X c f m := fun D dp u w i I F S h1 => h D dp u w i I F S (by omega)
theorem cR_tr {G G2 : pz_R → pz_O → Prop} {E : Int → List pz_I → wS → Prop} {i1 e e1 : Nat} {I1 : List pz_I} {F1 : List pz_F} {S1 : wS} {o : wO} (hw : 0 ≤ w) (g1 : cQg f (I.length : Int) w S S1) (hi : i + e ≤ i1 + e1) (hl : I1.length + 1 * i ≤ I.length + 1 * i1) (hl2 : I.length ≤ I1.length) (hle : pz_le F F1) (hG : ∀ R : pz_R, pz_C (kq T n N X) (vq T n N X) (tp T n 0) f R → ∀ o : pz_O, G2 R o → G R o) (h : cR T n N X c f G2 u w i1 I1 F1 e1 E S1 o Z) : cR T n N X c f G u w i I F e E S o Z := by
  rcases h with ⟨i2, I2, F2, t, h1, h2, h3, h4, ⟨h5, h6, h7, h8⟩, h9⟩ | ⟨v, x, h1, h2, h3⟩
  · exact Or.inl ⟨i2, I2, F2, t, h1, fun R hR => hG R hR _ (h2 R hR), h3, cQg_tr g1 (cQg_mo h4 (by omega) (by omega)), ⟨by omega, by omega, pz_le_tr hle h7, by omega⟩, h9⟩
  · exact Or.inr ⟨v, x, h1, fun R hR => hG R hR _ (h2 R hR), cQf_tr g1 (by omega) hw h3⟩
section
variable {K V P : Nat → Int} {x : pz_F}
theorem pz_dc_l {v : Int} (hu : f ≤ u ∧ u < f + (F.length : Int)) (h : pz_dc K V P f i u I (F ++ [x]) = .inl v) : pz_dc K V P f i u I F = .inl v := by
  unfold pz_dc at h
  rw [pz_f_l x hu, pz_v_l x hu] at h
  unfold pz_dc
  by_cases a1 : K i ≠ 5 ∧ K i ≠ 6
  · rw [if_pos a1] at h ⊢
    exact h
  · rw [if_neg a1] at h ⊢
    by_cases a2 : K i = 6
    · rw [if_pos a2] at h ⊢
      exact h
    · rw [if_neg a2] at h ⊢
      by_cases a3 : (pz_f f F u).1 ≠ -1 ∧ vix (pz_f f F u).2.2 (V i) = -1
      · rw [if_pos a3] at h ⊢
        by_cases a4 : (pz_f f F u).2.2.length = 60
        · rw [if_pos a4] at h ⊢
          exact h
        · rw [if_neg a4] at h
          cases h
      · rw [if_neg a3] at h
        cases h
theorem pz_dc_r {i2 : Nat} {I2 : List pz_I} {F2 : List pz_F} {y : Int} (hu : f ≤ u ∧ u < f + (F.length : Int)) (h : pz_dc K V P f i u I (F ++ [x]) = .inr (i2, I2, F2, y)) : ∃ F3 : List pz_F, F2 = F3 ++ [x] ∧ pz_dc K V P f i u I F = .inr (i2, I2, F3, y) ∧ F3.length = F.length ∧ pz_le F F3 := by
  unfold pz_dc at h
  rw [pz_f_l x hu, pz_v_l x hu] at h
  unfold pz_dc
  by_cases a1 : K i ≠ 5 ∧ K i ≠ 6
  · rw [if_pos a1] at h; cases h
  · rw [if_neg a1] at h
    rw [if_neg a1]
    by_cases a2 : K i = 6
    · rw [if_pos a2] at h; cases h
    · rw [if_neg a2] at h
      rw [if_neg a2]
      by_cases a3 : (pz_f f F u).1 ≠ -1 ∧ vix (pz_f f F u).2.2 (V i) = -1
      · rw [if_pos a3] at h
        rw [if_pos a3]
        by_cases a4 : (pz_f f F u).2.2.length = 60
        · rw [if_pos a4] at h; cases h
        · rw [if_neg a4] at h
          rw [if_neg a4]
          cases h
          exact ⟨_, rfl, rfl, pz_v_len _ _ _ _, pz_le_v _ _ _ _⟩
      · rw [if_neg a3] at h
        rw [if_neg a3]
        cases h
        exact ⟨_, rfl, rfl, rfl, pz_le_rfl⟩
end
/-- an A is of no account -/
theorem cQ_any {op a b : Int} (h : cQ T n N X c f u w i (I ++ [(op, a, b, u)]) F S) : cQ T n N X c f u w i (I ++ [(op, -9, b, u)]) F S := by
  obtain ⟨a1, b1, ⟨c1, c2, c3, c4⟩, ⟨d1, d2, d3, d4, d5, d6⟩, e1, g1, ⟨k1, k2⟩, l1⟩ := h
  have hl : (I ++ [((op, -9, b, u) : pz_I)]).length = (I ++ [((op, a, b, u) : pz_I)]).length := by rw [List.length_append, List.length_append]; rfl
  have hs : pz_s (I ++ [((op, -9, b, u) : pz_I)]) = pz_s (I ++ [((op, a, b, u) : pz_I)]) := by rw [pz_s_ap, pz_s_ap, pz_s_1, pz_s_1]
  have hh : ∀ g : Int, pz_h (I ++ [((op, -9, b, u) : pz_I)]) g = pz_h (I ++ [((op, a, b, u) : pz_I)]) g := fun g => by rw [pz_h_ap, pz_h_ap, pz_h_1, pz_h_1]
  refine ⟨a1, b1, ⟨c1, by rw [hl]; exact c2, by rw [hs]; exact c3, fun k hk => ?_⟩, ⟨d1, d2, d3, d4, fun x hx => ?_, fun k hk => ?_⟩, e1, g1, ⟨by rw [hl]; exact k1, k2⟩, l1⟩
  · rw [hl] at hk
    have q := c4 k hk
    by_cases hkl : k < I.length
    · rw [gD_l hkl] at q ⊢
      exact q
    · have hke : k = I.length := by rw [List.length_append] at hk; have : k < I.length + 1 := hk; omega
      subst hke
      rw [gD_r] at q ⊢
      exact ⟨q.1, fun e => absurd rfl e, q.2.2⟩
  · rcases List.mem_append.mp hx with q | q
    · exact d5 x (List.mem_append.mpr (Or.inl q))
    · rw [List.mem_singleton.mp q]
      exact d5 (op, a, b, u) (List.mem_append.mpr (Or.inr (List.mem_singleton.mpr rfl)))
  · obtain ⟨x1, x2, x3, x4, x5, x6⟩ := d6 k hk
    exact ⟨x1, x2, x3, x4, by rw [hh]; exact x5, x6⟩
theorem rb_q {D m : Nat} {dp : Int} (hX : cX xs T n N X c f (m)) (hS : cST xs T n N X c f m) (h : cQ T n N X c f u w i I F S) (hm : c - i < m + 1) (hD : 0 ≤ dp ∧ dp ≤ 50 ∧ 10 * (51 - dp) + 20 ≤ (D : Int)) (hI : I.length ≤ 1 * i) (hw : w ≤ 20 * dp) : wJ (pe_GA xs) wY0 (mS [64, 65, 66, 67, 69, 70]) D t_XP_readBlock ((pe_at t_XP_readBlock.bl 0).getD (0, [])).2 [(0, (2, 63)), (1, (0, dp))] [] S (cR T n N X c f (fun R => pz_bk (kq T n N X) (tp T n 0) R i dp u I F) u w i I F 1 (fun _ _ _ => True) S) := by
  have g0 : cQg f (I.length : Int) w S S := cQg_rfl
  have kr0 := kq_rg T n N X i
  have ic0 := cQ_ic h
  have hcn := cQ_cn h
  have hwr := cQ_wr h
  obtain ⟨hu1, hu2⟩ := cQ_ur h
  obtain ⟨D, rfl⟩ : ∃ D2, D = D2 + 16 := ⟨D - 16, by omega⟩
  refine wa_aload_n (n := 0) rfl ?_
  refine wa_bipush (w_rg2 (by omega) (by omega)) ?_
  refine wa_iload_n (n := 1) rfl ?_
  refine wa_cv 63 rfl (wy_pr rfl) wt_63 (M2 := fun _ => False) rfl at_XP_open ⟨_, rfl⟩ rfl rfl ⟨(Or.inr ⟨wy_pr rfl, fun q => q⟩), trivial, trivial⟩ trivial (fun _ _ q => False.elim q) (op_q (S := S) (k := 12) (dp := dp) h ⟨by omega, by omega⟩ ⟨by omega, by omega⟩) (fun oq111 Sq111 hp112 q111 => ?_)
  rcases q111 with ⟨rfl, hk104, hc101, hg102, ht103⟩ | ⟨v105, rfl, hk107, hz106⟩ | ⟨v108, rfl, hk110, hz109⟩
  · skip
    show wJ _ _ _ _ _ _ _ _ _ _
    have hSq111 : cQ T n N X c f u w (i + 1) I F Sq111 := hc101
    have gSq111 : cQg f (I.length : Int) w S Sq111 := cQg_tr g0 (hg102 _ _)
    have krSq111 := kq_rg T n N X (i + 1)
    have icSq111 := cQ_ic hSq111
    have dSq111 : pz_op (kq T n N X) (tp T n 0) 12 dp i I F = .inr ((i + 1), I, F, 0) := pz_op_o hk104
    refine wa_aload_n (n := 0) rfl ?_
    refine wa_iload_n (n := 1) rfl ?_
    refine wa_iconst ?_
    refine wa_iadd ?_
    refine wa_cv 63 rfl (wy_pr rfl) wt_63 (M2 := mS [64, 65, 66, 67, 69, 70]) rfl at_XP_readStatements ⟨_, rfl⟩ rfl rfl ⟨(Or.inr ⟨wy_pr rfl, mS_no rfl⟩), trivial, trivial⟩ trivial (fun _ _ q => q) (hS _ (dp + 1) u w (i + 1) I F Sq111 (by omega) ⟨by omega, by omega, by omega⟩ ⟨by omega, by omega⟩ hSq111) (fun oq129 Sq129 hp130 q129 => ?_)
    rcases q129 with ⟨i113, I114, F115, t116, rfl, hd117, hc118, hg119, ⟨p120, p121, p122, p123⟩, e124⟩ | ⟨v125, x126, rfl, hd127, hz128⟩
    · skip
      show wJ _ _ _ _ _ _ _ _ _ _
      have hSq129 : cQ T n N X c f u w i113 I114 F115 Sq129 := hc118
      have gSq129 : cQg f (I.length : Int) w S Sq129 := cQg_tr gSq111 (cQg_mo hg119 (by omega) (by omega))
      have krSq129 := kq_rg T n N X i113
      have icSq129 := cQ_ic hSq129
      have flSq129 := p122.1
      refine wa_aload_n (n := 0) rfl ?_
      refine wa_bipush (w_rg2 (by omega) (by omega)) ?_
      refine wa_cv 63 rfl (wy_pr rfl) wt_63 (M2 := fun _ => False) rfl at_XP_take ⟨_, rfl⟩ rfl rfl ⟨(Or.inr ⟨wy_pr rfl, fun q => q⟩), trivial, trivial⟩ trivial (fun _ _ q => False.elim q) (tk_q (S := Sq129) (k := 13) hSq129 ⟨by omega, by omega⟩) (fun oq138 Sq138 hp139 q138 => ?_)
      rcases q138 with ⟨rfl, hk134, hc131, hg132, ht133⟩ | ⟨v135, rfl, hk137, hz136⟩
      · skip
        show wJ _ _ _ _ _ _ _ _ _ _
        have hSq138 : cQ T n N X c f u w (i113 + 1) I114 F115 Sq138 := hc131
        have gSq138 : cQg f (I.length : Int) w S Sq138 := cQg_tr gSq129 (hg132 _ _)
        have krSq138 := kq_rg T n N X (i113 + 1)
        have icSq138 := cQ_ic hSq138
        have dSq138 : pz_tk (kq T n N X) (tp T n 0) 13 i113 I114 F115 = .inr ((i113 + 1), I114, F115, 0) := pz_tk_o hk134
        refine wa_return rfl ?_
        refine Or.inl ⟨_, _, _, 0, rfl, fun R hR => ?_, hSq138, gSq138, ⟨by omega, by omega, (pz_le_tr pz_le_rfl p122), by omega⟩, trivial⟩
        try dsimp only
        unfold pz_bk
        repeat first | rw [if_pos (by omega)] | rw [if_neg (by omega)]
        first | refine pz_fo dSq111 ?_ | exact dSq111.symm | skip
        repeat first | rw [if_pos (by omega)] | rw [if_neg (by omega)]
        first | refine pz_qo (hd117 R hR) ?_ | exact hd117 R hR
        repeat first | rw [if_pos (by omega)] | rw [if_neg (by omega)]
        first | refine pz_fo dSq138 ?_ | exact dSq138.symm | exact (pz_tk_o hk134).symm | skip
        all_goals repeat first | rw [if_pos (by omega)] | rw [if_neg (by omega)]
        all_goals first | rfl | (exfalso; omega)
      · skip
        refine ⟨rfl, ?_⟩
        refine Or.inr ⟨_, _, rfl, fun R hR => ?_, cQf_of gSq129 (by omega) (by omega) (cQn_of hSq129) hz136⟩
        try dsimp only
        unfold pz_bk
        repeat first | rw [if_pos (by omega)] | rw [if_neg (by omega)]
        first | refine pz_fo dSq111 ?_ | exact dSq111.symm | skip
        repeat first | rw [if_pos (by omega)] | rw [if_neg (by omega)]
        first | refine pz_qo (hd117 R hR) ?_ | exact hd117 R hR
        repeat first | rw [if_pos (by omega)] | rw [if_neg (by omega)]
        first | exact pz_fi (pz_tk_f hk137) | exact (pz_tk_f hk137).symm | (exfalso; omega)
        all_goals repeat first | rw [if_pos (by omega)] | rw [if_neg (by omega)]
        all_goals first | rfl | (exfalso; omega)
    · skip
      refine ⟨rfl, ?_⟩
      refine Or.inr ⟨_, _, rfl, fun R hR => ?_, cQf_tr gSq111 (by omega) (by omega) hz128⟩
      try dsimp only
      unfold pz_bk
      repeat first | rw [if_pos (by omega)] | rw [if_neg (by omega)]
      first | refine pz_fo dSq111 ?_ | exact dSq111.symm | skip
      repeat first | rw [if_pos (by omega)] | rw [if_neg (by omega)]
      first | exact pz_qi (hd127 R hR) | exact hd127 R hR
      all_goals repeat first | rw [if_pos (by omega)] | rw [if_neg (by omega)]
      all_goals first | rfl | (exfalso; omega)
  · skip
    refine ⟨rfl, ?_⟩
    refine Or.inr ⟨_, _, rfl, fun R hR => ?_, cQf_of g0 (by omega) (by omega) (cQn_of h) hz106⟩
    try dsimp only
    unfold pz_bk
    repeat first | rw [if_pos (by omega)] | rw [if_neg (by omega)]
    first | exact pz_fi (pz_op_1 hk107) | exact (pz_op_1 hk107).symm | (exfalso; omega)
    all_goals repeat first | rw [if_pos (by omega)] | rw [if_neg (by omega)]
    all_goals first | rfl | (exfalso; omega)
  · skip
    refine ⟨rfl, ?_⟩
    refine Or.inr ⟨_, _, rfl, fun R hR => ?_, cQf_of g0 (by omega) (by omega) (cQn_of h) hz109⟩
    try dsimp only
    unfold pz_bk
    repeat first | rw [if_pos (by omega)] | rw [if_neg (by omega)]
    first | exact pz_fi (pz_op_4 hk110) | exact (pz_op_4 hk110).symm | rfl
    all_goals repeat first | rw [if_pos (by omega)] | rw [if_neg (by omega)]
    all_goals first | rfl | (exfalso; omega)
theorem rc_q {D m : Nat} {dp : Int} (hX : cX xs T n N X c f (m)) (hS : cST xs T n N X c f m) (h : cQ T n N X c f u w i I F S) (hm : c - i < m + 1) (hD : 0 ≤ dp ∧ dp ≤ 50 ∧ 10 * (51 - dp) + 20 ≤ (D : Int)) (hI : I.length ≤ 1 * i) (hw : w ≤ 20 * dp) : wJ (pe_GA xs) wY0 (mS [64, 65, 66, 67, 69, 70]) D t_XP_readCondition ((pe_at t_XP_readCondition.bl 0).getD (0, [])).2 [(0, (2, 63)), (1, (0, dp))] [] S (fun o Z => (∃ (i2 : Nat) (I1 : List pz_I) (F2 : List pz_F), o = .inl (some (0, ((I1.length : Nat) : Int))) ∧ cD T n N X f (fun R => pz_cd (kq T n N X) (tp T n 0) R i dp u I F) (.inr (i2, I1, F2, 0)) ∧ cQ T n N X c f u w i2 (I1 ++ [(21, 0, 0, u)]) F2 Z ∧ cQg f (I.length : Int) w S Z ∧ (i + 1 ≤ i2 ∧ I1.length + 1 + 1 * i ≤ I.length + 1 * i2 ∧ pz_le F F2 ∧ I.length ≤ I1.length)) ∨ (∃ (v : Nat) (x : Int), o = .inr v ∧ cD T n N X f (fun R => pz_cd (kq T n N X) (tp T n 0) R i dp u I F) (.inl x) ∧ cQf f S Z v x)) := by
  have g0 : cQg f (I.length : Int) w S S := cQg_rfl
  have kr0 := kq_rg T n N X i
  have ic0 := cQ_ic h
  have hcn := cQ_cn h
  have hwr := cQ_wr h
  obtain ⟨hu1, hu2⟩ := cQ_ur h
  obtain ⟨D, rfl⟩ : ∃ D2, D = D2 + 16 := ⟨D - 16, by omega⟩
  refine wa_aload_n (n := 0) rfl ?_
  refine wa_bipush (w_rg2 (by omega) (by omega)) ?_
  refine wa_iload_n (n := 1) rfl ?_
  refine wa_cv 63 rfl (wy_pr rfl) wt_63 (M2 := fun _ => False) rfl at_XP_open ⟨_, rfl⟩ rfl rfl ⟨(Or.inr ⟨wy_pr rfl, fun q => q⟩), trivial, trivial⟩ trivial (fun _ _ q => False.elim q) (op_q (S := S) (k := 10) (dp := dp) h ⟨by omega, by omega⟩ ⟨by omega, by omega⟩) (fun oq111 Sq111 hp112 q111 => ?_)
  rcases q111 with ⟨rfl, hk104, hc101, hg102, ht103⟩ | ⟨v105, rfl, hk107, hz106⟩ | ⟨v108, rfl, hk110, hz109⟩
  · skip
    show wJ _ _ _ _ _ _ _ _ _ _
    have hSq111 : cQ T n N X c f u w (i + 1) I F Sq111 := hc101
    have gSq111 : cQg f (I.length : Int) w S Sq111 := cQg_tr g0 (hg102 _ _)
    have krSq111 := kq_rg T n N X (i + 1)
    have icSq111 := cQ_ic hSq111
    have dSq111 : pz_op (kq T n N X) (tp T n 0) 10 dp i I F = .inr ((i + 1), I, F, 0) := pz_op_o hk104
    refine wa_aload_n (n := 0) rfl ?_
    refine wa_iload_n (n := 1) rfl ?_
    refine wa_iconst ?_
    refine wa_iadd ?_
    refine wa_cv 63 rfl (wy_pr rfl) wt_63 (M2 := mS [64, 65, 66, 67, 69, 70]) rfl at_XP_readExpression ⟨_, rfl⟩ rfl rfl ⟨(Or.inr ⟨wy_pr rfl, mS_no rfl⟩), trivial, trivial⟩ trivial (fun _ _ q => q) (hX _ (dp + 1) u w (i + 1) I F Sq111 (by omega) ⟨by omega, by omega, by omega⟩ ⟨by omega, by omega⟩ hSq111) (fun oq129 Sq129 hp130 q129 => ?_)
    rcases q129 with ⟨i113, I114, F115, t116, rfl, hd117, hc118, hg119, ⟨p120, p121, p122, p123⟩, e124⟩ | ⟨v125, x126, rfl, hd127, hz128⟩
    · skip
      show wJ _ _ _ _ _ _ _ _ _ _
      have hSq129 : cQ T n N X c f u w i113 I114 F115 Sq129 := hc118
      have gSq129 : cQg f (I.length : Int) w S Sq129 := cQg_tr gSq111 (cQg_mo hg119 (by omega) (by omega))
      have krSq129 := kq_rg T n N X i113
      have icSq129 := cQ_ic hSq129
      have tSq129 : Sq129 63 16 = 0 := e124
      have flSq129 := p122.1
      refine wa_aload_n (n := 0) rfl ?_
      refine wa_bipush (w_rg2 (by omega) (by omega)) ?_
      refine wa_cv 63 rfl (wy_pr rfl) wt_63 (M2 := fun _ => False) rfl at_XP_take ⟨_, rfl⟩ rfl rfl ⟨(Or.inr ⟨wy_pr rfl, fun q => q⟩), trivial, trivial⟩ trivial (fun _ _ q => False.elim q) (tk_q (S := Sq129) (k := 11) hSq129 ⟨by omega, by omega⟩) (fun oq138 Sq138 hp139 q138 => ?_)
      rcases q138 with ⟨rfl, hk134, hc131, hg132, ht133⟩ | ⟨v135, rfl, hk137, hz136⟩
      · skip
        show wJ _ _ _ _ _ _ _ _ _ _
        have hSq138 : cQ T n N X c f u w (i113 + 1) I114 F115 Sq138 := hc131
        have gSq138 : cQg f (I.length : Int) w S Sq138 := cQg_tr gSq129 (hg132 _ _)
        have krSq138 := kq_rg T n N X (i113 + 1)
        have icSq138 := cQ_ic hSq138
        have tSq138 : Sq138 63 16 = 0 := (ht133.1).trans tSq129
        have dSq138 : pz_tk (kq T n N X) (tp T n 0) 11 i113 I114 F115 = .inr ((i113 + 1), I114, F115, 0) := pz_tk_o hk134
        refine wa_aload_n (n := 0) rfl ?_
        refine wa_bipush (w_rg2 (by omega) (by omega)) ?_
        refine wa_iconst ?_
        refine wa_iconst ?_
        refine wa_cv 63 rfl (wy_pr rfl) wt_63 (M2 := mS [64, 65, 66, 67]) rfl at_XP_note ⟨_, rfl⟩ rfl rfl ⟨(Or.inr ⟨wy_pr rfl, mS_no rfl⟩), trivial, trivial⟩ trivial (fun _ _ q => mS_sub (by decide) q) (nt_q (S := Sq138) (op := 21) (a := 0) (b := 0) (l := I114.length) hSq138 ⟨by omega, by omega⟩ ⟨by omega, by omega⟩ ⟨by omega, by omega⟩ (by omega) (by omega) (by omega)) (fun oq143 Sq143 hp144 q143 => ?_)
        rcases q143 with ⟨rfl, hc140, hg141, ht142⟩
        show wJ _ _ _ _ _ _ _ _ _ _
        have hSq143 : cQ T n N X c f u w (i113 + 1) (I114 ++ [(21, 0, 0, u)]) F115 Sq143 := hc140
        have gSq143 : cQg f (I.length : Int) w S Sq143 := cQg_tr gSq138 (hg141 _ _ (by omega))
        have tSq143 : Sq143 63 16 = 0 := (ht142).trans tSq138
        have hlSq143 : (I114 ++ [(21, 0, 0, u)]).length = I114.length + 1 := List.length_append
        refine wa_ireturn rfl ?_
        refine Or.inl ⟨_, _, _, rfl, fun R hR => ?_, hSq143, gSq143, ⟨by omega, by omega, (pz_le_tr pz_le_rfl p122), by omega⟩⟩
        try dsimp only
        unfold pz_cd
        repeat first | rw [if_pos (by omega)] | rw [if_neg (by omega)]
        first | refine pz_fo dSq111 ?_ | exact dSq111.symm | skip
        repeat first | rw [if_pos (by omega)] | rw [if_neg (by omega)]
        first | refine pz_qo (hd117 R hR) ?_ | exact hd117 R hR
        repeat first | rw [if_pos (by omega)] | rw [if_neg (by omega)]
        first | refine pz_fo dSq138 ?_ | exact dSq138.symm | exact (pz_tk_o hk134).symm | skip
        all_goals repeat first | rw [if_pos (by omega)] | rw [if_neg (by omega)]
        all_goals first | rfl | (exfalso; omega)
      · skip
        refine ⟨rfl, ?_⟩
        refine Or.inr ⟨_, _, rfl, fun R hR => ?_, cQf_of gSq129 (by omega) (by omega) (cQn_of hSq129) hz136⟩
        try dsimp only
        unfold pz_cd
        repeat first | rw [if_pos (by omega)] | rw [if_neg (by omega)]
        first | refine pz_fo dSq111 ?_ | exact dSq111.symm | skip
        repeat first | rw [if_pos (by omega)] | rw [if_neg (by omega)]
        first | refine pz_qo (hd117 R hR) ?_ | exact hd117 R hR
        repeat first | rw [if_pos (by omega)] | rw [if_neg (by omega)]
        first | exact pz_fi (pz_tk_f hk137) | exact (pz_tk_f hk137).symm | (exfalso; omega)
        all_goals repeat first | rw [if_pos (by omega)] | rw [if_neg (by omega)]
        all_goals first | rfl | (exfalso; omega)
    · skip
      refine ⟨rfl, ?_⟩
      refine Or.inr ⟨_, _, rfl, fun R hR => ?_, cQf_tr gSq111 (by omega) (by omega) hz128⟩
      try dsimp only
      unfold pz_cd
      repeat first | rw [if_pos (by omega)] | rw [if_neg (by omega)]
      first | refine pz_fo dSq111 ?_ | exact dSq111.symm | skip
      repeat first | rw [if_pos (by omega)] | rw [if_neg (by omega)]
      first | exact pz_qi (hd127 R hR) | exact hd127 R hR
      all_goals repeat first | rw [if_pos (by omega)] | rw [if_neg (by omega)]
      all_goals first | rfl | (exfalso; omega)
  · skip
    refine ⟨rfl, ?_⟩
    refine Or.inr ⟨_, _, rfl, fun R hR => ?_, cQf_of g0 (by omega) (by omega) (cQn_of h) hz106⟩
    try dsimp only
    unfold pz_cd
    repeat first | rw [if_pos (by omega)] | rw [if_neg (by omega)]
    first | exact pz_fi (pz_op_1 hk107) | exact (pz_op_1 hk107).symm | (exfalso; omega)
    all_goals repeat first | rw [if_pos (by omega)] | rw [if_neg (by omega)]
    all_goals first | rfl | (exfalso; omega)
  · skip
    refine ⟨rfl, ?_⟩
    refine Or.inr ⟨_, _, rfl, fun R hR => ?_, cQf_of g0 (by omega) (by omega) (cQn_of h) hz109⟩
    try dsimp only
    unfold pz_cd
    repeat first | rw [if_pos (by omega)] | rw [if_neg (by omega)]
    first | exact pz_fi (pz_op_4 hk110) | exact (pz_op_4 hk110).symm | rfl
    all_goals repeat first | rw [if_pos (by omega)] | rw [if_neg (by omega)]
    all_goals first | rfl | (exfalso; omega)
theorem rv_q {D m : Nat} {dp : Int} (hX : cX xs T n N X c f (m)) (hS : cST xs T n N X c f m) (h : cQ T n N X c f u w i I F S) (hm : c - i < m + 1) (hD : 0 ≤ dp ∧ dp ≤ 50 ∧ 10 * (51 - dp) + 22 ≤ (D : Int)) (hI : I.length ≤ 1 * i) (hw : w ≤ 20 * dp) (hk : kq T n N X i = 40) : wJ (pe_GA xs) wY0 (mS [64, 65, 66, 67, 69, 70]) D t_XP_readVar ((pe_at t_XP_readVar.bl 0).getD (0, [])).2 [(0, (2, 63)), (1, (0, dp))] [] S (cR T n N X c f (fun R => pz_ST40 (kq T n N X) (vq T n N X) (tp T n 0) f R i dp u I F) u w i I F 1 (fun _ _ _ => True) S) := by
  have g0 : cQg f (I.length : Int) w S S := cQg_rfl
  have kr0 := kq_rg T n N X i
  have ic0 := cQ_ic h
  have hcn := cQ_cn h
  have hwr := cQ_wr h
  obtain ⟨hu1, hu2⟩ := cQ_ur h
  obtain ⟨D, rfl⟩ : ∃ D2, D = D2 + 16 := ⟨D - 16, by omega⟩
  refine wa_aload_n (n := 0) rfl ?_
  refine wb_gf4 63 rfl (wy_pr rfl) wt_63 wf_1_0 (v := 14) wl_63_0 ?_
  refine wa_cv 14 rfl (wy_pr rfl) wt_14 (M2 := fun _ => False) rfl at_XR_next ⟨_, rfl⟩ rfl rfl ⟨(Or.inr ⟨wy_pr rfl, fun q => q⟩), trivial, trivial⟩ trivial (fun _ _ q => False.elim q) (nx_q (S := S) h ⟨by omega, by omega⟩) (fun oq104 Sq104 hp105 q104 => ?_)
  rcases q104 with ⟨rfl, hc101, hg102, ht103⟩
  show wJ _ _ _ _ _ _ _ _ _ _
  have hSq104 : cQ T n N X c f u w (i + 1) I F Sq104 := hc101
  have gSq104 : cQg f (I.length : Int) w S Sq104 := cQg_tr g0 (hg102 _ _)
  have krSq104 := kq_rg T n N X (i + 1)
  have icSq104 := cQ_ic hSq104
  refine wa_aload_n (n := 0) rfl ?_
  refine wa_cv 63 rfl (wy_pr rfl) wt_63 (M2 := mS [69, 70]) rfl at_XP_takeVariable ⟨_, rfl⟩ rfl rfl ⟨(Or.inr ⟨wy_pr rfl, mS_no rfl⟩), trivial, trivial⟩ trivial (fun _ _ q => mS_sub (by decide) q) (tv_q (S := Sq104) hSq104) (fun oq117 Sq117 hp118 q117 => ?_)
  rcases q117 with ⟨F106, rfl, hd110, hk111, hc107, hg108, le112, ht109⟩ | ⟨v113, x114, rfl, hd116, hz115⟩
  · skip
    show wJ _ _ _ _ _ _ _ _ _ _
    have hSq117 : cQ T n N X c f u w (i + 2) I F106 Sq117 := hc107
    have gSq117 : cQg f (I.length : Int) w S Sq117 := cQg_tr gSq104 (hg108 _ _)
    have krSq117 := kq_rg T n N X (i + 2)
    have icSq117 := cQ_ic hSq117
    have dSq117 : pz_dc (kq T n N X) (vq T n N X) (tp T n 0) f (i + 1) u I F = .inr ((i + 2), I, F106, (vq T n N X (i + 1))) := hd110
    have flSq117 := le112.1
    refine wa_istore_n (n := 2) rfl ?_
    refine wa_aload_n (n := 0) rfl ?_
    refine wb_gf4 63 rfl (wy_pr rfl) wt_63 wf_1_0 (v := 14) wl_63_0 ?_
    refine wa_cv 14 rfl (wy_pr rfl) wt_14 (M2 := fun _ => False) rfl at_XR_kind ⟨_, rfl⟩ rfl rfl ⟨trivial, (Or.inr ⟨wy_pr rfl, fun q => q⟩), trivial, trivial⟩ trivial (fun _ _ q => False.elim q) (kd_q (S := Sq117) hSq117) (fun oq119 Sq119 hp120 q119 => ?_)
    rcases q119 with ⟨rfl, rfl⟩
    show wJ _ _ _ _ _ _ _ _ _ _
    refine wa_bipush (w_rg2 (by omega) (by omega)) ?_
    refine wa_icmpne (w_rg0 (by omega) (by omega)) (w_rg0 (by omega) (by omega)) ⟨_, rfl⟩ (fun c121 => ?_) (fun c121 => ?_)
    · skip
      refine wa_aload_n (n := 0) rfl ?_
      refine wa_bipush (w_rg2 (by omega) (by omega)) ?_
      refine wa_cv 63 rfl (wy_pr rfl) wt_63 (M2 := fun _ => False) rfl at_XP_take ⟨_, rfl⟩ rfl rfl ⟨trivial, (Or.inr ⟨wy_pr rfl, fun q => q⟩), trivial, trivial⟩ trivial (fun _ _ q => False.elim q) (tk_q (S := Sq117) (k := 17) hSq117 ⟨by omega, by omega⟩) (fun oq129 Sq129 hp130 q129 => ?_)
      rcases q129 with ⟨rfl, hk125, hc122, hg123, ht124⟩ | ⟨v126, rfl, hk128, hz127⟩
      · skip
        show wJ _ _ _ _ _ _ _ _ _ _
        have hSq129 : cQ T n N X c f u w (i + 3) I F106 Sq129 := hc122
        have gSq129 : cQg f (I.length : Int) w S Sq129 := cQg_tr gSq117 (hg123 _ _)
        have krSq129 := kq_rg T n N X (i + 3)
        have icSq129 := cQ_ic hSq129
        have dSq129 : pz_tk (kq T n N X) (tp T n 0) 17 (i + 2) I F106 = .inr ((i + 3), I, F106, 0) := pz_tk_o hk125
        refine wa_return rfl ?_
        refine Or.inl ⟨_, _, _, 0, rfl, fun R hR => ?_, hSq129, gSq129, ⟨by omega, by omega, (pz_le_tr pz_le_rfl le112), by omega⟩, trivial⟩
        try dsimp only
        unfold pz_ST40
        repeat first | rw [if_pos (by omega)] | rw [if_neg (by omega)]
        first | refine pz_fo dSq117 ?_ | exact dSq117.symm | skip
        repeat first | rw [if_pos (by omega)] | rw [if_neg (by omega)]
        first | refine pz_fo dSq129 ?_ | exact dSq129.symm | exact (pz_tk_o hk125).symm | skip
        all_goals repeat first | rw [if_pos (by omega)] | rw [if_neg (by omega)]
        all_goals first | rfl | (exfalso; omega)
      · skip
        refine ⟨rfl, ?_⟩
        refine Or.inr ⟨_, _, rfl, fun R hR => ?_, cQf_of gSq117 (by omega) (by omega) (cQn_of hSq117) hz127⟩
        try dsimp only
        unfold pz_ST40
        repeat first | rw [if_pos (by omega)] | rw [if_neg (by omega)]
        first | refine pz_fo dSq117 ?_ | exact dSq117.symm | skip
        repeat first | rw [if_pos (by omega)] | rw [if_neg (by omega)]
        first | exact pz_fi (pz_tk_f hk128) | exact (pz_tk_f hk128).symm | (exfalso; omega)
        all_goals repeat first | rw [if_pos (by omega)] | rw [if_neg (by omega)]
        all_goals first | rfl | (exfalso; omega)
    · skip
      refine wa_aload_n (n := 0) rfl ?_
      refine wb_gf4 63 rfl (wy_pr rfl) wt_63 wf_1_0 (v := 14) wl_63_0 ?_
      refine wa_cv 14 rfl (wy_pr rfl) wt_14 (M2 := fun _ => False) rfl at_XR_next ⟨_, rfl⟩ rfl rfl ⟨trivial, (Or.inr ⟨wy_pr rfl, fun q => q⟩), trivial, trivial⟩ trivial (fun _ _ q => False.elim q) (nx_q (S := Sq117) hSq117 ⟨by omega, by omega⟩) (fun oq134 Sq134 hp135 q134 => ?_)
      rcases q134 with ⟨rfl, hc131, hg132, ht133⟩
      show wJ _ _ _ _ _ _ _ _ _ _
      have hSq134 : cQ T n N X c f u w (i + 3) I F106 Sq134 := hc131
      have gSq134 : cQg f (I.length : Int) w S Sq134 := cQg_tr gSq117 (hg132 _ _)
      have krSq134 := kq_rg T n N X (i + 3)
      have icSq134 := cQ_ic hSq134
      refine wa_aload_n (n := 0) rfl ?_
      refine wa_iload_n (n := 1) rfl ?_
      refine wa_cv 63 rfl (wy_pr rfl) wt_63 (M2 := mS [64, 65, 66, 67, 69, 70]) rfl at_XP_readExpression ⟨_, rfl⟩ rfl rfl ⟨trivial, (Or.inr ⟨wy_pr rfl, mS_no rfl⟩), trivial, trivial⟩ trivial (fun _ _ q => q) (hX _ dp u w (i + 3) I F106 Sq134 (by omega) ⟨by omega, by omega, by omega⟩ ⟨by omega, by omega⟩ hSq134) (fun oq152 Sq152 hp153 q152 => ?_)
      rcases q152 with ⟨i136, I137, F138, t139, rfl, hd140, hc141, hg142, ⟨p143, p144, p145, p146⟩, e147⟩ | ⟨v148, x149, rfl, hd150, hz151⟩
      · skip
        show wJ _ _ _ _ _ _ _ _ _ _
        have hSq152 : cQ T n N X c f u w i136 I137 F138 Sq152 := hc141
        have gSq152 : cQg f (I.length : Int) w S Sq152 := cQg_tr gSq134 (cQg_mo hg142 (by omega) (by omega))
        have krSq152 := kq_rg T n N X i136
        have icSq152 := cQ_ic hSq152
        have tSq152 : Sq152 63 16 = 0 := e147
        have flSq152 := p145.1
        refine wa_aload_n (n := 0) rfl ?_
        refine wa_iconst ?_
        refine wa_iload_n (n := 2) rfl ?_
        refine wa_iconst ?_
        refine wa_cv 63 rfl (wy_pr rfl) wt_63 (M2 := mS [64, 65, 66, 67]) rfl at_XP_note ⟨_, rfl⟩ rfl rfl ⟨trivial, (Or.inr ⟨wy_pr rfl, mS_no rfl⟩), trivial, trivial⟩ trivial (fun _ _ q => mS_sub (by decide) q) (nt_q (S := Sq152) (op := 4) (a := (vq T n N X (i + 1))) (b := 0) (l := I137.length) hSq152 ⟨by omega, by omega⟩ ⟨by omega, by omega⟩ ⟨by omega, by omega⟩ (by omega) (by omega) (by omega)) (fun oq157 Sq157 hp158 q157 => ?_)
        rcases q157 with ⟨rfl, hc154, hg155, ht156⟩
        show wJ _ _ _ _ _ _ _ _ _ _
        have hSq157 : cQ T n N X c f u w i136 (I137 ++ [(4, (vq T n N X (i + 1)), 0, u)]) F138 Sq157 := hc154
        have gSq157 : cQg f (I.length : Int) w S Sq157 := cQg_tr gSq152 (hg155 _ _ (by omega))
        have tSq157 : Sq157 63 16 = 0 := (ht156).trans tSq152
        have hlSq157 : (I137 ++ [(4, (vq T n N X (i + 1)), 0, u)]).length = I137.length + 1 := List.length_append
        refine wa_pop (by decide) ?_
        refine wa_aload_n (n := 0) rfl ?_
        refine wa_iconst ?_
        refine wa_iconst ?_
        refine wa_iconst ?_
        refine wa_cv 63 rfl (wy_pr rfl) wt_63 (M2 := mS [64, 65, 66, 67]) rfl at_XP_note ⟨_, rfl⟩ rfl rfl ⟨trivial, (Or.inr ⟨wy_pr rfl, mS_no rfl⟩), trivial, trivial⟩ trivial (fun _ _ q => mS_sub (by decide) q) (nt_q (S := Sq157) (op := 5) (a := 0) (b := 0) (l := (I137.length + 1)) hSq157 ⟨by omega, by omega⟩ ⟨by omega, by omega⟩ ⟨by omega, by omega⟩ (by omega) (by omega) (by omega)) (fun oq162 Sq162 hp163 q162 => ?_)
        rcases q162 with ⟨rfl, hc159, hg160, ht161⟩
        show wJ _ _ _ _ _ _ _ _ _ _
        have hSq162 : cQ T n N X c f u w i136 ((I137 ++ [(4, (vq T n N X (i + 1)), 0, u)]) ++ [(5, 0, 0, u)]) F138 Sq162 := hc159
        have gSq162 : cQg f (I.length : Int) w S Sq162 := cQg_tr gSq157 (hg160 _ _ (by omega))
        have tSq162 : Sq162 63 16 = 0 := (ht161).trans tSq157
        have hlSq162 : ((I137 ++ [(4, (vq T n N X (i + 1)), 0, u)]) ++ [(5, 0, 0, u)]).length = (I137 ++ [(4, (vq T n N X (i + 1)), 0, u)]).length + 1 := List.length_append
        refine wa_pop (by decide) ?_
        refine wa_fall ⟨_, rfl⟩ ?_
        refine wa_aload_n (n := 0) rfl ?_
        refine wa_bipush (w_rg2 (by omega) (by omega)) ?_
        refine wa_cv 63 rfl (wy_pr rfl) wt_63 (M2 := fun _ => False) rfl at_XP_take ⟨_, rfl⟩ rfl rfl ⟨trivial, (Or.inr ⟨wy_pr rfl, fun q => q⟩), trivial, trivial⟩ trivial (fun _ _ q => False.elim q) (tk_q (S := Sq162) (k := 17) hSq162 ⟨by omega, by omega⟩) (fun oq171 Sq171 hp172 q171 => ?_)
        rcases q171 with ⟨rfl, hk167, hc164, hg165, ht166⟩ | ⟨v168, rfl, hk170, hz169⟩
        · skip
          show wJ _ _ _ _ _ _ _ _ _ _
          have hSq171 : cQ T n N X c f u w (i136 + 1) ((I137 ++ [(4, (vq T n N X (i + 1)), 0, u)]) ++ [(5, 0, 0, u)]) F138 Sq171 := hc164
          have gSq171 : cQg f (I.length : Int) w S Sq171 := cQg_tr gSq162 (hg165 _ _)
          have krSq171 := kq_rg T n N X (i136 + 1)
          have icSq171 := cQ_ic hSq171
          have tSq171 : Sq171 63 16 = 0 := (ht166.1).trans tSq162
          have dSq171 : pz_tk (kq T n N X) (tp T n 0) 17 i136 ((I137 ++ [(4, (vq T n N X (i + 1)), 0, u)]) ++ [(5, 0, 0, u)]) F138 = .inr ((i136 + 1), ((I137 ++ [(4, (vq T n N X (i + 1)), 0, u)]) ++ [(5, 0, 0, u)]), F138, 0) := pz_tk_o hk167
          refine wa_return rfl ?_
          refine Or.inl ⟨_, _, _, 0, rfl, fun R hR => ?_, hSq171, gSq171, ⟨by omega, by omega, (pz_le_tr (pz_le_tr pz_le_rfl le112) p145), by omega⟩, trivial⟩
          try dsimp only
          unfold pz_ST40
          repeat first | rw [if_pos (by omega)] | rw [if_neg (by omega)]
          first | refine pz_fo dSq117 ?_ | exact dSq117.symm | skip
          repeat first | rw [if_pos (by omega)] | rw [if_neg (by omega)]
          first | refine pz_qo (hd140 R hR) ?_ | exact hd140 R hR
          repeat first | rw [if_pos (by omega)] | rw [if_neg (by omega)]
          first | refine pz_fo dSq171 ?_ | exact dSq171.symm | exact (pz_tk_o hk167).symm | skip
          all_goals repeat first | rw [if_pos (by omega)] | rw [if_neg (by omega)]
          all_goals first | rfl | (exfalso; omega)
        · skip
          refine ⟨rfl, ?_⟩
          refine Or.inr ⟨_, _, rfl, fun R hR => ?_, cQf_of gSq162 (by omega) (by omega) (cQn_of hSq162) hz169⟩
          try dsimp only
          unfold pz_ST40
          repeat first | rw [if_pos (by omega)] | rw [if_neg (by omega)]
          first | refine pz_fo dSq117 ?_ | exact dSq117.symm | skip
          repeat first | rw [if_pos (by omega)] | rw [if_neg (by omega)]
          first | refine pz_qo (hd140 R hR) ?_ | exact hd140 R hR
          repeat first | rw [if_pos (by omega)] | rw [if_neg (by omega)]
          first | exact pz_fi (pz_tk_f hk170) | exact (pz_tk_f hk170).symm | (exfalso; omega)
          all_goals repeat first | rw [if_pos (by omega)] | rw [if_neg (by omega)]
          all_goals first | rfl | (exfalso; omega)
      · skip
        refine ⟨rfl, ?_⟩
        refine Or.inr ⟨_, _, rfl, fun R hR => ?_, cQf_tr gSq134 (by omega) (by omega) hz151⟩
        try dsimp only
        unfold pz_ST40
        repeat first | rw [if_pos (by omega)] | rw [if_neg (by omega)]
        first | refine pz_fo dSq117 ?_ | exact dSq117.symm | skip
        repeat first | rw [if_pos (by omega)] | rw [if_neg (by omega)]
        first | exact pz_qi (hd150 R hR) | exact hd150 R hR
        all_goals repeat first | rw [if_pos (by omega)] | rw [if_neg (by omega)]
        all_goals first | rfl | (exfalso; omega)
  · skip
    refine ⟨rfl, ?_⟩
    refine Or.inr ⟨_, _, rfl, fun R hR => ?_, cQf_tr gSq104 (by omega) (by omega) hz115⟩
    try dsimp only
    unfold pz_ST40
    repeat first | rw [if_pos (by omega)] | rw [if_neg (by omega)]
    first | exact pz_fi hd116 | exact hd116.symm
    all_goals repeat first | rw [if_pos (by omega)] | rw [if_neg (by omega)]
    all_goals first | rfl | (exfalso; omega)
theorem ru_q {D m : Nat} {dp : Int} (hX : cX xs T n N X c f (m)) (hS : cST xs T n N X c f m) (h : cQ T n N X c f u w i I F S) (hm : c - i < m + 1) (hD : 0 ≤ dp ∧ dp ≤ 50 ∧ 10 * (51 - dp) + 22 ≤ (D : Int)) (hI : I.length ≤ 1 * i) (hw : w ≤ 20 * dp) (hk : kq T n N X i = 41) : wJ (pe_GA xs) wY0 (mS [64, 65, 66, 67, 69, 70]) D t_XP_readFun ((pe_at t_XP_readFun.bl 0).getD (0, [])).2 [(0, (2, 63)), (1, (0, dp))] [] S (cR T n N X c f (fun R => pz_ST41 (kq T n N X) (vq T n N X) (tp T n 0) f R i dp u I F) u w i I F 1 (fun _ _ _ => True) S) := by
  have g0 : cQg f (I.length : Int) w S S := cQg_rfl
  have kr0 := kq_rg T n N X i
  have ic0 := cQ_ic h
  have hcn := cQ_cn h
  have hwr := cQ_wr h
  obtain ⟨hu1, hu2⟩ := cQ_ur h
  obtain ⟨D, rfl⟩ : ∃ D2, D = D2 + 16 := ⟨D - 16, by omega⟩
  refine wa_aload_n (n := 0) rfl ?_
  refine wa_aload_n (n := 0) rfl ?_
  refine wb_gfi 63 rfl (wy_pr rfl) wt_63 wf_1_11 (v := u) ((cQ_11 h)) (fun r101 => ?_)
  refine wa_cv 63 rfl (wy_pr rfl) wt_63 (M2 := fun _ => False) rfl at_XP_addFunction ⟨_, rfl⟩ rfl rfl ⟨(Or.inr ⟨wy_pr rfl, fun q => q⟩), trivial, trivial⟩ trivial (fun _ _ q => False.elim q) (af_q (S := S) (ar := u) h ⟨by omega, by omega⟩) (fun oq109 Sq109 hp110 q109 => ?_)
  rcases q109 with ⟨rfl, hk105, hc102, hg103, ht104⟩ | ⟨v106, rfl, hk108, hz107⟩
  · skip
    show wJ _ _ _ _ _ _ _ _ _ _
    have hSq109 : cQ T n N X c f u w i I (F ++ [(u, 0, [])]) Sq109 := hc102
    have gSq109 : cQg f (I.length : Int) w S Sq109 := cQg_tr g0 (hg103 _ _)
    have flSq109 : (F ++ [(u, 0, [])]).length = F.length + 1 := List.length_append
    refine wa_istore_n (n := 2) rfl ?_
    refine wa_aload_n (n := 0) rfl ?_
    refine wb_gf4 63 rfl (wy_pr rfl) wt_63 wf_1_0 (v := 14) wl_63_0 ?_
    refine wa_cv 14 rfl (wy_pr rfl) wt_14 (M2 := fun _ => False) rfl at_XR_next ⟨_, rfl⟩ rfl rfl ⟨trivial, (Or.inr ⟨wy_pr rfl, fun q => q⟩), trivial, trivial⟩ trivial (fun _ _ q => False.elim q) (nx_q (S := Sq109) hSq109 ⟨by omega, by omega⟩) (fun oq114 Sq114 hp115 q114 => ?_)
    rcases q114 with ⟨rfl, hc111, hg112, ht113⟩
    show wJ _ _ _ _ _ _ _ _ _ _
    have hSq114 : cQ T n N X c f u w (i + 1) I (F ++ [(u, 0, [])]) Sq114 := hc111
    have gSq114 : cQg f (I.length : Int) w S Sq114 := cQg_tr gSq109 (hg112 _ _)
    have krSq114 := kq_rg T n N X (i + 1)
    have icSq114 := cQ_ic hSq114
    refine wa_aload_n (n := 0) rfl ?_
    refine wa_cv 63 rfl (wy_pr rfl) wt_63 (M2 := mS [69, 70]) rfl at_XP_takeVariable ⟨_, rfl⟩ rfl rfl ⟨trivial, (Or.inr ⟨wy_pr rfl, mS_no rfl⟩), trivial, trivial⟩ trivial (fun _ _ q => mS_sub (by decide) q) (tv_q (S := Sq114) hSq114) (fun oq127 Sq127 hp128 q127 => ?_)
    rcases q127 with ⟨F116, rfl, hd120, hk121, hc117, hg118, le122, ht119⟩ | ⟨v123, x124, rfl, hd126, hz125⟩
    · skip
      show wJ _ _ _ _ _ _ _ _ _ _
      have hSq127 : cQ T n N X c f u w (i + 2) I F116 Sq127 := hc117
      have gSq127 : cQg f (I.length : Int) w S Sq127 := cQg_tr gSq114 (hg118 _ _)
      have krSq127 := kq_rg T n N X (i + 2)
      have icSq127 := cQ_ic hSq127
      have dSq127 : pz_dc (kq T n N X) (vq T n N X) (tp T n 0) f (i + 1) u I (F ++ [(u, 0, [])]) = .inr ((i + 2), I, F116, (vq T n N X (i + 1))) := hd120
      have flSq127 := le122.1
      obtain ⟨F3, rfl, d3, l3, le3⟩ := pz_dc_r (F := F) ⟨by omega, by omega⟩ dSq127
      have e3 : (pz_f f (F3 ++ [(u, 0, [])]) (f + (F.length : Int))).1 = u := by rw [← l3, pz_f_r]
      have fl3 : (F3 ++ [((u, 0, []) : pz_F)]).length = F3.length + 1 := List.length_append
      refine wa_istore_n (n := 3) rfl ?_
      refine wa_aload_n (n := 0) rfl ?_
      refine wa_iload_n (n := 2) rfl ?_
      refine wa_iload_n (n := 1) rfl ?_
      refine wa_cv 63 rfl (wy_pr rfl) wt_63 (M2 := mS [69, 70]) rfl at_XP_enterFunction ⟨_, rfl⟩ rfl rfl ⟨trivial, trivial, (Or.inr ⟨wy_pr rfl, mS_no rfl⟩), trivial, trivial⟩ trivial (fun _ _ q => mS_sub (by decide) q) (en_q (S := Sq127) (g := (f + (F.length : Int))) (dp := dp) hSq127 ⟨by omega, by omega⟩ ⟨by omega, by omega⟩) (fun oq141 Sq141 hp142 q141 => ?_)
      rcases q141 with ⟨i129, F130, rfl, hd131, hc132, hg133, ⟨p134, le135⟩, e136⟩ | ⟨v137, x138, rfl, hd139, hz140⟩
      · skip
        show wJ _ _ _ _ _ _ _ _ _ _
        have hSq141 : cQ T n N X c f (f + (F.length : Int)) w i129 I F130 Sq141 := hc132
        have gSq141 : cQg f (I.length : Int) w S Sq141 := cQg_tr gSq127 (cQg_mo hg133 (by omega) (by omega))
        have krSq141 := kq_rg T n N X i129
        have icSq141 := cQ_ic hSq141
        have flSq141 := le135.1
        have leSq141 := le135
        refine wa_aload_n (n := 0) rfl ?_
        refine wa_iload_n (n := 1) rfl ?_
        refine wa_iconst ?_
        refine wa_iadd ?_
        refine wa_cv 63 rfl (wy_pr rfl) wt_63 (M2 := mS [64, 65, 66, 67, 69, 70]) rfl at_XP_readStatements ⟨_, rfl⟩ rfl rfl ⟨trivial, trivial, (Or.inr ⟨wy_pr rfl, mS_no rfl⟩), trivial, trivial⟩ trivial (fun _ _ q => q) (hS _ (dp + 1) (f + (F.length : Int)) w i129 I F130 Sq141 (by omega) ⟨by omega, by omega, by omega⟩ ⟨by omega, by omega⟩ hSq141) (fun oq159 Sq159 hp160 q159 => ?_)
        rcases q159 with ⟨i143, I144, F145, t146, rfl, hd147, hc148, hg149, ⟨p150, p151, p152, p153⟩, e154⟩ | ⟨v155, x156, rfl, hd157, hz158⟩
        · skip
          show wJ _ _ _ _ _ _ _ _ _ _
          have hSq159 : cQ T n N X c f (f + (F.length : Int)) w i143 I144 F145 Sq159 := hc148
          have gSq159 : cQg f (I.length : Int) w S Sq159 := cQg_tr gSq141 (cQg_mo hg149 (by omega) (by omega))
          have krSq159 := kq_rg T n N X i143
          have icSq159 := cQ_ic hSq159
          have flSq159 := p152.1
          refine wa_aload_n (n := 0) rfl ?_
          refine wa_cv 63 rfl (wy_pr rfl) wt_63 (M2 := mS [64, 65, 66, 67, 69, 70]) rfl at_XP_leaveFunction ⟨_, rfl⟩ rfl rfl ⟨trivial, trivial, (Or.inr ⟨wy_pr rfl, mS_no rfl⟩), trivial, trivial⟩ trivial (fun _ _ q => q) ?_ (fun _ _ _ q => q)
          refine wa_aload_n (n := 0) rfl ?_
          refine wa_bipush (w_rg2 (by omega) (by omega)) ?_
          refine wa_cv 63 rfl (wy_pr rfl) wt_63 (M2 := fun _ => False) rfl at_XP_take ⟨_, rfl⟩ rfl rfl ⟨(Or.inr ⟨wy_pr rfl, fun q => q⟩), trivial⟩ trivial (fun _ _ q => False.elim q) (tk_q (S := Sq159) (k := 13) hSq159 ⟨by omega, by omega⟩) (fun oq168 Sq168 hp169 q168 => ?_)
          rcases q168 with ⟨rfl, hk164, hc161, hg162, ht163⟩ | ⟨v165, rfl, hk167, hz166⟩
          · skip
            show wJ _ _ _ _ _ _ _ _ _ _
            have hSq168 : cQ T n N X c f (f + (F.length : Int)) w (i143 + 1) I144 F145 Sq168 := hc161
            have gSq168 : cQg f (I.length : Int) w S Sq168 := cQg_tr gSq159 (hg162 _ _)
            have krSq168 := kq_rg T n N X (i143 + 1)
            have icSq168 := cQ_ic hSq168
            have dSq168 : pz_tk (kq T n N X) (tp T n 0) 13 i143 I144 F145 = .inr ((i143 + 1), I144, F145, 0) := pz_tk_o hk164
            refine wa_aload_n (n := 0) rfl ?_
            refine wa_cv 63 rfl (wy_pr rfl) wt_63 (M2 := mS [64, 65, 66, 67]) rfl at_XP_endFunction ⟨_, rfl⟩ rfl rfl ⟨(Or.inr ⟨wy_pr rfl, mS_no rfl⟩), trivial⟩ trivial (fun _ _ q => mS_sub (by decide) q) (ef_q (S := Sq168) (u2 := u) hSq168 ((pz_le_f (F := F3 ++ [(u, 0, [])]) (pz_le_tr leSq141 p152) ⟨by omega, by omega⟩).trans e3) (by omega) (by omega)) (fun oq172 Sq172 hp173 q172 => ?_)
            rcases q172 with ⟨rfl, hc170, hg171⟩
            show wJ _ _ _ _ _ _ _ _ _ _
            have hSq172 : cQ T n N X c f u w (i143 + 1) (I144 ++ [(0, 0, 0, (f + (F.length : Int)))] ++ [(29, 0, 0, (f + (F.length : Int)))]) F145 Sq172 := hc170
            have gSq172 : cQg f (I.length : Int) w S Sq172 := cQg_tr gSq168 (hg171 _ _ (by omega))
            have hlSq172 : (I144 ++ [(0, 0, 0, (f + (F.length : Int)))] ++ [(29, 0, 0, (f + (F.length : Int)))]).length = I144.length + 2 := by rw [List.length_append, List.length_append]; rfl
            refine wa_return rfl ?_
            show wJ _ _ _ _ _ _ _ _ _ _
            refine wa_aload_n (n := 0) rfl ?_
            refine wa_bipush (w_rg2 (by omega) (by omega)) ?_
            refine wa_iload_n (n := 2) rfl ?_
            refine wa_iconst ?_
            refine wa_cv 63 rfl (wy_pr rfl) wt_63 (M2 := mS [64, 65, 66, 67]) rfl at_XP_note ⟨_, rfl⟩ rfl rfl ⟨trivial, trivial, (Or.inr ⟨wy_pr rfl, mS_no rfl⟩), trivial, trivial⟩ trivial (fun _ _ q => mS_sub (by decide) q) (nt_q (S := Sq172) (op := 24) (a := (f + (F.length : Int))) (b := 0) (l := (I144.length + 2)) hSq172 ⟨by omega, by omega⟩ ⟨by omega, by omega⟩ ⟨by omega, by omega⟩ (by omega) (by omega) (by omega)) (fun oq177 Sq177 hp178 q177 => ?_)
            rcases q177 with ⟨rfl, hc174, hg175, ht176⟩
            show wJ _ _ _ _ _ _ _ _ _ _
            have hSq177 : cQ T n N X c f u w (i143 + 1) ((I144 ++ [(0, 0, 0, (f + (F.length : Int)))] ++ [(29, 0, 0, (f + (F.length : Int)))]) ++ [(24, (f + (F.length : Int)), 0, u)]) F145 Sq177 := hc174
            have gSq177 : cQg f (I.length : Int) w S Sq177 := cQg_tr gSq172 (hg175 _ _ (by omega))
            have hlSq177 : ((I144 ++ [(0, 0, 0, (f + (F.length : Int)))] ++ [(29, 0, 0, (f + (F.length : Int)))]) ++ [(24, (f + (F.length : Int)), 0, u)]).length = (I144 ++ [(0, 0, 0, (f + (F.length : Int)))] ++ [(29, 0, 0, (f + (F.length : Int)))]).length + 1 := List.length_append
            refine wa_pop (by decide) ?_
            refine wa_aload_n (n := 0) rfl ?_
            refine wa_iconst ?_
            refine wa_iload_n (n := 3) rfl ?_
            refine wa_iconst ?_
            refine wa_cv 63 rfl (wy_pr rfl) wt_63 (M2 := mS [64, 65, 66, 67]) rfl at_XP_note ⟨_, rfl⟩ rfl rfl ⟨trivial, trivial, (Or.inr ⟨wy_pr rfl, mS_no rfl⟩), trivial, trivial⟩ trivial (fun _ _ q => mS_sub (by decide) q) (nt_q (S := Sq177) (op := 4) (a := (vq T n N X (i + 1))) (b := 0) (l := (I144.length + 3)) hSq177 ⟨by omega, by omega⟩ ⟨by omega, by omega⟩ ⟨by omega, by omega⟩ (by omega) (by omega) (by omega)) (fun oq182 Sq182 hp183 q182 => ?_)
            rcases q182 with ⟨rfl, hc179, hg180, ht181⟩
            show wJ _ _ _ _ _ _ _ _ _ _
            have hSq182 : cQ T n N X c f u w (i143 + 1) (((I144 ++ [(0, 0, 0, (f + (F.length : Int)))] ++ [(29, 0, 0, (f + (F.length : Int)))]) ++ [(24, (f + (F.length : Int)), 0, u)]) ++ [(4, (vq T n N X (i + 1)), 0, u)]) F145 Sq182 := hc179
            have gSq182 : cQg f (I.length : Int) w S Sq182 := cQg_tr gSq177 (hg180 _ _ (by omega))
            have hlSq182 : (((I144 ++ [(0, 0, 0, (f + (F.length : Int)))] ++ [(29, 0, 0, (f + (F.length : Int)))]) ++ [(24, (f + (F.length : Int)), 0, u)]) ++ [(4, (vq T n N X (i + 1)), 0, u)]).length = ((I144 ++ [(0, 0, 0, (f + (F.length : Int)))] ++ [(29, 0, 0, (f + (F.length : Int)))]) ++ [(24, (f + (F.length : Int)), 0, u)]).length + 1 := List.length_append
            refine wa_pop (by decide) ?_
            refine wa_aload_n (n := 0) rfl ?_
            refine wa_iconst ?_
            refine wa_iconst ?_
            refine wa_iconst ?_
            refine wa_cv 63 rfl (wy_pr rfl) wt_63 (M2 := mS [64, 65, 66, 67]) rfl at_XP_note ⟨_, rfl⟩ rfl rfl ⟨trivial, trivial, (Or.inr ⟨wy_pr rfl, mS_no rfl⟩), trivial, trivial⟩ trivial (fun _ _ q => mS_sub (by decide) q) (nt_q (S := Sq182) (op := 5) (a := 0) (b := 0) (l := (I144.length + 4)) hSq182 ⟨by omega, by omega⟩ ⟨by omega, by omega⟩ ⟨by omega, by omega⟩ (by omega) (by omega) (by omega)) (fun oq187 Sq187 hp188 q187 => ?_)
            rcases q187 with ⟨rfl, hc184, hg185, ht186⟩
            show wJ _ _ _ _ _ _ _ _ _ _
            have hSq187 : cQ T n N X c f u w (i143 + 1) ((((I144 ++ [(0, 0, 0, (f + (F.length : Int)))] ++ [(29, 0, 0, (f + (F.length : Int)))]) ++ [(24, (f + (F.length : Int)), 0, u)]) ++ [(4, (vq T n N X (i + 1)), 0, u)]) ++ [(5, 0, 0, u)]) F145 Sq187 := hc184
            have gSq187 : cQg f (I.length : Int) w S Sq187 := cQg_tr gSq182 (hg185 _ _ (by omega))
            have hlSq187 : ((((I144 ++ [(0, 0, 0, (f + (F.length : Int)))] ++ [(29, 0, 0, (f + (F.length : Int)))]) ++ [(24, (f + (F.length : Int)), 0, u)]) ++ [(4, (vq T n N X (i + 1)), 0, u)]) ++ [(5, 0, 0, u)]).length = (((I144 ++ [(0, 0, 0, (f + (F.length : Int)))] ++ [(29, 0, 0, (f + (F.length : Int)))]) ++ [(24, (f + (F.length : Int)), 0, u)]) ++ [(4, (vq T n N X (i + 1)), 0, u)]).length + 1 := List.length_append
            refine wa_pop (by decide) ?_
            refine wa_return rfl ?_
            refine Or.inl ⟨_, _, _, 0, rfl, fun R hR => ?_, hSq187, gSq187, ⟨by omega, by omega, (pz_le_tr (pz_le_tr (pz_le_tr le3 (pz_le_ap _ _)) le135) p152), by omega⟩, trivial⟩
            try dsimp only
            unfold pz_ST41
            repeat first | rw [if_pos (by omega)] | rw [if_neg (by omega)]
            refine pz_fo d3 ?_
            repeat first | rw [if_pos (by omega)] | rw [if_neg (by omega)]
            refine pz_qo ?_ rfl
            unfold pz_fn
            rw [l3]
            repeat first | rw [if_pos (by omega)] | rw [if_neg (by omega)]
            refine hd131 R hR _ _ ?_
            repeat first | rw [if_pos (by omega)] | rw [if_neg (by omega)]
            first | refine pz_qo (hd147 R hR) ?_ | exact hd147 R hR
            repeat first | rw [if_pos (by omega)] | rw [if_neg (by omega)]
            first | refine pz_fo dSq168 ?_ | exact dSq168.symm | exact (pz_tk_o hk164).symm | skip
            all_goals repeat first | rw [if_pos (by omega)] | rw [if_neg (by omega)]
            all_goals first | rfl | (exfalso; omega)
          · skip
            refine ⟨rfl, ?_⟩
            refine ⟨rfl, ?_⟩
            refine Or.inr ⟨_, _, rfl, fun R hR => ?_, cQf_of gSq159 (by omega) (by omega) (cQn_of hSq159) hz166⟩
            try dsimp only
            unfold pz_ST41
            repeat first | rw [if_pos (by omega)] | rw [if_neg (by omega)]
            refine pz_fo d3 ?_
            repeat first | rw [if_pos (by omega)] | rw [if_neg (by omega)]
            refine pz_qi ?_
            unfold pz_fn
            rw [l3]
            repeat first | rw [if_pos (by omega)] | rw [if_neg (by omega)]
            refine hd131 R hR _ _ ?_
            repeat first | rw [if_pos (by omega)] | rw [if_neg (by omega)]
            first | refine pz_qo (hd147 R hR) ?_ | exact hd147 R hR
            repeat first | rw [if_pos (by omega)] | rw [if_neg (by omega)]
            first | exact pz_fi (pz_tk_f hk167) | exact (pz_tk_f hk167).symm | (exfalso; omega)
            all_goals repeat first | rw [if_pos (by omega)] | rw [if_neg (by omega)]
            all_goals first | rfl | (exfalso; omega)
        · skip
          refine ⟨rfl, ?_⟩
          refine Or.inr ⟨_, _, rfl, fun R hR => ?_, cQf_tr gSq141 (by omega) (by omega) hz158⟩
          try dsimp only
          unfold pz_ST41
          repeat first | rw [if_pos (by omega)] | rw [if_neg (by omega)]
          refine pz_fo d3 ?_
          repeat first | rw [if_pos (by omega)] | rw [if_neg (by omega)]
          refine pz_qi ?_
          unfold pz_fn
          rw [l3]
          repeat first | rw [if_pos (by omega)] | rw [if_neg (by omega)]
          refine hd131 R hR _ _ ?_
          repeat first | rw [if_pos (by omega)] | rw [if_neg (by omega)]
          first | exact pz_qi (hd157 R hR) | exact hd157 R hR
          all_goals repeat first | rw [if_pos (by omega)] | rw [if_neg (by omega)]
          all_goals first | rfl | (exfalso; omega)
      · skip
        refine ⟨rfl, ?_⟩
        refine Or.inr ⟨_, _, rfl, fun R hR => ?_, cQf_tr gSq127 (by omega) (by omega) hz140⟩
        try dsimp only
        unfold pz_ST41
        repeat first | rw [if_pos (by omega)] | rw [if_neg (by omega)]
        refine pz_fo d3 ?_
        repeat first | rw [if_pos (by omega)] | rw [if_neg (by omega)]
        refine pz_qi ?_
        unfold pz_fn
        rw [l3]
        repeat first | rw [if_pos (by omega)] | rw [if_neg (by omega)]
        exact hd139 R hR _
        all_goals repeat first | rw [if_pos (by omega)] | rw [if_neg (by omega)]
        all_goals first | rfl | (exfalso; omega)
    · skip
      refine ⟨rfl, ?_⟩
      refine Or.inr ⟨_, _, rfl, fun R hR => ?_, cQf_tr gSq114 (by omega) (by omega) hz125⟩
      try dsimp only
      unfold pz_ST41
      repeat first | rw [if_pos (by omega)] | rw [if_neg (by omega)]
      exact pz_fi (pz_dc_l ⟨by omega, by omega⟩ hd126)
      all_goals repeat first | rw [if_pos (by omega)] | rw [if_neg (by omega)]
      all_goals first | rfl | (exfalso; omega)
  · skip
    refine ⟨rfl, ?_⟩
    refine Or.inr ⟨_, _, rfl, fun R hR => ?_, cQf_of g0 (by omega) (by omega) (cQn_of h) hz107⟩
    try dsimp only
    unfold pz_ST41
    repeat first | rw [if_pos (by omega)] | rw [if_neg (by omega)]
    rfl
    all_goals repeat first | rw [if_pos (by omega)] | rw [if_neg (by omega)]
    all_goals first | rfl | (exfalso; omega)
theorem rw_q {D m : Nat} {dp : Int} (hX : cX xs T n N X c f (m)) (hS : cST xs T n N X c f m) (h : cQ T n N X c f u w i I F S) (hm : c - i < m + 1) (hD : 0 ≤ dp ∧ dp ≤ 50 ∧ 10 * (51 - dp) + 22 ≤ (D : Int)) (hI : I.length ≤ 1 * i) (hw : w ≤ 20 * dp) (hk : kq T n N X i = 44) : wJ (pe_GA xs) wY0 (mS [64, 65, 66, 67, 69, 70]) D t_XP_readWhile ((pe_at t_XP_readWhile.bl 0).getD (0, [])).2 [(0, (2, 63)), (1, (0, dp))] [] S (cR T n N X c f (fun R => pz_ST44 (kq T n N X) (tp T n 0) R i dp u I F) u w i I F 1 (fun _ _ _ => True) S) := by
  have g0 : cQg f (I.length : Int) w S S := cQg_rfl
  have kr0 := kq_rg T n N X i
  have ic0 := cQ_ic h
  have hcn := cQ_cn h
  have hwr := cQ_wr h
  obtain ⟨hu1, hu2⟩ := cQ_ur h
  obtain ⟨D, rfl⟩ : ∃ D2, D = D2 + 16 := ⟨D - 16, by omega⟩
  refine wa_aload_n (n := 0) rfl ?_
  refine wb_gf4 63 rfl (wy_pr rfl) wt_63 wf_1_0 (v := 14) wl_63_0 ?_
  refine wa_cv 14 rfl (wy_pr rfl) wt_14 (M2 := fun _ => False) rfl at_XR_next ⟨_, rfl⟩ rfl rfl ⟨(Or.inr ⟨wy_pr rfl, fun q => q⟩), trivial, trivial⟩ trivial (fun _ _ q => False.elim q) (nx_q (S := S) h ⟨by omega, by omega⟩) (fun oq104 Sq104 hp105 q104 => ?_)
  rcases q104 with ⟨rfl, hc101, hg102, ht103⟩
  show wJ _ _ _ _ _ _ _ _ _ _
  have hSq104 : cQ T n N X c f u w (i + 1) I F Sq104 := hc101
  have gSq104 : cQg f (I.length : Int) w S Sq104 := cQg_tr g0 (hg102 _ _)
  have krSq104 := kq_rg T n N X (i + 1)
  have icSq104 := cQ_ic hSq104
  refine wa_aload_n (n := 0) rfl ?_
  refine wa_cv 63 rfl (wy_pr rfl) wt_63 (M2 := fun _ => False) rfl at_XP_here ⟨_, rfl⟩ rfl rfl ⟨(Or.inr ⟨wy_pr rfl, fun q => q⟩), trivial, trivial⟩ trivial (fun _ _ q => False.elim q) (he_q (S := Sq104) hSq104) (fun oq107 Sq107 hp108 q107 => ?_)
  rcases q107 with ⟨rfl, rfl⟩
  show wJ _ _ _ _ _ _ _ _ _ _
  have hr106 := pz_h_rg I u
  refine wa_istore_n (n := 2) rfl ?_
  refine wa_aload_n (n := 0) rfl ?_
  refine wa_iload_n (n := 1) rfl ?_
  refine wa_cv 63 rfl (wy_pr rfl) wt_63 (M2 := mS [64, 65, 66, 67, 69, 70]) rfl at_XP_readCondition ⟨_, rfl⟩ rfl rfl ⟨trivial, (Or.inr ⟨wy_pr rfl, mS_no rfl⟩), trivial, trivial⟩ trivial (fun _ _ q => q) (rc_q (S := Sq104) hX hS hSq104 (by omega) ⟨by omega, by omega, by omega⟩ (by omega) (by omega)) (fun oq123 Sq123 hp124 q123 => ?_)
  rcases q123 with ⟨i109, I110, F111, rfl, hd112, hc113, hg114, ⟨p115, p116, p117, p118⟩⟩ | ⟨v119, x120, rfl, hd121, hz122⟩
  · skip
    show wJ _ _ _ _ _ _ _ _ _ _
    have hSq123 : cQ T n N X c f u w i109 (I110 ++ [(21, 0, 0, u)]) F111 Sq123 := hc113
    have gSq123 : cQg f (I.length : Int) w S Sq123 := cQg_tr gSq104 (cQg_mo hg114 (by omega) (by omega))
    have krSq123 := kq_rg T n N X i109
    have icSq123 := cQ_ic hSq123
    have flSq123 := p117.1
    have hlSq123 : (I110 ++ [(21, 0, 0, u)]).length = I110.length + 1 := List.length_append
    refine wa_istore_n (n := 3) rfl ?_
    refine wa_aload_n (n := 0) rfl ?_
    refine wa_iload_n (n := 1) rfl ?_
    refine wa_cv 63 rfl (wy_pr rfl) wt_63 (M2 := mS [64, 65, 66, 67, 69, 70]) rfl at_XP_readBlock ⟨_, rfl⟩ rfl rfl ⟨trivial, trivial, (Or.inr ⟨wy_pr rfl, mS_no rfl⟩), trivial, trivial⟩ trivial (fun _ _ q => q) (rb_q hX hS hSq123 (by omega) ⟨by omega, by omega, by omega⟩ (by omega) (by omega)) (fun oq141 Sq141 hp142 q141 => ?_)
    rcases q141 with ⟨i125, I126, F127, t128, rfl, hd129, hc130, hg131, ⟨p132, p133, p134, p135⟩, e136⟩ | ⟨v137, x138, rfl, hd139, hz140⟩
    · skip
      show wJ _ _ _ _ _ _ _ _ _ _
      have hSq141 : cQ T n N X c f u w i125 I126 F127 Sq141 := hc130
      have gSq141 : cQg f (I.length : Int) w S Sq141 := cQg_tr gSq123 (cQg_mo hg131 (by omega) (by omega))
      have krSq141 := kq_rg T n N X i125
      have icSq141 := cQ_ic hSq141
      have flSq141 := p134.1
      refine wa_aload_n (n := 0) rfl ?_
      refine wa_bipush (w_rg2 (by omega) (by omega)) ?_
      refine wa_iload_n (n := 2) rfl ?_
      refine wa_iconst ?_
      refine wa_cv 63 rfl (wy_pr rfl) wt_63 (M2 := mS [64, 65, 66, 67]) rfl at_XP_note ⟨_, rfl⟩ rfl rfl ⟨trivial, trivial, (Or.inr ⟨wy_pr rfl, mS_no rfl⟩), trivial, trivial⟩ trivial (fun _ _ q => mS_sub (by decide) q) (nt_q (S := Sq141) (op := 20) (a := (pz_h I u)) (b := 0) (l := I126.length) hSq141 ⟨by omega, by omega⟩ ⟨by omega, by omega⟩ ⟨by omega, by omega⟩ (by omega) (by omega) (by omega)) (fun oq146 Sq146 hp147 q146 => ?_)
      rcases q146 with ⟨rfl, hc143, hg144, ht145⟩
      show wJ _ _ _ _ _ _ _ _ _ _
      have hSq146 : cQ T n N X c f u w i125 (I126 ++ [(20, (pz_h I u), 0, u)]) F127 Sq146 := hc143
      have gSq146 : cQg f (I.length : Int) w S Sq146 := cQg_tr gSq141 (hg144 _ _ (by omega))
      have hlSq146 : (I126 ++ [(20, (pz_h I u), 0, u)]).length = I126.length + 1 := List.length_append
      refine wa_pop (by decide) ?_
      refine wa_aload_n (n := 0) rfl ?_
      refine wa_iload_n (n := 3) rfl ?_
      refine wa_cv 63 rfl (wy_pr rfl) wt_63 (M2 := fun _ => False) rfl at_XP_aimHere ⟨_, rfl⟩ rfl rfl ⟨trivial, trivial, (Or.inr ⟨wy_pr rfl, fun q => q⟩), trivial, trivial⟩ trivial (fun _ _ q => False.elim q) (am_q (S := Sq146) (j := I110.length) hSq146 (by omega)) (fun oq152 Sq152 hp153 q152 => ?_)
      rcases q152 with ⟨rfl, hc148, hg149, ht150, hx151⟩
      show wJ _ _ _ _ _ _ _ _ _ _
      have hSq152 : cQ T n N X c f u w i125 (pz_a (I126 ++ [(20, (pz_h I u), 0, u)]) I110.length (pz_h (I126 ++ [(20, (pz_h I u), 0, u)]) u)) F127 Sq152 := hc148
      have gSq152 : cQg f (I.length : Int) w S Sq152 := cQg_tr gSq146 (hg149 _ _ (by omega))
      have hlSq152 : (pz_a (I126 ++ [(20, (pz_h I u), 0, u)]) I110.length (pz_h (I126 ++ [(20, (pz_h I u), 0, u)]) u)).length = (I126 ++ [(20, (pz_h I u), 0, u)]).length := pz_a_len _ _ _
      refine wa_return rfl ?_
      refine Or.inl ⟨_, _, _, 0, rfl, fun R hR => ?_, hSq152, gSq152, ⟨by omega, by omega, (pz_le_tr (pz_le_tr pz_le_rfl p117) p134), by omega⟩, trivial⟩
      try dsimp only
      unfold pz_ST44
      repeat first | rw [if_pos (by omega)] | rw [if_neg (by omega)]
      refine pz_qo (hd112 R hR) ?_
      repeat first | rw [if_pos (by omega)] | rw [if_neg (by omega)]
      first | refine pz_qo (hd129 R hR) ?_ | exact hd129 R hR
      all_goals repeat first | rw [if_pos (by omega)] | rw [if_neg (by omega)]
      all_goals first | rfl | (exfalso; omega)
    · skip
      refine ⟨rfl, ?_⟩
      refine Or.inr ⟨_, _, rfl, fun R hR => ?_, cQf_tr gSq123 (by omega) (by omega) hz140⟩
      try dsimp only
      unfold pz_ST44
      repeat first | rw [if_pos (by omega)] | rw [if_neg (by omega)]
      refine pz_qo (hd112 R hR) ?_
      repeat first | rw [if_pos (by omega)] | rw [if_neg (by omega)]
      first | exact pz_qi (hd139 R hR) | exact hd139 R hR
      all_goals repeat first | rw [if_pos (by omega)] | rw [if_neg (by omega)]
      all_goals first | rfl | (exfalso; omega)
  · skip
    refine ⟨rfl, ?_⟩
    refine Or.inr ⟨_, _, rfl, fun R hR => ?_, cQf_tr gSq104 (by omega) (by omega) hz122⟩
    try dsimp only
    unfold pz_ST44
    repeat first | rw [if_pos (by omega)] | rw [if_neg (by omega)]
    exact pz_qi (hd121 R hR)
    all_goals repeat first | rw [if_pos (by omega)] | rw [if_neg (by omega)]
    all_goals first | rfl | (exfalso; omega)
theorem rl_q {D m : Nat} {dp : Int} (hX : cX xs T n N X c f (m)) (hS : cST xs T n N X c f m) (h : cQ T n N X c f u w i I F S) (hm : c - i < m + 1) (hD : 0 ≤ dp ∧ dp ≤ 50 ∧ 10 * (51 - dp) + 22 ≤ (D : Int)) (hI : I.length ≤ 1 * i) (hw : w ≤ 20 * dp) (hk : kq T n N X i = 45 ∨ kq T n N X i = 46) : wJ (pe_GA xs) wY0 (mS [64, 65, 66, 67, 69, 70]) D t_XP_readLeaving ((pe_at t_XP_readLeaving.bl 0).getD (0, [])).2 [(0, (2, 63)), (1, (0, dp))] [] S (cR T n N X c f (fun R => pz_ST45 (kq T n N X) (tp T n 0) R i dp u I F) u w i I F 1 (fun _ _ _ => True) S) := by
  have g0 : cQg f (I.length : Int) w S S := cQg_rfl
  have kr0 := kq_rg T n N X i
  have ic0 := cQ_ic h
  have hcn := cQ_cn h
  have hwr := cQ_wr h
  obtain ⟨hu1, hu2⟩ := cQ_ur h
  obtain ⟨D, rfl⟩ : ∃ D2, D = D2 + 16 := ⟨D - 16, by omega⟩
  refine wa_aload_n (n := 0) rfl ?_
  refine wb_gf4 63 rfl (wy_pr rfl) wt_63 wf_1_0 (v := 14) wl_63_0 ?_
  refine wa_cv 14 rfl (wy_pr rfl) wt_14 (M2 := fun _ => False) rfl at_XR_kind ⟨_, rfl⟩ rfl rfl ⟨(Or.inr ⟨wy_pr rfl, fun q => q⟩), trivial, trivial⟩ trivial (fun _ _ q => False.elim q) (kd_q (S := S) h) (fun oq101 Sq101 hp102 q101 => ?_)
  rcases q101 with ⟨rfl, rfl⟩
  show wJ _ _ _ _ _ _ _ _ _ _
  refine wa_bipush (w_rg2 (by omega) (by omega)) ?_
  refine wa_icmpne (w_rg0 (by omega) (by omega)) (w_rg0 (by omega) (by omega)) ⟨_, rfl⟩ (fun c103 => ?_) (fun c103 => ?_)
  · skip
    refine wa_iconst ?_
    refine wa_fall ⟨_, rfl⟩ ?_
    refine wa_istore_n (n := 2) rfl ?_
    refine wa_aload_n (n := 0) rfl ?_
    refine wb_gf4 63 rfl (wy_pr rfl) wt_63 wf_1_0 (v := 14) wl_63_0 ?_
    refine wa_cv 14 rfl (wy_pr rfl) wt_14 (M2 := fun _ => False) rfl at_XR_next ⟨_, rfl⟩ rfl rfl ⟨trivial, (Or.inr ⟨wy_pr rfl, fun q => q⟩), trivial, trivial⟩ trivial (fun _ _ q => False.elim q) (nx_q (S := S) h ⟨by omega, by omega⟩) (fun oq107 Sq107 hp108 q107 => ?_)
    rcases q107 with ⟨rfl, hc104, hg105, ht106⟩
    show wJ _ _ _ _ _ _ _ _ _ _
    have hSq107 : cQ T n N X c f u w (i + 1) I F Sq107 := hc104
    have gSq107 : cQg f (I.length : Int) w S Sq107 := cQg_tr g0 (hg105 _ _)
    have krSq107 := kq_rg T n N X (i + 1)
    have icSq107 := cQ_ic hSq107
    refine wa_iload_n (n := 2) rfl ?_
    refine wa_ifeq (w_rg0 (by omega) (by omega)) ⟨_, rfl⟩ (fun c109 => ?_) (fun c109 => ?_)
    · skip
      refine wa_aload_n (n := 0) rfl ?_
      refine wa_iload_n (n := 1) rfl ?_
      refine wa_cv 63 rfl (wy_pr rfl) wt_63 (M2 := mS [64, 65, 66, 67, 69, 70]) rfl at_XP_readExpression ⟨_, rfl⟩ rfl rfl ⟨trivial, (Or.inr ⟨wy_pr rfl, mS_no rfl⟩), trivial, trivial⟩ trivial (fun _ _ q => q) (hX _ dp u w (i + 1) I F Sq107 (by omega) ⟨by omega, by omega, by omega⟩ ⟨by omega, by omega⟩ hSq107) (fun oq126 Sq126 hp127 q126 => ?_)
      rcases q126 with ⟨i110, I111, F112, t113, rfl, hd114, hc115, hg116, ⟨p117, p118, p119, p120⟩, e121⟩ | ⟨v122, x123, rfl, hd124, hz125⟩
      · skip
        show wJ _ _ _ _ _ _ _ _ _ _
        have hSq126 : cQ T n N X c f u w i110 I111 F112 Sq126 := hc115
        have gSq126 : cQg f (I.length : Int) w S Sq126 := cQg_tr gSq107 (cQg_mo hg116 (by omega) (by omega))
        have krSq126 := kq_rg T n N X i110
        have icSq126 := cQ_ic hSq126
        have tSq126 : Sq126 63 16 = 0 := e121
        have flSq126 := p119.1
        refine wa_fall ⟨_, rfl⟩ ?_
        refine wa_aload_n (n := 0) rfl ?_
        refine wa_bipush (w_rg2 (by omega) (by omega)) ?_
        refine wa_cv 63 rfl (wy_pr rfl) wt_63 (M2 := fun _ => False) rfl at_XP_take ⟨_, rfl⟩ rfl rfl ⟨trivial, (Or.inr ⟨wy_pr rfl, fun q => q⟩), trivial, trivial⟩ trivial (fun _ _ q => False.elim q) (tk_q (S := Sq126) (k := 17) hSq126 ⟨by omega, by omega⟩) (fun oq135 Sq135 hp136 q135 => ?_)
        rcases q135 with ⟨rfl, hk131, hc128, hg129, ht130⟩ | ⟨v132, rfl, hk134, hz133⟩
        · skip
          show wJ _ _ _ _ _ _ _ _ _ _
          have hSq135 : cQ T n N X c f u w (i110 + 1) I111 F112 Sq135 := hc128
          have gSq135 : cQg f (I.length : Int) w S Sq135 := cQg_tr gSq126 (hg129 _ _)
          have krSq135 := kq_rg T n N X (i110 + 1)
          have icSq135 := cQ_ic hSq135
          have tSq135 : Sq135 63 16 = 0 := (ht130.1).trans tSq126
          have dSq135 : pz_tk (kq T n N X) (tp T n 0) 17 i110 I111 F112 = .inr ((i110 + 1), I111, F112, 0) := pz_tk_o hk131
          refine wa_aload_n (n := 0) rfl ?_
          refine wa_iload_n (n := 2) rfl ?_
          refine wa_ifeq (w_rg0 (by omega) (by omega)) ⟨_, rfl⟩ (fun c137 => ?_) (fun c137 => ?_)
          · skip
            refine wa_bipush (w_rg2 (by omega) (by omega)) ?_
            refine wa_fall ⟨_, rfl⟩ ?_
            refine wa_iconst ?_
            refine wa_iconst ?_
            refine wa_cv 63 rfl (wy_pr rfl) wt_63 (M2 := mS [64, 65, 66, 67]) rfl at_XP_note ⟨_, rfl⟩ rfl rfl ⟨trivial, (Or.inr ⟨wy_pr rfl, mS_no rfl⟩), trivial, trivial⟩ trivial (fun _ _ q => mS_sub (by decide) q) (nt_q (S := Sq135) (op := 30) (a := 0) (b := 0) (l := I111.length) hSq135 ⟨by omega, by omega⟩ ⟨by omega, by omega⟩ ⟨by omega, by omega⟩ (by omega) (by omega) (by omega)) (fun oq141 Sq141 hp142 q141 => ?_)
            rcases q141 with ⟨rfl, hc138, hg139, ht140⟩
            show wJ _ _ _ _ _ _ _ _ _ _
            have hSq141 : cQ T n N X c f u w (i110 + 1) (I111 ++ [(30, 0, 0, u)]) F112 Sq141 := hc138
            have gSq141 : cQg f (I.length : Int) w S Sq141 := cQg_tr gSq135 (hg139 _ _ (by omega))
            have tSq141 : Sq141 63 16 = 0 := (ht140).trans tSq135
            have hlSq141 : (I111 ++ [(30, 0, 0, u)]).length = I111.length + 1 := List.length_append
            refine wa_pop (by decide) ?_
            refine wa_return rfl ?_
            refine Or.inl ⟨_, _, _, 0, rfl, fun R hR => ?_, hSq141, gSq141, ⟨by omega, by omega, (pz_le_tr pz_le_rfl p119), by omega⟩, trivial⟩
            try dsimp only
            unfold pz_ST45
            repeat first | rw [if_pos (by omega)] | rw [if_neg (by omega)]
            first | refine pz_qo (hd114 R hR) ?_ | exact hd114 R hR
            repeat first | rw [if_pos (by omega)] | rw [if_neg (by omega)]
            first | refine pz_fo dSq135 ?_ | exact dSq135.symm | exact (pz_tk_o hk131).symm | skip
            all_goals repeat first | rw [if_pos (by omega)] | rw [if_neg (by omega)]
            all_goals first | rfl | (exfalso; omega)
          · skip
            exact absurd c137 (by omega)
        · skip
          refine ⟨rfl, ?_⟩
          refine Or.inr ⟨_, _, rfl, fun R hR => ?_, cQf_of gSq126 (by omega) (by omega) (cQn_of hSq126) hz133⟩
          try dsimp only
          unfold pz_ST45
          repeat first | rw [if_pos (by omega)] | rw [if_neg (by omega)]
          first | refine pz_qo (hd114 R hR) ?_ | exact hd114 R hR
          repeat first | rw [if_pos (by omega)] | rw [if_neg (by omega)]
          first | exact pz_fi (pz_tk_f hk134) | exact (pz_tk_f hk134).symm | (exfalso; omega)
          all_goals repeat first | rw [if_pos (by omega)] | rw [if_neg (by omega)]
          all_goals first | rfl | (exfalso; omega)
      · skip
        refine ⟨rfl, ?_⟩
        refine Or.inr ⟨_, _, rfl, fun R hR => ?_, cQf_tr gSq107 (by omega) (by omega) hz125⟩
        try dsimp only
        unfold pz_ST45
        repeat first | rw [if_pos (by omega)] | rw [if_neg (by omega)]
        first | exact pz_qi (hd124 R hR) | exact hd124 R hR
        all_goals repeat first | rw [if_pos (by omega)] | rw [if_neg (by omega)]
        all_goals first | rfl | (exfalso; omega)
    · skip
      exact absurd c109 (by omega)
  · skip
    refine wa_iconst ?_
    refine wa_goto ⟨_, rfl⟩ ?_
    refine wa_istore_n (n := 2) rfl ?_
    refine wa_aload_n (n := 0) rfl ?_
    refine wb_gf4 63 rfl (wy_pr rfl) wt_63 wf_1_0 (v := 14) wl_63_0 ?_
    refine wa_cv 14 rfl (wy_pr rfl) wt_14 (M2 := fun _ => False) rfl at_XR_next ⟨_, rfl⟩ rfl rfl ⟨trivial, (Or.inr ⟨wy_pr rfl, fun q => q⟩), trivial, trivial⟩ trivial (fun _ _ q => False.elim q) (nx_q (S := S) h ⟨by omega, by omega⟩) (fun oq146 Sq146 hp147 q146 => ?_)
    rcases q146 with ⟨rfl, hc143, hg144, ht145⟩
    show wJ _ _ _ _ _ _ _ _ _ _
    have hSq146 : cQ T n N X c f u w (i + 1) I F Sq146 := hc143
    have gSq146 : cQg f (I.length : Int) w S Sq146 := cQg_tr g0 (hg144 _ _)
    have krSq146 := kq_rg T n N X (i + 1)
    have icSq146 := cQ_ic hSq146
    refine wa_iload_n (n := 2) rfl ?_
    refine wa_ifeq (w_rg0 (by omega) (by omega)) ⟨_, rfl⟩ (fun c148 => ?_) (fun c148 => ?_)
    · skip
      exact absurd c148 (by omega)
    · skip
      refine wa_aload_n (n := 0) rfl ?_
      refine wb_gf4 63 rfl (wy_pr rfl) wt_63 wf_1_0 (v := 14) wl_63_0 ?_
      refine wa_cv 14 rfl (wy_pr rfl) wt_14 (M2 := fun _ => False) rfl at_XR_kind ⟨_, rfl⟩ rfl rfl ⟨trivial, (Or.inr ⟨wy_pr rfl, fun q => q⟩), trivial, trivial⟩ trivial (fun _ _ q => False.elim q) (kd_q (S := Sq146) hSq146) (fun oq149 Sq149 hp150 q149 => ?_)
      rcases q149 with ⟨rfl, rfl⟩
      show wJ _ _ _ _ _ _ _ _ _ _
      refine wa_bipush (w_rg2 (by omega) (by omega)) ?_
      refine wa_icmpne (w_rg0 (by omega) (by omega)) (w_rg0 (by omega) (by omega)) ⟨_, rfl⟩ (fun c151 => ?_) (fun c151 => ?_)
      · skip
        refine wa_aload_n (n := 0) rfl ?_
        refine wa_iload_n (n := 1) rfl ?_
        refine wa_cv 63 rfl (wy_pr rfl) wt_63 (M2 := mS [64, 65, 66, 67, 69, 70]) rfl at_XP_readExpression ⟨_, rfl⟩ rfl rfl ⟨trivial, (Or.inr ⟨wy_pr rfl, mS_no rfl⟩), trivial, trivial⟩ trivial (fun _ _ q => q) (hX _ dp u w (i + 1) I F Sq146 (by omega) ⟨by omega, by omega, by omega⟩ ⟨by omega, by omega⟩ hSq146) (fun oq168 Sq168 hp169 q168 => ?_)
        rcases q168 with ⟨i152, I153, F154, t155, rfl, hd156, hc157, hg158, ⟨p159, p160, p161, p162⟩, e163⟩ | ⟨v164, x165, rfl, hd166, hz167⟩
        · skip
          show wJ _ _ _ _ _ _ _ _ _ _
          have hSq168 : cQ T n N X c f u w i152 I153 F154 Sq168 := hc157
          have gSq168 : cQg f (I.length : Int) w S Sq168 := cQg_tr gSq146 (cQg_mo hg158 (by omega) (by omega))
          have krSq168 := kq_rg T n N X i152
          have icSq168 := cQ_ic hSq168
          have tSq168 : Sq168 63 16 = 0 := e163
          have flSq168 := p161.1
          refine wa_fall ⟨_, rfl⟩ ?_
          refine wa_aload_n (n := 0) rfl ?_
          refine wa_bipush (w_rg2 (by omega) (by omega)) ?_
          refine wa_cv 63 rfl (wy_pr rfl) wt_63 (M2 := fun _ => False) rfl at_XP_take ⟨_, rfl⟩ rfl rfl ⟨trivial, (Or.inr ⟨wy_pr rfl, fun q => q⟩), trivial, trivial⟩ trivial (fun _ _ q => False.elim q) (tk_q (S := Sq168) (k := 17) hSq168 ⟨by omega, by omega⟩) (fun oq177 Sq177 hp178 q177 => ?_)
          rcases q177 with ⟨rfl, hk173, hc170, hg171, ht172⟩ | ⟨v174, rfl, hk176, hz175⟩
          · skip
            show wJ _ _ _ _ _ _ _ _ _ _
            have hSq177 : cQ T n N X c f u w (i152 + 1) I153 F154 Sq177 := hc170
            have gSq177 : cQg f (I.length : Int) w S Sq177 := cQg_tr gSq168 (hg171 _ _)
            have krSq177 := kq_rg T n N X (i152 + 1)
            have icSq177 := cQ_ic hSq177
            have tSq177 : Sq177 63 16 = 0 := (ht172.1).trans tSq168
            have dSq177 : pz_tk (kq T n N X) (tp T n 0) 17 i152 I153 F154 = .inr ((i152 + 1), I153, F154, 0) := pz_tk_o hk173
            refine wa_aload_n (n := 0) rfl ?_
            refine wa_iload_n (n := 2) rfl ?_
            refine wa_ifeq (w_rg0 (by omega) (by omega)) ⟨_, rfl⟩ (fun c179 => ?_) (fun c179 => ?_)
            · skip
              exact absurd c179 (by omega)
            · skip
              refine wa_bipush (w_rg2 (by omega) (by omega)) ?_
              refine wa_goto ⟨_, rfl⟩ ?_
              refine wa_iconst ?_
              refine wa_iconst ?_
              refine wa_cv 63 rfl (wy_pr rfl) wt_63 (M2 := mS [64, 65, 66, 67]) rfl at_XP_note ⟨_, rfl⟩ rfl rfl ⟨trivial, (Or.inr ⟨wy_pr rfl, mS_no rfl⟩), trivial, trivial⟩ trivial (fun _ _ q => mS_sub (by decide) q) (nt_q (S := Sq177) (op := 29) (a := 0) (b := 0) (l := I153.length) hSq177 ⟨by omega, by omega⟩ ⟨by omega, by omega⟩ ⟨by omega, by omega⟩ (by omega) (by omega) (by omega)) (fun oq183 Sq183 hp184 q183 => ?_)
              rcases q183 with ⟨rfl, hc180, hg181, ht182⟩
              show wJ _ _ _ _ _ _ _ _ _ _
              have hSq183 : cQ T n N X c f u w (i152 + 1) (I153 ++ [(29, 0, 0, u)]) F154 Sq183 := hc180
              have gSq183 : cQg f (I.length : Int) w S Sq183 := cQg_tr gSq177 (hg181 _ _ (by omega))
              have tSq183 : Sq183 63 16 = 0 := (ht182).trans tSq177
              have hlSq183 : (I153 ++ [(29, 0, 0, u)]).length = I153.length + 1 := List.length_append
              refine wa_pop (by decide) ?_
              refine wa_return rfl ?_
              refine Or.inl ⟨_, _, _, 0, rfl, fun R hR => ?_, hSq183, gSq183, ⟨by omega, by omega, (pz_le_tr pz_le_rfl p161), by omega⟩, trivial⟩
              try dsimp only
              unfold pz_ST45
              repeat first | rw [if_pos (by omega)] | rw [if_neg (by omega)]
              first | refine pz_qo (hd156 R hR) ?_ | exact hd156 R hR
              repeat first | rw [if_pos (by omega)] | rw [if_neg (by omega)]
              first | refine pz_fo dSq177 ?_ | exact dSq177.symm | exact (pz_tk_o hk173).symm | skip
              all_goals repeat first | rw [if_pos (by omega)] | rw [if_neg (by omega)]
              all_goals first | rfl | (exfalso; omega)
          · skip
            refine ⟨rfl, ?_⟩
            refine Or.inr ⟨_, _, rfl, fun R hR => ?_, cQf_of gSq168 (by omega) (by omega) (cQn_of hSq168) hz175⟩
            try dsimp only
            unfold pz_ST45
            repeat first | rw [if_pos (by omega)] | rw [if_neg (by omega)]
            first | refine pz_qo (hd156 R hR) ?_ | exact hd156 R hR
            repeat first | rw [if_pos (by omega)] | rw [if_neg (by omega)]
            first | exact pz_fi (pz_tk_f hk176) | exact (pz_tk_f hk176).symm | (exfalso; omega)
            all_goals repeat first | rw [if_pos (by omega)] | rw [if_neg (by omega)]
            all_goals first | rfl | (exfalso; omega)
        · skip
          refine ⟨rfl, ?_⟩
          refine Or.inr ⟨_, _, rfl, fun R hR => ?_, cQf_tr gSq146 (by omega) (by omega) hz167⟩
          try dsimp only
          unfold pz_ST45
          repeat first | rw [if_pos (by omega)] | rw [if_neg (by omega)]
          first | exact pz_qi (hd166 R hR) | exact hd166 R hR
          all_goals repeat first | rw [if_pos (by omega)] | rw [if_neg (by omega)]
          all_goals first | rfl | (exfalso; omega)
      · skip
        refine wa_aload_n (n := 0) rfl ?_
        refine wa_iconst ?_
        refine wa_iconst ?_
        refine wa_iconst ?_
        refine wa_cv 63 rfl (wy_pr rfl) wt_63 (M2 := mS [64, 65, 66, 67]) rfl at_XP_note ⟨_, rfl⟩ rfl rfl ⟨trivial, (Or.inr ⟨wy_pr rfl, mS_no rfl⟩), trivial, trivial⟩ trivial (fun _ _ q => mS_sub (by decide) q) (nt_q (S := Sq146) (op := 0) (a := 0) (b := 0) (l := I.length) hSq146 ⟨by omega, by omega⟩ ⟨by omega, by omega⟩ ⟨by omega, by omega⟩ (by omega) (by omega) (by omega)) (fun oq188 Sq188 hp189 q188 => ?_)
        rcases q188 with ⟨rfl, hc185, hg186, ht187⟩
        show wJ _ _ _ _ _ _ _ _ _ _
        have hSq188 : cQ T n N X c f u w (i + 1) (I ++ [(0, 0, 0, u)]) F Sq188 := hc185
        have gSq188 : cQg f (I.length : Int) w S Sq188 := cQg_tr gSq146 (hg186 _ _ (by omega))
        have hlSq188 : (I ++ [(0, 0, 0, u)]).length = I.length + 1 := List.length_append
        refine wa_pop (by decide) ?_
        refine wa_goto ⟨_, rfl⟩ ?_
        refine wa_aload_n (n := 0) rfl ?_
        refine wa_bipush (w_rg2 (by omega) (by omega)) ?_
        refine wa_cv 63 rfl (wy_pr rfl) wt_63 (M2 := fun _ => False) rfl at_XP_take ⟨_, rfl⟩ rfl rfl ⟨trivial, (Or.inr ⟨wy_pr rfl, fun q => q⟩), trivial, trivial⟩ trivial (fun _ _ q => False.elim q) (tk_q (S := Sq188) (k := 17) hSq188 ⟨by omega, by omega⟩) (fun oq197 Sq197 hp198 q197 => ?_)
        rcases q197 with ⟨rfl, hk193, hc190, hg191, ht192⟩ | ⟨v194, rfl, hk196, hz195⟩
        · skip
          show wJ _ _ _ _ _ _ _ _ _ _
          have hSq197 : cQ T n N X c f u w (i + 2) (I ++ [(0, 0, 0, u)]) F Sq197 := hc190
          have gSq197 : cQg f (I.length : Int) w S Sq197 := cQg_tr gSq188 (hg191 _ _)
          have krSq197 := kq_rg T n N X (i + 2)
          have icSq197 := cQ_ic hSq197
          have dSq197 : pz_tk (kq T n N X) (tp T n 0) 17 (i + 1) (I ++ [(0, 0, 0, u)]) F = .inr ((i + 2), (I ++ [(0, 0, 0, u)]), F, 0) := pz_tk_o hk193
          refine wa_aload_n (n := 0) rfl ?_
          refine wa_iload_n (n := 2) rfl ?_
          refine wa_ifeq (w_rg0 (by omega) (by omega)) ⟨_, rfl⟩ (fun c199 => ?_) (fun c199 => ?_)
          · skip
            exact absurd c199 (by omega)
          · skip
            refine wa_bipush (w_rg2 (by omega) (by omega)) ?_
            refine wa_goto ⟨_, rfl⟩ ?_
            refine wa_iconst ?_
            refine wa_iconst ?_
            refine wa_cv 63 rfl (wy_pr rfl) wt_63 (M2 := mS [64, 65, 66, 67]) rfl at_XP_note ⟨_, rfl⟩ rfl rfl ⟨trivial, (Or.inr ⟨wy_pr rfl, mS_no rfl⟩), trivial, trivial⟩ trivial (fun _ _ q => mS_sub (by decide) q) (nt_q (S := Sq197) (op := 29) (a := 0) (b := 0) (l := (I.length + 1)) hSq197 ⟨by omega, by omega⟩ ⟨by omega, by omega⟩ ⟨by omega, by omega⟩ (by omega) (by omega) (by omega)) (fun oq203 Sq203 hp204 q203 => ?_)
            rcases q203 with ⟨rfl, hc200, hg201, ht202⟩
            show wJ _ _ _ _ _ _ _ _ _ _
            have hSq203 : cQ T n N X c f u w (i + 2) ((I ++ [(0, 0, 0, u)]) ++ [(29, 0, 0, u)]) F Sq203 := hc200
            have gSq203 : cQg f (I.length : Int) w S Sq203 := cQg_tr gSq197 (hg201 _ _ (by omega))
            have hlSq203 : ((I ++ [(0, 0, 0, u)]) ++ [(29, 0, 0, u)]).length = (I ++ [(0, 0, 0, u)]).length + 1 := List.length_append
            refine wa_pop (by decide) ?_
            refine wa_return rfl ?_
            refine Or.inl ⟨_, _, _, 0, rfl, fun R hR => ?_, hSq203, gSq203, ⟨by omega, by omega, pz_le_rfl, by omega⟩, trivial⟩
            try dsimp only
            unfold pz_ST45
            repeat first | rw [if_pos (by omega)] | rw [if_neg (by omega)]
            first | refine pz_fo dSq197 ?_ | exact dSq197.symm | exact (pz_tk_o hk193).symm | skip
            all_goals repeat first | rw [if_pos (by omega)] | rw [if_neg (by omega)]
            all_goals first | rfl | (exfalso; omega)
        · skip
          refine ⟨rfl, ?_⟩
          refine Or.inr ⟨_, _, rfl, fun R hR => ?_, cQf_of gSq188 (by omega) (by omega) (cQn_of hSq188) hz195⟩
          try dsimp only
          unfold pz_ST45
          repeat first | rw [if_pos (by omega)] | rw [if_neg (by omega)]
          first | exact pz_fi (pz_tk_f hk196) | exact (pz_tk_f hk196).symm | (exfalso; omega)
          all_goals repeat first | rw [if_pos (by omega)] | rw [if_neg (by omega)]
          all_goals first | rfl | (exfalso; omega)
theorem rt_q {D m : Nat} {dp : Int} (hX : cX xs T n N X c f (m)) (hS : cST xs T n N X c f m) (h : cQ T n N X c f u w i I F S) (hm : c - i < m + 1) (hD : 0 ≤ dp ∧ dp ≤ 50 ∧ 10 * (51 - dp) + 22 ≤ (D : Int)) (hI : I.length ≤ 1 * i) (hw : w ≤ 20 * dp) (hk : kq T n N X i = 47) : wJ (pe_GA xs) wY0 (mS [64, 65, 66, 67, 69, 70]) D t_XP_readTry ((pe_at t_XP_readTry.bl 0).getD (0, [])).2 [(0, (2, 63)), (1, (0, dp))] [] S (cR T n N X c f (fun R => pz_ST47 (kq T n N X) (vq T n N X) (tp T n 0) f R i dp u I F) u w i I F 1 (fun _ _ _ => True) S) := by
  have g0 : cQg f (I.length : Int) w S S := cQg_rfl
  have kr0 := kq_rg T n N X i
  have ic0 := cQ_ic h
  have hcn := cQ_cn h
  have hwr := cQ_wr h
  obtain ⟨hu1, hu2⟩ := cQ_ur h
  obtain ⟨D, rfl⟩ : ∃ D2, D = D2 + 16 := ⟨D - 16, by omega⟩
  refine wa_aload_n (n := 0) rfl ?_
  refine wb_gf4 63 rfl (wy_pr rfl) wt_63 wf_1_0 (v := 14) wl_63_0 ?_
  refine wa_cv 14 rfl (wy_pr rfl) wt_14 (M2 := fun _ => False) rfl at_XR_next ⟨_, rfl⟩ rfl rfl ⟨(Or.inr ⟨wy_pr rfl, fun q => q⟩), trivial, trivial⟩ trivial (fun _ _ q => False.elim q) (nx_q (S := S) h ⟨by omega, by omega⟩) (fun oq104 Sq104 hp105 q104 => ?_)
  rcases q104 with ⟨rfl, hc101, hg102, ht103⟩
  show wJ _ _ _ _ _ _ _ _ _ _
  have hSq104 : cQ T n N X c f u w (i + 1) I F Sq104 := hc101
  have gSq104 : cQg f (I.length : Int) w S Sq104 := cQg_tr g0 (hg102 _ _)
  have krSq104 := kq_rg T n N X (i + 1)
  have icSq104 := cQ_ic hSq104
  refine wa_aload_n (n := 0) rfl ?_
  refine wa_bipush (w_rg2 (by omega) (by omega)) ?_
  refine wa_iconst ?_
  refine wa_iconst ?_
  refine wa_cv 63 rfl (wy_pr rfl) wt_63 (M2 := mS [64, 65, 66, 67]) rfl at_XP_note ⟨_, rfl⟩ rfl rfl ⟨(Or.inr ⟨wy_pr rfl, mS_no rfl⟩), trivial, trivial⟩ trivial (fun _ _ q => mS_sub (by decide) q) (nt_q (S := Sq104) (op := 31) (a := 0) (b := 0) (l := I.length) hSq104 ⟨by omega, by omega⟩ ⟨by omega, by omega⟩ ⟨by omega, by omega⟩ (by omega) (by omega) (by omega)) (fun oq109 Sq109 hp110 q109 => ?_)
  rcases q109 with ⟨rfl, hc106, hg107, ht108⟩
  show wJ _ _ _ _ _ _ _ _ _ _
  have hSq109 : cQ T n N X c f u w (i + 1) (I ++ [(31, 0, 0, u)]) F Sq109 := hc106
  have gSq109 : cQg f (I.length : Int) w S Sq109 := cQg_tr gSq104 (hg107 _ _ (by omega))
  have hlSq109 : (I ++ [(31, 0, 0, u)]).length = I.length + 1 := List.length_append
  refine wa_istore_n (n := 2) rfl ?_
  refine wa_aload_n (n := 0) rfl ?_
  refine wa_iload_n (n := 1) rfl ?_
  refine wa_cv 63 rfl (wy_pr rfl) wt_63 (M2 := mS [64, 65, 66, 67, 69, 70]) rfl at_XP_readBlock ⟨_, rfl⟩ rfl rfl ⟨trivial, (Or.inr ⟨wy_pr rfl, mS_no rfl⟩), trivial, trivial⟩ trivial (fun _ _ q => q) (rb_q hX hS hSq109 (by omega) ⟨by omega, by omega, by omega⟩ (by omega) (by omega)) (fun oq127 Sq127 hp128 q127 => ?_)
  rcases q127 with ⟨i111, I112, F113, t114, rfl, hd115, hc116, hg117, ⟨p118, p119, p120, p121⟩, e122⟩ | ⟨v123, x124, rfl, hd125, hz126⟩
  · skip
    show wJ _ _ _ _ _ _ _ _ _ _
    have hSq127 : cQ T n N X c f u w i111 I112 F113 Sq127 := hc116
    have gSq127 : cQg f (I.length : Int) w S Sq127 := cQg_tr gSq109 (cQg_mo hg117 (by omega) (by omega))
    have krSq127 := kq_rg T n N X i111
    have icSq127 := cQ_ic hSq127
    have flSq127 := p120.1
    refine wa_aload_n (n := 0) rfl ?_
    refine wa_bipush (w_rg2 (by omega) (by omega)) ?_
    refine wa_iconst ?_
    refine wa_iconst ?_
    refine wa_cv 63 rfl (wy_pr rfl) wt_63 (M2 := mS [64, 65, 66, 67]) rfl at_XP_note ⟨_, rfl⟩ rfl rfl ⟨trivial, (Or.inr ⟨wy_pr rfl, mS_no rfl⟩), trivial, trivial⟩ trivial (fun _ _ q => mS_sub (by decide) q) (nt_q (S := Sq127) (op := 32) (a := 0) (b := 0) (l := I112.length) hSq127 ⟨by omega, by omega⟩ ⟨by omega, by omega⟩ ⟨by omega, by omega⟩ (by omega) (by omega) (by omega)) (fun oq132 Sq132 hp133 q132 => ?_)
    rcases q132 with ⟨rfl, hc129, hg130, ht131⟩
    show wJ _ _ _ _ _ _ _ _ _ _
    have hSq132 : cQ T n N X c f u w i111 (I112 ++ [(32, 0, 0, u)]) F113 Sq132 := hc129
    have gSq132 : cQg f (I.length : Int) w S Sq132 := cQg_tr gSq127 (hg130 _ _ (by omega))
    have hlSq132 : (I112 ++ [(32, 0, 0, u)]).length = I112.length + 1 := List.length_append
    refine wa_pop (by decide) ?_
    refine wa_aload_n (n := 0) rfl ?_
    refine wa_bipush (w_rg2 (by omega) (by omega)) ?_
    refine wa_iconst ?_
    refine wa_iconst ?_
    refine wa_cv 63 rfl (wy_pr rfl) wt_63 (M2 := mS [64, 65, 66, 67]) rfl at_XP_note ⟨_, rfl⟩ rfl rfl ⟨trivial, (Or.inr ⟨wy_pr rfl, mS_no rfl⟩), trivial, trivial⟩ trivial (fun _ _ q => mS_sub (by decide) q) (nt_q (S := Sq132) (op := 20) (a := 0) (b := 0) (l := (I112.length + 1)) hSq132 ⟨by omega, by omega⟩ ⟨by omega, by omega⟩ ⟨by omega, by omega⟩ (by omega) (by omega) (by omega)) (fun oq137 Sq137 hp138 q137 => ?_)
    rcases q137 with ⟨rfl, hc134, hg135, ht136⟩
    show wJ _ _ _ _ _ _ _ _ _ _
    have hSq137 : cQ T n N X c f u w i111 ((I112 ++ [(32, 0, 0, u)]) ++ [(20, 0, 0, u)]) F113 Sq137 := hc134
    have gSq137 : cQg f (I.length : Int) w S Sq137 := cQg_tr gSq132 (hg135 _ _ (by omega))
    have hlSq137 : ((I112 ++ [(32, 0, 0, u)]) ++ [(20, 0, 0, u)]).length = (I112 ++ [(32, 0, 0, u)]).length + 1 := List.length_append
    refine wa_istore_n (n := 3) rfl ?_
    refine wa_aload_n (n := 0) rfl ?_
    refine wa_iload_n (n := 2) rfl ?_
    refine wa_cv 63 rfl (wy_pr rfl) wt_63 (M2 := fun _ => False) rfl at_XP_aimHere ⟨_, rfl⟩ rfl rfl ⟨trivial, trivial, (Or.inr ⟨wy_pr rfl, fun q => q⟩), trivial, trivial⟩ trivial (fun _ _ q => False.elim q) (am_q (S := Sq137) (j := I.length) hSq137 (by omega)) (fun oq143 Sq143 hp144 q143 => ?_)
    rcases q143 with ⟨rfl, hc139, hg140, ht141, hx142⟩
    show wJ _ _ _ _ _ _ _ _ _ _
    have hSq143 : cQ T n N X c f u w i111 (pz_a ((I112 ++ [(32, 0, 0, u)]) ++ [(20, 0, 0, u)]) I.length (pz_h ((I112 ++ [(32, 0, 0, u)]) ++ [(20, 0, 0, u)]) u)) F113 Sq143 := hc139
    have gSq143 : cQg f (I.length : Int) w S Sq143 := cQg_tr gSq137 (hg140 _ _ (by omega))
    have hlSq143 : (pz_a ((I112 ++ [(32, 0, 0, u)]) ++ [(20, 0, 0, u)]) I.length (pz_h ((I112 ++ [(32, 0, 0, u)]) ++ [(20, 0, 0, u)]) u)).length = ((I112 ++ [(32, 0, 0, u)]) ++ [(20, 0, 0, u)]).length := pz_a_len _ _ _
    refine wa_aload_n (n := 0) rfl ?_
    refine wa_bipush (w_rg2 (by omega) (by omega)) ?_
    refine wa_cv 63 rfl (wy_pr rfl) wt_63 (M2 := fun _ => False) rfl at_XP_take ⟨_, rfl⟩ rfl rfl ⟨trivial, trivial, (Or.inr ⟨wy_pr rfl, fun q => q⟩), trivial, trivial⟩ trivial (fun _ _ q => False.elim q) (tk_q (S := Sq143) (k := 48) hSq143 ⟨by omega, by omega⟩) (fun oq152 Sq152 hp153 q152 => ?_)
    rcases q152 with ⟨rfl, hk148, hc145, hg146, ht147⟩ | ⟨v149, rfl, hk151, hz150⟩
    · skip
      show wJ _ _ _ _ _ _ _ _ _ _
      have hSq152 : cQ T n N X c f u w (i111 + 1) (pz_a ((I112 ++ [(32, 0, 0, u)]) ++ [(20, 0, 0, u)]) I.length (pz_h ((I112 ++ [(32, 0, 0, u)]) ++ [(20, 0, 0, u)]) u)) F113 Sq152 := hc145
      have gSq152 : cQg f (I.length : Int) w S Sq152 := cQg_tr gSq143 (hg146 _ _)
      have krSq152 := kq_rg T n N X (i111 + 1)
      have icSq152 := cQ_ic hSq152
      have dSq152 : pz_tk (kq T n N X) (tp T n 0) 48 i111 (pz_a ((I112 ++ [(32, 0, 0, u)]) ++ [(20, 0, 0, u)]) I.length (pz_h ((I112 ++ [(32, 0, 0, u)]) ++ [(20, 0, 0, u)]) u)) F113 = .inr ((i111 + 1), (pz_a ((I112 ++ [(32, 0, 0, u)]) ++ [(20, 0, 0, u)]) I.length (pz_h ((I112 ++ [(32, 0, 0, u)]) ++ [(20, 0, 0, u)]) u)), F113, 0) := pz_tk_o hk148
      refine wa_aload_n (n := 0) rfl ?_
      refine wa_bipush (w_rg2 (by omega) (by omega)) ?_
      refine wa_iload_n (n := 1) rfl ?_
      refine wa_cv 63 rfl (wy_pr rfl) wt_63 (M2 := fun _ => False) rfl at_XP_open ⟨_, rfl⟩ rfl rfl ⟨trivial, trivial, (Or.inr ⟨wy_pr rfl, fun q => q⟩), trivial, trivial⟩ trivial (fun _ _ q => False.elim q) (op_q (S := Sq152) (k := 10) (dp := dp) hSq152 ⟨by omega, by omega⟩ ⟨by omega, by omega⟩) (fun oq164 Sq164 hp165 q164 => ?_)
      rcases q164 with ⟨rfl, hk157, hc154, hg155, ht156⟩ | ⟨v158, rfl, hk160, hz159⟩ | ⟨v161, rfl, hk163, hz162⟩
      · skip
        show wJ _ _ _ _ _ _ _ _ _ _
        have hSq164 : cQ T n N X c f u w (i111 + 2) (pz_a ((I112 ++ [(32, 0, 0, u)]) ++ [(20, 0, 0, u)]) I.length (pz_h ((I112 ++ [(32, 0, 0, u)]) ++ [(20, 0, 0, u)]) u)) F113 Sq164 := hc154
        have gSq164 : cQg f (I.length : Int) w S Sq164 := cQg_tr gSq152 (hg155 _ _)
        have krSq164 := kq_rg T n N X (i111 + 2)
        have icSq164 := cQ_ic hSq164
        have dSq164 : pz_op (kq T n N X) (tp T n 0) 10 dp (i111 + 1) (pz_a ((I112 ++ [(32, 0, 0, u)]) ++ [(20, 0, 0, u)]) I.length (pz_h ((I112 ++ [(32, 0, 0, u)]) ++ [(20, 0, 0, u)]) u)) F113 = .inr ((i111 + 2), (pz_a ((I112 ++ [(32, 0, 0, u)]) ++ [(20, 0, 0, u)]) I.length (pz_h ((I112 ++ [(32, 0, 0, u)]) ++ [(20, 0, 0, u)]) u)), F113, 0) := pz_op_o hk157
        refine wa_aload_n (n := 0) rfl ?_
        refine wa_iconst ?_
        refine wa_aload_n (n := 0) rfl ?_
        refine wa_cv 63 rfl (wy_pr rfl) wt_63 (M2 := mS [69, 70]) rfl at_XP_takeVariable ⟨_, rfl⟩ rfl rfl ⟨trivial, trivial, (Or.inr ⟨wy_pr rfl, mS_no rfl⟩), trivial, trivial⟩ ⟨trivial, (Or.inr ⟨wy_pr rfl, mS_no rfl⟩), trivial⟩ (fun _ _ q => mS_sub (by decide) q) (tv_q (S := Sq164) hSq164) (fun oq177 Sq177 hp178 q177 => ?_)
        rcases q177 with ⟨F166, rfl, hd170, hk171, hc167, hg168, le172, ht169⟩ | ⟨v173, x174, rfl, hd176, hz175⟩
        · skip
          show wJ _ _ _ _ _ _ _ _ _ _
          have hSq177 : cQ T n N X c f u w (i111 + 3) (pz_a ((I112 ++ [(32, 0, 0, u)]) ++ [(20, 0, 0, u)]) I.length (pz_h ((I112 ++ [(32, 0, 0, u)]) ++ [(20, 0, 0, u)]) u)) F166 Sq177 := hc167
          have gSq177 : cQg f (I.length : Int) w S Sq177 := cQg_tr gSq164 (hg168 _ _)
          have krSq177 := kq_rg T n N X (i111 + 3)
          have icSq177 := cQ_ic hSq177
          have dSq177 : pz_dc (kq T n N X) (vq T n N X) (tp T n 0) f (i111 + 2) u (pz_a ((I112 ++ [(32, 0, 0, u)]) ++ [(20, 0, 0, u)]) I.length (pz_h ((I112 ++ [(32, 0, 0, u)]) ++ [(20, 0, 0, u)]) u)) F113 = .inr ((i111 + 3), (pz_a ((I112 ++ [(32, 0, 0, u)]) ++ [(20, 0, 0, u)]) I.length (pz_h ((I112 ++ [(32, 0, 0, u)]) ++ [(20, 0, 0, u)]) u)), F166, (vq T n N X (i111 + 2))) := hd170
          have flSq177 := le172.1
          refine wa_iconst ?_
          refine wa_cv 63 rfl (wy_pr rfl) wt_63 (M2 := mS [64, 65, 66, 67]) rfl at_XP_note ⟨_, rfl⟩ rfl rfl ⟨trivial, trivial, (Or.inr ⟨wy_pr rfl, mS_no rfl⟩), trivial, trivial⟩ trivial (fun _ _ q => mS_sub (by decide) q) (nt_q (S := Sq177) (op := 4) (a := (vq T n N X (i111 + 2))) (b := 0) (l := (I112.length + 2)) hSq177 ⟨by omega, by omega⟩ ⟨by omega, by omega⟩ ⟨by omega, by omega⟩ (by omega) (by omega) (by omega)) (fun oq182 Sq182 hp183 q182 => ?_)
          rcases q182 with ⟨rfl, hc179, hg180, ht181⟩
          show wJ _ _ _ _ _ _ _ _ _ _
          have hSq182 : cQ T n N X c f u w (i111 + 3) ((pz_a ((I112 ++ [(32, 0, 0, u)]) ++ [(20, 0, 0, u)]) I.length (pz_h ((I112 ++ [(32, 0, 0, u)]) ++ [(20, 0, 0, u)]) u)) ++ [(4, (vq T n N X (i111 + 2)), 0, u)]) F166 Sq182 := hc179
          have gSq182 : cQg f (I.length : Int) w S Sq182 := cQg_tr gSq177 (hg180 _ _ (by omega))
          have hlSq182 : ((pz_a ((I112 ++ [(32, 0, 0, u)]) ++ [(20, 0, 0, u)]) I.length (pz_h ((I112 ++ [(32, 0, 0, u)]) ++ [(20, 0, 0, u)]) u)) ++ [(4, (vq T n N X (i111 + 2)), 0, u)]).length = (pz_a ((I112 ++ [(32, 0, 0, u)]) ++ [(20, 0, 0, u)]) I.length (pz_h ((I112 ++ [(32, 0, 0, u)]) ++ [(20, 0, 0, u)]) u)).length + 1 := List.length_append
          refine wa_pop (by decide) ?_
          refine wa_aload_n (n := 0) rfl ?_
          refine wa_iconst ?_
          refine wa_iconst ?_
          refine wa_iconst ?_
          refine wa_cv 63 rfl (wy_pr rfl) wt_63 (M2 := mS [64, 65, 66, 67]) rfl at_XP_note ⟨_, rfl⟩ rfl rfl ⟨trivial, trivial, (Or.inr ⟨wy_pr rfl, mS_no rfl⟩), trivial, trivial⟩ trivial (fun _ _ q => mS_sub (by decide) q) (nt_q (S := Sq182) (op := 5) (a := 0) (b := 0) (l := (I112.length + 3)) hSq182 ⟨by omega, by omega⟩ ⟨by omega, by omega⟩ ⟨by omega, by omega⟩ (by omega) (by omega) (by omega)) (fun oq187 Sq187 hp188 q187 => ?_)
          rcases q187 with ⟨rfl, hc184, hg185, ht186⟩
          show wJ _ _ _ _ _ _ _ _ _ _
          have hSq187 : cQ T n N X c f u w (i111 + 3) (((pz_a ((I112 ++ [(32, 0, 0, u)]) ++ [(20, 0, 0, u)]) I.length (pz_h ((I112 ++ [(32, 0, 0, u)]) ++ [(20, 0, 0, u)]) u)) ++ [(4, (vq T n N X (i111 + 2)), 0, u)]) ++ [(5, 0, 0, u)]) F166 Sq187 := hc184
          have gSq187 : cQg f (I.length : Int) w S Sq187 := cQg_tr gSq182 (hg185 _ _ (by omega))
          have hlSq187 : (((pz_a ((I112 ++ [(32, 0, 0, u)]) ++ [(20, 0, 0, u)]) I.length (pz_h ((I112 ++ [(32, 0, 0, u)]) ++ [(20, 0, 0, u)]) u)) ++ [(4, (vq T n N X (i111 + 2)), 0, u)]) ++ [(5, 0, 0, u)]).length = ((pz_a ((I112 ++ [(32, 0, 0, u)]) ++ [(20, 0, 0, u)]) I.length (pz_h ((I112 ++ [(32, 0, 0, u)]) ++ [(20, 0, 0, u)]) u)) ++ [(4, (vq T n N X (i111 + 2)), 0, u)]).length + 1 := List.length_append
          refine wa_pop (by decide) ?_
          refine wa_aload_n (n := 0) rfl ?_
          refine wa_bipush (w_rg2 (by omega) (by omega)) ?_
          refine wa_cv 63 rfl (wy_pr rfl) wt_63 (M2 := fun _ => False) rfl at_XP_take ⟨_, rfl⟩ rfl rfl ⟨trivial, trivial, (Or.inr ⟨wy_pr rfl, fun q => q⟩), trivial, trivial⟩ trivial (fun _ _ q => False.elim q) (tk_q (S := Sq187) (k := 11) hSq187 ⟨by omega, by omega⟩) (fun oq196 Sq196 hp197 q196 => ?_)
          rcases q196 with ⟨rfl, hk192, hc189, hg190, ht191⟩ | ⟨v193, rfl, hk195, hz194⟩
          · skip
            show wJ _ _ _ _ _ _ _ _ _ _
            have hSq196 : cQ T n N X c f u w (i111 + 4) (((pz_a ((I112 ++ [(32, 0, 0, u)]) ++ [(20, 0, 0, u)]) I.length (pz_h ((I112 ++ [(32, 0, 0, u)]) ++ [(20, 0, 0, u)]) u)) ++ [(4, (vq T n N X (i111 + 2)), 0, u)]) ++ [(5, 0, 0, u)]) F166 Sq196 := hc189
            have gSq196 : cQg f (I.length : Int) w S Sq196 := cQg_tr gSq187 (hg190 _ _)
            have krSq196 := kq_rg T n N X (i111 + 4)
            have icSq196 := cQ_ic hSq196
            have dSq196 : pz_tk (kq T n N X) (tp T n 0) 11 (i111 + 3) (((pz_a ((I112 ++ [(32, 0, 0, u)]) ++ [(20, 0, 0, u)]) I.length (pz_h ((I112 ++ [(32, 0, 0, u)]) ++ [(20, 0, 0, u)]) u)) ++ [(4, (vq T n N X (i111 + 2)), 0, u)]) ++ [(5, 0, 0, u)]) F166 = .inr ((i111 + 4), (((pz_a ((I112 ++ [(32, 0, 0, u)]) ++ [(20, 0, 0, u)]) I.length (pz_h ((I112 ++ [(32, 0, 0, u)]) ++ [(20, 0, 0, u)]) u)) ++ [(4, (vq T n N X (i111 + 2)), 0, u)]) ++ [(5, 0, 0, u)]), F166, 0) := pz_tk_o hk192
            refine wa_aload_n (n := 0) rfl ?_
            refine wa_iload_n (n := 1) rfl ?_
            refine wa_cv 63 rfl (wy_pr rfl) wt_63 (M2 := mS [64, 65, 66, 67, 69, 70]) rfl at_XP_readBlock ⟨_, rfl⟩ rfl rfl ⟨trivial, trivial, (Or.inr ⟨wy_pr rfl, mS_no rfl⟩), trivial, trivial⟩ trivial (fun _ _ q => q) (rb_q hX hS hSq196 (by omega) ⟨by omega, by omega, by omega⟩ (by omega) (by omega)) (fun oq214 Sq214 hp215 q214 => ?_)
            rcases q214 with ⟨i198, I199, F200, t201, rfl, hd202, hc203, hg204, ⟨p205, p206, p207, p208⟩, e209⟩ | ⟨v210, x211, rfl, hd212, hz213⟩
            · skip
              show wJ _ _ _ _ _ _ _ _ _ _
              have hSq214 : cQ T n N X c f u w i198 I199 F200 Sq214 := hc203
              have gSq214 : cQg f (I.length : Int) w S Sq214 := cQg_tr gSq196 (cQg_mo hg204 (by omega) (by omega))
              have krSq214 := kq_rg T n N X i198
              have icSq214 := cQ_ic hSq214
              have flSq214 := p207.1
              refine wa_aload_n (n := 0) rfl ?_
              refine wa_iload_n (n := 3) rfl ?_
              refine wa_cv 63 rfl (wy_pr rfl) wt_63 (M2 := fun _ => False) rfl at_XP_aimHere ⟨_, rfl⟩ rfl rfl ⟨trivial, trivial, (Or.inr ⟨wy_pr rfl, fun q => q⟩), trivial, trivial⟩ trivial (fun _ _ q => False.elim q) (am_q (S := Sq214) (j := (I112.length + 1)) hSq214 (by omega)) (fun oq220 Sq220 hp221 q220 => ?_)
              rcases q220 with ⟨rfl, hc216, hg217, ht218, hx219⟩
              show wJ _ _ _ _ _ _ _ _ _ _
              have hSq220 : cQ T n N X c f u w i198 (pz_a I199 (I112.length + 1) (pz_h I199 u)) F200 Sq220 := hc216
              have gSq220 : cQg f (I.length : Int) w S Sq220 := cQg_tr gSq214 (hg217 _ _ (by omega))
              have hlSq220 : (pz_a I199 (I112.length + 1) (pz_h I199 u)).length = I199.length := pz_a_len _ _ _
              refine wa_return rfl ?_
              refine Or.inl ⟨_, _, _, 0, rfl, fun R hR => ?_, hSq220, gSq220, ⟨by omega, by omega, (pz_le_tr (pz_le_tr (pz_le_tr pz_le_rfl p120) le172) p207), by omega⟩, trivial⟩
              try dsimp only
              unfold pz_ST47
              repeat first | rw [if_pos (by omega)] | rw [if_neg (by omega)]
              first | refine pz_qo (hd115 R hR) ?_ | exact hd115 R hR
              repeat first | rw [if_pos (by omega)] | rw [if_neg (by omega)]
              first | refine pz_fo dSq152 ?_ | exact dSq152.symm | exact (pz_tk_o hk148).symm | skip
              repeat first | rw [if_pos (by omega)] | rw [if_neg (by omega)]
              first | refine pz_fo dSq164 ?_ | exact dSq164.symm | skip
              repeat first | rw [if_pos (by omega)] | rw [if_neg (by omega)]
              first | refine pz_fo dSq177 ?_ | exact dSq177.symm | skip
              repeat first | rw [if_pos (by omega)] | rw [if_neg (by omega)]
              first | refine pz_fo dSq196 ?_ | exact dSq196.symm | exact (pz_tk_o hk192).symm | skip
              repeat first | rw [if_pos (by omega)] | rw [if_neg (by omega)]
              first | refine pz_qo (hd202 R hR) ?_ | exact hd202 R hR
              all_goals repeat first | rw [if_pos (by omega)] | rw [if_neg (by omega)]
              all_goals first | rfl | (exfalso; omega)
            · skip
              refine ⟨rfl, ?_⟩
              refine Or.inr ⟨_, _, rfl, fun R hR => ?_, cQf_tr gSq196 (by omega) (by omega) hz213⟩
              try dsimp only
              unfold pz_ST47
              repeat first | rw [if_pos (by omega)] | rw [if_neg (by omega)]
              first | refine pz_qo (hd115 R hR) ?_ | exact hd115 R hR
              repeat first | rw [if_pos (by omega)] | rw [if_neg (by omega)]
              first | refine pz_fo dSq152 ?_ | exact dSq152.symm | exact (pz_tk_o hk148).symm | skip
              repeat first | rw [if_pos (by omega)] | rw [if_neg (by omega)]
              first | refine pz_fo dSq164 ?_ | exact dSq164.symm | skip
              repeat first | rw [if_pos (by omega)] | rw [if_neg (by omega)]
              first | refine pz_fo dSq177 ?_ | exact dSq177.symm | skip
              repeat first | rw [if_pos (by omega)] | rw [if_neg (by omega)]
              first | refine pz_fo dSq196 ?_ | exact dSq196.symm | exact (pz_tk_o hk192).symm | skip
              repeat first | rw [if_pos (by omega)] | rw [if_neg (by omega)]
              first | exact pz_qi (hd212 R hR) | exact hd212 R hR
              all_goals repeat first | rw [if_pos (by omega)] | rw [if_neg (by omega)]
              all_goals first | rfl | (exfalso; omega)
          · skip
            refine ⟨rfl, ?_⟩
            refine Or.inr ⟨_, _, rfl, fun R hR => ?_, cQf_of gSq187 (by omega) (by omega) (cQn_of hSq187) hz194⟩
            try dsimp only
            unfold pz_ST47
            repeat first | rw [if_pos (by omega)] | rw [if_neg (by omega)]
            first | refine pz_qo (hd115 R hR) ?_ | exact hd115 R hR
            repeat first | rw [if_pos (by omega)] | rw [if_neg (by omega)]
            first | refine pz_fo dSq152 ?_ | exact dSq152.symm | exact (pz_tk_o hk148).symm | skip
            repeat first | rw [if_pos (by omega)] | rw [if_neg (by omega)]
            first | refine pz_fo dSq164 ?_ | exact dSq164.symm | skip
            repeat first | rw [if_pos (by omega)] | rw [if_neg (by omega)]
            first | refine pz_fo dSq177 ?_ | exact dSq177.symm | skip
            repeat first | rw [if_pos (by omega)] | rw [if_neg (by omega)]
            first | exact pz_fi (pz_tk_f hk195) | exact (pz_tk_f hk195).symm | (exfalso; omega)
            all_goals repeat first | rw [if_pos (by omega)] | rw [if_neg (by omega)]
            all_goals first | rfl | (exfalso; omega)
        · skip
          refine ⟨rfl, ?_⟩
          refine Or.inr ⟨_, _, rfl, fun R hR => ?_, cQf_tr gSq164 (by omega) (by omega) hz175⟩
          try dsimp only
          unfold pz_ST47
          repeat first | rw [if_pos (by omega)] | rw [if_neg (by omega)]
          first | refine pz_qo (hd115 R hR) ?_ | exact hd115 R hR
          repeat first | rw [if_pos (by omega)] | rw [if_neg (by omega)]
          first | refine pz_fo dSq152 ?_ | exact dSq152.symm | exact (pz_tk_o hk148).symm | skip
          repeat first | rw [if_pos (by omega)] | rw [if_neg (by omega)]
          first | refine pz_fo dSq164 ?_ | exact dSq164.symm | skip
          repeat first | rw [if_pos (by omega)] | rw [if_neg (by omega)]
          first | exact pz_fi hd176 | exact hd176.symm
          all_goals repeat first | rw [if_pos (by omega)] | rw [if_neg (by omega)]
          all_goals first | rfl | (exfalso; omega)
      · skip
        refine ⟨rfl, ?_⟩
        refine Or.inr ⟨_, _, rfl, fun R hR => ?_, cQf_of gSq152 (by omega) (by omega) (cQn_of hSq152) hz159⟩
        try dsimp only
        unfold pz_ST47
        repeat first | rw [if_pos (by omega)] | rw [if_neg (by omega)]
        first | refine pz_qo (hd115 R hR) ?_ | exact hd115 R hR
        repeat first | rw [if_pos (by omega)] | rw [if_neg (by omega)]
        first | refine pz_fo dSq152 ?_ | exact dSq152.symm | exact (pz_tk_o hk148).symm | skip
        repeat first | rw [if_pos (by omega)] | rw [if_neg (by omega)]
        first | exact pz_fi (pz_op_1 hk160) | exact (pz_op_1 hk160).symm | (exfalso; omega)
        all_goals repeat first | rw [if_pos (by omega)] | rw [if_neg (by omega)]
        all_goals first | rfl | (exfalso; omega)
      · skip
        refine ⟨rfl, ?_⟩
        refine Or.inr ⟨_, _, rfl, fun R hR => ?_, cQf_of gSq152 (by omega) (by omega) (cQn_of hSq152) hz162⟩
        try dsimp only
        unfold pz_ST47
        repeat first | rw [if_pos (by omega)] | rw [if_neg (by omega)]
        first | refine pz_qo (hd115 R hR) ?_ | exact hd115 R hR
        repeat first | rw [if_pos (by omega)] | rw [if_neg (by omega)]
        first | refine pz_fo dSq152 ?_ | exact dSq152.symm | exact (pz_tk_o hk148).symm | skip
        repeat first | rw [if_pos (by omega)] | rw [if_neg (by omega)]
        first | exact pz_fi (pz_op_4 hk163) | exact (pz_op_4 hk163).symm | rfl
        all_goals repeat first | rw [if_pos (by omega)] | rw [if_neg (by omega)]
        all_goals first | rfl | (exfalso; omega)
    · skip
      refine ⟨rfl, ?_⟩
      refine Or.inr ⟨_, _, rfl, fun R hR => ?_, cQf_of gSq143 (by omega) (by omega) (cQn_of hSq143) hz150⟩
      try dsimp only
      unfold pz_ST47
      repeat first | rw [if_pos (by omega)] | rw [if_neg (by omega)]
      first | refine pz_qo (hd115 R hR) ?_ | exact hd115 R hR
      repeat first | rw [if_pos (by omega)] | rw [if_neg (by omega)]
      first | exact pz_fi (pz_tk_f hk151) | exact (pz_tk_f hk151).symm | (exfalso; omega)
      all_goals repeat first | rw [if_pos (by omega)] | rw [if_neg (by omega)]
      all_goals first | rfl | (exfalso; omega)
  · skip
    refine ⟨rfl, ?_⟩
    refine Or.inr ⟨_, _, rfl, fun R hR => ?_, cQf_tr gSq109 (by omega) (by omega) hz126⟩
    try dsimp only
    unfold pz_ST47
    repeat first | rw [if_pos (by omega)] | rw [if_neg (by omega)]
    first | exact pz_qi (hd125 R hR) | exact hd125 R hR
    all_goals repeat first | rw [if_pos (by omega)] | rw [if_neg (by omega)]
    all_goals first | rfl | (exfalso; omega)
theorem rp_q {D m : Nat} {dp : Int} (hX : cX xs T n N X c f (m + 1)) (hS : cST xs T n N X c f m) (h : cQ T n N X c f u w i I F S) (hm : c - i < m + 1) (hD : 0 ≤ dp ∧ dp ≤ 50 ∧ 10 * (51 - dp) + 22 ≤ (D : Int)) (hI : I.length ≤ 1 * i) (hw : w ≤ 20 * dp) : wJ (pe_GA xs) wY0 (mS [64, 65, 66, 67, 69, 70]) D t_XP_readPlain ((pe_at t_XP_readPlain.bl 0).getD (0, [])).2 [(0, (2, 63)), (1, (0, dp))] [] S (cR T n N X c f (fun R => pz_STe (kq T n N X) (tp T n 0) R i dp u I F) u w i I F 1 (fun _ _ _ => True) S) := by
  have g0 : cQg f (I.length : Int) w S S := cQg_rfl
  have kr0 := kq_rg T n N X i
  have ic0 := cQ_ic h
  have hcn := cQ_cn h
  have hwr := cQ_wr h
  obtain ⟨hu1, hu2⟩ := cQ_ur h
  obtain ⟨D, rfl⟩ : ∃ D2, D = D2 + 16 := ⟨D - 16, by omega⟩
  refine wa_aload_n (n := 0) rfl ?_
  refine wb_gf4 63 rfl (wy_pr rfl) wt_63 wf_1_0 (v := 14) wl_63_0 ?_
  refine wa_cv 14 rfl (wy_pr rfl) wt_14 (M2 := fun _ => False) rfl at_XR_kind ⟨_, rfl⟩ rfl rfl ⟨(Or.inr ⟨wy_pr rfl, fun q => q⟩), trivial, trivial⟩ trivial (fun _ _ q => False.elim q) (kd_q (S := S) h) (fun oq101 Sq101 hp102 q101 => ?_)
  rcases q101 with ⟨rfl, rfl⟩
  show wJ _ _ _ _ _ _ _ _ _ _
  refine wa_bipush (w_rg2 (by omega) (by omega)) ?_
  refine wa_icmpne (w_rg0 (by omega) (by omega)) (w_rg0 (by omega) (by omega)) ⟨_, rfl⟩ (fun c103 => ?_) (fun c103 => ?_)
  · skip
    refine wa_aload_n (n := 0) rfl ?_
    refine wa_iload_n (n := 1) rfl ?_
    refine wa_cv 63 rfl (wy_pr rfl) wt_63 (M2 := mS [64, 65, 66, 67, 69, 70]) rfl at_XP_readExpression ⟨_, rfl⟩ rfl rfl ⟨(Or.inr ⟨wy_pr rfl, mS_no rfl⟩), trivial, trivial⟩ trivial (fun _ _ q => q) (hX _ dp u w i I F S (by omega) ⟨by omega, by omega, by omega⟩ ⟨by omega, by omega⟩ h) (fun oq120 Sq120 hp121 q120 => ?_)
    rcases q120 with ⟨i104, I105, F106, t107, rfl, hd108, hc109, hg110, ⟨p111, p112, p113, p114⟩, e115⟩ | ⟨v116, x117, rfl, hd118, hz119⟩
    · skip
      show wJ _ _ _ _ _ _ _ _ _ _
      have hSq120 : cQ T n N X c f u w i104 I105 F106 Sq120 := hc109
      have gSq120 : cQg f (I.length : Int) w S Sq120 := cQg_tr g0 (cQg_mo hg110 (by omega) (by omega))
      have krSq120 := kq_rg T n N X i104
      have icSq120 := cQ_ic hSq120
      have tSq120 : Sq120 63 16 = 0 := e115
      have flSq120 := p113.1
      refine wa_aload_n (n := 0) rfl ?_
      refine wa_bipush (w_rg2 (by omega) (by omega)) ?_
      refine wa_cv 63 rfl (wy_pr rfl) wt_63 (M2 := fun _ => False) rfl at_XP_take ⟨_, rfl⟩ rfl rfl ⟨(Or.inr ⟨wy_pr rfl, fun q => q⟩), trivial, trivial⟩ trivial (fun _ _ q => False.elim q) (tk_q (S := Sq120) (k := 17) hSq120 ⟨by omega, by omega⟩) (fun oq129 Sq129 hp130 q129 => ?_)
      rcases q129 with ⟨rfl, hk125, hc122, hg123, ht124⟩ | ⟨v126, rfl, hk128, hz127⟩
      · skip
        show wJ _ _ _ _ _ _ _ _ _ _
        have hSq129 : cQ T n N X c f u w (i104 + 1) I105 F106 Sq129 := hc122
        have gSq129 : cQg f (I.length : Int) w S Sq129 := cQg_tr gSq120 (hg123 _ _)
        have krSq129 := kq_rg T n N X (i104 + 1)
        have icSq129 := cQ_ic hSq129
        have tSq129 : Sq129 63 16 = 0 := (ht124.1).trans tSq120
        have dSq129 : pz_tk (kq T n N X) (tp T n 0) 17 i104 I105 F106 = .inr ((i104 + 1), I105, F106, 0) := pz_tk_o hk125
        refine wa_aload_n (n := 0) rfl ?_
        refine wa_iconst ?_
        refine wa_iconst ?_
        refine wa_iconst ?_
        refine wa_cv 63 rfl (wy_pr rfl) wt_63 (M2 := mS [64, 65, 66, 67]) rfl at_XP_note ⟨_, rfl⟩ rfl rfl ⟨(Or.inr ⟨wy_pr rfl, mS_no rfl⟩), trivial, trivial⟩ trivial (fun _ _ q => mS_sub (by decide) q) (nt_q (S := Sq129) (op := 5) (a := 0) (b := 0) (l := I105.length) hSq129 ⟨by omega, by omega⟩ ⟨by omega, by omega⟩ ⟨by omega, by omega⟩ (by omega) (by omega) (by omega)) (fun oq134 Sq134 hp135 q134 => ?_)
        rcases q134 with ⟨rfl, hc131, hg132, ht133⟩
        show wJ _ _ _ _ _ _ _ _ _ _
        have hSq134 : cQ T n N X c f u w (i104 + 1) (I105 ++ [(5, 0, 0, u)]) F106 Sq134 := hc131
        have gSq134 : cQg f (I.length : Int) w S Sq134 := cQg_tr gSq129 (hg132 _ _ (by omega))
        have tSq134 : Sq134 63 16 = 0 := (ht133).trans tSq129
        have hlSq134 : (I105 ++ [(5, 0, 0, u)]).length = I105.length + 1 := List.length_append
        refine wa_pop (by decide) ?_
        refine wa_return rfl ?_
        refine Or.inl ⟨_, _, _, 0, rfl, fun R hR => ?_, hSq134, gSq134, ⟨by omega, by omega, (pz_le_tr pz_le_rfl p113), by omega⟩, trivial⟩
        try dsimp only
        unfold pz_STe
        repeat first | rw [if_pos (by omega)] | rw [if_neg (by omega)]
        first | refine pz_qo (hd108 R hR) ?_ | exact hd108 R hR
        repeat first | rw [if_pos (by omega)] | rw [if_neg (by omega)]
        first | refine pz_fo dSq129 ?_ | exact dSq129.symm | exact (pz_tk_o hk125).symm | skip
        all_goals repeat first | rw [if_pos (by omega)] | rw [if_neg (by omega)]
        all_goals first | rfl | (exfalso; omega)
      · skip
        refine ⟨rfl, ?_⟩
        refine Or.inr ⟨_, _, rfl, fun R hR => ?_, cQf_of gSq120 (by omega) (by omega) (cQn_of hSq120) hz127⟩
        try dsimp only
        unfold pz_STe
        repeat first | rw [if_pos (by omega)] | rw [if_neg (by omega)]
        first | refine pz_qo (hd108 R hR) ?_ | exact hd108 R hR
        repeat first | rw [if_pos (by omega)] | rw [if_neg (by omega)]
        first | exact pz_fi (pz_tk_f hk128) | exact (pz_tk_f hk128).symm | (exfalso; omega)
        all_goals repeat first | rw [if_pos (by omega)] | rw [if_neg (by omega)]
        all_goals first | rfl | (exfalso; omega)
    · skip
      refine ⟨rfl, ?_⟩
      refine Or.inr ⟨_, _, rfl, fun R hR => ?_, cQf_tr g0 (by omega) (by omega) hz119⟩
      try dsimp only
      unfold pz_STe
      repeat first | rw [if_pos (by omega)] | rw [if_neg (by omega)]
      first | exact pz_qi (hd118 R hR) | exact hd118 R hR
      all_goals repeat first | rw [if_pos (by omega)] | rw [if_neg (by omega)]
      all_goals first | rfl | (exfalso; omega)
  · skip
    refine wa_aload_n (n := 0) rfl ?_
    refine wa_iconst ?_
    refine wa_cv 63 rfl (wy_pr rfl) wt_63 (M2 := fun _ => False) rfl at_XP_refuse ⟨_, rfl⟩ rfl rfl ⟨(Or.inr ⟨wy_pr rfl, fun q => q⟩), trivial, trivial⟩ trivial (fun _ _ q => False.elim q) (rf_q (S := S) (k := 1) h ⟨by omega, by omega⟩) (fun oq138 Sq138 hp139 q138 => ?_)
    rcases q138 with ⟨v136, rfl, hz137⟩
    refine ⟨rfl, ?_⟩
    refine Or.inr ⟨_, _, rfl, fun R hR => ?_, cQf_of g0 (by omega) (by omega) (cQn_of h) hz137⟩
    try dsimp only
    unfold pz_STe
    repeat first | rw [if_pos (by omega)] | rw [if_neg (by omega)]
    rfl
    all_goals repeat first | rw [if_pos (by omega)] | rw [if_neg (by omega)]
    all_goals first | rfl | (exfalso; omega)
end Wba
