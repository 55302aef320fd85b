/-! PART cl: the reference's functions. -/
section Wcl
variable {xs : List (Nat × List Int32)} {M : Nat → Prop} {d : Nat} {A B C S Z S0 : wS} {Q : wO → wS → Prop} {T : Int → Int} {n f0 u dp b0 b1 : Int} {N X : List (List Int)} {c i k pm : Nat} {I : List pz_I} {F : List pz_F} {o : pz_O}
variable {PA : Nat → Int} {R : pz_R} {K V P : Nat → Int} {x y v f g s : Int} {J : List Int} {D : Nat} {t : Int} {p p2 : pz_O → Prop} {kk : Nat → List pz_I → List pz_F → Int → pz_O → Prop}
theorem pA_ap (F : List pz_F) (a : Int) : pA (F ++ [(a, 0, [])]) = pA F := by
  funext j
  unfold pA
  by_cases hj : j < F.length
  · rw [gD_l hj]
  · by_cases e : j = F.length
    · rw [e, gD_r, gD_n (Nat.le_refl _)]
    · rw [gD_n (by rw [List.length_append]; show F.length + 1 ≤ j; omega), gD_n (by omega)]
theorem bpw (h : rQ T n N X f0 b0 b1 S0 u dp i I F (pA F) S) (hl : f0 + (F.length : Int) < 400) : wJ (pe_GA xs) wY0 M (d + 3) t_M_beginsPart ((pe_at t_M_beginsPart.bl 0).getD (0, [])).2 [(0, (2, 237))] [] S (fun q Z => q = .inl (some (0, (F.length : Int))) ∧ rQ T n N X f0 b0 b1 S0 u dp i I (F ++ [(u, 0, [])]) (pA (F ++ [(u, 0, [])])) Z) := by
  obtain ⟨h1, ⟨h2, h3⟩, ⟨v1, v2, v3, v4⟩, h5, pm, ⟨⟨c1, c2⟩, c3, c4, c5, c6, c7⟩, h7, r1, r2⟩ := h
  have hl1 : (F ++ [((u, 0, []) : pz_F)]).length = F.length + 1 := List.length_append
  have hwg : wG = 1000000 := rfl
  refine wJ_mono (bp_r (a := u) (cur := u - f0) h7 c4 c5 c1 (by omega) (fun x hx => by have := v3 x hx; omega) ?_ ?_) (fun q Z hz => ?_)
  · unfold pA; rw [gD_n (Nat.le_refl _)]
  · unfold aro; rw [if_neg (by omega), if_neg (by omega)]
  · obtain ⟨q1, pm2, hB, e26, e25, fr, e286, rm1, rm2⟩ := hz
    have el : ∀ (j : Nat) (y : Int), ((y = -1 ∧ j < 400) ∨ j = 239 ∨ j = 240 ∨ (281 ≤ j ∧ j ≤ 285) ∨ (j = 237 ∧ y ≤ 20)) → Z j y = S j y := fun j y hj => by
      by_cases e : j = 286
      · subst e
        obtain rfl : y = -1 := by omega
        exact e286
      · exact fr j y (by omega) (by omega) e (by omega)
    have e237 : ∀ y : Int, y ≠ 25 → y ≠ 26 → Z 237 y = S 237 y := fun y y1 y2 => fr 237 y (by decide) (by decide) (by decide) (Or.inr ⟨y1, y2⟩)
    rw [pA_ap]
    refine ⟨q1, rL_ag h1 el, ⟨mN_ag h2 el, mX_ag h3 el⟩, ⟨⟨v1.1, by rw [hl1]; omega⟩, ⟨v2.1, by rw [hl1]; omega⟩, fun x hx => by have := v3 x hx; rw [hl1]; omega, fun k hk => ?_⟩, fun j y j1 j2 j3 j4 j5 => (fr j y j1 j2 (by omega) (by omega)).trans (h5 j y j1 j2 j3 j4 j5), pm2, ⟨⟨(e237 27 (by decide) (by decide)).trans c1, (e237 28 (by decide) (by decide)).trans c2⟩, (e237 29 (by decide) (by decide)).trans c3, by rw [hl1, e26]; rfl, e25, (e237 34 (by decide) (by decide)).trans c6, (e237 59 (by decide) (by decide)).trans c7⟩, hB, ?_, ?_⟩
    · rw [hl1] at hk
      by_cases e : k = F.length
      · rw [e, gD_r]
        exact ⟨Or.inr ⟨v2.1, v2.2⟩, List.nodup_nil, Nat.zero_le _, fun y hy => absurd hy (by simp)⟩
      · rw [gD_l (by omega)]
        exact v4 k (by omega)
    · omega
    · exact ⟨by have := r2.1; omega, r2.2⟩
theorem fn_bk (h : pz_qf (pz_op K P 12 dp i I F) (fun i I F1 _ => pz_q (R 0 0 [] i (dp + 1) u I F1) (fun i I F1 _ => pz_qf (pz_tk K P 13 i I F1) kk)) o) : pz_q (pz_bk K P R i dp u I F) kk o := by
  unfold pz_bk
  rcases h with ⟨v, a, b⟩ | ⟨j, I2, F2, t2, a, b⟩
  · exact Or.inl ⟨v, Or.inl ⟨v, a, rfl⟩, b⟩
  · rcases b with ⟨v, b1, b2⟩ | ⟨j3, I3, F3, t3, b1, b2⟩
    · exact Or.inl ⟨v, Or.inr ⟨j, I2, F2, t2, a, Or.inl ⟨v, b1, rfl⟩⟩, b2⟩
    · rcases b2 with ⟨v, c1, c2⟩ | ⟨j4, I4, F4, t4, c1, c2⟩
      · exact Or.inl ⟨v, Or.inr ⟨j, I2, F2, t2, a, Or.inr ⟨j3, I3, F3, t3, b1, c1⟩⟩, c2⟩
      · exact Or.inr ⟨j4, I4, F4, t4, Or.inr ⟨j, I2, F2, t2, a, Or.inr ⟨j3, I3, F3, t3, b1, c1⟩⟩, c2⟩
theorem pz_qm (h : pz_q p kk o) (m : ∀ z : pz_O, p z → p2 z) : pz_q p2 kk o := by
  rcases h with ⟨v, a, b⟩ | ⟨j, I2, F2, t2, a, b⟩
  · exact Or.inl ⟨v, m _ a, b⟩
  · exact Or.inr ⟨j, I2, F2, t2, m _ a, b⟩
theorem qf_r (h : pz_q (fun z => z = .inr (i, I, F, t)) kk o) : kk i I F t o := by
  rcases h with ⟨v, a, b⟩ | ⟨j, I2, F2, t2, a, b⟩
  · exact absurd a (by simp)
  · obtain ⟨rfl, rfl, rfl, rfl⟩ : j = i ∧ I2 = I ∧ F2 = F ∧ t2 = t := by simpa using a
    exact b
theorem fn_enc (hg : g = f0 + (F.length : Int)) : renc f0 s (24, g, 0, u) = (24, (F.length : Int), 0) := by
  show ((24 : Int), g - f0, (0 : Int)) = _
  rw [show g - f0 = (F.length : Int) by omega]
theorem pz_f1 (hg : g = f0 + (F.length : Int)) : pz_f f0 (F ++ [(u, 0, [])]) g = (u, 0, []) := by
  unfold pz_f
  rw [show (g - f0).toNat = F.length by omega, gD_r]
theorem pX_0 (hg : g = f0 + (F.length : Int)) (k : Nat) : pA (F ++ [(u, 0, [])]) k = pX f0 (F ++ [(u, 0, [])]) g 0 k := by
  unfold pX
  by_cases e : k = (g - f0).toNat
  · rw [if_pos e, e, show (g - f0).toNat = F.length by omega]
    unfold pA
    rw [gD_r]
  · rw [if_neg e]
theorem rfn_c (hfn : f0 + (F.length : Int) < 400) (hd : pz_q (pz_fn (kq T n N X) (tp T n 0) f0 (rR xs T n N X f0 b0 b1 S0) i dp u I F) (fun i I F g o => o = .inr (i, I ++ [(24, g, 0, u)], F, 0)) o) (hpre : rPre T n dp i I) (hD : 20 * (51 - dp) + 1 ≤ (D : Int)) (h : rQ T n N X f0 b0 b1 S0 u dp i I F (pA F) S) (hbad : ∀ v : Int, o = .inl v → ∀ Z : wS, rFu T n N X f0 b0 b1 S0 v Z → Q (.inr 238) Z) (hgood : ∀ (i2 : Nat) (I2 : List pz_I) (F2 : List pz_F) (t2 : Int), o = .inr (i2, I2, F2, t2) → ∀ Z : wS, rQ T n N X f0 b0 b1 S0 u dp i2 I2 F2 (pA F2) Z → rPst T n i I 1 i2 I2 → t2 = 0 → Q (.inl none) Z) : wJ (pe_GA xs) wY0 M D t_M_readsFunction ((pe_at t_M_readsFunction.bl 0).getD (0, [])).2 [(0, (2, 237))] [] S Q := by
  obtain ⟨⟨d0, d1⟩, hlen, ip⟩ := hpre
  obtain ⟨D, rfl⟩ : ∃ E, D = E + 12 := ⟨D - 12, by omega⟩
  have krS := kq_rg T n N X i
  have nnS := rQ_n h
  have huF := h.2.2.1.2.1
  have hf00 := h.2.2.1.1
  unfold pz_fn at hd
  generalize hg : f0 + (F.length : Int) = g at hd
  have hg : g = f0 + (F.length : Int) := hg.symm
  have hl1 : (F ++ [((u, 0, []) : pz_F)]).length = F.length + 1 := List.length_append
  have hd0 := qas hd
  refine wa_aload_n (n := 0) rfl ?_
  refine wb_gfi 237 rfl (wy_pr rfl) wt_237 wf_15_27 (v := (u - f0)) ((rQ_pp h).2.2.2.2.1) (fun r101 => ?_)
  refine wa_istore_n (n := 1) rfl ?_
  refine wa_aload_n (n := 0) rfl ?_
  refine wa_cv 237 rfl (wy_pr rfl) wt_237 (M2 := fun _ => False) rfl at_M_beginsPart ⟨_, rfl⟩ rfl rfl ⟨trivial, (Or.inr ⟨wy_pr rfl, fun q => q⟩), trivial⟩ trivial (fun _ _ q => False.elim q) (bpw (S := S) h hfn) (fun oq103 Sq103 hp104 q103 => ?_)
  rcases q103 with ⟨rfl, hz102⟩
  show wJ _ _ _ _ _ _ _ _ _ _
  have hSq103 : rQ T n N X f0 b0 b1 S0 u dp i I (F ++ [(u, 0, [])]) (pA (F ++ [(u, 0, [])])) Sq103 := hz102
  have krSq103 := kq_rg T n N X i
  have nnSq103 := rQ_n hSq103
  refine wa_istore_n (n := 2) rfl ?_
  refine wa_aload_n (n := 0) rfl ?_
  refine wa_bipush (w_rg2 (by omega) (by omega)) ?_
  refine wa_cv 237 rfl (wy_pr rfl) wt_237 (M2 := fun _ => False) rfl at_M_opens ⟨_, rfl⟩ rfl rfl ⟨trivial, trivial, (Or.inr ⟨wy_pr rfl, fun q => q⟩), trivial⟩ trivial (fun _ _ q => False.elim q) (opw (S := Sq103) hSq103 ip (fun _ => sk_40) ⟨by decide, by decide⟩ ⟨by decide, by decide⟩ ⟨by omega, by omega⟩) (fun oq110 Sq110 hp111 q110 => ?_)
  rcases q110 with ⟨rfl, ⟨ks105, hd5109⟩, hz106, hl107⟩ | ⟨rfl, ks105, hf108⟩ | ⟨rfl, ⟨ks105, hd5109⟩, hf108⟩
  · skip
    show wJ _ _ _ _ _ _ _ _ _ _
    have hSq110 : rQ T n N X f0 b0 b1 S0 u (dp + 1) (i + 1) I (F ++ [(u, 0, [])]) (pA (F ++ [(u, 0, [])])) Sq110 := hz106
    have ipSq110 : (((i + 1) : Nat) : Int) ≤ tp T n 0 (i + 1) := pI_nx (N := N) (X := X) ip (rQ_n hSq103) ⟨by omega, by omega⟩
    have krSq110 := kq_rg T n N X (i + 1)
    have nnSq110 := rQ_n hSq110
    have hd1 := qop_o hd0 ks105 hd5109
    have hd2 := qas2 hd1
    refine wa_aload_n (n := 0) rfl ?_
    refine wa_iload_n (n := 2) rfl ?_
    refine wa_cv 237 rfl (wy_pr rfl) wt_237 (M2 := fun _ => False) rfl at_M_into ⟨_, rfl⟩ rfl rfl ⟨trivial, trivial, (Or.inr ⟨wy_pr rfl, fun q => q⟩), trivial⟩ trivial (fun _ _ q => False.elim q) (itw (S := Sq110) (w := g) (c := (F.length : Int)) hSq110 ⟨by omega, by rw [hl1]; omega⟩ (by omega)) (fun oq114 Sq114 hp115 q114 => ?_)
    rcases q114 with ⟨rfl, hz112, hy113⟩
    show wJ _ _ _ _ _ _ _ _ _ _
    have hSq114 : rQ T n N X f0 b0 b1 S0 g (dp + 1) (i + 1) I (F ++ [(u, 0, [])]) (pA (F ++ [(u, 0, [])])) Sq114 := hz112
    have krSq114 := kq_rg T n N X (i + 1)
    have nnSq114 := rQ_n hSq114
    refine wa_aload_n (n := 0) rfl ?_
    refine wa_bipush (w_rg2 (by omega) (by omega)) ?_
    refine wa_cv 237 rfl (wy_pr rfl) wt_237 (M2 := fun _ => False) rfl at_M_isSign ⟨_, rfl⟩ rfl rfl ⟨trivial, trivial, (Or.inr ⟨wy_pr rfl, fun q => q⟩), trivial⟩ trivial (fun _ _ q => False.elim q) (isw (S := Sq114) hSq114 (fun _ => sk_41) ⟨by decide, by decide⟩ ⟨by decide, by decide⟩) (fun oq117 Sq117 hp118 q117 => ?_)
    rcases q117 with ⟨rfl, ⟨rfl, ks116⟩ | ⟨rfl, ks116⟩⟩
    · skip
      show wJ _ _ _ _ _ _ _ _ _ _
      have hd3 := qif_r hd2 ks116
      have hSq114 : rQ T n N X f0 b0 b1 S0 g (dp + 1) (i + 1) I (pz_p f0 (F ++ [(u, 0, [])]) g) (pA (pz_p f0 (F ++ [(u, 0, [])]) g)) Sq114 := rQ_p (rQ_PA hSq114 (fun k _ => by rw [pz_f1 hg]; exact pX_0 hg k))
      have krSq114 := kq_rg T n N X (i + 1)
      have nnSq114 := rQ_n hSq114
      refine wa_ifne (w_rg0 (by omega) (by omega)) ⟨_, rfl⟩ (fun c119 => ?_) (fun c119 => ?_)
      · skip
        refine wa_aload_n (n := 0) rfl ?_
        refine wa_bipush (w_rg2 (by omega) (by omega)) ?_
        have hd6 := qas hd3
        refine wa_cv 237 rfl (wy_pr rfl) wt_237 (M2 := fun _ => False) rfl at_M_closes ⟨_, rfl⟩ rfl rfl ⟨trivial, trivial, (Or.inr ⟨wy_pr rfl, fun q => q⟩), trivial⟩ trivial (fun _ _ q => False.elim q) (clw (S := Sq114) hSq114 ipSq110 (fun _ => sk_41) ⟨by decide, by decide⟩ ⟨by decide, by decide⟩ ⟨by omega, by omega⟩) (fun oq124 Sq124 hp125 q124 => ?_)
        rcases q124 with ⟨rfl, ks120, hz121, hl122⟩ | ⟨rfl, ks120, hf123⟩
        · skip
          show wJ _ _ _ _ _ _ _ _ _ _
          have hSq124 : rQ T n N X f0 b0 b1 S0 g dp (i + 2) I (pz_p f0 (F ++ [(u, 0, [])]) g) (pA (pz_p f0 (F ++ [(u, 0, [])]) g)) Sq124 := (by have z := hz121; rw [show (dp + 1) - 1 = dp by omega] at z; exact z)
          have ipSq124 : (((i + 2) : Nat) : Int) ≤ tp T n 0 (i + 2) := pI_nx (N := N) (X := X) ipSq110 (rQ_n hSq114) ⟨by omega, by omega⟩
          have krSq124 := kq_rg T n N X (i + 2)
          have nnSq124 := rQ_n hSq124
          have hd7 := qtk_o hd6 ks120
          have hd8 := qas2 (pz_qm hd7 (fun _ q => fn_bk q))
          refine wa_aload_n (n := 0) rfl ?_
          rcases hd8 with ⟨v126, hs127, ho128⟩ | ⟨i129, I130, F131, t132, hs127, hd10⟩
          · refine wa_cv 237 rfl (wy_pr rfl) wt_237 (M2 := fun _ => False) rfl at_M_block ⟨_, rfl⟩ rfl rfl ⟨trivial, trivial, (Or.inr ⟨wy_pr rfl, fun q => q⟩), trivial⟩ trivial (fun _ _ q => False.elim q) (bk_w hs127 ⟨⟨by omega, by omega⟩, by omega, ipSq124⟩ _ _ _ (by omega) hSq124) (fun oq140 Sq140 hp141 q140 => ?_)
            rcases q140 with ⟨rfl, hf139⟩
            subst ho128
            exact ⟨rfl, (hbad _ rfl _ hf139)⟩
          refine wa_cv 237 rfl (wy_pr rfl) wt_237 (M2 := fun _ => False) rfl at_M_block ⟨_, rfl⟩ rfl rfl ⟨trivial, trivial, (Or.inr ⟨wy_pr rfl, fun q => q⟩), trivial⟩ trivial (fun _ _ q => False.elim q) (bk_w hs127 ⟨⟨by omega, by omega⟩, by omega, ipSq124⟩ _ _ _ (by omega) hSq124) (fun oq142 Sq142 hp143 q142 => ?_)
          rcases q142 with ⟨rfl, hz133, ⟨p134, p135, p136, p137⟩, e138⟩
          show wJ _ _ _ _ _ _ _ _ _ _
          have hSq142 : rQ T n N X f0 b0 b1 S0 g dp i129 I130 F131 (pA F131) Sq142 := hz133
          have ipSq142 : ((i129 : Nat) : Int) ≤ tp T n 0 i129 := p136
          have krSq142 := kq_rg T n N X i129
          have nnSq142 := rQ_n hSq142
          have lnSq142 := px_len p137
          have hd11 := qf_r hd10
          refine wa_aload_n (n := 0) rfl ?_
          refine wa_cv 237 rfl (wy_pr rfl) wt_237 (M2 := fun _ => False) rfl at_M_ends ⟨_, rfl⟩ rfl rfl ⟨trivial, trivial, (Or.inr ⟨wy_pr rfl, fun q => q⟩), trivial⟩ trivial (fun _ _ q => False.elim q) ?_ (fun _ _ _ q => q)
          refine wa_aload_n (n := 0) rfl ?_
          refine wa_iconst ?_
          refine wa_iconst ?_
          refine wa_iconst ?_
          refine wa_cv 237 rfl (wy_pr rfl) wt_237 (M2 := fun _ => False) rfl at_M_emits ⟨_, rfl⟩ rfl rfl ⟨(Or.inr ⟨wy_pr rfl, fun q => q⟩), trivial⟩ trivial (fun _ _ q => False.elim q) (emw (S := Sq142) (x := (0, 0, 0, g)) hSq142 (by omega) rfl (by show (0 : Int) ≠ 27; decide) rfl ⟨by omega, by omega⟩ ⟨by omega, by omega⟩ ⟨by omega, by omega⟩) (fun oq147 Sq147 hp148 q147 => ?_)
          rcases q147 with ⟨rfl, hz144, l61145, l60146⟩
          show wJ _ _ _ _ _ _ _ _ _ _
          have hSq147 : rQ T n N X f0 b0 b1 S0 g dp i129 (I130 ++ [(0, 0, 0, g)]) F131 (pA F131) Sq147 := hz144
          have krSq147 := kq_rg T n N X i129
          have nnSq147 := rQ_n hSq147
          have hlSq147 : (I130 ++ [(0, 0, 0, g)]).length = I130.length + 1 := List.length_append
          refine wa_aload_n (n := 0) rfl ?_
          refine wa_bipush (w_rg2 (by omega) (by omega)) ?_
          refine wa_iconst ?_
          refine wa_iconst ?_
          refine wa_cv 237 rfl (wy_pr rfl) wt_237 (M2 := fun _ => False) rfl at_M_emits ⟨_, rfl⟩ rfl rfl ⟨(Or.inr ⟨wy_pr rfl, fun q => q⟩), trivial⟩ trivial (fun _ _ q => False.elim q) (emw (S := Sq147) (x := (29, 0, 0, g)) hSq147 (by omega) rfl (by show (29 : Int) ≠ 27; decide) rfl ⟨by omega, by omega⟩ ⟨by omega, by omega⟩ ⟨by omega, by omega⟩) (fun oq152 Sq152 hp153 q152 => ?_)
          rcases q152 with ⟨rfl, hz149, l61150, l60151⟩
          show wJ _ _ _ _ _ _ _ _ _ _
          have hSq152 : rQ T n N X f0 b0 b1 S0 g dp i129 ((I130 ++ [(0, 0, 0, g)]) ++ [(29, 0, 0, g)]) F131 (pA F131) Sq152 := hz149
          have krSq152 := kq_rg T n N X i129
          have nnSq152 := rQ_n hSq152
          have hlSq152 : ((I130 ++ [(0, 0, 0, g)]) ++ [(29, 0, 0, g)]).length = (I130 ++ [(0, 0, 0, g)]).length + 1 := List.length_append
          refine wa_return rfl ?_
          show wJ _ _ _ _ _ _ _ _ _ _
          refine wa_aload_n (n := 0) rfl ?_
          refine wa_iload_n (n := 1) rfl ?_
          refine wa_cv 237 rfl (wy_pr rfl) wt_237 (M2 := fun _ => False) rfl at_M_into ⟨_, rfl⟩ rfl rfl ⟨trivial, trivial, (Or.inr ⟨wy_pr rfl, fun q => q⟩), trivial⟩ trivial (fun _ _ q => False.elim q) (itw (S := Sq152) (w := u) (c := (u - f0)) hSq152 ⟨by omega, by have := hSq152.2.2.1.2.1; omega⟩ rfl) (fun oq156 Sq156 hp157 q156 => ?_)
          rcases q156 with ⟨rfl, hz154, hy155⟩
          show wJ _ _ _ _ _ _ _ _ _ _
          have hSq156 : rQ T n N X f0 b0 b1 S0 u dp i129 ((I130 ++ [(0, 0, 0, g)]) ++ [(29, 0, 0, g)]) F131 (pA F131) Sq156 := hz154
          have krSq156 := kq_rg T n N X i129
          have nnSq156 := rQ_n hSq156
          refine wa_aload_n (n := 0) rfl ?_
          refine wa_bipush (w_rg2 (by omega) (by omega)) ?_
          refine wa_iload_n (n := 2) rfl ?_
          refine wa_iconst ?_
          refine wa_cv 237 rfl (wy_pr rfl) wt_237 (M2 := fun _ => False) rfl at_M_emits ⟨_, rfl⟩ rfl rfl ⟨trivial, trivial, (Or.inr ⟨wy_pr rfl, fun q => q⟩), trivial⟩ trivial (fun _ _ q => False.elim q) (emw (S := Sq156) (x := (24, g, 0, u)) hSq156 (by omega) rfl (by show (24 : Int) ≠ 27; decide) (fn_enc hg) ⟨by omega, by omega⟩ ⟨by omega, by omega⟩ ⟨by omega, by omega⟩) (fun oq161 Sq161 hp162 q161 => ?_)
          rcases q161 with ⟨rfl, hz158, l61159, l60160⟩
          show wJ _ _ _ _ _ _ _ _ _ _
          have hSq161 : rQ T n N X f0 b0 b1 S0 u dp i129 (((I130 ++ [(0, 0, 0, g)]) ++ [(29, 0, 0, g)]) ++ [(24, g, 0, u)]) F131 (pA F131) Sq161 := hz158
          have krSq161 := kq_rg T n N X i129
          have nnSq161 := rQ_n hSq161
          have hlSq161 : (((I130 ++ [(0, 0, 0, g)]) ++ [(29, 0, 0, g)]) ++ [(24, g, 0, u)]).length = ((I130 ++ [(0, 0, 0, g)]) ++ [(29, 0, 0, g)]).length + 1 := List.length_append
          refine wa_return rfl ?_
          exact hgood _ _ _ _ hd11 _ hSq161 ⟨by omega, by omega, ipSq142, (px_tr (px_tr (px_tr (px_tr px_rfl p137) (px_ap _ _)) (px_ap _ _)) (px_ap _ _))⟩ rfl
        · skip
          have ho := qtk_1 hd6 ks120
          subst ho
          exact ⟨rfl, (hbad _ rfl _ hf123)⟩
      · skip
        exact absurd c119 (by omega)
    · skip
      show wJ _ _ _ _ _ _ _ _ _ _
      have hd3 := qif_n hd2 ks116
      refine wa_ifne (w_rg0 (by omega) (by omega)) ⟨_, rfl⟩ (fun c163 => ?_) (fun c163 => ?_)
      · skip
        exact absurd c163 (by omega)
      · skip
        refine wa_aload_n (n := 0) rfl ?_
        rcases hd3 with ⟨v164, hs165, ho166⟩ | ⟨i167, I168, F169, t170, hs165, hd12⟩
        · refine wa_cv 237 rfl (wy_pr rfl) wt_237 (M2 := fun _ => False) rfl at_M_parameter ⟨_, rfl⟩ rfl rfl ⟨trivial, trivial, (Or.inr ⟨wy_pr rfl, fun q => q⟩), trivial⟩ trivial (fun _ _ q => False.elim q) (r2 hs165 ⟨by decide, by decide⟩ (congrArg (fun z : pz_F => (z.2.2.length : Int)) (pz_f1 hg)) (by omega) ⟨⟨by omega, by omega⟩, by omega, ipSq110⟩ M _ _ _ Q (u - f0) (F.length : Int) (by omega) (rQ_PA hSq114 (fun k _ => pX_0 hg k)) (fun vb hb Zb hzb => by obtain rfl : v164 = vb := (by simpa using hb); exact hbad _ ho166 _ hzb) (fun ib Ib Fb tb hb => absurd hb (by simp))) (fun oq179 Sq179 hpq179 q179 => ?_)
          rcases q179 with ⟨rfl, hQ⟩ | ⟨rfl, hJ⟩
          · exact ⟨rfl, hQ⟩
          · show wJ _ _ _ _ _ _ _ _ _ _
            refine wa_fall ⟨_, rfl⟩ ?_
            exact wJ_S hJ ⟨rfl, rfl, rfl, trivial⟩
        · have hg178 : ∀ Z : wS, rQ T n N X f0 b0 b1 S0 g (dp + 1) i167 I168 F169 (pX f0 F169 g ((pz_f f0 F169 g).2.2.length : Int)) Z → rPst T n (i + 1) I 1 i167 I168 → wJ (pe_GA xs) wY0 M (D + 12) t_M_readsFunction ((pe_at t_M_readsFunction.bl 2).getD (0, [])).2 [(0, (2, 237)), (1, (0, (u - f0))), (2, (0, (F.length : Int)))] [] Z Q := by
            intro Z171 hz172 pp173
            obtain ⟨p174, p175, p176, p177⟩ := pp173
            have hZ171 : rQ T n N X f0 b0 b1 S0 g (dp + 1) i167 I168 (pz_p f0 F169 g) (pA (pz_p f0 F169 g)) Z171 := rQ_p hz172
            have ipZ171 : ((i167 : Nat) : Int) ≤ tp T n 0 i167 := p176
            have krZ171 := kq_rg T n N X i167
            have nnZ171 := rQ_n hZ171
            have lnZ171 := px_len p177
            refine wa_aload_n (n := 0) rfl ?_
            refine wa_bipush (w_rg2 (by omega) (by omega)) ?_
            have hd13 := qas hd12
            refine wa_cv 237 rfl (wy_pr rfl) wt_237 (M2 := fun _ => False) rfl at_M_closes ⟨_, rfl⟩ rfl rfl ⟨(Or.inr ⟨wy_pr rfl, fun q => q⟩), trivial, trivial, trivial⟩ trivial (fun _ _ q => False.elim q) (clw (S := Z171) hZ171 ipZ171 (fun _ => sk_41) ⟨by decide, by decide⟩ ⟨by decide, by decide⟩ ⟨by omega, by omega⟩) (fun oq184 Sq184 hp185 q184 => ?_)
            rcases q184 with ⟨rfl, ks180, hz181, hl182⟩ | ⟨rfl, ks180, hf183⟩
            · skip
              show wJ _ _ _ _ _ _ _ _ _ _
              have hSq184 : rQ T n N X f0 b0 b1 S0 g dp (i167 + 1) I168 (pz_p f0 F169 g) (pA (pz_p f0 F169 g)) Sq184 := (by have z := hz181; rw [show (dp + 1) - 1 = dp by omega] at z; exact z)
              have ipSq184 : (((i167 + 1) : Nat) : Int) ≤ tp T n 0 (i167 + 1) := pI_nx (N := N) (X := X) ipZ171 (rQ_n hZ171) ⟨by omega, by omega⟩
              have krSq184 := kq_rg T n N X (i167 + 1)
              have nnSq184 := rQ_n hSq184
              have hd14 := qtk_o hd13 ks180
              have hd15 := qas2 (pz_qm hd14 (fun _ q => fn_bk q))
              refine wa_aload_n (n := 0) rfl ?_
              rcases hd15 with ⟨v186, hs187, ho188⟩ | ⟨i189, I190, F191, t192, hs187, hd17⟩
              · refine wa_cv 237 rfl (wy_pr rfl) wt_237 (M2 := fun _ => False) rfl at_M_block ⟨_, rfl⟩ rfl rfl ⟨(Or.inr ⟨wy_pr rfl, fun q => q⟩), trivial, trivial, trivial⟩ trivial (fun _ _ q => False.elim q) (bk_w hs187 ⟨⟨by omega, by omega⟩, by omega, ipSq184⟩ _ _ _ (by omega) hSq184) (fun oq200 Sq200 hp201 q200 => ?_)
                rcases q200 with ⟨rfl, hf199⟩
                subst ho188
                exact ⟨rfl, (hbad _ rfl _ hf199)⟩
              refine wa_cv 237 rfl (wy_pr rfl) wt_237 (M2 := fun _ => False) rfl at_M_block ⟨_, rfl⟩ rfl rfl ⟨(Or.inr ⟨wy_pr rfl, fun q => q⟩), trivial, trivial, trivial⟩ trivial (fun _ _ q => False.elim q) (bk_w hs187 ⟨⟨by omega, by omega⟩, by omega, ipSq184⟩ _ _ _ (by omega) hSq184) (fun oq202 Sq202 hp203 q202 => ?_)
              rcases q202 with ⟨rfl, hz193, ⟨p194, p195, p196, p197⟩, e198⟩
              show wJ _ _ _ _ _ _ _ _ _ _
              have hSq202 : rQ T n N X f0 b0 b1 S0 g dp i189 I190 F191 (pA F191) Sq202 := hz193
              have ipSq202 : ((i189 : Nat) : Int) ≤ tp T n 0 i189 := p196
              have krSq202 := kq_rg T n N X i189
              have nnSq202 := rQ_n hSq202
              have lnSq202 := px_len p197
              have hd18 := qf_r hd17
              refine wa_aload_n (n := 0) rfl ?_
              refine wa_cv 237 rfl (wy_pr rfl) wt_237 (M2 := fun _ => False) rfl at_M_ends ⟨_, rfl⟩ rfl rfl ⟨(Or.inr ⟨wy_pr rfl, fun q => q⟩), trivial, trivial, trivial⟩ trivial (fun _ _ q => False.elim q) ?_ (fun _ _ _ q => q)
              refine wa_aload_n (n := 0) rfl ?_
              refine wa_iconst ?_
              refine wa_iconst ?_
              refine wa_iconst ?_
              refine wa_cv 237 rfl (wy_pr rfl) wt_237 (M2 := fun _ => False) rfl at_M_emits ⟨_, rfl⟩ rfl rfl ⟨(Or.inr ⟨wy_pr rfl, fun q => q⟩), trivial⟩ trivial (fun _ _ q => False.elim q) (emw (S := Sq202) (x := (0, 0, 0, g)) hSq202 (by omega) rfl (by show (0 : Int) ≠ 27; decide) rfl ⟨by omega, by omega⟩ ⟨by omega, by omega⟩ ⟨by omega, by omega⟩) (fun oq207 Sq207 hp208 q207 => ?_)
              rcases q207 with ⟨rfl, hz204, l61205, l60206⟩
              show wJ _ _ _ _ _ _ _ _ _ _
              have hSq207 : rQ T n N X f0 b0 b1 S0 g dp i189 (I190 ++ [(0, 0, 0, g)]) F191 (pA F191) Sq207 := hz204
              have krSq207 := kq_rg T n N X i189
              have nnSq207 := rQ_n hSq207
              have hlSq207 : (I190 ++ [(0, 0, 0, g)]).length = I190.length + 1 := List.length_append
              refine wa_aload_n (n := 0) rfl ?_
              refine wa_bipush (w_rg2 (by omega) (by omega)) ?_
              refine wa_iconst ?_
              refine wa_iconst ?_
              refine wa_cv 237 rfl (wy_pr rfl) wt_237 (M2 := fun _ => False) rfl at_M_emits ⟨_, rfl⟩ rfl rfl ⟨(Or.inr ⟨wy_pr rfl, fun q => q⟩), trivial⟩ trivial (fun _ _ q => False.elim q) (emw (S := Sq207) (x := (29, 0, 0, g)) hSq207 (by omega) rfl (by show (29 : Int) ≠ 27; decide) rfl ⟨by omega, by omega⟩ ⟨by omega, by omega⟩ ⟨by omega, by omega⟩) (fun oq212 Sq212 hp213 q212 => ?_)
              rcases q212 with ⟨rfl, hz209, l61210, l60211⟩
              show wJ _ _ _ _ _ _ _ _ _ _
              have hSq212 : rQ T n N X f0 b0 b1 S0 g dp i189 ((I190 ++ [(0, 0, 0, g)]) ++ [(29, 0, 0, g)]) F191 (pA F191) Sq212 := hz209
              have krSq212 := kq_rg T n N X i189
              have nnSq212 := rQ_n hSq212
              have hlSq212 : ((I190 ++ [(0, 0, 0, g)]) ++ [(29, 0, 0, g)]).length = (I190 ++ [(0, 0, 0, g)]).length + 1 := List.length_append
              refine wa_return rfl ?_
              show wJ _ _ _ _ _ _ _ _ _ _
              refine wa_aload_n (n := 0) rfl ?_
              refine wa_iload_n (n := 1) rfl ?_
              refine wa_cv 237 rfl (wy_pr rfl) wt_237 (M2 := fun _ => False) rfl at_M_into ⟨_, rfl⟩ rfl rfl ⟨(Or.inr ⟨wy_pr rfl, fun q => q⟩), trivial, trivial, trivial⟩ trivial (fun _ _ q => False.elim q) (itw (S := Sq212) (w := u) (c := (u - f0)) hSq212 ⟨by omega, by have := hSq212.2.2.1.2.1; omega⟩ rfl) (fun oq216 Sq216 hp217 q216 => ?_)
              rcases q216 with ⟨rfl, hz214, hy215⟩
              show wJ _ _ _ _ _ _ _ _ _ _
              have hSq216 : rQ T n N X f0 b0 b1 S0 u dp i189 ((I190 ++ [(0, 0, 0, g)]) ++ [(29, 0, 0, g)]) F191 (pA F191) Sq216 := hz214
              have krSq216 := kq_rg T n N X i189
              have nnSq216 := rQ_n hSq216
              refine wa_aload_n (n := 0) rfl ?_
              refine wa_bipush (w_rg2 (by omega) (by omega)) ?_
              refine wa_iload_n (n := 2) rfl ?_
              refine wa_iconst ?_
              refine wa_cv 237 rfl (wy_pr rfl) wt_237 (M2 := fun _ => False) rfl at_M_emits ⟨_, rfl⟩ rfl rfl ⟨(Or.inr ⟨wy_pr rfl, fun q => q⟩), trivial, trivial, trivial⟩ trivial (fun _ _ q => False.elim q) (emw (S := Sq216) (x := (24, g, 0, u)) hSq216 (by omega) rfl (by show (24 : Int) ≠ 27; decide) (fn_enc hg) ⟨by omega, by omega⟩ ⟨by omega, by omega⟩ ⟨by omega, by omega⟩) (fun oq221 Sq221 hp222 q221 => ?_)
              rcases q221 with ⟨rfl, hz218, l61219, l60220⟩
              show wJ _ _ _ _ _ _ _ _ _ _
              have hSq221 : rQ T n N X f0 b0 b1 S0 u dp i189 (((I190 ++ [(0, 0, 0, g)]) ++ [(29, 0, 0, g)]) ++ [(24, g, 0, u)]) F191 (pA F191) Sq221 := hz218
              have krSq221 := kq_rg T n N X i189
              have nnSq221 := rQ_n hSq221
              have hlSq221 : (((I190 ++ [(0, 0, 0, g)]) ++ [(29, 0, 0, g)]) ++ [(24, g, 0, u)]).length = ((I190 ++ [(0, 0, 0, g)]) ++ [(29, 0, 0, g)]).length + 1 := List.length_append
              refine wa_return rfl ?_
              exact hgood _ _ _ _ hd18 _ hSq221 ⟨by omega, by omega, ipSq202, (px_tr (px_tr (px_tr (px_tr (px_tr px_rfl p177) p197) (px_ap _ _)) (px_ap _ _)) (px_ap _ _))⟩ rfl
            · skip
              have ho := qtk_1 hd13 ks180
              subst ho
              exact ⟨rfl, (hbad _ rfl _ hf183)⟩
          refine wa_cv 237 rfl (wy_pr rfl) wt_237 (M2 := fun _ => False) rfl at_M_parameter ⟨_, rfl⟩ rfl rfl ⟨trivial, trivial, (Or.inr ⟨wy_pr rfl, fun q => q⟩), trivial⟩ trivial (fun _ _ q => False.elim q) (r2 hs165 ⟨by decide, by decide⟩ (congrArg (fun z : pz_F => (z.2.2.length : Int)) (pz_f1 hg)) (by omega) ⟨⟨by omega, by omega⟩, by omega, ipSq110⟩ M _ _ _ Q (u - f0) (F.length : Int) (by omega) (rQ_PA hSq114 (fun k _ => pX_0 hg k)) (fun vb hb => absurd hb (by simp)) (fun ib Ib Fb tb hb Zb hzb pb => by obtain ⟨rfl, rfl, rfl, rfl⟩ : i167 = ib ∧ I168 = Ib ∧ F169 = Fb ∧ t170 = tb := (by simpa using hb); exact hg178 Zb hzb pb)) (fun oq179 Sq179 hpq179 q179 => ?_)
          rcases q179 with ⟨rfl, hQ⟩ | ⟨rfl, hJ⟩
          · exact ⟨rfl, hQ⟩
          · show wJ _ _ _ _ _ _ _ _ _ _
            refine wa_fall ⟨_, rfl⟩ ?_
            exact wJ_S hJ ⟨rfl, rfl, rfl, trivial⟩
  · skip
    have ho := qop_1 hd0 ks105
    subst ho
    exact ⟨rfl, (hbad _ rfl _ hf108)⟩
  · skip
    have ho := qop_4 hd0 ks105 hd5109
    subst ho
    exact ⟨rfl, (hbad _ rfl _ hf108)⟩
theorem rfn_w (hfn : f0 + (F.length : Int) < 400) (hd : pz_q (pz_fn (kq T n N X) (tp T n 0) f0 (rR xs T n N X f0 b0 b1 S0) i dp u I F) (fun i I F g o => o = .inr (i, I ++ [(24, g, 0, u)], F, 0)) o) : rM xs T n N X f0 b0 b1 S0 1 t_M_readsFunction [(0, (2, 237))] (fun _ => none) 1 (fun t _ _ => t = 0) dp u i I F o := fun hpre M D S hD h =>
  rfn_c hfn hd hpre hD h (fun v e Z hz => by subst e; exact ⟨rfl, hz⟩) (fun i2 I2 F2 t2 e Z h1 h2 h3 => by subst e; exact ⟨rfl, h1, h2, h3⟩)
end Wcl
