/-! PART cn: the reference's statements. -/
section Wcn
variable {xs : List (Nat × List Int32)} {M : Nat → Prop} {d : Nat} {A B C S Z S0 : wS} {Q : wO → wS → Prop} {T : Int → Int} {n f0 u dp b0 b1 : Int} {N X : List (List Int)} {c i k pm : Nat} {I : List pz_I} {F : List pz_F} {o : pz_O}
variable {PA : Nat → Int} {R : pz_R} {K V P : Nat → Int} {f x y v t : Int} {J : List Int} {I2 It : List pz_I} {F2 : List pz_F} {j i2 : Nat} {z : pz_I} {p : pz_O} {kk : Nat → List pz_I → List pz_F → Int → pz_O → Prop}
theorem qdc_o (h : pz_qf p kk o) (e : p = .inr (i2, I2, F2, t)) : kk i2 I2 F2 t o := by
  subst e
  exact qf_r h
theorem qdc_1 (h : pz_qf p kk o) (e : p = .inl v) : o = .inl v := by
  subst e
  rcases h with ⟨v, a, b⟩ | ⟨j, I2, F2, t2, a, b⟩
  · rw [b]; exact a
  · exact absurd a (by simp)
theorem dc_F (h : pz_dc K V P f i u I F = .inr (i2, I2, F2, t)) : F2 = F ∨ F2 = pz_v f F u (V i) := by
  unfold pz_dc pz_fa at h
  by_cases c1 : K i ≠ 5 ∧ K i ≠ 6
  · rw [if_pos c1] at h; exact absurd h (by simp)
  rw [if_neg c1] at h
  by_cases c2 : K i = 6
  · rw [if_pos c2] at h; exact absurd h (by simp)
  rw [if_neg c2] at h
  by_cases c3 : (pz_f f F u).1 ≠ -1 ∧ vix (pz_f f F u).2.2 (V i) = -1
  · rw [if_pos c3] at h
    by_cases c4 : (pz_f f F u).2.2.length = 60
    · rw [if_pos c4] at h; exact absurd h (by simp)
    rw [if_neg c4] at h
    have h2 : (Sum.inr (i + 1, I, pz_v f F u (V i), V i) : pz_O) = .inr (i2, I2, F2, t) := h
    obtain ⟨-, -, e, -⟩ : i + 1 = i2 ∧ I = I2 ∧ pz_v f F u (V i) = F2 ∧ V i = t := by simpa using h2
    exact Or.inr e.symm
  · rw [if_neg c3] at h
    have h2 : (Sum.inr (i + 1, I, F, V i) : pz_O) = .inr (i2, I2, F2, t) := h
    obtain ⟨-, -, e, -⟩ : i + 1 = i2 ∧ I = I2 ∧ F = F2 ∧ V i = t := by simpa using h2
    exact Or.inl e.symm
theorem dc_pA (h : pz_dc K V P f i u I F = .inr (i2, I2, F2, t)) : pA F2 = pA F := by
  rcases dc_F h with e | e
  · rw [e]
  · rw [e]; unfold pz_v; exact pA_set _ _ _ _ _ rfl
theorem dc_len (h : pz_dc K V P f i u I F = .inr (i2, I2, F2, t)) : F2.length = F.length := by
  rcases dc_F h with e | e
  · rw [e]
  · rw [e]; exact pz_v_len _ _ _ _
theorem px_as (h : pz_px (It ++ [z]) I) (hj : j < It.length) : pz_px (pz_a It j v ++ [z]) (pz_a I j v) := by
  obtain ⟨K, rfl⟩ := h
  refine ⟨K, ?_⟩
  have e : ((It ++ [z]) ++ K).getD j (0, 0, 0, 0) = It.getD j (0, 0, 0, 0) := by
    rw [List.append_assoc, List.getD_eq_getElem?_getD, List.getElem?_append_left hj, ← List.getD_eq_getElem?_getD]
  unfold pz_a
  rw [e, List.append_assoc, List.set_append_left _ _ hj, ← List.append_assoc]
theorem fn_st (h : pz_q (pz_fn K P f R i dp u I F) (fun i I F g o => o = .inr (i, I ++ [(24, g, 0, u)] ++ [(4, y, 0, u)] ++ [(5, 0, 0, u)], F, 0)) o) : pz_q (pz_q (pz_fn K P f R i dp u I F) (fun i I F g o => o = .inr (i, I ++ [(24, g, 0, u)], F, 0))) (fun i I F _ o => o = .inr (i, I ++ [(4, y, 0, u)] ++ [(5, 0, 0, u)], F, 0)) o := by
  rcases h with ⟨v, a, b⟩ | ⟨j, I2, F2, t2, a, b⟩
  · exact Or.inl ⟨v, Or.inl ⟨v, a, rfl⟩, b⟩
  · exact Or.inr ⟨j, I2 ++ [(24, t2, 0, u)], F2, 0, Or.inr ⟨j, I2, F2, t2, a, rfl⟩, b⟩
theorem le_w (hX : w_X xs) (hk : kq T n N X i = 45 ∨ kq T n N X i = 46) (hd : pz_ST45 (kq T n N X) (tp T n 0) (rR xs T n N X f0 b0 b1 S0) i dp u I F o) : rM xs T n N X f0 b0 b1 S0 17 t_M_leaves [(0, (2, 237))] (fun _ => none) 1 (fun _ _ _ => True) dp u i I F o := by
  intro hpre M D S hD h
  obtain ⟨⟨d0, d1⟩, hlen, ip⟩ := hpre
  obtain ⟨D, rfl⟩ : ∃ E, D = E + 12 := ⟨D - 12, by omega⟩
  have krS := kq_rg T n N X i
  have nnS := rQ_n h
  refine wa_aload_n (n := 0) rfl ?_
  refine wa_ks ?_
  refine wa_cv 237 rfl (wy_pr rfl) wt_237 (M2 := fun _ => False) rfl at_M_isWord ⟨_, rfl⟩ rfl rfl ⟨(Or.inr ⟨wy_pr rfl, fun q => q⟩), trivial⟩ trivial (fun _ _ q => False.elim q) (wdw (S := S) (k := 5) h (wx_41 hX) (by decide) (by decide)) (fun oq102 Sq102 hp103 q102 => ?_)
  rcases q102 with ⟨rfl, ⟨rfl, kw101⟩ | ⟨rfl, kw101⟩⟩
  · skip
    show wJ _ _ _ _ _ _ _ _ _ _
    refine wa_istore_n (n := 1) rfl ?_
    refine wa_aload_n (n := 0) rfl ?_
    refine wa_cv 237 rfl (wy_pr rfl) wt_237 (M2 := fun _ => False) rfl at_M_next ⟨_, rfl⟩ rfl rfl ⟨trivial, (Or.inr ⟨wy_pr rfl, fun q => q⟩), trivial⟩ trivial (fun _ _ q => False.elim q) (nxw (S := S) h ⟨by omega, by omega, by omega, by omega, by omega⟩) (fun oq106 Sq106 hp107 q106 => ?_)
    rcases q106 with ⟨rfl, hz104, hl105⟩
    show wJ _ _ _ _ _ _ _ _ _ _
    have hSq106 : rQ T n N X f0 b0 b1 S0 u dp (i + 1) I F (pA F) Sq106 := hz104
    have ipSq106 : (((i + 1) : Nat) : Int) ≤ tp T n 0 (i + 1) := pI_nx (N := N) (X := X) ip (rQ_n h) ⟨by omega, by omega⟩
    have krSq106 := kq_rg T n N X (i + 1)
    have nnSq106 := rQ_n hSq106
    refine wa_iload_n (n := 1) rfl ?_
    refine wa_ifeq (w_rg0 (by omega) (by omega)) ⟨_, rfl⟩ (fun c108 => ?_) (fun c108 => ?_)
    · skip
      exact absurd c108 (by omega)
    · skip
      refine wa_aload_n (n := 0) rfl ?_
      refine wa_bipush (w_rg2 (by omega) (by omega)) ?_
      refine wa_cv 237 rfl (wy_pr rfl) wt_237 (M2 := fun _ => False) rfl at_M_isSign ⟨_, rfl⟩ rfl rfl ⟨trivial, (Or.inr ⟨wy_pr rfl, fun q => q⟩), trivial⟩ trivial (fun _ _ q => False.elim q) (isw (S := Sq106) hSq106 (fun _ => sk_59) ⟨by decide, by decide⟩ ⟨by decide, by decide⟩) (fun oq110 Sq110 hp111 q110 => ?_)
      rcases q110 with ⟨rfl, ⟨rfl, ks109⟩ | ⟨rfl, ks109⟩⟩
      · skip
        show wJ _ _ _ _ _ _ _ _ _ _
        refine wa_ifeq (w_rg0 (by omega) (by omega)) ⟨_, rfl⟩ (fun c112 => ?_) (fun c112 => ?_)
        · skip
          exact absurd c112 (by omega)
        · skip
          refine wa_aload_n (n := 0) rfl ?_
          refine wa_iconst ?_
          refine wa_iconst ?_
          refine wa_iconst ?_
          refine wa_cv 237 rfl (wy_pr rfl) wt_237 (M2 := fun _ => False) rfl at_M_emits ⟨_, rfl⟩ rfl rfl ⟨trivial, (Or.inr ⟨wy_pr rfl, fun q => q⟩), trivial⟩ trivial (fun _ _ q => False.elim q) (emw (S := Sq106) (x := (0, 0, 0, u)) hSq106 (by omega) rfl (by show (0 : Int) ≠ 27; decide) rfl ⟨by omega, by omega⟩ ⟨by omega, by omega⟩ ⟨by omega, by omega⟩) (fun oq116 Sq116 hp117 q116 => ?_)
          rcases q116 with ⟨rfl, hz113, l61114, l60115⟩
          show wJ _ _ _ _ _ _ _ _ _ _
          have hSq116 : rQ T n N X f0 b0 b1 S0 u dp (i + 1) (I ++ [(0, 0, 0, u)]) F (pA F) Sq116 := hz113
          have krSq116 := kq_rg T n N X (i + 1)
          have nnSq116 := rQ_n hSq116
          have hlSq116 : (I ++ [(0, 0, 0, u)]).length = I.length + 1 := List.length_append
          refine wa_goto ⟨_, rfl⟩ ?_
          refine wa_aload_n (n := 0) rfl ?_
          refine wa_bipush (w_rg2 (by omega) (by omega)) ?_
          refine wa_cv 237 rfl (wy_pr rfl) wt_237 (M2 := fun _ => False) rfl at_M_takes ⟨_, rfl⟩ rfl rfl ⟨trivial, (Or.inr ⟨wy_pr rfl, fun q => q⟩), trivial⟩ trivial (fun _ _ q => False.elim q) (tkw (S := Sq116) hSq116 ipSq106 (fun _ => sk_59) ⟨by decide, by decide⟩ ⟨by decide, by decide⟩) (fun oq122 Sq122 hp123 q122 => ?_)
          rcases q122 with ⟨rfl, ks118, hz119, hl120⟩ | ⟨rfl, ks118, hf121⟩
          · skip
            show wJ _ _ _ _ _ _ _ _ _ _
            have hSq122 : rQ T n N X f0 b0 b1 S0 u dp (i + 2) (I ++ [(0, 0, 0, u)]) F (pA F) Sq122 := hz119
            have ipSq122 : (((i + 2) : Nat) : Int) ≤ tp T n 0 (i + 2) := pI_nx (N := N) (X := X) ipSq106 (rQ_n hSq116) ⟨by omega, by omega⟩
            have krSq122 := kq_rg T n N X (i + 2)
            have nnSq122 := rQ_n hSq122
            refine wa_aload_n (n := 0) rfl ?_
            refine wa_iload_n (n := 1) rfl ?_
            refine wa_ifeq (w_rg0 (by omega) (by omega)) ⟨_, rfl⟩ (fun c124 => ?_) (fun c124 => ?_)
            · skip
              exact absurd c124 (by omega)
            · skip
              refine wa_bipush (w_rg2 (by omega) (by omega)) ?_
              refine wa_goto ⟨_, rfl⟩ ?_
              refine wa_iconst ?_
              refine wa_iconst ?_
              refine wa_cv 237 rfl (wy_pr rfl) wt_237 (M2 := fun _ => False) rfl at_M_emits ⟨_, rfl⟩ rfl rfl ⟨trivial, (Or.inr ⟨wy_pr rfl, fun q => q⟩), trivial⟩ trivial (fun _ _ q => False.elim q) (emw (S := Sq122) (x := (29, 0, 0, u)) hSq122 (by omega) rfl (by show (29 : Int) ≠ 27; decide) rfl ⟨by omega, by omega⟩ ⟨by omega, by omega⟩ ⟨by omega, by omega⟩) (fun oq128 Sq128 hp129 q128 => ?_)
              rcases q128 with ⟨rfl, hz125, l61126, l60127⟩
              show wJ _ _ _ _ _ _ _ _ _ _
              have hSq128 : rQ T n N X f0 b0 b1 S0 u dp (i + 2) ((I ++ [(0, 0, 0, u)]) ++ [(29, 0, 0, u)]) F (pA F) Sq128 := hz125
              have krSq128 := kq_rg T n N X (i + 2)
              have nnSq128 := rQ_n hSq128
              have hlSq128 : ((I ++ [(0, 0, 0, u)]) ++ [(29, 0, 0, u)]).length = (I ++ [(0, 0, 0, u)]).length + 1 := List.length_append
              refine wa_return rfl ?_
              unfold pz_ST45 at hd
              rw [if_pos ⟨by omega, by omega⟩] at hd
              subst hd
              exact ⟨rfl, hSq128, ⟨by omega, by omega, ipSq122, (px_tr (px_tr px_rfl (px_ap I (0, 0, 0, u))) (px_ap (I ++ [(0, 0, 0, u)]) (29, 0, 0, u)))⟩, trivial⟩
          · skip
            exfalso; omega
      · skip
        show wJ _ _ _ _ _ _ _ _ _ _
        refine wa_ifeq (w_rg0 (by omega) (by omega)) ⟨_, rfl⟩ (fun c130 => ?_) (fun c130 => ?_)
        · skip
          have hdv := hd
          unfold pz_ST45 at hdv
          rw [if_neg (by omega)] at hdv
          refine wa_aload_n (n := 0) rfl ?_
          rcases hdv with ⟨v131, hs132, ho133⟩ | ⟨i134, I135, F136, t137, hs132, hd1⟩
          · refine wa_cv 237 rfl (wy_pr rfl) wt_237 (M2 := fun _ => False) rfl at_M_value ⟨_, rfl⟩ rfl rfl ⟨trivial, (Or.inr ⟨wy_pr rfl, fun q => q⟩), trivial⟩ trivial (fun _ _ q => False.elim q) (r4 hs132 ⟨⟨by omega, by omega⟩, by omega, ipSq106⟩ _ _ _ (by omega) hSq106) (fun oq145 Sq145 hp146 q145 => ?_)
            rcases q145 with ⟨rfl, hf144⟩
            subst ho133
            exact ⟨rfl, ⟨rfl, hf144⟩⟩
          refine wa_cv 237 rfl (wy_pr rfl) wt_237 (M2 := fun _ => False) rfl at_M_value ⟨_, rfl⟩ rfl rfl ⟨trivial, (Or.inr ⟨wy_pr rfl, fun q => q⟩), trivial⟩ trivial (fun _ _ q => False.elim q) (r4 hs132 ⟨⟨by omega, by omega⟩, by omega, ipSq106⟩ _ _ _ (by omega) hSq106) (fun oq147 Sq147 hp148 q147 => ?_)
          rcases q147 with ⟨rfl, hz138, ⟨p139, p140, p141, p142⟩, e143⟩
          show wJ _ _ _ _ _ _ _ _ _ _
          have hSq147 : rQ T n N X f0 b0 b1 S0 u dp i134 I135 F136 (pA F136) Sq147 := hz138
          have ipSq147 : ((i134 : Nat) : Int) ≤ tp T n 0 i134 := p141
          have krSq147 := kq_rg T n N X i134
          have nnSq147 := rQ_n hSq147
          have lnSq147 := px_len p142
          refine wa_fall ⟨_, rfl⟩ ?_
          refine wa_aload_n (n := 0) rfl ?_
          refine wa_bipush (w_rg2 (by omega) (by omega)) ?_
          refine wa_cv 237 rfl (wy_pr rfl) wt_237 (M2 := fun _ => False) rfl at_M_takes ⟨_, rfl⟩ rfl rfl ⟨trivial, (Or.inr ⟨wy_pr rfl, fun q => q⟩), trivial⟩ trivial (fun _ _ q => False.elim q) (tkw (S := Sq147) hSq147 ipSq147 (fun _ => sk_59) ⟨by decide, by decide⟩ ⟨by decide, by decide⟩) (fun oq153 Sq153 hp154 q153 => ?_)
          rcases q153 with ⟨rfl, ks149, hz150, hl151⟩ | ⟨rfl, ks149, hf152⟩
          · skip
            show wJ _ _ _ _ _ _ _ _ _ _
            have hSq153 : rQ T n N X f0 b0 b1 S0 u dp (i134 + 1) I135 F136 (pA F136) Sq153 := hz150
            have ipSq153 : (((i134 + 1) : Nat) : Int) ≤ tp T n 0 (i134 + 1) := pI_nx (N := N) (X := X) ipSq147 (rQ_n hSq147) ⟨by omega, by omega⟩
            have krSq153 := kq_rg T n N X (i134 + 1)
            have nnSq153 := rQ_n hSq153
            have hd2 := qtk_o hd1 ks149
            refine wa_aload_n (n := 0) rfl ?_
            refine wa_iload_n (n := 1) rfl ?_
            refine wa_ifeq (w_rg0 (by omega) (by omega)) ⟨_, rfl⟩ (fun c155 => ?_) (fun c155 => ?_)
            · skip
              exact absurd c155 (by omega)
            · skip
              refine wa_bipush (w_rg2 (by omega) (by omega)) ?_
              refine wa_goto ⟨_, rfl⟩ ?_
              refine wa_iconst ?_
              refine wa_iconst ?_
              refine wa_cv 237 rfl (wy_pr rfl) wt_237 (M2 := fun _ => False) rfl at_M_emits ⟨_, rfl⟩ rfl rfl ⟨trivial, (Or.inr ⟨wy_pr rfl, fun q => q⟩), trivial⟩ trivial (fun _ _ q => False.elim q) (emw (S := Sq153) (x := (29, 0, 0, u)) hSq153 (by omega) rfl (by show (29 : Int) ≠ 27; decide) rfl ⟨by omega, by omega⟩ ⟨by omega, by omega⟩ ⟨by omega, by omega⟩) (fun oq159 Sq159 hp160 q159 => ?_)
              rcases q159 with ⟨rfl, hz156, l61157, l60158⟩
              show wJ _ _ _ _ _ _ _ _ _ _
              have hSq159 : rQ T n N X f0 b0 b1 S0 u dp (i134 + 1) (I135 ++ [(29, 0, 0, u)]) F136 (pA F136) Sq159 := hz156
              have krSq159 := kq_rg T n N X (i134 + 1)
              have nnSq159 := rQ_n hSq159
              have hlSq159 : (I135 ++ [(29, 0, 0, u)]).length = I135.length + 1 := List.length_append
              refine wa_return rfl ?_
              first | rw [if_pos (by omega)] at hd2 | rw [if_neg (by omega)] at hd2
              subst hd2
              exact ⟨rfl, hSq159, ⟨by omega, by omega, ipSq153, (px_tr (px_tr px_rfl p142) (px_ap I135 (29, 0, 0, u)))⟩, trivial⟩
          · skip
            have ho := qtk_1 hd1 ks149
            subst ho
            exact ⟨rfl, ⟨rfl, hf152⟩⟩
        · skip
          exact absurd c130 (by omega)
  · skip
    show wJ _ _ _ _ _ _ _ _ _ _
    refine wa_istore_n (n := 1) rfl ?_
    refine wa_aload_n (n := 0) rfl ?_
    refine wa_cv 237 rfl (wy_pr rfl) wt_237 (M2 := fun _ => False) rfl at_M_next ⟨_, rfl⟩ rfl rfl ⟨trivial, (Or.inr ⟨wy_pr rfl, fun q => q⟩), trivial⟩ trivial (fun _ _ q => False.elim q) (nxw (S := S) h ⟨by omega, by omega, by omega, by omega, by omega⟩) (fun oq163 Sq163 hp164 q163 => ?_)
    rcases q163 with ⟨rfl, hz161, hl162⟩
    show wJ _ _ _ _ _ _ _ _ _ _
    have hSq163 : rQ T n N X f0 b0 b1 S0 u dp (i + 1) I F (pA F) Sq163 := hz161
    have ipSq163 : (((i + 1) : Nat) : Int) ≤ tp T n 0 (i + 1) := pI_nx (N := N) (X := X) ip (rQ_n h) ⟨by omega, by omega⟩
    have krSq163 := kq_rg T n N X (i + 1)
    have nnSq163 := rQ_n hSq163
    refine wa_iload_n (n := 1) rfl ?_
    refine wa_ifeq (w_rg0 (by omega) (by omega)) ⟨_, rfl⟩ (fun c165 => ?_) (fun c165 => ?_)
    · skip
      have hdv := hd
      unfold pz_ST45 at hdv
      rw [if_neg (by omega)] at hdv
      refine wa_aload_n (n := 0) rfl ?_
      rcases hdv with ⟨v166, hs167, ho168⟩ | ⟨i169, I170, F171, t172, hs167, hd3⟩
      · refine wa_cv 237 rfl (wy_pr rfl) wt_237 (M2 := fun _ => False) rfl at_M_value ⟨_, rfl⟩ rfl rfl ⟨trivial, (Or.inr ⟨wy_pr rfl, fun q => q⟩), trivial⟩ trivial (fun _ _ q => False.elim q) (r4 hs167 ⟨⟨by omega, by omega⟩, by omega, ipSq163⟩ _ _ _ (by omega) hSq163) (fun oq180 Sq180 hp181 q180 => ?_)
        rcases q180 with ⟨rfl, hf179⟩
        subst ho168
        exact ⟨rfl, ⟨rfl, hf179⟩⟩
      refine wa_cv 237 rfl (wy_pr rfl) wt_237 (M2 := fun _ => False) rfl at_M_value ⟨_, rfl⟩ rfl rfl ⟨trivial, (Or.inr ⟨wy_pr rfl, fun q => q⟩), trivial⟩ trivial (fun _ _ q => False.elim q) (r4 hs167 ⟨⟨by omega, by omega⟩, by omega, ipSq163⟩ _ _ _ (by omega) hSq163) (fun oq182 Sq182 hp183 q182 => ?_)
      rcases q182 with ⟨rfl, hz173, ⟨p174, p175, p176, p177⟩, e178⟩
      show wJ _ _ _ _ _ _ _ _ _ _
      have hSq182 : rQ T n N X f0 b0 b1 S0 u dp i169 I170 F171 (pA F171) Sq182 := hz173
      have ipSq182 : ((i169 : Nat) : Int) ≤ tp T n 0 i169 := p176
      have krSq182 := kq_rg T n N X i169
      have nnSq182 := rQ_n hSq182
      have lnSq182 := px_len p177
      refine wa_fall ⟨_, rfl⟩ ?_
      refine wa_aload_n (n := 0) rfl ?_
      refine wa_bipush (w_rg2 (by omega) (by omega)) ?_
      refine wa_cv 237 rfl (wy_pr rfl) wt_237 (M2 := fun _ => False) rfl at_M_takes ⟨_, rfl⟩ rfl rfl ⟨trivial, (Or.inr ⟨wy_pr rfl, fun q => q⟩), trivial⟩ trivial (fun _ _ q => False.elim q) (tkw (S := Sq182) hSq182 ipSq182 (fun _ => sk_59) ⟨by decide, by decide⟩ ⟨by decide, by decide⟩) (fun oq188 Sq188 hp189 q188 => ?_)
      rcases q188 with ⟨rfl, ks184, hz185, hl186⟩ | ⟨rfl, ks184, hf187⟩
      · skip
        show wJ _ _ _ _ _ _ _ _ _ _
        have hSq188 : rQ T n N X f0 b0 b1 S0 u dp (i169 + 1) I170 F171 (pA F171) Sq188 := hz185
        have ipSq188 : (((i169 + 1) : Nat) : Int) ≤ tp T n 0 (i169 + 1) := pI_nx (N := N) (X := X) ipSq182 (rQ_n hSq182) ⟨by omega, by omega⟩
        have krSq188 := kq_rg T n N X (i169 + 1)
        have nnSq188 := rQ_n hSq188
        have hd4 := qtk_o hd3 ks184
        refine wa_aload_n (n := 0) rfl ?_
        refine wa_iload_n (n := 1) rfl ?_
        refine wa_ifeq (w_rg0 (by omega) (by omega)) ⟨_, rfl⟩ (fun c190 => ?_) (fun c190 => ?_)
        · skip
          refine wa_bipush (w_rg2 (by omega) (by omega)) ?_
          refine wa_fall ⟨_, rfl⟩ ?_
          refine wa_iconst ?_
          refine wa_iconst ?_
          refine wa_cv 237 rfl (wy_pr rfl) wt_237 (M2 := fun _ => False) rfl at_M_emits ⟨_, rfl⟩ rfl rfl ⟨trivial, (Or.inr ⟨wy_pr rfl, fun q => q⟩), trivial⟩ trivial (fun _ _ q => False.elim q) (emw (S := Sq188) (x := (30, 0, 0, u)) hSq188 (by omega) rfl (by show (30 : Int) ≠ 27; decide) rfl ⟨by omega, by omega⟩ ⟨by omega, by omega⟩ ⟨by omega, by omega⟩) (fun oq194 Sq194 hp195 q194 => ?_)
          rcases q194 with ⟨rfl, hz191, l61192, l60193⟩
          show wJ _ _ _ _ _ _ _ _ _ _
          have hSq194 : rQ T n N X f0 b0 b1 S0 u dp (i169 + 1) (I170 ++ [(30, 0, 0, u)]) F171 (pA F171) Sq194 := hz191
          have krSq194 := kq_rg T n N X (i169 + 1)
          have nnSq194 := rQ_n hSq194
          have hlSq194 : (I170 ++ [(30, 0, 0, u)]).length = I170.length + 1 := List.length_append
          refine wa_return rfl ?_
          first | rw [if_pos (by omega)] at hd4 | rw [if_neg (by omega)] at hd4
          subst hd4
          exact ⟨rfl, hSq194, ⟨by omega, by omega, ipSq188, (px_tr (px_tr px_rfl p177) (px_ap I170 (30, 0, 0, u)))⟩, trivial⟩
        · skip
          exact absurd c190 (by omega)
      · skip
        have ho := qtk_1 hd3 ks184
        subst ho
        exact ⟨rfl, ⟨rfl, hf187⟩⟩
    · skip
      exact absurd c165 (by omega)
theorem tr_w (hX : w_X xs) (hk : kq T n N X i = 47) (hd : pz_ST47 (kq T n N X) (vq T n N X) (tp T n 0) f0 (rR xs T n N X f0 b0 b1 S0) i dp u I F o) : rM xs T n N X f0 b0 b1 S0 17 t_M_tries [(0, (2, 237))] (fun _ => none) 1 (fun _ _ _ => True) dp u i I F o := by
  intro hpre M D S hD h
  obtain ⟨⟨d0, d1⟩, hlen, ip⟩ := hpre
  obtain ⟨D, rfl⟩ : ∃ E, D = E + 12 := ⟨D - 12, by omega⟩
  have krS := kq_rg T n N X i
  have nnS := rQ_n h
  unfold pz_ST47 at hd
  refine wa_aload_n (n := 0) rfl ?_
  refine wa_cv 237 rfl (wy_pr rfl) wt_237 (M2 := fun _ => False) rfl at_M_next ⟨_, rfl⟩ rfl rfl ⟨(Or.inr ⟨wy_pr rfl, fun q => q⟩), trivial⟩ trivial (fun _ _ q => False.elim q) (nxw (S := S) h ⟨by omega, by omega, by omega, by omega, by omega⟩) (fun oq103 Sq103 hp104 q103 => ?_)
  rcases q103 with ⟨rfl, hz101, hl102⟩
  show wJ _ _ _ _ _ _ _ _ _ _
  have hSq103 : rQ T n N X f0 b0 b1 S0 u dp (i + 1) I F (pA F) Sq103 := hz101
  have ipSq103 : (((i + 1) : Nat) : Int) ≤ tp T n 0 (i + 1) := pI_nx (N := N) (X := X) ip (rQ_n h) ⟨by omega, by omega⟩
  have krSq103 := kq_rg T n N X (i + 1)
  have nnSq103 := rQ_n hSq103
  refine wa_aload_n (n := 0) rfl ?_
  refine wb_gf5 237 rfl (wy_pr rfl) wt_237 wf_15_28 (v := (nP (u - f0).toNat : Int)) ((rQ_pp hSq103).2.2.1) (fun r105 => ?_)
  refine wa_cv (nP (u - f0).toNat) rfl (rQ_pp hSq103).1 (wt_P0 (by have := (rQ_pp h).2.1; omega)) (M2 := fun _ => False) rfl at_MP_here ⟨_, rfl⟩ rfl rfl ⟨(Or.inr ⟨wy_pr rfl, fun q => q⟩), trivial⟩ trivial (fun _ _ q => False.elim q) (hew (S := Sq103) hSq103) (fun oq107 Sq107 hp108 q107 => ?_)
  rcases q107 with ⟨rfl, rfl⟩
  show wJ _ _ _ _ _ _ _ _ _ _
  have hr106 := pz_h_rg I u
  refine wa_istore_n (n := 1) rfl ?_
  refine wa_aload_n (n := 0) rfl ?_
  refine wa_bipush (w_rg2 (by omega) (by omega)) ?_
  refine wa_iconst ?_
  refine wa_iconst ?_
  refine wa_cv 237 rfl (wy_pr rfl) wt_237 (M2 := fun _ => False) rfl at_M_emits ⟨_, rfl⟩ rfl rfl ⟨trivial, (Or.inr ⟨wy_pr rfl, fun q => q⟩), trivial⟩ trivial (fun _ _ q => False.elim q) (emw (S := Sq103) (x := (31, 0, 0, u)) hSq103 (by omega) rfl (by show (31 : Int) ≠ 27; decide) rfl ⟨by omega, by omega⟩ ⟨by omega, by omega⟩ ⟨by omega, by omega⟩) (fun oq112 Sq112 hp113 q112 => ?_)
  rcases q112 with ⟨rfl, hz109, l61110, l60111⟩
  show wJ _ _ _ _ _ _ _ _ _ _
  have hSq112 : rQ T n N X f0 b0 b1 S0 u dp (i + 1) (I ++ [(31, 0, 0, u)]) F (pA F) Sq112 := hz109
  have krSq112 := kq_rg T n N X (i + 1)
  have nnSq112 := rQ_n hSq112
  have hlSq112 : (I ++ [(31, 0, 0, u)]).length = I.length + 1 := List.length_append
  refine wa_aload_n (n := 0) rfl ?_
  rcases hd with ⟨v114, hs115, ho116⟩ | ⟨i117, I118, F119, t120, hs115, hd1⟩
  · refine wa_cv 237 rfl (wy_pr rfl) wt_237 (M2 := fun _ => False) rfl at_M_block ⟨_, rfl⟩ rfl rfl ⟨trivial, (Or.inr ⟨wy_pr rfl, fun q => q⟩), trivial⟩ trivial (fun _ _ q => False.elim q) (bk_w hs115 ⟨⟨by omega, by omega⟩, by omega, ipSq103⟩ _ _ _ (by omega) hSq112) (fun oq128 Sq128 hp129 q128 => ?_)
    rcases q128 with ⟨rfl, hf127⟩
    subst ho116
    exact ⟨rfl, ⟨rfl, hf127⟩⟩
  refine wa_cv 237 rfl (wy_pr rfl) wt_237 (M2 := fun _ => False) rfl at_M_block ⟨_, rfl⟩ rfl rfl ⟨trivial, (Or.inr ⟨wy_pr rfl, fun q => q⟩), trivial⟩ trivial (fun _ _ q => False.elim q) (bk_w hs115 ⟨⟨by omega, by omega⟩, by omega, ipSq103⟩ _ _ _ (by omega) hSq112) (fun oq130 Sq130 hp131 q130 => ?_)
  rcases q130 with ⟨rfl, hz121, ⟨p122, p123, p124, p125⟩, e126⟩
  show wJ _ _ _ _ _ _ _ _ _ _
  have hSq130 : rQ T n N X f0 b0 b1 S0 u dp i117 I118 F119 (pA F119) Sq130 := hz121
  have ipSq130 : ((i117 : Nat) : Int) ≤ tp T n 0 i117 := p124
  have krSq130 := kq_rg T n N X i117
  have nnSq130 := rQ_n hSq130
  have lnSq130 := px_len p125
  refine wa_aload_n (n := 0) rfl ?_
  refine wa_bipush (w_rg2 (by omega) (by omega)) ?_
  refine wa_iconst ?_
  refine wa_iconst ?_
  refine wa_cv 237 rfl (wy_pr rfl) wt_237 (M2 := fun _ => False) rfl at_M_emits ⟨_, rfl⟩ rfl rfl ⟨trivial, (Or.inr ⟨wy_pr rfl, fun q => q⟩), trivial⟩ trivial (fun _ _ q => False.elim q) (emw (S := Sq130) (x := (32, 0, 0, u)) hSq130 (by omega) rfl (by show (32 : Int) ≠ 27; decide) rfl ⟨by omega, by omega⟩ ⟨by omega, by omega⟩ ⟨by omega, by omega⟩) (fun oq135 Sq135 hp136 q135 => ?_)
  rcases q135 with ⟨rfl, hz132, l61133, l60134⟩
  show wJ _ _ _ _ _ _ _ _ _ _
  have hSq135 : rQ T n N X f0 b0 b1 S0 u dp i117 (I118 ++ [(32, 0, 0, u)]) F119 (pA F119) Sq135 := hz132
  have krSq135 := kq_rg T n N X i117
  have nnSq135 := rQ_n hSq135
  have hlSq135 : (I118 ++ [(32, 0, 0, u)]).length = I118.length + 1 := List.length_append
  refine wa_aload_n (n := 0) rfl ?_
  refine wb_gf5 237 rfl (wy_pr rfl) wt_237 wf_15_28 (v := (nP (u - f0).toNat : Int)) ((rQ_pp hSq135).2.2.1) (fun r137 => ?_)
  refine wa_cv (nP (u - f0).toNat) rfl (rQ_pp hSq135).1 (wt_P0 (by have := (rQ_pp h).2.1; omega)) (M2 := fun _ => False) rfl at_MP_here ⟨_, rfl⟩ rfl rfl ⟨trivial, (Or.inr ⟨wy_pr rfl, fun q => q⟩), trivial⟩ trivial (fun _ _ q => False.elim q) (hew (S := Sq135) hSq135) (fun oq139 Sq139 hp140 q139 => ?_)
  rcases q139 with ⟨rfl, rfl⟩
  show wJ _ _ _ _ _ _ _ _ _ _
  have hr138 := pz_h_rg (I118 ++ [(32, 0, 0, u)]) u
  refine wa_istore_n (n := 2) rfl ?_
  refine wa_aload_n (n := 0) rfl ?_
  refine wa_bipush (w_rg2 (by omega) (by omega)) ?_
  refine wa_iconst ?_
  refine wa_iconst ?_
  refine wa_cv 237 rfl (wy_pr rfl) wt_237 (M2 := fun _ => False) rfl at_M_emits ⟨_, rfl⟩ rfl rfl ⟨trivial, trivial, (Or.inr ⟨wy_pr rfl, fun q => q⟩), trivial⟩ trivial (fun _ _ q => False.elim q) (emw (S := Sq135) (x := (20, 0, 0, u)) hSq135 (by omega) rfl (by show (20 : Int) ≠ 27; decide) rfl ⟨by omega, by omega⟩ ⟨by omega, by omega⟩ ⟨by omega, by omega⟩) (fun oq144 Sq144 hp145 q144 => ?_)
  rcases q144 with ⟨rfl, hz141, l61142, l60143⟩
  show wJ _ _ _ _ _ _ _ _ _ _
  have hSq144 : rQ T n N X f0 b0 b1 S0 u dp i117 ((I118 ++ [(32, 0, 0, u)]) ++ [(20, 0, 0, u)]) F119 (pA F119) Sq144 := hz141
  have krSq144 := kq_rg T n N X i117
  have nnSq144 := rQ_n hSq144
  have hlSq144 : ((I118 ++ [(32, 0, 0, u)]) ++ [(20, 0, 0, u)]).length = (I118 ++ [(32, 0, 0, u)]).length + 1 := List.length_append
  refine wa_aload_n (n := 0) rfl ?_
  refine wb_gf5 237 rfl (wy_pr rfl) wt_237 wf_15_28 (v := (nP (u - f0).toNat : Int)) ((rQ_pp hSq144).2.2.1) (fun r146 => ?_)
  refine wb_gf5 (nP (u - f0).toNat) rfl (rQ_pp hSq144).1 (wt_P0 (by have := (rQ_pp h).2.1; omega)) wf_14_5 (v := ((nP (u - f0).toNat + 3 : Nat) : Int)) ((rQ_pa hSq144).1) (fun r147 => ?_)
  refine wa_iload_n (n := 1) rfl ?_
  refine wa_aload_n (n := 0) rfl ?_
  refine wb_gf5 237 rfl (wy_pr rfl) wt_237 wf_15_28 (v := (nP (u - f0).toNat : Int)) ((rQ_pp hSq144).2.2.1) (fun r148 => ?_)
  refine wa_cv (nP (u - f0).toNat) rfl (rQ_pp hSq144).1 (wt_P0 (by have := (rQ_pp h).2.1; omega)) (M2 := fun _ => False) rfl at_MP_here ⟨_, rfl⟩ rfl rfl ⟨trivial, trivial, (Or.inr ⟨wy_pr rfl, fun q => q⟩), trivial⟩ ⟨trivial, (Or.inr ⟨(rQ_pa hSq144).2, fun q => q⟩), trivial⟩ (fun _ _ q => False.elim q) (hew (S := Sq144) hSq144) (fun oq150 Sq150 hp151 q150 => ?_)
  rcases q150 with ⟨rfl, rfl⟩
  show wJ _ _ _ _ _ _ _ _ _ _
  have hr149 := pz_h_rg ((I118 ++ [(32, 0, 0, u)]) ++ [(20, 0, 0, u)]) u
  have lm155 := px_len1 (px_tr (px_tr (px_tr px_rfl p125) (px_ap I118 (32, 0, 0, u))) (px_ap (I118 ++ [(32, 0, 0, u)]) (20, 0, 0, u)))
  have hc154 := sew (xs := xs) (M := fun _ => False) (d := D + 11) (S := Sq144) (j := I.length) (z := (31, 0, 0, u)) (v := (pz_h ((I118 ++ [(32, 0, 0, u)]) ++ [(20, 0, 0, u)]) u)) hSq144 (by omega) (by omega) (px_get (px_tr (px_tr (px_tr px_rfl p125) (px_ap I118 (32, 0, 0, u))) (px_ap (I118 ++ [(32, 0, 0, u)]) (20, 0, 0, u)))) rfl ⟨(by show (31 : Int) ≠ 27; decide), (by show (31 : Int) ≠ 24; decide)⟩ ⟨by omega, by omega⟩
  rw [px_take (px_tr (px_tr (px_tr px_rfl p125) (px_ap I118 (32, 0, 0, u))) (px_ap (I118 ++ [(32, 0, 0, u)]) (20, 0, 0, u)))] at hc154
  refine wa_cv (nP (u - f0).toNat + 3) rfl (rQ_pa hSq144).2 (wt_P2 (by have := (rQ_pp h).2.1; omega) ⟨by decide, by decide⟩) (M2 := fun _ => False) rfl at_MI_set ⟨_, rfl⟩ rfl rfl ⟨trivial, trivial, (Or.inr ⟨wy_pr rfl, fun q => q⟩), trivial⟩ trivial (fun _ _ q => False.elim q) (hc154) (fun oq156 Sq156 hp157 q156 => ?_)
  rcases q156 with ⟨rfl, hz152, hy153⟩
  show wJ _ _ _ _ _ _ _ _ _ _
  have hSq156 : rQ T n N X f0 b0 b1 S0 u dp i117 (pz_a ((I118 ++ [(32, 0, 0, u)]) ++ [(20, 0, 0, u)]) I.length (pz_h ((I118 ++ [(32, 0, 0, u)]) ++ [(20, 0, 0, u)]) u)) F119 (pA F119) Sq156 := hz152
  have krSq156 := kq_rg T n N X i117
  have nnSq156 := rQ_n hSq156
  have hlSq156 : (pz_a ((I118 ++ [(32, 0, 0, u)]) ++ [(20, 0, 0, u)]) I.length (pz_h ((I118 ++ [(32, 0, 0, u)]) ++ [(20, 0, 0, u)]) u)).length = ((I118 ++ [(32, 0, 0, u)]) ++ [(20, 0, 0, u)]).length := pz_a_len _ _ _
  refine wa_aload_n (n := 0) rfl ?_
  refine wa_aload_n (n := 0) rfl ?_
  refine wa_ks ?_
  refine wa_cv 237 rfl (wy_pr rfl) wt_237 (M2 := fun _ => False) rfl at_M_isWord ⟨_, rfl⟩ rfl rfl ⟨trivial, trivial, (Or.inr ⟨wy_pr rfl, fun q => q⟩), trivial⟩ ⟨(Or.inr ⟨wy_pr rfl, fun q => q⟩), trivial⟩ (fun _ _ q => False.elim q) (wdw (S := Sq156) (k := 8) hSq156 (wx_31 hX) (by decide) (by decide)) (fun oq159 Sq159 hp160 q159 => ?_)
  rcases q159 with ⟨rfl, ⟨rfl, kw158⟩ | ⟨rfl, kw158⟩⟩
  · skip
    show wJ _ _ _ _ _ _ _ _ _ _
    have hd2 := qtk_o hd1 (by omega)
    refine wa_iconst ?_
    refine wa_cv 237 rfl (wy_pr rfl) wt_237 (M2 := fun _ => False) rfl at_M_must ⟨_, rfl⟩ rfl rfl ⟨trivial, trivial, (Or.inr ⟨wy_pr rfl, fun q => q⟩), trivial⟩ trivial (fun _ _ q => False.elim q) (must_ok (S := Sq156) (g := 1) (n := 1) (by omega) ⟨by omega, by omega⟩) (fun oq162 Sq162 hp163 q162 => ?_)
    rcases q162 with ⟨hg161, rfl, rfl⟩ | ⟨hg161, rfl, rfl⟩
    · skip
      show wJ _ _ _ _ _ _ _ _ _ _
      refine wa_aload_n (n := 0) rfl ?_
      refine wa_cv 237 rfl (wy_pr rfl) wt_237 (M2 := fun _ => False) rfl at_M_next ⟨_, rfl⟩ rfl rfl ⟨trivial, trivial, (Or.inr ⟨wy_pr rfl, fun q => q⟩), trivial⟩ trivial (fun _ _ q => False.elim q) (nxw (S := Sq156) hSq156 ⟨by omega, by omega, by omega, by omega, by omega⟩) (fun oq166 Sq166 hp167 q166 => ?_)
      rcases q166 with ⟨rfl, hz164, hl165⟩
      show wJ _ _ _ _ _ _ _ _ _ _
      have hSq166 : rQ T n N X f0 b0 b1 S0 u dp (i117 + 1) (pz_a ((I118 ++ [(32, 0, 0, u)]) ++ [(20, 0, 0, u)]) I.length (pz_h ((I118 ++ [(32, 0, 0, u)]) ++ [(20, 0, 0, u)]) u)) F119 (pA F119) Sq166 := hz164
      have ipSq166 : (((i117 + 1) : Nat) : Int) ≤ tp T n 0 (i117 + 1) := pI_nx (N := N) (X := X) ipSq130 (rQ_n hSq156) ⟨by omega, by omega⟩
      have krSq166 := kq_rg T n N X (i117 + 1)
      have nnSq166 := rQ_n hSq166
      refine wa_aload_n (n := 0) rfl ?_
      refine wa_bipush (w_rg2 (by omega) (by omega)) ?_
      refine wa_cv 237 rfl (wy_pr rfl) wt_237 (M2 := fun _ => False) rfl at_M_opens ⟨_, rfl⟩ rfl rfl ⟨trivial, trivial, (Or.inr ⟨wy_pr rfl, fun q => q⟩), trivial⟩ trivial (fun _ _ q => False.elim q) (opw (S := Sq166) hSq166 ipSq166 (fun _ => sk_40) ⟨by decide, by decide⟩ ⟨by decide, by decide⟩ ⟨by omega, by omega⟩) (fun oq173 Sq173 hp174 q173 => ?_)
      rcases q173 with ⟨rfl, ⟨ks168, hd5172⟩, hz169, hl170⟩ | ⟨rfl, ks168, hf171⟩ | ⟨rfl, ⟨ks168, hd5172⟩, hf171⟩
      · skip
        show wJ _ _ _ _ _ _ _ _ _ _
        have hSq173 : rQ T n N X f0 b0 b1 S0 u (dp + 1) (i117 + 2) (pz_a ((I118 ++ [(32, 0, 0, u)]) ++ [(20, 0, 0, u)]) I.length (pz_h ((I118 ++ [(32, 0, 0, u)]) ++ [(20, 0, 0, u)]) u)) F119 (pA F119) Sq173 := hz169
        have ipSq173 : (((i117 + 2) : Nat) : Int) ≤ tp T n 0 (i117 + 2) := pI_nx (N := N) (X := X) ipSq166 (rQ_n hSq166) ⟨by omega, by omega⟩
        have krSq173 := kq_rg T n N X (i117 + 2)
        have nnSq173 := rQ_n hSq173
        have hd3 := qop_o hd2 ks168 hd5172
        refine wa_aload_n (n := 0) rfl ?_
        refine wa_cv 237 rfl (wy_pr rfl) wt_237 (M2 := fun _ => False) rfl at_M_declares ⟨_, rfl⟩ rfl rfl ⟨trivial, trivial, (Or.inr ⟨wy_pr rfl, fun q => q⟩), trivial⟩ trivial (fun _ _ q => False.elim q) (dcw (S := Sq173) hX hSq173 ipSq173) (fun oq183 Sq183 hp184 q183 => ?_)
        rcases q183 with ⟨F175, rfl, ks176, hdc177, hz178, z179, z180⟩ | ⟨v181, rfl, hdc177, hf182⟩
        · skip
          show wJ _ _ _ _ _ _ _ _ _ _
          have hSq183 : rQ T n N X f0 b0 b1 S0 u (dp + 1) (i117 + 3) (pz_a ((I118 ++ [(32, 0, 0, u)]) ++ [(20, 0, 0, u)]) I.length (pz_h ((I118 ++ [(32, 0, 0, u)]) ++ [(20, 0, 0, u)]) u)) F175 (pA F175) Sq183 := (by rw [dc_pA hdc177]; exact hz178)
          have ipSq183 : (((i117 + 3) : Nat) : Int) ≤ tp T n 0 (i117 + 3) := pI_nx (N := N) (X := X) ipSq173 (rQ_n hSq173) ⟨by omega, by omega⟩
          have krSq183 := kq_rg T n N X (i117 + 3)
          have nnSq183 := rQ_n hSq183
          have vnSq183 := vq_nn ks176
          have vuSq183 : (vq T n N X (i117 + 2)) < ((NL T n N (i117 + 3)).length : Int) := vq_lt ks176
          have vmSq183 : (NL T n N (i117 + 3)).length ≤ 4000 := hz178.2.1.1.2.1
          have dlSq183 := dc_len hdc177
          have hd4 := qdc_o hd3 hdc177
          refine wa_istore_n (n := 3) rfl ?_
          refine wa_aload_n (n := 0) rfl ?_
          refine wa_bipush (w_rg2 (by omega) (by omega)) ?_
          refine wa_cv 237 rfl (wy_pr rfl) wt_237 (M2 := fun _ => False) rfl at_M_closes ⟨_, rfl⟩ rfl rfl ⟨trivial, trivial, trivial, (Or.inr ⟨wy_pr rfl, fun q => q⟩), trivial⟩ trivial (fun _ _ q => False.elim q) (clw (S := Sq183) hSq183 ipSq183 (fun _ => sk_41) ⟨by decide, by decide⟩ ⟨by decide, by decide⟩ ⟨by omega, by omega⟩) (fun oq189 Sq189 hp190 q189 => ?_)
          rcases q189 with ⟨rfl, ks185, hz186, hl187⟩ | ⟨rfl, ks185, hf188⟩
          · skip
            show wJ _ _ _ _ _ _ _ _ _ _
            have hSq189 : rQ T n N X f0 b0 b1 S0 u dp (i117 + 4) (pz_a ((I118 ++ [(32, 0, 0, u)]) ++ [(20, 0, 0, u)]) I.length (pz_h ((I118 ++ [(32, 0, 0, u)]) ++ [(20, 0, 0, u)]) u)) F175 (pA F175) Sq189 := (by have z := hz186; rw [show (dp + 1) - 1 = dp by omega] at z; exact z)
            have ipSq189 : (((i117 + 4) : Nat) : Int) ≤ tp T n 0 (i117 + 4) := pI_nx (N := N) (X := X) ipSq183 (rQ_n hSq183) ⟨by omega, by omega⟩
            have krSq189 := kq_rg T n N X (i117 + 4)
            have nnSq189 := rQ_n hSq189
            have hd5 := qtk_o hd4 ks185
            refine wa_aload_n (n := 0) rfl ?_
            refine wa_bipush (w_rg2 (by omega) (by omega)) ?_
            refine wa_iload_n (n := 3) rfl ?_
            refine wa_iconst ?_
            refine wa_cv 237 rfl (wy_pr rfl) wt_237 (M2 := fun _ => False) rfl at_M_emits ⟨_, rfl⟩ rfl rfl ⟨trivial, trivial, trivial, (Or.inr ⟨wy_pr rfl, fun q => q⟩), trivial⟩ trivial (fun _ _ q => False.elim q) (emw (S := Sq189) (x := (4, (vq T n N X (i117 + 2)), 0, u)) hSq189 (by omega) rfl (by show (4 : Int) ≠ 27; decide) rfl ⟨by omega, by omega⟩ ⟨by omega, by omega⟩ ⟨by omega, by omega⟩) (fun oq194 Sq194 hp195 q194 => ?_)
            rcases q194 with ⟨rfl, hz191, l61192, l60193⟩
            show wJ _ _ _ _ _ _ _ _ _ _
            have hSq194 : rQ T n N X f0 b0 b1 S0 u dp (i117 + 4) ((pz_a ((I118 ++ [(32, 0, 0, u)]) ++ [(20, 0, 0, u)]) I.length (pz_h ((I118 ++ [(32, 0, 0, u)]) ++ [(20, 0, 0, u)]) u)) ++ [(4, (vq T n N X (i117 + 2)), 0, u)]) F175 (pA F175) Sq194 := hz191
            have krSq194 := kq_rg T n N X (i117 + 4)
            have nnSq194 := rQ_n hSq194
            have hlSq194 : ((pz_a ((I118 ++ [(32, 0, 0, u)]) ++ [(20, 0, 0, u)]) I.length (pz_h ((I118 ++ [(32, 0, 0, u)]) ++ [(20, 0, 0, u)]) u)) ++ [(4, (vq T n N X (i117 + 2)), 0, u)]).length = (pz_a ((I118 ++ [(32, 0, 0, u)]) ++ [(20, 0, 0, u)]) I.length (pz_h ((I118 ++ [(32, 0, 0, u)]) ++ [(20, 0, 0, u)]) u)).length + 1 := List.length_append
            refine wa_aload_n (n := 0) rfl ?_
            refine wa_iconst ?_
            refine wa_iconst ?_
            refine wa_iconst ?_
            refine wa_cv 237 rfl (wy_pr rfl) wt_237 (M2 := fun _ => False) rfl at_M_emits ⟨_, rfl⟩ rfl rfl ⟨trivial, trivial, trivial, (Or.inr ⟨wy_pr rfl, fun q => q⟩), trivial⟩ trivial (fun _ _ q => False.elim q) (emw (S := Sq194) (x := (5, 0, 0, u)) hSq194 (by omega) rfl (by show (5 : Int) ≠ 27; decide) rfl ⟨by omega, by omega⟩ ⟨by omega, by omega⟩ ⟨by omega, by omega⟩) (fun oq199 Sq199 hp200 q199 => ?_)
            rcases q199 with ⟨rfl, hz196, l61197, l60198⟩
            show wJ _ _ _ _ _ _ _ _ _ _
            have hSq199 : rQ T n N X f0 b0 b1 S0 u dp (i117 + 4) (((pz_a ((I118 ++ [(32, 0, 0, u)]) ++ [(20, 0, 0, u)]) I.length (pz_h ((I118 ++ [(32, 0, 0, u)]) ++ [(20, 0, 0, u)]) u)) ++ [(4, (vq T n N X (i117 + 2)), 0, u)]) ++ [(5, 0, 0, u)]) F175 (pA F175) Sq199 := hz196
            have krSq199 := kq_rg T n N X (i117 + 4)
            have nnSq199 := rQ_n hSq199
            have hlSq199 : (((pz_a ((I118 ++ [(32, 0, 0, u)]) ++ [(20, 0, 0, u)]) I.length (pz_h ((I118 ++ [(32, 0, 0, u)]) ++ [(20, 0, 0, u)]) u)) ++ [(4, (vq T n N X (i117 + 2)), 0, u)]) ++ [(5, 0, 0, u)]).length = ((pz_a ((I118 ++ [(32, 0, 0, u)]) ++ [(20, 0, 0, u)]) I.length (pz_h ((I118 ++ [(32, 0, 0, u)]) ++ [(20, 0, 0, u)]) u)) ++ [(4, (vq T n N X (i117 + 2)), 0, u)]).length + 1 := List.length_append
            refine wa_aload_n (n := 0) rfl ?_
            rcases hd5 with ⟨v201, hs202, ho203⟩ | ⟨i204, I205, F206, t207, hs202, hd6⟩
            · refine wa_cv 237 rfl (wy_pr rfl) wt_237 (M2 := fun _ => False) rfl at_M_block ⟨_, rfl⟩ rfl rfl ⟨trivial, trivial, trivial, (Or.inr ⟨wy_pr rfl, fun q => q⟩), trivial⟩ trivial (fun _ _ q => False.elim q) (bk_w hs202 ⟨⟨by omega, by omega⟩, by omega, ipSq189⟩ _ _ _ (by omega) hSq199) (fun oq215 Sq215 hp216 q215 => ?_)
              rcases q215 with ⟨rfl, hf214⟩
              subst ho203
              exact ⟨rfl, ⟨rfl, hf214⟩⟩
            refine wa_cv 237 rfl (wy_pr rfl) wt_237 (M2 := fun _ => False) rfl at_M_block ⟨_, rfl⟩ rfl rfl ⟨trivial, trivial, trivial, (Or.inr ⟨wy_pr rfl, fun q => q⟩), trivial⟩ trivial (fun _ _ q => False.elim q) (bk_w hs202 ⟨⟨by omega, by omega⟩, by omega, ipSq189⟩ _ _ _ (by omega) hSq199) (fun oq217 Sq217 hp218 q217 => ?_)
            rcases q217 with ⟨rfl, hz208, ⟨p209, p210, p211, p212⟩, e213⟩
            show wJ _ _ _ _ _ _ _ _ _ _
            have hSq217 : rQ T n N X f0 b0 b1 S0 u dp i204 I205 F206 (pA F206) Sq217 := hz208
            have ipSq217 : ((i204 : Nat) : Int) ≤ tp T n 0 i204 := p211
            have krSq217 := kq_rg T n N X i204
            have nnSq217 := rQ_n hSq217
            have lnSq217 := px_len p212
            refine wa_aload_n (n := 0) rfl ?_
            refine wb_gf5 237 rfl (wy_pr rfl) wt_237 wf_15_28 (v := (nP (u - f0).toNat : Int)) ((rQ_pp hSq217).2.2.1) (fun r219 => ?_)
            refine wb_gf5 (nP (u - f0).toNat) rfl (rQ_pp hSq217).1 (wt_P0 (by have := (rQ_pp h).2.1; omega)) wf_14_5 (v := ((nP (u - f0).toNat + 3 : Nat) : Int)) ((rQ_pa hSq217).1) (fun r220 => ?_)
            refine wa_iload_n (n := 2) rfl ?_
            refine wa_aload_n (n := 0) rfl ?_
            refine wb_gf5 237 rfl (wy_pr rfl) wt_237 wf_15_28 (v := (nP (u - f0).toNat : Int)) ((rQ_pp hSq217).2.2.1) (fun r221 => ?_)
            refine wa_cv (nP (u - f0).toNat) rfl (rQ_pp hSq217).1 (wt_P0 (by have := (rQ_pp h).2.1; omega)) (M2 := fun _ => False) rfl at_MP_here ⟨_, rfl⟩ rfl rfl ⟨trivial, trivial, trivial, (Or.inr ⟨wy_pr rfl, fun q => q⟩), trivial⟩ ⟨trivial, (Or.inr ⟨(rQ_pa hSq217).2, fun q => q⟩), trivial⟩ (fun _ _ q => False.elim q) (hew (S := Sq217) hSq217) (fun oq223 Sq223 hp224 q223 => ?_)
            rcases q223 with ⟨rfl, rfl⟩
            show wJ _ _ _ _ _ _ _ _ _ _
            have hr222 := pz_h_rg I205 u
            have lm228 := px_len1 (px_tr (px_tr (px_tr (px_as px_rfl (by omega)) (px_ap (pz_a ((I118 ++ [(32, 0, 0, u)]) ++ [(20, 0, 0, u)]) I.length (pz_h ((I118 ++ [(32, 0, 0, u)]) ++ [(20, 0, 0, u)]) u)) (4, (vq T n N X (i117 + 2)), 0, u))) (px_ap ((pz_a ((I118 ++ [(32, 0, 0, u)]) ++ [(20, 0, 0, u)]) I.length (pz_h ((I118 ++ [(32, 0, 0, u)]) ++ [(20, 0, 0, u)]) u)) ++ [(4, (vq T n N X (i117 + 2)), 0, u)]) (5, 0, 0, u))) p212)
            have lm228b : (pz_a (I118 ++ [(32, 0, 0, u)]) I.length (pz_h ((I118 ++ [(32, 0, 0, u)]) ++ [(20, 0, 0, u)]) u)).length = I118.length + 1 := (pz_a_len _ _ _).trans List.length_append
            have hc227 := sew (xs := xs) (M := fun _ => False) (d := D + 11) (S := Sq217) (j := (pz_a (I118 ++ [(32, 0, 0, u)]) I.length (pz_h ((I118 ++ [(32, 0, 0, u)]) ++ [(20, 0, 0, u)]) u)).length) (z := (20, 0, 0, u)) (v := (pz_h I205 u)) hSq217 (by omega) (by omega) (px_get (px_tr (px_tr (px_tr (px_as px_rfl (by omega)) (px_ap (pz_a ((I118 ++ [(32, 0, 0, u)]) ++ [(20, 0, 0, u)]) I.length (pz_h ((I118 ++ [(32, 0, 0, u)]) ++ [(20, 0, 0, u)]) u)) (4, (vq T n N X (i117 + 2)), 0, u))) (px_ap ((pz_a ((I118 ++ [(32, 0, 0, u)]) ++ [(20, 0, 0, u)]) I.length (pz_h ((I118 ++ [(32, 0, 0, u)]) ++ [(20, 0, 0, u)]) u)) ++ [(4, (vq T n N X (i117 + 2)), 0, u)]) (5, 0, 0, u))) p212)) rfl ⟨(by show (20 : Int) ≠ 27; decide), (by show (20 : Int) ≠ 24; decide)⟩ ⟨by omega, by omega⟩
            rw [px_take (px_tr (px_tr (px_tr (px_as px_rfl (by omega)) (px_ap (pz_a ((I118 ++ [(32, 0, 0, u)]) ++ [(20, 0, 0, u)]) I.length (pz_h ((I118 ++ [(32, 0, 0, u)]) ++ [(20, 0, 0, u)]) u)) (4, (vq T n N X (i117 + 2)), 0, u))) (px_ap ((pz_a ((I118 ++ [(32, 0, 0, u)]) ++ [(20, 0, 0, u)]) I.length (pz_h ((I118 ++ [(32, 0, 0, u)]) ++ [(20, 0, 0, u)]) u)) ++ [(4, (vq T n N X (i117 + 2)), 0, u)]) (5, 0, 0, u))) p212), pz_a_h] at hc227
            refine wa_cv (nP (u - f0).toNat + 3) rfl (rQ_pa hSq217).2 (wt_P2 (by have := (rQ_pp h).2.1; omega) ⟨by decide, by decide⟩) (M2 := fun _ => False) rfl at_MI_set ⟨_, rfl⟩ rfl rfl ⟨trivial, trivial, trivial, (Or.inr ⟨wy_pr rfl, fun q => q⟩), trivial⟩ trivial (fun _ _ q => False.elim q) (hc227) (fun oq229 Sq229 hp230 q229 => ?_)
            rcases q229 with ⟨rfl, hz225, hy226⟩
            show wJ _ _ _ _ _ _ _ _ _ _
            have hSq229 : rQ T n N X f0 b0 b1 S0 u dp i204 (pz_a I205 (pz_a (I118 ++ [(32, 0, 0, u)]) I.length (pz_h ((I118 ++ [(32, 0, 0, u)]) ++ [(20, 0, 0, u)]) u)).length (pz_h I205 u)) F206 (pA F206) Sq229 := hz225
            have krSq229 := kq_rg T n N X i204
            have nnSq229 := rQ_n hSq229
            have hlSq229 : (pz_a I205 (pz_a (I118 ++ [(32, 0, 0, u)]) I.length (pz_h ((I118 ++ [(32, 0, 0, u)]) ++ [(20, 0, 0, u)]) u)).length (pz_h I205 u)).length = I205.length := pz_a_len _ _ _
            refine wa_return rfl ?_
            rw [← lm228b] at hd6
            subst hd6
            exact ⟨rfl, hSq229, ⟨by omega, by omega, ipSq217, (px_a (px_tr (px_tr (px_tr (px_a (px_tr (px_tr (px_tr (px_tr px_rfl (px_ap I (31, 0, 0, u))) p125) (px_ap I118 (32, 0, 0, u))) (px_ap (I118 ++ [(32, 0, 0, u)]) (20, 0, 0, u))) (by omega)) (px_ap (pz_a ((I118 ++ [(32, 0, 0, u)]) ++ [(20, 0, 0, u)]) I.length (pz_h ((I118 ++ [(32, 0, 0, u)]) ++ [(20, 0, 0, u)]) u)) (4, (vq T n N X (i117 + 2)), 0, u))) (px_ap ((pz_a ((I118 ++ [(32, 0, 0, u)]) ++ [(20, 0, 0, u)]) I.length (pz_h ((I118 ++ [(32, 0, 0, u)]) ++ [(20, 0, 0, u)]) u)) ++ [(4, (vq T n N X (i117 + 2)), 0, u)]) (5, 0, 0, u))) p212) (by omega))⟩, trivial⟩
          · skip
            have ho := qtk_1 hd4 ks185
            subst ho
            exact ⟨rfl, ⟨rfl, hf188⟩⟩
        · skip
          have ho := qdc_1 hd3 hdc177
          subst ho
          exact ⟨rfl, ⟨rfl, hf182⟩⟩
      · skip
        have ho := qop_1 hd2 ks168
        subst ho
        exact ⟨rfl, ⟨rfl, hf171⟩⟩
      · skip
        have ho := qop_4 hd2 ks168 hd5172
        subst ho
        exact ⟨rfl, ⟨rfl, hf171⟩⟩
    · skip
      exact absurd hg161 (by decide)
  · skip
    show wJ _ _ _ _ _ _ _ _ _ _
    refine wa_iconst ?_
    refine wa_cv 237 rfl (wy_pr rfl) wt_237 (M2 := fun _ => False) rfl at_M_must ⟨_, rfl⟩ rfl rfl ⟨trivial, trivial, (Or.inr ⟨wy_pr rfl, fun q => q⟩), trivial⟩ trivial (fun _ _ q => False.elim q) (must_ok (S := Sq156) (g := 0) (n := 1) (by omega) ⟨by omega, by omega⟩) (fun oq232 Sq232 hp233 q232 => ?_)
    rcases q232 with ⟨hg231, rfl, rfl⟩ | ⟨hg231, rfl, rfl⟩
    · skip
      exact absurd hg231 (by decide)
    · skip
      have ho := qtk_1 hd1 (by omega)
      subst ho
      exact ⟨rfl, ⟨rfl, (rFu_mk hSq156 ipSq130)⟩⟩
theorem r3 (h : rR xs T n N X f0 b0 b1 S0 3 0 J i dp u I F o) : rC3 xs T n N X f0 b0 b1 S0 J dp u i I F o := h
theorem ch_m (h3 : rR xs T n N X f0 b0 b1 S0 3 0 [] i dp u I F o) (hk : kq T n N X i = 42) : rM xs T n N X f0 b0 b1 S0 17 t_M_choice [(0, (2, 237))] (fun _ => none) 1 (fun _ _ _ => True) dp u i I F o := by
  intro hpre M D S hD h
  refine wa_iconst ?_
  refine wa_istore_n (n := 1) rfl ?_
  refine wa_iconst ?_
  refine wa_istore_n (n := 2) rfl ?_
  refine wa_fall ⟨_, rfl⟩ ?_
  refine wJ_S (wJ_mono (r3 h3 hpre M D S (-1) hD h rfl hk) (fun q Z hz => ?_)) ⟨rfl, rfl, rfl, trivial⟩
  rcases o with v | ⟨i2, I2, F2, t2⟩
  · exact hz
  · obtain ⟨a, b, ⟨c1, c2, c3⟩, w, -, c4⟩ := hz
    exact ⟨a, b, ⟨c1, c2, c3, c4⟩, trivial⟩
theorem me_st (hX : w_X xs) (hd : pz_ST (kq T n N X) (vq T n N X) (tp T n 0) f0 (rR xs T n N X f0 b0 b1 S0) i dp u I F o) : rR xs T n N X f0 b0 b1 S0 1 0 [] i dp u I F o := by
  show rM xs T n N X f0 b0 b1 S0 18 t_M_statement [(0, (2, 237))] (fun _ => none) 1 (fun _ _ _ => True) dp u i I F o
  intro hpre M D S hD h
  obtain ⟨⟨d0, d1⟩, hlen, ip⟩ := hpre
  obtain ⟨D, rfl⟩ : ∃ E, D = E + 12 := ⟨D - 12, by omega⟩
  have krS := kq_rg T n N X i
  have nnS := rQ_n h
  have hf00 := h.2.2.1.1
  refine wa_aload_n (n := 0) rfl ?_
  refine wa_ks ?_
  refine wa_cv 237 rfl (wy_pr rfl) wt_237 (M2 := fun _ => False) rfl at_M_isWord ⟨_, rfl⟩ rfl rfl ⟨(Or.inr ⟨wy_pr rfl, fun q => q⟩), trivial⟩ trivial (fun _ _ q => False.elim q) (wdw (S := S) (k := 0) h (wx_33 hX) (by decide) (by decide)) (fun oq102 Sq102 hp103 q102 => ?_)
  rcases q102 with ⟨rfl, ⟨rfl, kw101⟩ | ⟨rfl, kw101⟩⟩
  · skip
    show wJ _ _ _ _ _ _ _ _ _ _
    have hd40 := (show pz_ST40 (kq T n N X) (vq T n N X) (tp T n 0) f0 (rR xs T n N X f0 b0 b1 S0) i dp u I F o from (by unfold pz_ST at hd; rw [if_pos (by omega)] at hd; exact hd))
    unfold pz_ST40 at hd40
    refine wa_ifeq (w_rg0 (by omega) (by omega)) ⟨_, rfl⟩ (fun c104 => ?_) (fun c104 => ?_)
    · skip
      exact absurd c104 (by omega)
    · skip
      refine wa_aload_n (n := 0) rfl ?_
      refine wa_cv 237 rfl (wy_pr rfl) wt_237 (M2 := fun _ => False) rfl at_M_next ⟨_, rfl⟩ rfl rfl ⟨(Or.inr ⟨wy_pr rfl, fun q => q⟩), trivial⟩ trivial (fun _ _ q => False.elim q) (nxw (S := S) h ⟨by omega, by omega, by omega, by omega, by omega⟩) (fun oq107 Sq107 hp108 q107 => ?_)
      rcases q107 with ⟨rfl, hz105, hl106⟩
      show wJ _ _ _ _ _ _ _ _ _ _
      have hSq107 : rQ T n N X f0 b0 b1 S0 u dp (i + 1) I F (pA F) Sq107 := hz105
      have ipSq107 : (((i + 1) : Nat) : Int) ≤ tp T n 0 (i + 1) := pI_nx (N := N) (X := X) ip (rQ_n h) ⟨by omega, by omega⟩
      have krSq107 := kq_rg T n N X (i + 1)
      have nnSq107 := rQ_n hSq107
      refine wa_aload_n (n := 0) rfl ?_
      refine wa_cv 237 rfl (wy_pr rfl) wt_237 (M2 := fun _ => False) rfl at_M_declares ⟨_, rfl⟩ rfl rfl ⟨(Or.inr ⟨wy_pr rfl, fun q => q⟩), trivial⟩ trivial (fun _ _ q => False.elim q) (dcw (S := Sq107) hX hSq107 ipSq107) (fun oq117 Sq117 hp118 q117 => ?_)
      rcases q117 with ⟨F109, rfl, ks110, hdc111, hz112, z113, z114⟩ | ⟨v115, rfl, hdc111, hf116⟩
      · skip
        show wJ _ _ _ _ _ _ _ _ _ _
        have hSq117 : rQ T n N X f0 b0 b1 S0 u dp (i + 2) I F109 (pA F109) Sq117 := (by rw [dc_pA hdc111]; exact hz112)
        have ipSq117 : (((i + 2) : Nat) : Int) ≤ tp T n 0 (i + 2) := pI_nx (N := N) (X := X) ipSq107 (rQ_n hSq107) ⟨by omega, by omega⟩
        have krSq117 := kq_rg T n N X (i + 2)
        have nnSq117 := rQ_n hSq117
        have vnSq117 := vq_nn ks110
        have vuSq117 : (vq T n N X (i + 1)) < ((NL T n N (i + 2)).length : Int) := vq_lt ks110
        have vmSq117 : (NL T n N (i + 2)).length ≤ 4000 := hz112.2.1.1.2.1
        have dlSq117 := dc_len hdc111
        have hd1 := qdc_o hd40 hdc111
        refine wa_istore_n (n := 1) rfl ?_
        refine wa_aload_n (n := 0) rfl ?_
        refine wa_bipush (w_rg2 (by omega) (by omega)) ?_
        refine wa_cv 237 rfl (wy_pr rfl) wt_237 (M2 := fun _ => False) rfl at_M_accepts ⟨_, rfl⟩ rfl rfl ⟨trivial, (Or.inr ⟨wy_pr rfl, fun q => q⟩), trivial⟩ trivial (fun _ _ q => False.elim q) (acw (S := Sq117) hSq117 (fun _ => sk_61) ⟨by decide, by decide⟩ ⟨by decide, by decide⟩) (fun oq122 Sq122 hp123 q122 => ?_)
        rcases q122 with ⟨rfl, ks119, hz120, hl121⟩ | ⟨rfl, ks119, rfl⟩
        · skip
          show wJ _ _ _ _ _ _ _ _ _ _
          have hSq122 : rQ T n N X f0 b0 b1 S0 u dp (i + 3) I F109 (pA F109) Sq122 := hz120
          have ipSq122 : (((i + 3) : Nat) : Int) ≤ tp T n 0 (i + 3) := pI_nx (N := N) (X := X) ipSq117 (rQ_n hSq117) ⟨by omega, by omega⟩
          have krSq122 := kq_rg T n N X (i + 3)
          have nnSq122 := rQ_n hSq122
          rw [if_pos ks119] at hd1
          refine wa_ifeq (w_rg0 (by omega) (by omega)) ⟨_, rfl⟩ (fun c124 => ?_) (fun c124 => ?_)
          · skip
            exact absurd c124 (by omega)
          · skip
            refine wa_aload_n (n := 0) rfl ?_
            rcases hd1 with ⟨v125, hs126, ho127⟩ | ⟨i128, I129, F130, t131, hs126, hd2⟩
            · refine wa_cv 237 rfl (wy_pr rfl) wt_237 (M2 := fun _ => False) rfl at_M_value ⟨_, rfl⟩ rfl rfl ⟨trivial, (Or.inr ⟨wy_pr rfl, fun q => q⟩), trivial⟩ trivial (fun _ _ q => False.elim q) (r4 hs126 ⟨⟨by omega, by omega⟩, by omega, ipSq122⟩ _ _ _ (by omega) hSq122) (fun oq139 Sq139 hp140 q139 => ?_)
              rcases q139 with ⟨rfl, hf138⟩
              subst ho127
              exact ⟨rfl, ⟨rfl, hf138⟩⟩
            refine wa_cv 237 rfl (wy_pr rfl) wt_237 (M2 := fun _ => False) rfl at_M_value ⟨_, rfl⟩ rfl rfl ⟨trivial, (Or.inr ⟨wy_pr rfl, fun q => q⟩), trivial⟩ trivial (fun _ _ q => False.elim q) (r4 hs126 ⟨⟨by omega, by omega⟩, by omega, ipSq122⟩ _ _ _ (by omega) hSq122) (fun oq141 Sq141 hp142 q141 => ?_)
            rcases q141 with ⟨rfl, hz132, ⟨p133, p134, p135, p136⟩, e137⟩
            show wJ _ _ _ _ _ _ _ _ _ _
            have hSq141 : rQ T n N X f0 b0 b1 S0 u dp i128 I129 F130 (pA F130) Sq141 := hz132
            have ipSq141 : ((i128 : Nat) : Int) ≤ tp T n 0 i128 := p135
            have krSq141 := kq_rg T n N X i128
            have nnSq141 := rQ_n hSq141
            have lnSq141 := px_len p136
            refine wa_aload_n (n := 0) rfl ?_
            refine wa_bipush (w_rg2 (by omega) (by omega)) ?_
            refine wa_iload_n (n := 1) rfl ?_
            refine wa_iconst ?_
            refine wa_cv 237 rfl (wy_pr rfl) wt_237 (M2 := fun _ => False) rfl at_M_emits ⟨_, rfl⟩ rfl rfl ⟨trivial, (Or.inr ⟨wy_pr rfl, fun q => q⟩), trivial⟩ trivial (fun _ _ q => False.elim q) (emw (S := Sq141) (x := (4, (vq T n N X (i + 1)), 0, u)) hSq141 (by omega) rfl (by show (4 : Int) ≠ 27; decide) rfl ⟨by omega, by omega⟩ ⟨by omega, by omega⟩ ⟨by omega, by omega⟩) (fun oq146 Sq146 hp147 q146 => ?_)
            rcases q146 with ⟨rfl, hz143, l61144, l60145⟩
            show wJ _ _ _ _ _ _ _ _ _ _
            have hSq146 : rQ T n N X f0 b0 b1 S0 u dp i128 (I129 ++ [(4, (vq T n N X (i + 1)), 0, u)]) F130 (pA F130) Sq146 := hz143
            have krSq146 := kq_rg T n N X i128
            have nnSq146 := rQ_n hSq146
            have hlSq146 : (I129 ++ [(4, (vq T n N X (i + 1)), 0, u)]).length = I129.length + 1 := List.length_append
            refine wa_aload_n (n := 0) rfl ?_
            refine wa_iconst ?_
            refine wa_iconst ?_
            refine wa_iconst ?_
            refine wa_cv 237 rfl (wy_pr rfl) wt_237 (M2 := fun _ => False) rfl at_M_emits ⟨_, rfl⟩ rfl rfl ⟨trivial, (Or.inr ⟨wy_pr rfl, fun q => q⟩), trivial⟩ trivial (fun _ _ q => False.elim q) (emw (S := Sq146) (x := (5, 0, 0, u)) hSq146 (by omega) rfl (by show (5 : Int) ≠ 27; decide) rfl ⟨by omega, by omega⟩ ⟨by omega, by omega⟩ ⟨by omega, by omega⟩) (fun oq151 Sq151 hp152 q151 => ?_)
            rcases q151 with ⟨rfl, hz148, l61149, l60150⟩
            show wJ _ _ _ _ _ _ _ _ _ _
            have hSq151 : rQ T n N X f0 b0 b1 S0 u dp i128 ((I129 ++ [(4, (vq T n N X (i + 1)), 0, u)]) ++ [(5, 0, 0, u)]) F130 (pA F130) Sq151 := hz148
            have krSq151 := kq_rg T n N X i128
            have nnSq151 := rQ_n hSq151
            have hlSq151 : ((I129 ++ [(4, (vq T n N X (i + 1)), 0, u)]) ++ [(5, 0, 0, u)]).length = (I129 ++ [(4, (vq T n N X (i + 1)), 0, u)]).length + 1 := List.length_append
            refine wa_fall ⟨_, rfl⟩ ?_
            refine wa_aload_n (n := 0) rfl ?_
            refine wa_bipush (w_rg2 (by omega) (by omega)) ?_
            refine wa_cv 237 rfl (wy_pr rfl) wt_237 (M2 := fun _ => False) rfl at_M_takes ⟨_, rfl⟩ rfl rfl ⟨trivial, (Or.inr ⟨wy_pr rfl, fun q => q⟩), trivial⟩ trivial (fun _ _ q => False.elim q) (tkw (S := Sq151) hSq151 ipSq141 (fun _ => sk_59) ⟨by decide, by decide⟩ ⟨by decide, by decide⟩) (fun oq157 Sq157 hp158 q157 => ?_)
            rcases q157 with ⟨rfl, ks153, hz154, hl155⟩ | ⟨rfl, ks153, hf156⟩
            · skip
              show wJ _ _ _ _ _ _ _ _ _ _
              have hSq157 : rQ T n N X f0 b0 b1 S0 u dp (i128 + 1) ((I129 ++ [(4, (vq T n N X (i + 1)), 0, u)]) ++ [(5, 0, 0, u)]) F130 (pA F130) Sq157 := hz154
              have ipSq157 : (((i128 + 1) : Nat) : Int) ≤ tp T n 0 (i128 + 1) := pI_nx (N := N) (X := X) ipSq141 (rQ_n hSq151) ⟨by omega, by omega⟩
              have krSq157 := kq_rg T n N X (i128 + 1)
              have nnSq157 := rQ_n hSq157
              have hd3 := qtt_o hd2 ks153
              refine wa_goto ⟨_, rfl⟩ ?_
              refine wa_return rfl ?_
              subst hd3
              exact ⟨rfl, hSq157, ⟨by omega, by omega, ipSq157, (px_tr (px_tr (px_tr px_rfl p136) (px_ap I129 (4, (vq T n N X (i + 1)), 0, u))) (px_ap (I129 ++ [(4, (vq T n N X (i + 1)), 0, u)]) (5, 0, 0, u)))⟩, trivial⟩
            · skip
              have ho := qtt_1 hd2 ks153
              subst ho
              exact ⟨rfl, ⟨rfl, hf156⟩⟩
        · skip
          show wJ _ _ _ _ _ _ _ _ _ _
          rw [if_neg ks119] at hd1
          refine wa_ifeq (w_rg0 (by omega) (by omega)) ⟨_, rfl⟩ (fun c159 => ?_) (fun c159 => ?_)
          · skip
            refine wa_aload_n (n := 0) rfl ?_
            refine wa_bipush (w_rg2 (by omega) (by omega)) ?_
            refine wa_cv 237 rfl (wy_pr rfl) wt_237 (M2 := fun _ => False) rfl at_M_takes ⟨_, rfl⟩ rfl rfl ⟨trivial, (Or.inr ⟨wy_pr rfl, fun q => q⟩), trivial⟩ trivial (fun _ _ q => False.elim q) (tkw (S := Sq117) hSq117 ipSq117 (fun _ => sk_59) ⟨by decide, by decide⟩ ⟨by decide, by decide⟩) (fun oq164 Sq164 hp165 q164 => ?_)
            rcases q164 with ⟨rfl, ks160, hz161, hl162⟩ | ⟨rfl, ks160, hf163⟩
            · skip
              show wJ _ _ _ _ _ _ _ _ _ _
              have hSq164 : rQ T n N X f0 b0 b1 S0 u dp (i + 3) I F109 (pA F109) Sq164 := hz161
              have ipSq164 : (((i + 3) : Nat) : Int) ≤ tp T n 0 (i + 3) := pI_nx (N := N) (X := X) ipSq117 (rQ_n hSq117) ⟨by omega, by omega⟩
              have krSq164 := kq_rg T n N X (i + 3)
              have nnSq164 := rQ_n hSq164
              have hd4 := qtt_o hd1 ks160
              refine wa_goto ⟨_, rfl⟩ ?_
              refine wa_return rfl ?_
              subst hd4
              exact ⟨rfl, hSq164, ⟨by omega, by omega, ipSq164, px_rfl⟩, trivial⟩
            · skip
              have ho := qtt_1 hd1 ks160
              subst ho
              exact ⟨rfl, ⟨rfl, hf163⟩⟩
          · skip
            exact absurd c159 (by omega)
      · skip
        have ho := qdc_1 hd40 hdc111
        subst ho
        exact ⟨rfl, ⟨rfl, hf116⟩⟩
  · skip
    show wJ _ _ _ _ _ _ _ _ _ _
    refine wa_ifeq (w_rg0 (by omega) (by omega)) ⟨_, rfl⟩ (fun c166 => ?_) (fun c166 => ?_)
    · skip
      refine wa_aload_n (n := 0) rfl ?_
      refine wa_ks ?_
      refine wa_cv 237 rfl (wy_pr rfl) wt_237 (M2 := fun _ => False) rfl at_M_isWord ⟨_, rfl⟩ rfl rfl ⟨(Or.inr ⟨wy_pr rfl, fun q => q⟩), trivial⟩ trivial (fun _ _ q => False.elim q) (wdw (S := S) (k := 1) h (wx_35 hX) (by decide) (by decide)) (fun oq168 Sq168 hp169 q168 => ?_)
      rcases q168 with ⟨rfl, ⟨rfl, kw167⟩ | ⟨rfl, kw167⟩⟩
      · skip
        show wJ _ _ _ _ _ _ _ _ _ _
        have hd41 := (show pz_ST41 (kq T n N X) (vq T n N X) (tp T n 0) f0 (rR xs T n N X f0 b0 b1 S0) i dp u I F o from (by unfold pz_ST at hd; rw [if_neg (by omega), if_pos (by omega)] at hd; exact hd))
        unfold pz_ST41 at hd41
        refine wa_ifeq (w_rg0 (by omega) (by omega)) ⟨_, rfl⟩ (fun c170 => ?_) (fun c170 => ?_)
        · skip
          exact absurd c170 (by omega)
        · skip
          refine wa_aload_n (n := 0) rfl ?_
          refine wa_aload_n (n := 0) rfl ?_
          refine wb_gfi 237 rfl (wy_pr rfl) wt_237 wf_15_34 (v := f0) ((rQ_pp h).2.2.2.2.2.1) (fun r171 => ?_)
          refine wa_aload_n (n := 0) rfl ?_
          refine wb_gfi 237 rfl (wy_pr rfl) wt_237 wf_15_26 (v := (F.length : Int)) ((rQ_pp h).2.2.2.2.2.2) (fun r172 => ?_)
          refine wa_iadd ?_
          refine wa_sipush (by omega) ?_
          refine wa_icmpge (w_rg0 (by omega) (by omega)) (w_rg0 (by omega) (by omega)) ⟨_, rfl⟩ (fun c173 => ?_) (fun c173 => ?_)
          · skip
            refine wa_iconst ?_
            refine wa_fall ⟨_, rfl⟩ ?_
            refine wa_bipush (w_rg2 (by omega) (by omega)) ?_
            refine wa_cv 237 rfl (wy_pr rfl) wt_237 (M2 := fun _ => False) rfl at_M_must ⟨_, rfl⟩ rfl rfl ⟨(Or.inr ⟨wy_pr rfl, fun q => q⟩), trivial⟩ trivial (fun _ _ q => False.elim q) (must_ok (S := S) (g := 0) (n := 7) (by omega) ⟨by omega, by omega⟩) (fun oq175 Sq175 hp176 q175 => ?_)
            rcases q175 with ⟨hg174, rfl, rfl⟩ | ⟨hg174, rfl, rfl⟩
            · skip
              exact absurd hg174 (by decide)
            · skip
              have ho := (show o = .inl (7 + 16 * tp T n 0 i) from (by rw [if_pos (by omega)] at hd41; exact hd41))
              subst ho
              exact ⟨rfl, ⟨rfl, (rFu_mk h ip)⟩⟩
          · skip
            refine wa_iconst ?_
            refine wa_goto ⟨_, rfl⟩ ?_
            refine wa_bipush (w_rg2 (by omega) (by omega)) ?_
            refine wa_cv 237 rfl (wy_pr rfl) wt_237 (M2 := fun _ => False) rfl at_M_must ⟨_, rfl⟩ rfl rfl ⟨(Or.inr ⟨wy_pr rfl, fun q => q⟩), trivial⟩ trivial (fun _ _ q => False.elim q) (must_ok (S := S) (g := 1) (n := 7) (by omega) ⟨by omega, by omega⟩) (fun oq178 Sq178 hp179 q178 => ?_)
            rcases q178 with ⟨hg177, rfl, rfl⟩ | ⟨hg177, rfl, rfl⟩
            · skip
              show wJ _ _ _ _ _ _ _ _ _ _
              refine wa_aload_n (n := 0) rfl ?_
              refine wa_cv 237 rfl (wy_pr rfl) wt_237 (M2 := fun _ => False) rfl at_M_next ⟨_, rfl⟩ rfl rfl ⟨(Or.inr ⟨wy_pr rfl, fun q => q⟩), trivial⟩ trivial (fun _ _ q => False.elim q) (nxw (S := S) h ⟨by omega, by omega, by omega, by omega, by omega⟩) (fun oq182 Sq182 hp183 q182 => ?_)
              rcases q182 with ⟨rfl, hz180, hl181⟩
              show wJ _ _ _ _ _ _ _ _ _ _
              have hSq182 : rQ T n N X f0 b0 b1 S0 u dp (i + 1) I F (pA F) Sq182 := hz180
              have ipSq182 : (((i + 1) : Nat) : Int) ≤ tp T n 0 (i + 1) := pI_nx (N := N) (X := X) ip (rQ_n h) ⟨by omega, by omega⟩
              have krSq182 := kq_rg T n N X (i + 1)
              have nnSq182 := rQ_n hSq182
              rw [if_neg (by omega)] at hd41
              refine wa_aload_n (n := 0) rfl ?_
              refine wa_cv 237 rfl (wy_pr rfl) wt_237 (M2 := fun _ => False) rfl at_M_declares ⟨_, rfl⟩ rfl rfl ⟨(Or.inr ⟨wy_pr rfl, fun q => q⟩), trivial⟩ trivial (fun _ _ q => False.elim q) (dcw (S := Sq182) hX hSq182 ipSq182) (fun oq192 Sq192 hp193 q192 => ?_)
              rcases q192 with ⟨F184, rfl, ks185, hdc186, hz187, z188, z189⟩ | ⟨v190, rfl, hdc186, hf191⟩
              · skip
                show wJ _ _ _ _ _ _ _ _ _ _
                have hSq192 : rQ T n N X f0 b0 b1 S0 u dp (i + 2) I F184 (pA F184) Sq192 := (by rw [dc_pA hdc186]; exact hz187)
                have ipSq192 : (((i + 2) : Nat) : Int) ≤ tp T n 0 (i + 2) := pI_nx (N := N) (X := X) ipSq182 (rQ_n hSq182) ⟨by omega, by omega⟩
                have krSq192 := kq_rg T n N X (i + 2)
                have nnSq192 := rQ_n hSq192
                have vnSq192 := vq_nn ks185
                have vuSq192 : (vq T n N X (i + 1)) < ((NL T n N (i + 2)).length : Int) := vq_lt ks185
                have vmSq192 : (NL T n N (i + 2)).length ≤ 4000 := hz187.2.1.1.2.1
                have dlSq192 := dc_len hdc186
                have hd5 := qdc_o hd41 hdc186
                refine wa_istore_n (n := 1) rfl ?_
                refine wa_aload_n (n := 0) rfl ?_
                have hd6 := fn_st hd5
                rcases hd6 with ⟨v194, hs195, ho196⟩ | ⟨i197, I198, F199, t200, hs195, hd7⟩
                · refine wa_cv 237 rfl (wy_pr rfl) wt_237 (M2 := fun _ => False) rfl at_M_readsFunction ⟨_, rfl⟩ rfl rfl ⟨trivial, (Or.inr ⟨wy_pr rfl, fun q => q⟩), trivial⟩ trivial (fun _ _ q => False.elim q) (rfn_w (by omega) hs195 ⟨⟨by omega, by omega⟩, by omega, ipSq192⟩ _ _ _ (by omega) hSq192) (fun oq208 Sq208 hp209 q208 => ?_)
                  rcases q208 with ⟨rfl, hf207⟩
                  subst ho196
                  exact ⟨rfl, ⟨rfl, hf207⟩⟩
                refine wa_cv 237 rfl (wy_pr rfl) wt_237 (M2 := fun _ => False) rfl at_M_readsFunction ⟨_, rfl⟩ rfl rfl ⟨trivial, (Or.inr ⟨wy_pr rfl, fun q => q⟩), trivial⟩ trivial (fun _ _ q => False.elim q) (rfn_w (by omega) hs195 ⟨⟨by omega, by omega⟩, by omega, ipSq192⟩ _ _ _ (by omega) hSq192) (fun oq210 Sq210 hp211 q210 => ?_)
                rcases q210 with ⟨rfl, hz201, ⟨p202, p203, p204, p205⟩, e206⟩
                show wJ _ _ _ _ _ _ _ _ _ _
                have hSq210 : rQ T n N X f0 b0 b1 S0 u dp i197 I198 F199 (pA F199) Sq210 := hz201
                have ipSq210 : ((i197 : Nat) : Int) ≤ tp T n 0 i197 := p204
                have krSq210 := kq_rg T n N X i197
                have nnSq210 := rQ_n hSq210
                have lnSq210 := px_len p205
                refine wa_aload_n (n := 0) rfl ?_
                refine wa_bipush (w_rg2 (by omega) (by omega)) ?_
                refine wa_iload_n (n := 1) rfl ?_
                refine wa_iconst ?_
                refine wa_cv 237 rfl (wy_pr rfl) wt_237 (M2 := fun _ => False) rfl at_M_emits ⟨_, rfl⟩ rfl rfl ⟨trivial, (Or.inr ⟨wy_pr rfl, fun q => q⟩), trivial⟩ trivial (fun _ _ q => False.elim q) (emw (S := Sq210) (x := (4, (vq T n N X (i + 1)), 0, u)) hSq210 (by omega) rfl (by show (4 : Int) ≠ 27; decide) rfl ⟨by omega, by omega⟩ ⟨by omega, by omega⟩ ⟨by omega, by omega⟩) (fun oq215 Sq215 hp216 q215 => ?_)
                rcases q215 with ⟨rfl, hz212, l61213, l60214⟩
                show wJ _ _ _ _ _ _ _ _ _ _
                have hSq215 : rQ T n N X f0 b0 b1 S0 u dp i197 (I198 ++ [(4, (vq T n N X (i + 1)), 0, u)]) F199 (pA F199) Sq215 := hz212
                have krSq215 := kq_rg T n N X i197
                have nnSq215 := rQ_n hSq215
                have hlSq215 : (I198 ++ [(4, (vq T n N X (i + 1)), 0, u)]).length = I198.length + 1 := List.length_append
                refine wa_aload_n (n := 0) rfl ?_
                refine wa_iconst ?_
                refine wa_iconst ?_
                refine wa_iconst ?_
                refine wa_cv 237 rfl (wy_pr rfl) wt_237 (M2 := fun _ => False) rfl at_M_emits ⟨_, rfl⟩ rfl rfl ⟨trivial, (Or.inr ⟨wy_pr rfl, fun q => q⟩), trivial⟩ trivial (fun _ _ q => False.elim q) (emw (S := Sq215) (x := (5, 0, 0, u)) hSq215 (by omega) rfl (by show (5 : Int) ≠ 27; decide) rfl ⟨by omega, by omega⟩ ⟨by omega, by omega⟩ ⟨by omega, by omega⟩) (fun oq220 Sq220 hp221 q220 => ?_)
                rcases q220 with ⟨rfl, hz217, l61218, l60219⟩
                show wJ _ _ _ _ _ _ _ _ _ _
                have hSq220 : rQ T n N X f0 b0 b1 S0 u dp i197 ((I198 ++ [(4, (vq T n N X (i + 1)), 0, u)]) ++ [(5, 0, 0, u)]) F199 (pA F199) Sq220 := hz217
                have krSq220 := kq_rg T n N X i197
                have nnSq220 := rQ_n hSq220
                have hlSq220 : ((I198 ++ [(4, (vq T n N X (i + 1)), 0, u)]) ++ [(5, 0, 0, u)]).length = (I198 ++ [(4, (vq T n N X (i + 1)), 0, u)]).length + 1 := List.length_append
                refine wa_goto ⟨_, rfl⟩ ?_
                refine wa_return rfl ?_
                subst hd7
                exact ⟨rfl, hSq220, ⟨by omega, by omega, ipSq210, (px_tr (px_tr (px_tr px_rfl p205) (px_ap I198 (4, (vq T n N X (i + 1)), 0, u))) (px_ap (I198 ++ [(4, (vq T n N X (i + 1)), 0, u)]) (5, 0, 0, u)))⟩, trivial⟩
              · skip
                have ho := qdc_1 hd41 hdc186
                subst ho
                exact ⟨rfl, ⟨rfl, hf191⟩⟩
            · skip
              exact absurd hg177 (by decide)
      · skip
        show wJ _ _ _ _ _ _ _ _ _ _
        refine wa_ifeq (w_rg0 (by omega) (by omega)) ⟨_, rfl⟩ (fun c222 => ?_) (fun c222 => ?_)
        · skip
          refine wa_aload_n (n := 0) rfl ?_
          refine wa_ks ?_
          refine wa_cv 237 rfl (wy_pr rfl) wt_237 (M2 := fun _ => False) rfl at_M_isWord ⟨_, rfl⟩ rfl rfl ⟨(Or.inr ⟨wy_pr rfl, fun q => q⟩), trivial⟩ trivial (fun _ _ q => False.elim q) (wdw (S := S) (k := 2) h (wx_37 hX) (by decide) (by decide)) (fun oq224 Sq224 hp225 q224 => ?_)
          rcases q224 with ⟨rfl, ⟨rfl, kw223⟩ | ⟨rfl, kw223⟩⟩
          · skip
            show wJ _ _ _ _ _ _ _ _ _ _
            refine wa_ifeq (w_rg0 (by omega) (by omega)) ⟨_, rfl⟩ (fun c226 => ?_) (fun c226 => ?_)
            · skip
              exact absurd c226 (by omega)
            · skip
              refine wa_aload_n (n := 0) rfl ?_
              refine wa_cv 237 rfl (wy_pr rfl) wt_237 (M2 := fun _ => False) rfl at_M_choice ⟨_, rfl⟩ rfl rfl ⟨(Or.inr ⟨wy_pr rfl, fun q => q⟩), trivial⟩ trivial (fun _ _ q => False.elim q) (ch_m (by unfold pz_ST at hd; rw [if_neg (by omega), if_neg (by omega), if_pos (by omega)] at hd; exact hd) (by omega) ⟨⟨by omega, by omega⟩, by omega, ip⟩ _ _ _ (by omega) h) (fun oq227 Sq227 hp228 q227 => ?_)
              rcases o with v | ⟨i2, I2, F2, t2⟩
              · rcases q227 with ⟨rfl, hf⟩
                exact ⟨rfl, rfl, hf⟩
              · rcases q227 with ⟨rfl, hz, hp, he⟩
                show wJ _ _ _ _ _ _ _ _ _ _
                refine wa_goto ⟨_, rfl⟩ ?_
                refine wa_return rfl ?_
                exact ⟨rfl, hz, hp, trivial⟩
          · skip
            show wJ _ _ _ _ _ _ _ _ _ _
            refine wa_ifeq (w_rg0 (by omega) (by omega)) ⟨_, rfl⟩ (fun c229 => ?_) (fun c229 => ?_)
            · skip
              refine wa_aload_n (n := 0) rfl ?_
              refine wa_ks ?_
              refine wa_cv 237 rfl (wy_pr rfl) wt_237 (M2 := fun _ => False) rfl at_M_isWord ⟨_, rfl⟩ rfl rfl ⟨(Or.inr ⟨wy_pr rfl, fun q => q⟩), trivial⟩ trivial (fun _ _ q => False.elim q) (wdw (S := S) (k := 4) h (wx_39 hX) (by decide) (by decide)) (fun oq231 Sq231 hp232 q231 => ?_)
              rcases q231 with ⟨rfl, ⟨rfl, kw230⟩ | ⟨rfl, kw230⟩⟩
              · skip
                show wJ _ _ _ _ _ _ _ _ _ _
                have hd44 := (show pz_ST44 (kq T n N X) (tp T n 0) (rR xs T n N X f0 b0 b1 S0) i dp u I F o from (by unfold pz_ST at hd; rw [if_neg (by omega), if_neg (by omega), if_neg (by omega), if_pos (by omega)] at hd; exact hd))
                unfold pz_ST44 at hd44
                unfold pz_cd at hd44
                have hd44b := qas hd44
                refine wa_ifeq (w_rg0 (by omega) (by omega)) ⟨_, rfl⟩ (fun c233 => ?_) (fun c233 => ?_)
                · skip
                  exact absurd c233 (by omega)
                · skip
                  refine wa_aload_n (n := 0) rfl ?_
                  refine wb_gf5 237 rfl (wy_pr rfl) wt_237 wf_15_28 (v := (nP (u - f0).toNat : Int)) ((rQ_pp h).2.2.1) (fun r234 => ?_)
                  refine wa_cv (nP (u - f0).toNat) rfl (rQ_pp h).1 (wt_P0 (by have := (rQ_pp h).2.1; omega)) (M2 := fun _ => False) rfl at_MP_here ⟨_, rfl⟩ rfl rfl ⟨(Or.inr ⟨wy_pr rfl, fun q => q⟩), trivial⟩ trivial (fun _ _ q => False.elim q) (hew (S := S) h) (fun oq236 Sq236 hp237 q236 => ?_)
                  rcases q236 with ⟨rfl, rfl⟩
                  show wJ _ _ _ _ _ _ _ _ _ _
                  have hr235 := pz_h_rg I u
                  refine wa_istore_n (n := 1) rfl ?_
                  refine wa_aload_n (n := 0) rfl ?_
                  refine wa_cv 237 rfl (wy_pr rfl) wt_237 (M2 := fun _ => False) rfl at_M_next ⟨_, rfl⟩ rfl rfl ⟨trivial, (Or.inr ⟨wy_pr rfl, fun q => q⟩), trivial⟩ trivial (fun _ _ q => False.elim q) (nxw (S := S) h ⟨by omega, by omega, by omega, by omega, by omega⟩) (fun oq240 Sq240 hp241 q240 => ?_)
                  rcases q240 with ⟨rfl, hz238, hl239⟩
                  show wJ _ _ _ _ _ _ _ _ _ _
                  have hSq240 : rQ T n N X f0 b0 b1 S0 u dp (i + 1) I F (pA F) Sq240 := hz238
                  have ipSq240 : (((i + 1) : Nat) : Int) ≤ tp T n 0 (i + 1) := pI_nx (N := N) (X := X) ip (rQ_n h) ⟨by omega, by omega⟩
                  have krSq240 := kq_rg T n N X (i + 1)
                  have nnSq240 := rQ_n hSq240
                  refine wa_aload_n (n := 0) rfl ?_
                  refine wa_bipush (w_rg2 (by omega) (by omega)) ?_
                  refine wa_cv 237 rfl (wy_pr rfl) wt_237 (M2 := fun _ => False) rfl at_M_opens ⟨_, rfl⟩ rfl rfl ⟨trivial, (Or.inr ⟨wy_pr rfl, fun q => q⟩), trivial⟩ trivial (fun _ _ q => False.elim q) (opw (S := Sq240) hSq240 ipSq240 (fun _ => sk_40) ⟨by decide, by decide⟩ ⟨by decide, by decide⟩ ⟨by omega, by omega⟩) (fun oq247 Sq247 hp248 q247 => ?_)
                  rcases q247 with ⟨rfl, ⟨ks242, hd5246⟩, hz243, hl244⟩ | ⟨rfl, ks242, hf245⟩ | ⟨rfl, ⟨ks242, hd5246⟩, hf245⟩
                  · skip
                    show wJ _ _ _ _ _ _ _ _ _ _
                    have hSq247 : rQ T n N X f0 b0 b1 S0 u (dp + 1) (i + 2) I F (pA F) Sq247 := hz243
                    have ipSq247 : (((i + 2) : Nat) : Int) ≤ tp T n 0 (i + 2) := pI_nx (N := N) (X := X) ipSq240 (rQ_n hSq240) ⟨by omega, by omega⟩
                    have krSq247 := kq_rg T n N X (i + 2)
                    have nnSq247 := rQ_n hSq247
                    have hd8 := qop_o hd44b ks242 hd5246
                    have hd9 := qas2 hd8
                    refine wa_aload_n (n := 0) rfl ?_
                    rcases hd9 with ⟨v249, hs250, ho251⟩ | ⟨i252, I253, F254, t255, hs250, hd10⟩
                    · refine wa_cv 237 rfl (wy_pr rfl) wt_237 (M2 := fun _ => False) rfl at_M_value ⟨_, rfl⟩ rfl rfl ⟨trivial, (Or.inr ⟨wy_pr rfl, fun q => q⟩), trivial⟩ trivial (fun _ _ q => False.elim q) (r4 hs250 ⟨⟨by omega, by omega⟩, by omega, ipSq247⟩ _ _ _ (by omega) hSq247) (fun oq263 Sq263 hp264 q263 => ?_)
                      rcases q263 with ⟨rfl, hf262⟩
                      subst ho251
                      exact ⟨rfl, ⟨rfl, hf262⟩⟩
                    refine wa_cv 237 rfl (wy_pr rfl) wt_237 (M2 := fun _ => False) rfl at_M_value ⟨_, rfl⟩ rfl rfl ⟨trivial, (Or.inr ⟨wy_pr rfl, fun q => q⟩), trivial⟩ trivial (fun _ _ q => False.elim q) (r4 hs250 ⟨⟨by omega, by omega⟩, by omega, ipSq247⟩ _ _ _ (by omega) hSq247) (fun oq265 Sq265 hp266 q265 => ?_)
                    rcases q265 with ⟨rfl, hz256, ⟨p257, p258, p259, p260⟩, e261⟩
                    show wJ _ _ _ _ _ _ _ _ _ _
                    have hSq265 : rQ T n N X f0 b0 b1 S0 u (dp + 1) i252 I253 F254 (pA F254) Sq265 := hz256
                    have ipSq265 : ((i252 : Nat) : Int) ≤ tp T n 0 i252 := p259
                    have krSq265 := kq_rg T n N X i252
                    have nnSq265 := rQ_n hSq265
                    have lnSq265 := px_len p260
                    refine wa_aload_n (n := 0) rfl ?_
                    refine wa_bipush (w_rg2 (by omega) (by omega)) ?_
                    refine wa_cv 237 rfl (wy_pr rfl) wt_237 (M2 := fun _ => False) rfl at_M_closes ⟨_, rfl⟩ rfl rfl ⟨trivial, (Or.inr ⟨wy_pr rfl, fun q => q⟩), trivial⟩ trivial (fun _ _ q => False.elim q) (clw (S := Sq265) hSq265 ipSq265 (fun _ => sk_41) ⟨by decide, by decide⟩ ⟨by decide, by decide⟩ ⟨by omega, by omega⟩) (fun oq271 Sq271 hp272 q271 => ?_)
                    rcases q271 with ⟨rfl, ks267, hz268, hl269⟩ | ⟨rfl, ks267, hf270⟩
                    · skip
                      show wJ _ _ _ _ _ _ _ _ _ _
                      have hSq271 : rQ T n N X f0 b0 b1 S0 u dp (i252 + 1) I253 F254 (pA F254) Sq271 := (by have z := hz268; rw [show (dp + 1) - 1 = dp by omega] at z; exact z)
                      have ipSq271 : (((i252 + 1) : Nat) : Int) ≤ tp T n 0 (i252 + 1) := pI_nx (N := N) (X := X) ipSq265 (rQ_n hSq265) ⟨by omega, by omega⟩
                      have krSq271 := kq_rg T n N X (i252 + 1)
                      have nnSq271 := rQ_n hSq271
                      have hd11 := qtk_o hd10 ks267
                      refine wa_aload_n (n := 0) rfl ?_
                      refine wb_gf5 237 rfl (wy_pr rfl) wt_237 wf_15_28 (v := (nP (u - f0).toNat : Int)) ((rQ_pp hSq271).2.2.1) (fun r273 => ?_)
                      refine wa_cv (nP (u - f0).toNat) rfl (rQ_pp hSq271).1 (wt_P0 (by have := (rQ_pp h).2.1; omega)) (M2 := fun _ => False) rfl at_MP_here ⟨_, rfl⟩ rfl rfl ⟨trivial, (Or.inr ⟨wy_pr rfl, fun q => q⟩), trivial⟩ trivial (fun _ _ q => False.elim q) (hew (S := Sq271) hSq271) (fun oq275 Sq275 hp276 q275 => ?_)
                      rcases q275 with ⟨rfl, rfl⟩
                      show wJ _ _ _ _ _ _ _ _ _ _
                      have hr274 := pz_h_rg I253 u
                      refine wa_istore_n (n := 2) rfl ?_
                      refine wa_aload_n (n := 0) rfl ?_
                      refine wa_bipush (w_rg2 (by omega) (by omega)) ?_
                      refine wa_iconst ?_
                      refine wa_iconst ?_
                      refine wa_cv 237 rfl (wy_pr rfl) wt_237 (M2 := fun _ => False) rfl at_M_emits ⟨_, rfl⟩ rfl rfl ⟨trivial, trivial, (Or.inr ⟨wy_pr rfl, fun q => q⟩), trivial⟩ trivial (fun _ _ q => False.elim q) (emw (S := Sq271) (x := (21, 0, 0, u)) hSq271 (by omega) rfl (by show (21 : Int) ≠ 27; decide) rfl ⟨by omega, by omega⟩ ⟨by omega, by omega⟩ ⟨by omega, by omega⟩) (fun oq280 Sq280 hp281 q280 => ?_)
                      rcases q280 with ⟨rfl, hz277, l61278, l60279⟩
                      show wJ _ _ _ _ _ _ _ _ _ _
                      have hSq280 : rQ T n N X f0 b0 b1 S0 u dp (i252 + 1) (I253 ++ [(21, 0, 0, u)]) F254 (pA F254) Sq280 := hz277
                      have krSq280 := kq_rg T n N X (i252 + 1)
                      have nnSq280 := rQ_n hSq280
                      have hlSq280 : (I253 ++ [(21, 0, 0, u)]).length = I253.length + 1 := List.length_append
                      refine wa_aload_n (n := 0) rfl ?_
                      rcases hd11 with ⟨v282, hs283, ho284⟩ | ⟨i285, I286, F287, t288, hs283, hd12⟩
                      · refine wa_cv 237 rfl (wy_pr rfl) wt_237 (M2 := fun _ => False) rfl at_M_block ⟨_, rfl⟩ rfl rfl ⟨trivial, trivial, (Or.inr ⟨wy_pr rfl, fun q => q⟩), trivial⟩ trivial (fun _ _ q => False.elim q) (bk_w hs283 ⟨⟨by omega, by omega⟩, by omega, ipSq271⟩ _ _ _ (by omega) hSq280) (fun oq296 Sq296 hp297 q296 => ?_)
                        rcases q296 with ⟨rfl, hf295⟩
                        subst ho284
                        exact ⟨rfl, ⟨rfl, hf295⟩⟩
                      refine wa_cv 237 rfl (wy_pr rfl) wt_237 (M2 := fun _ => False) rfl at_M_block ⟨_, rfl⟩ rfl rfl ⟨trivial, trivial, (Or.inr ⟨wy_pr rfl, fun q => q⟩), trivial⟩ trivial (fun _ _ q => False.elim q) (bk_w hs283 ⟨⟨by omega, by omega⟩, by omega, ipSq271⟩ _ _ _ (by omega) hSq280) (fun oq298 Sq298 hp299 q298 => ?_)
                      rcases q298 with ⟨rfl, hz289, ⟨p290, p291, p292, p293⟩, e294⟩
                      show wJ _ _ _ _ _ _ _ _ _ _
                      have hSq298 : rQ T n N X f0 b0 b1 S0 u dp i285 I286 F287 (pA F287) Sq298 := hz289
                      have ipSq298 : ((i285 : Nat) : Int) ≤ tp T n 0 i285 := p292
                      have krSq298 := kq_rg T n N X i285
                      have nnSq298 := rQ_n hSq298
                      have lnSq298 := px_len p293
                      refine wa_aload_n (n := 0) rfl ?_
                      refine wa_bipush (w_rg2 (by omega) (by omega)) ?_
                      refine wa_iload_n (n := 1) rfl ?_
                      refine wa_iconst ?_
                      refine wa_cv 237 rfl (wy_pr rfl) wt_237 (M2 := fun _ => False) rfl at_M_emits ⟨_, rfl⟩ rfl rfl ⟨trivial, trivial, (Or.inr ⟨wy_pr rfl, fun q => q⟩), trivial⟩ trivial (fun _ _ q => False.elim q) (emw (S := Sq298) (x := (20, (pz_h I u), 0, u)) hSq298 (by omega) rfl (by show (20 : Int) ≠ 27; decide) rfl ⟨by omega, by omega⟩ ⟨by omega, by omega⟩ ⟨by omega, by omega⟩) (fun oq303 Sq303 hp304 q303 => ?_)
                      rcases q303 with ⟨rfl, hz300, l61301, l60302⟩
                      show wJ _ _ _ _ _ _ _ _ _ _
                      have hSq303 : rQ T n N X f0 b0 b1 S0 u dp i285 (I286 ++ [(20, (pz_h I u), 0, u)]) F287 (pA F287) Sq303 := hz300
                      have krSq303 := kq_rg T n N X i285
                      have nnSq303 := rQ_n hSq303
                      have hlSq303 : (I286 ++ [(20, (pz_h I u), 0, u)]).length = I286.length + 1 := List.length_append
                      refine wa_aload_n (n := 0) rfl ?_
                      refine wb_gf5 237 rfl (wy_pr rfl) wt_237 wf_15_28 (v := (nP (u - f0).toNat : Int)) ((rQ_pp hSq303).2.2.1) (fun r305 => ?_)
                      refine wb_gf5 (nP (u - f0).toNat) rfl (rQ_pp hSq303).1 (wt_P0 (by have := (rQ_pp h).2.1; omega)) wf_14_5 (v := ((nP (u - f0).toNat + 3 : Nat) : Int)) ((rQ_pa hSq303).1) (fun r306 => ?_)
                      refine wa_iload_n (n := 2) rfl ?_
                      refine wa_aload_n (n := 0) rfl ?_
                      refine wb_gf5 237 rfl (wy_pr rfl) wt_237 wf_15_28 (v := (nP (u - f0).toNat : Int)) ((rQ_pp hSq303).2.2.1) (fun r307 => ?_)
                      refine wa_fall ⟨_, rfl⟩ ?_
                      refine wa_cv (nP (u - f0).toNat) rfl (rQ_pp hSq303).1 (wt_P0 (by have := (rQ_pp h).2.1; omega)) (M2 := fun _ => False) rfl at_MP_here ⟨_, rfl⟩ rfl rfl ⟨trivial, trivial, (Or.inr ⟨wy_pr rfl, fun q => q⟩), trivial⟩ ⟨trivial, (Or.inr ⟨(rQ_pa hSq303).2, fun q => q⟩), trivial⟩ (fun _ _ q => False.elim q) (hew (S := Sq303) hSq303) (fun oq309 Sq309 hp310 q309 => ?_)
                      rcases q309 with ⟨rfl, rfl⟩
                      show wJ _ _ _ _ _ _ _ _ _ _
                      have hr308 := pz_h_rg (I286 ++ [(20, (pz_h I u), 0, u)]) u
                      have lm314 := px_len1 (px_tr (px_tr px_rfl p293) (px_ap I286 (20, (pz_h I u), 0, u)))
                      have hc313 := sew (xs := xs) (M := fun _ => False) (d := D + 11) (S := Sq303) (j := I253.length) (z := (21, 0, 0, u)) (v := (pz_h (I286 ++ [(20, (pz_h I u), 0, u)]) u)) hSq303 (by omega) (by omega) (px_get (px_tr (px_tr px_rfl p293) (px_ap I286 (20, (pz_h I u), 0, u)))) rfl ⟨(by show (21 : Int) ≠ 27; decide), (by show (21 : Int) ≠ 24; decide)⟩ ⟨by omega, by omega⟩
                      rw [px_take (px_tr (px_tr px_rfl p293) (px_ap I286 (20, (pz_h I u), 0, u)))] at hc313
                      refine wa_cv (nP (u - f0).toNat + 3) rfl (rQ_pa hSq303).2 (wt_P2 (by have := (rQ_pp h).2.1; omega) ⟨by decide, by decide⟩) (M2 := fun _ => False) rfl at_MI_set ⟨_, rfl⟩ rfl rfl ⟨trivial, trivial, (Or.inr ⟨wy_pr rfl, fun q => q⟩), trivial⟩ trivial (fun _ _ q => False.elim q) (hc313) (fun oq315 Sq315 hp316 q315 => ?_)
                      rcases q315 with ⟨rfl, hz311, hy312⟩
                      show wJ _ _ _ _ _ _ _ _ _ _
                      have hSq315 : rQ T n N X f0 b0 b1 S0 u dp i285 (pz_a (I286 ++ [(20, (pz_h I u), 0, u)]) I253.length (pz_h (I286 ++ [(20, (pz_h I u), 0, u)]) u)) F287 (pA F287) Sq315 := hz311
                      have krSq315 := kq_rg T n N X i285
                      have nnSq315 := rQ_n hSq315
                      have hlSq315 : (pz_a (I286 ++ [(20, (pz_h I u), 0, u)]) I253.length (pz_h (I286 ++ [(20, (pz_h I u), 0, u)]) u)).length = (I286 ++ [(20, (pz_h I u), 0, u)]).length := pz_a_len _ _ _
                      refine wa_goto ⟨_, rfl⟩ ?_
                      refine wa_return rfl ?_
                      subst hd12
                      exact ⟨rfl, hSq315, ⟨by omega, by omega, ipSq298, (px_a (px_tr (px_tr (px_tr (px_tr px_rfl p260) (px_ap I253 (21, 0, 0, u))) p293) (px_ap I286 (20, (pz_h I u), 0, u))) (by omega))⟩, trivial⟩
                    · skip
                      have ho := qtk_1 hd10 ks267
                      subst ho
                      exact ⟨rfl, ⟨rfl, hf270⟩⟩
                  · skip
                    have ho := qop_1 hd44b ks242
                    subst ho
                    exact ⟨rfl, ⟨rfl, hf245⟩⟩
                  · skip
                    have ho := qop_4 hd44b ks242 hd5246
                    subst ho
                    exact ⟨rfl, ⟨rfl, hf245⟩⟩
              · skip
                show wJ _ _ _ _ _ _ _ _ _ _
                refine wa_ifeq (w_rg0 (by omega) (by omega)) ⟨_, rfl⟩ (fun c317 => ?_) (fun c317 => ?_)
                · skip
                  refine wa_aload_n (n := 0) rfl ?_
                  refine wa_ks ?_
                  refine wa_cv 237 rfl (wy_pr rfl) wt_237 (M2 := fun _ => False) rfl at_M_isWord ⟨_, rfl⟩ rfl rfl ⟨(Or.inr ⟨wy_pr rfl, fun q => q⟩), trivial⟩ trivial (fun _ _ q => False.elim q) (wdw (S := S) (k := 5) h (wx_41 hX) (by decide) (by decide)) (fun oq319 Sq319 hp320 q319 => ?_)
                  rcases q319 with ⟨rfl, ⟨rfl, kw318⟩ | ⟨rfl, kw318⟩⟩
                  · skip
                    show wJ _ _ _ _ _ _ _ _ _ _
                    refine wa_ifne (w_rg0 (by omega) (by omega)) ⟨_, rfl⟩ (fun c321 => ?_) (fun c321 => ?_)
                    · skip
                      refine wa_aload_n (n := 0) rfl ?_
                      refine wa_cv 237 rfl (wy_pr rfl) wt_237 (M2 := fun _ => False) rfl at_M_leaves ⟨_, rfl⟩ rfl rfl ⟨(Or.inr ⟨wy_pr rfl, fun q => q⟩), trivial⟩ trivial (fun _ _ q => False.elim q) (le_w hX (by omega) (by unfold pz_ST at hd; rw [if_neg (by omega), if_neg (by omega), if_neg (by omega), if_neg (by omega), if_pos (by omega)] at hd; exact hd) ⟨⟨by omega, by omega⟩, by omega, ip⟩ _ _ _ (by omega) h) (fun oq322 Sq322 hp323 q322 => ?_)
                      rcases o with v | ⟨i2, I2, F2, t2⟩
                      · rcases q322 with ⟨rfl, hf⟩
                        exact ⟨rfl, rfl, hf⟩
                      · rcases q322 with ⟨rfl, hz, hp, he⟩
                        show wJ _ _ _ _ _ _ _ _ _ _
                        refine wa_goto ⟨_, rfl⟩ ?_
                        refine wa_return rfl ?_
                        exact ⟨rfl, hz, hp, trivial⟩
                    · skip
                      exact absurd c321 (by omega)
                  · skip
                    show wJ _ _ _ _ _ _ _ _ _ _
                    refine wa_ifne (w_rg0 (by omega) (by omega)) ⟨_, rfl⟩ (fun c324 => ?_) (fun c324 => ?_)
                    · skip
                      exact absurd c324 (by omega)
                    · skip
                      refine wa_aload_n (n := 0) rfl ?_
                      refine wa_ks ?_
                      refine wa_cv 237 rfl (wy_pr rfl) wt_237 (M2 := fun _ => False) rfl at_M_isWord ⟨_, rfl⟩ rfl rfl ⟨(Or.inr ⟨wy_pr rfl, fun q => q⟩), trivial⟩ trivial (fun _ _ q => False.elim q) (wdw (S := S) (k := 6) h (wx_43 hX) (by decide) (by decide)) (fun oq326 Sq326 hp327 q326 => ?_)
                      rcases q326 with ⟨rfl, ⟨rfl, kw325⟩ | ⟨rfl, kw325⟩⟩
                      · skip
                        show wJ _ _ _ _ _ _ _ _ _ _
                        refine wa_ifeq (w_rg0 (by omega) (by omega)) ⟨_, rfl⟩ (fun c328 => ?_) (fun c328 => ?_)
                        · skip
                          exact absurd c328 (by omega)
                        · skip
                          refine wa_fall ⟨_, rfl⟩ ?_
                          refine wa_aload_n (n := 0) rfl ?_
                          refine wa_cv 237 rfl (wy_pr rfl) wt_237 (M2 := fun _ => False) rfl at_M_leaves ⟨_, rfl⟩ rfl rfl ⟨(Or.inr ⟨wy_pr rfl, fun q => q⟩), trivial⟩ trivial (fun _ _ q => False.elim q) (le_w hX (by omega) (by unfold pz_ST at hd; rw [if_neg (by omega), if_neg (by omega), if_neg (by omega), if_neg (by omega), if_pos (by omega)] at hd; exact hd) ⟨⟨by omega, by omega⟩, by omega, ip⟩ _ _ _ (by omega) h) (fun oq329 Sq329 hp330 q329 => ?_)
                          rcases o with v | ⟨i2, I2, F2, t2⟩
                          · rcases q329 with ⟨rfl, hf⟩
                            exact ⟨rfl, rfl, hf⟩
                          · rcases q329 with ⟨rfl, hz, hp, he⟩
                            show wJ _ _ _ _ _ _ _ _ _ _
                            refine wa_goto ⟨_, rfl⟩ ?_
                            refine wa_return rfl ?_
                            exact ⟨rfl, hz, hp, trivial⟩
                      · skip
                        show wJ _ _ _ _ _ _ _ _ _ _
                        refine wa_ifeq (w_rg0 (by omega) (by omega)) ⟨_, rfl⟩ (fun c331 => ?_) (fun c331 => ?_)
                        · skip
                          refine wa_aload_n (n := 0) rfl ?_
                          refine wa_ks ?_
                          refine wa_cv 237 rfl (wy_pr rfl) wt_237 (M2 := fun _ => False) rfl at_M_isWord ⟨_, rfl⟩ rfl rfl ⟨(Or.inr ⟨wy_pr rfl, fun q => q⟩), trivial⟩ trivial (fun _ _ q => False.elim q) (wdw (S := S) (k := 7) h (wx_45 hX) (by decide) (by decide)) (fun oq333 Sq333 hp334 q333 => ?_)
                          rcases q333 with ⟨rfl, ⟨rfl, kw332⟩ | ⟨rfl, kw332⟩⟩
                          · skip
                            show wJ _ _ _ _ _ _ _ _ _ _
                            refine wa_ifeq (w_rg0 (by omega) (by omega)) ⟨_, rfl⟩ (fun c335 => ?_) (fun c335 => ?_)
                            · skip
                              exact absurd c335 (by omega)
                            · skip
                              refine wa_aload_n (n := 0) rfl ?_
                              refine wa_cv 237 rfl (wy_pr rfl) wt_237 (M2 := fun _ => False) rfl at_M_tries ⟨_, rfl⟩ rfl rfl ⟨(Or.inr ⟨wy_pr rfl, fun q => q⟩), trivial⟩ trivial (fun _ _ q => False.elim q) (tr_w hX (by omega) (by unfold pz_ST at hd; rw [if_neg (by omega), if_neg (by omega), if_neg (by omega), if_neg (by omega), if_neg (by omega), if_pos (by omega)] at hd; exact hd) ⟨⟨by omega, by omega⟩, by omega, ip⟩ _ _ _ (by omega) h) (fun oq336 Sq336 hp337 q336 => ?_)
                              rcases o with v | ⟨i2, I2, F2, t2⟩
                              · rcases q336 with ⟨rfl, hf⟩
                                exact ⟨rfl, rfl, hf⟩
                              · rcases q336 with ⟨rfl, hz, hp, he⟩
                                show wJ _ _ _ _ _ _ _ _ _ _
                                refine wa_goto ⟨_, rfl⟩ ?_
                                refine wa_return rfl ?_
                                exact ⟨rfl, hz, hp, trivial⟩
                          · skip
                            show wJ _ _ _ _ _ _ _ _ _ _
                            refine wa_ifeq (w_rg0 (by omega) (by omega)) ⟨_, rfl⟩ (fun c338 => ?_) (fun c338 => ?_)
                            · skip
                              have hde := (show pz_STe (kq T n N X) (tp T n 0) (rR xs T n N X f0 b0 b1 S0) i dp u I F o from (by unfold pz_ST at hd; rw [if_neg (by omega), if_neg (by omega), if_neg (by omega), if_neg (by omega), if_neg (by omega), if_neg (by omega)] at hd; exact hd))
                              unfold pz_STe at hde
                              refine wa_aload_n (n := 0) rfl ?_
                              refine wa_aload_n (n := 0) rfl ?_
                              refine wa_bipush (w_rg2 (by omega) (by omega)) ?_
                              refine wa_cv 237 rfl (wy_pr rfl) wt_237 (M2 := fun _ => False) rfl at_M_isSign ⟨_, rfl⟩ rfl rfl ⟨(Or.inr ⟨wy_pr rfl, fun q => q⟩), trivial⟩ ⟨(Or.inr ⟨wy_pr rfl, fun q => q⟩), trivial⟩ (fun _ _ q => False.elim q) (isw (S := S) h (fun _ => sk_123) ⟨by decide, by decide⟩ ⟨by decide, by decide⟩) (fun oq340 Sq340 hp341 q340 => ?_)
                              rcases q340 with ⟨rfl, ⟨rfl, ks339⟩ | ⟨rfl, ks339⟩⟩
                              · skip
                                show wJ _ _ _ _ _ _ _ _ _ _
                                refine wa_ifne (w_rg0 (by omega) (by omega)) ⟨_, rfl⟩ (fun c342 => ?_) (fun c342 => ?_)
                                · skip
                                  refine wa_iconst ?_
                                  refine wa_fall ⟨_, rfl⟩ ?_
                                  refine wa_iconst ?_
                                  refine wa_cv 237 rfl (wy_pr rfl) wt_237 (M2 := fun _ => False) rfl at_M_must ⟨_, rfl⟩ rfl rfl ⟨(Or.inr ⟨wy_pr rfl, fun q => q⟩), trivial⟩ trivial (fun _ _ q => False.elim q) (must_ok (S := S) (g := 0) (n := 1) (by omega) ⟨by omega, by omega⟩) (fun oq344 Sq344 hp345 q344 => ?_)
                                  rcases q344 with ⟨hg343, rfl, rfl⟩ | ⟨hg343, rfl, rfl⟩
                                  · skip
                                    exact absurd hg343 (by decide)
                                  · skip
                                    have ho := (show o = .inl (1 + 16 * tp T n 0 i) from (by rw [if_pos (by omega)] at hde; exact hde))
                                    subst ho
                                    exact ⟨rfl, ⟨rfl, (rFu_mk h ip)⟩⟩
                                · skip
                                  exact absurd c342 (by omega)
                              · skip
                                show wJ _ _ _ _ _ _ _ _ _ _
                                have hde2 := hde
                                rw [if_neg ks339] at hde2
                                refine wa_ifne (w_rg0 (by omega) (by omega)) ⟨_, rfl⟩ (fun c346 => ?_) (fun c346 => ?_)
                                · skip
                                  exact absurd c346 (by omega)
                                · skip
                                  refine wa_iconst ?_
                                  refine wa_goto ⟨_, rfl⟩ ?_
                                  refine wa_iconst ?_
                                  refine wa_cv 237 rfl (wy_pr rfl) wt_237 (M2 := fun _ => False) rfl at_M_must ⟨_, rfl⟩ rfl rfl ⟨(Or.inr ⟨wy_pr rfl, fun q => q⟩), trivial⟩ trivial (fun _ _ q => False.elim q) (must_ok (S := S) (g := 1) (n := 1) (by omega) ⟨by omega, by omega⟩) (fun oq348 Sq348 hp349 q348 => ?_)
                                  rcases q348 with ⟨hg347, rfl, rfl⟩ | ⟨hg347, rfl, rfl⟩
                                  · skip
                                    show wJ _ _ _ _ _ _ _ _ _ _
                                    refine wa_aload_n (n := 0) rfl ?_
                                    rcases hde2 with ⟨v350, hs351, ho352⟩ | ⟨i353, I354, F355, t356, hs351, hd13⟩
                                    · refine wa_cv 237 rfl (wy_pr rfl) wt_237 (M2 := fun _ => False) rfl at_M_value ⟨_, rfl⟩ rfl rfl ⟨(Or.inr ⟨wy_pr rfl, fun q => q⟩), trivial⟩ trivial (fun _ _ q => False.elim q) (r4 hs351 ⟨⟨by omega, by omega⟩, by omega, ip⟩ _ _ _ (by omega) h) (fun oq364 Sq364 hp365 q364 => ?_)
                                      rcases q364 with ⟨rfl, hf363⟩
                                      subst ho352
                                      exact ⟨rfl, ⟨rfl, hf363⟩⟩
                                    refine wa_cv 237 rfl (wy_pr rfl) wt_237 (M2 := fun _ => False) rfl at_M_value ⟨_, rfl⟩ rfl rfl ⟨(Or.inr ⟨wy_pr rfl, fun q => q⟩), trivial⟩ trivial (fun _ _ q => False.elim q) (r4 hs351 ⟨⟨by omega, by omega⟩, by omega, ip⟩ _ _ _ (by omega) h) (fun oq366 Sq366 hp367 q366 => ?_)
                                    rcases q366 with ⟨rfl, hz357, ⟨p358, p359, p360, p361⟩, e362⟩
                                    show wJ _ _ _ _ _ _ _ _ _ _
                                    have hSq366 : rQ T n N X f0 b0 b1 S0 u dp i353 I354 F355 (pA F355) Sq366 := hz357
                                    have ipSq366 : ((i353 : Nat) : Int) ≤ tp T n 0 i353 := p360
                                    have krSq366 := kq_rg T n N X i353
                                    have nnSq366 := rQ_n hSq366
                                    have lnSq366 := px_len p361
                                    refine wa_aload_n (n := 0) rfl ?_
                                    refine wa_bipush (w_rg2 (by omega) (by omega)) ?_
                                    refine wa_cv 237 rfl (wy_pr rfl) wt_237 (M2 := fun _ => False) rfl at_M_takes ⟨_, rfl⟩ rfl rfl ⟨(Or.inr ⟨wy_pr rfl, fun q => q⟩), trivial⟩ trivial (fun _ _ q => False.elim q) (tkw (S := Sq366) hSq366 ipSq366 (fun _ => sk_59) ⟨by decide, by decide⟩ ⟨by decide, by decide⟩) (fun oq372 Sq372 hp373 q372 => ?_)
                                    rcases q372 with ⟨rfl, ks368, hz369, hl370⟩ | ⟨rfl, ks368, hf371⟩
                                    · skip
                                      show wJ _ _ _ _ _ _ _ _ _ _
                                      have hSq372 : rQ T n N X f0 b0 b1 S0 u dp (i353 + 1) I354 F355 (pA F355) Sq372 := hz369
                                      have ipSq372 : (((i353 + 1) : Nat) : Int) ≤ tp T n 0 (i353 + 1) := pI_nx (N := N) (X := X) ipSq366 (rQ_n hSq366) ⟨by omega, by omega⟩
                                      have krSq372 := kq_rg T n N X (i353 + 1)
                                      have nnSq372 := rQ_n hSq372
                                      have hd14 := qtk_o hd13 ks368
                                      refine wa_aload_n (n := 0) rfl ?_
                                      refine wa_iconst ?_
                                      refine wa_iconst ?_
                                      refine wa_iconst ?_
                                      refine wa_cv 237 rfl (wy_pr rfl) wt_237 (M2 := fun _ => False) rfl at_M_emits ⟨_, rfl⟩ rfl rfl ⟨(Or.inr ⟨wy_pr rfl, fun q => q⟩), trivial⟩ trivial (fun _ _ q => False.elim q) (emw (S := Sq372) (x := (5, 0, 0, u)) hSq372 (by omega) rfl (by show (5 : Int) ≠ 27; decide) rfl ⟨by omega, by omega⟩ ⟨by omega, by omega⟩ ⟨by omega, by omega⟩) (fun oq377 Sq377 hp378 q377 => ?_)
                                      rcases q377 with ⟨rfl, hz374, l61375, l60376⟩
                                      show wJ _ _ _ _ _ _ _ _ _ _
                                      have hSq377 : rQ T n N X f0 b0 b1 S0 u dp (i353 + 1) (I354 ++ [(5, 0, 0, u)]) F355 (pA F355) Sq377 := hz374
                                      have krSq377 := kq_rg T n N X (i353 + 1)
                                      have nnSq377 := rQ_n hSq377
                                      have hlSq377 : (I354 ++ [(5, 0, 0, u)]).length = I354.length + 1 := List.length_append
                                      refine wa_fall ⟨_, rfl⟩ ?_
                                      refine wa_return rfl ?_
                                      subst hd14
                                      exact ⟨rfl, hSq377, ⟨by omega, by omega, ipSq372, (px_tr (px_tr px_rfl p361) (px_ap I354 (5, 0, 0, u)))⟩, trivial⟩
                                    · skip
                                      have ho := qtk_1 hd13 ks368
                                      subst ho
                                      exact ⟨rfl, ⟨rfl, hf371⟩⟩
                                  · skip
                                    exact absurd hg347 (by decide)
                            · skip
                              exact absurd c338 (by omega)
                        · skip
                          exact absurd c331 (by omega)
                · skip
                  exact absurd c317 (by omega)
            · skip
              exact absurd c229 (by omega)
        · skip
          exact absurd c222 (by omega)
    · skip
      exact absurd c166 (by omega)
end Wcn
