/-! PART ca: the reference's fronts. -/
section Wca
variable {xs : List (Nat × List Int32)} {M : Nat → Prop} {d : Nat} {A B C S Z S0 : wS} {Q : wO → wS → Prop} {T : Int → Int} {n f0 u dp b0 b1 : Int} {N X : List (List Int)} {c i k pm : Nat} {I : List pz_I} {F : List pz_F} {o : pz_O}
variable {R : pz_R} {K V P : Nat → Int} {x t : Int} {J : List Int}
theorem pzF_4 (hd : pz_FR K P R i dp u I F o) (h : K i = 24 ∨ K i = 28) (h2 : 50 ≤ dp) : o = .inl (4 + 16 * P i) := by
  unfold pz_FR pz_fa at hd; rw [if_pos h, if_pos h2] at hd; exact hd
theorem pzF_q (hd : pz_FR K P R i dp u I F o) (h : K i = 24 ∨ K i = 28) (h2 : dp < 50) : pz_q (R 7 0 [] (i + 1) (dp + 1) u I F) (fun j I F _ o => o = .inr (j, I ++ [(if K i = 24 then 12 else 13, 0, 0, u)], F, 0)) o := by
  unfold pz_FR at hd; rw [if_pos h, if_neg (by omega)] at hd; exact hd
theorem pzF_8 (hd : pz_FR K P R i dp u I F o) (h : ¬ (K i = 24 ∨ K i = 28)) : R 8 0 [] i dp u I F o := by
  unfold pz_FR at hd; rw [if_neg h] at hd; exact hd
theorem me_fr (hd : pz_FR (kq T n N X) (tp T n 0) (rR xs T n N X f0 b0 b1 S0) i dp u I F o) : rR xs T n N X f0 b0 b1 S0 7 0 [] i dp u I F o := by
  show rM xs T n N X f0 b0 b1 S0 8 t_M_front [(0, (2, 237))] (fun t => some (0, t)) 1 (tE u I.length) dp u i I F o
  intro hpre M D S hD h
  obtain ⟨⟨d0, d1⟩, hlen, ip⟩ := hpre
  obtain ⟨D, rfl⟩ : ∃ E, D = E + 12 := ⟨D - 12, by omega⟩
  have krS := kq_rg T n N X i
  have nnS := rQ_n h
  refine wa_aload_n (n := 0) rfl ?_
  refine wa_bipush (w_rg2 (by omega) (by omega)) ?_
  refine wa_cv 237 rfl (wy_pr rfl) wt_237 (M2 := fun _ => False) rfl at_M_isSign ⟨_, rfl⟩ rfl rfl ⟨(Or.inr ⟨wy_pr rfl, fun q => q⟩), trivial⟩ trivial (fun _ _ q => False.elim q) (isw (S := S) h (fun _ => sk_45) ⟨by decide, by decide⟩ ⟨by decide, by decide⟩) (fun oq102 Sq102 hp103 q102 => ?_)
  rcases q102 with ⟨rfl, ⟨rfl, ks101⟩ | ⟨rfl, ks101⟩⟩
  · skip
    show wJ _ _ _ _ _ _ _ _ _ _
    refine wa_ifne (w_rg0 (by omega) (by omega)) ⟨_, rfl⟩ (fun c104 => ?_) (fun c104 => ?_)
    · skip
      refine wa_aload_n (n := 0) rfl ?_
      refine wa_bipush (w_rg2 (by omega) (by omega)) ?_
      refine wa_cv 237 rfl (wy_pr rfl) wt_237 (M2 := fun _ => False) rfl at_M_isSign ⟨_, rfl⟩ rfl rfl ⟨(Or.inr ⟨wy_pr rfl, fun q => q⟩), trivial⟩ trivial (fun _ _ q => False.elim q) (isw (S := S) h (fun _ => sk_45) ⟨by decide, by decide⟩ ⟨by decide, by decide⟩) (fun oq106 Sq106 hp107 q106 => ?_)
      rcases q106 with ⟨rfl, ⟨rfl, ks105⟩ | ⟨rfl, ks105⟩⟩
      · skip
        show wJ _ _ _ _ _ _ _ _ _ _
        refine wa_ifeq (w_rg0 (by omega) (by omega)) ⟨_, rfl⟩ (fun c108 => ?_) (fun c108 => ?_)
        · skip
          exact absurd c108 (by omega)
        · skip
          refine wa_bipush (w_rg2 (by omega) (by omega)) ?_
          refine wa_goto ⟨_, rfl⟩ ?_
          refine wa_istore_n (n := 1) rfl ?_
          refine wa_aload_n (n := 0) rfl ?_
          refine wa_cv 237 rfl (wy_pr rfl) wt_237 (M2 := fun _ => False) rfl at_M_deeper ⟨_, rfl⟩ rfl rfl ⟨trivial, (Or.inr ⟨wy_pr rfl, fun q => q⟩), trivial⟩ trivial (fun _ _ q => False.elim q) (dew (S := S) h ip ⟨by omega, by omega⟩) (fun oq111 Sq111 hp112 q111 => ?_)
          rcases q111 with ⟨rfl, hd5109, rfl⟩ | ⟨rfl, hd5109, hf110⟩
          · skip
            show wJ _ _ _ _ _ _ _ _ _ _
            have hd1 := pzF_q hd (by omega) hd5109
            refine wa_aload_n (n := 0) rfl ?_
            refine wa_cv 237 rfl (wy_pr rfl) wt_237 (M2 := fun _ => False) rfl at_M_next ⟨_, rfl⟩ rfl rfl ⟨trivial, (Or.inr ⟨wy_pr rfl, fun q => q⟩), trivial⟩ trivial (fun _ _ q => False.elim q) (nxw (S := (w_up S 237 29 (dp + 1))) (rQ_dp (x := (dp + 1)) h) ⟨by omega, by omega, by omega, by omega, by omega⟩) (fun oq115 Sq115 hp116 q115 => ?_)
            rcases q115 with ⟨rfl, hz113, hl114⟩
            show wJ _ _ _ _ _ _ _ _ _ _
            have hSq115 : rQ T n N X f0 b0 b1 S0 u (dp + 1) (i + 1) I F (pA F) Sq115 := hz113
            have ipSq115 : (((i + 1) : Nat) : Int) ≤ tp T n 0 (i + 1) := pI_nx (N := N) (X := X) ip (rQ_n (rQ_dp (x := (dp + 1)) h)) ⟨by omega, by omega⟩
            have krSq115 := kq_rg T n N X (i + 1)
            have nnSq115 := rQ_n hSq115
            refine wa_aload_n (n := 0) rfl ?_
            rcases hd1 with ⟨v117, hs118, ho119⟩ | ⟨i120, I121, F122, t123, hs118, hd2⟩
            · refine wa_cv 237 rfl (wy_pr rfl) wt_237 (M2 := fun _ => False) rfl at_M_front ⟨_, rfl⟩ rfl rfl ⟨trivial, (Or.inr ⟨wy_pr rfl, fun q => q⟩), trivial⟩ trivial (fun _ _ q => False.elim q) (r7 hs118 ⟨⟨by omega, by omega⟩, by omega, ipSq115⟩ _ _ _ (by omega) hSq115) (fun oq131 Sq131 hp132 q131 => ?_)
              rcases q131 with ⟨rfl, hf130⟩
              subst ho119
              exact ⟨rfl, ⟨rfl, hf130⟩⟩
            refine wa_cv 237 rfl (wy_pr rfl) wt_237 (M2 := fun _ => False) rfl at_M_front ⟨_, rfl⟩ rfl rfl ⟨trivial, (Or.inr ⟨wy_pr rfl, fun q => q⟩), trivial⟩ trivial (fun _ _ q => False.elim q) (r7 hs118 ⟨⟨by omega, by omega⟩, by omega, ipSq115⟩ _ _ _ (by omega) hSq115) (fun oq133 Sq133 hp134 q133 => ?_)
            rcases q133 with ⟨rfl, hz124, ⟨p125, p126, p127, p128⟩, e129⟩
            show wJ _ _ _ _ _ _ _ _ _ _
            have hSq133 : rQ T n N X f0 b0 b1 S0 u (dp + 1) i120 I121 F122 (pA F122) Sq133 := hz124
            have ipSq133 : ((i120 : Nat) : Int) ≤ tp T n 0 i120 := p127
            have krSq133 := kq_rg T n N X i120
            have nnSq133 := rQ_n hSq133
            have lnSq133 := px_len p128
            refine wa_pop (by decide) ?_
            refine wa_aload_n (n := 0) rfl ?_
            refine wa_dup (by decide) ?_
            refine wb_gfi 237 rfl (wy_pr rfl) wt_237 wf_15_29 (v := (dp + 1)) ((rQ_29 hSq133)) (fun r135 => ?_)
            refine wa_iconst ?_
            refine wa_isub ?_
            refine wb_pfi 237 rfl (wy_pr rfl) wt_237 wf_15_29 (n := 29) rfl ⟨(by omega), (by omega)⟩ ?_
            refine wa_aload_n (n := 0) rfl ?_
            refine wa_iload_n (n := 1) rfl ?_
            refine wa_iconst ?_
            refine wa_iconst ?_
            refine wa_cv 237 rfl (wy_pr rfl) wt_237 (M2 := fun _ => False) rfl at_M_emits ⟨_, rfl⟩ rfl rfl ⟨trivial, (Or.inr ⟨wy_pr rfl, fun q => q⟩), trivial⟩ trivial (fun _ _ q => False.elim q) (emw (S := (w_up Sq133 237 29 ((dp + 1) - 1))) (x := (12, 0, 0, u)) (rQ_dp (x := ((dp + 1) - 1)) hSq133) (by omega) rfl (by show (12 : Int) ≠ 27; decide) rfl ⟨by omega, by omega⟩ ⟨by omega, by omega⟩ ⟨by omega, by omega⟩) (fun oq139 Sq139 hp140 q139 => ?_)
            rcases q139 with ⟨rfl, hz136, l61137, l60138⟩
            show wJ _ _ _ _ _ _ _ _ _ _
            have hSq139 : rQ T n N X f0 b0 b1 S0 u ((dp + 1) - 1) i120 (I121 ++ [(12, 0, 0, u)]) F122 (pA F122) Sq139 := hz136
            have krSq139 := kq_rg T n N X i120
            have nnSq139 := rQ_n hSq139
            have hlSq139 : (I121 ++ [(12, 0, 0, u)]).length = I121.length + 1 := List.length_append
            refine wa_iconst ?_
            refine wa_ireturn rfl ?_
            first
              | (exfalso; omega)
              | (rw [if_pos (by omega)] at hd2; subst hd2; exact ⟨rfl, (by have z := hSq139; rw [show dp + 1 - 1 = dp by omega] at z; exact z), ⟨by omega, by omega, ipSq133, (px_tr (px_tr px_rfl p128) (px_ap _ _))⟩, Or.inl rfl⟩)
          · skip
            have ho := pzF_4 hd (by omega) hd5109
            subst ho
            exact ⟨rfl, ⟨rfl, hf110⟩⟩
      · skip
        show wJ _ _ _ _ _ _ _ _ _ _
        refine wa_ifeq (w_rg0 (by omega) (by omega)) ⟨_, rfl⟩ (fun c141 => ?_) (fun c141 => ?_)
        · skip
          refine wa_bipush (w_rg2 (by omega) (by omega)) ?_
          refine wa_fall ⟨_, rfl⟩ ?_
          refine wa_istore_n (n := 1) rfl ?_
          refine wa_aload_n (n := 0) rfl ?_
          refine wa_cv 237 rfl (wy_pr rfl) wt_237 (M2 := fun _ => False) rfl at_M_deeper ⟨_, rfl⟩ rfl rfl ⟨trivial, (Or.inr ⟨wy_pr rfl, fun q => q⟩), trivial⟩ trivial (fun _ _ q => False.elim q) (dew (S := S) h ip ⟨by omega, by omega⟩) (fun oq144 Sq144 hp145 q144 => ?_)
          rcases q144 with ⟨rfl, hd5142, rfl⟩ | ⟨rfl, hd5142, hf143⟩
          · skip
            show wJ _ _ _ _ _ _ _ _ _ _
            have hd3 := pzF_q hd (by omega) hd5142
            refine wa_aload_n (n := 0) rfl ?_
            refine wa_cv 237 rfl (wy_pr rfl) wt_237 (M2 := fun _ => False) rfl at_M_next ⟨_, rfl⟩ rfl rfl ⟨trivial, (Or.inr ⟨wy_pr rfl, fun q => q⟩), trivial⟩ trivial (fun _ _ q => False.elim q) (nxw (S := (w_up S 237 29 (dp + 1))) (rQ_dp (x := (dp + 1)) h) ⟨by omega, by omega, by omega, by omega, by omega⟩) (fun oq148 Sq148 hp149 q148 => ?_)
            rcases q148 with ⟨rfl, hz146, hl147⟩
            show wJ _ _ _ _ _ _ _ _ _ _
            have hSq148 : rQ T n N X f0 b0 b1 S0 u (dp + 1) (i + 1) I F (pA F) Sq148 := hz146
            have ipSq148 : (((i + 1) : Nat) : Int) ≤ tp T n 0 (i + 1) := pI_nx (N := N) (X := X) ip (rQ_n (rQ_dp (x := (dp + 1)) h)) ⟨by omega, by omega⟩
            have krSq148 := kq_rg T n N X (i + 1)
            have nnSq148 := rQ_n hSq148
            refine wa_aload_n (n := 0) rfl ?_
            rcases hd3 with ⟨v150, hs151, ho152⟩ | ⟨i153, I154, F155, t156, hs151, hd4⟩
            · refine wa_cv 237 rfl (wy_pr rfl) wt_237 (M2 := fun _ => False) rfl at_M_front ⟨_, rfl⟩ rfl rfl ⟨trivial, (Or.inr ⟨wy_pr rfl, fun q => q⟩), trivial⟩ trivial (fun _ _ q => False.elim q) (r7 hs151 ⟨⟨by omega, by omega⟩, by omega, ipSq148⟩ _ _ _ (by omega) hSq148) (fun oq164 Sq164 hp165 q164 => ?_)
              rcases q164 with ⟨rfl, hf163⟩
              subst ho152
              exact ⟨rfl, ⟨rfl, hf163⟩⟩
            refine wa_cv 237 rfl (wy_pr rfl) wt_237 (M2 := fun _ => False) rfl at_M_front ⟨_, rfl⟩ rfl rfl ⟨trivial, (Or.inr ⟨wy_pr rfl, fun q => q⟩), trivial⟩ trivial (fun _ _ q => False.elim q) (r7 hs151 ⟨⟨by omega, by omega⟩, by omega, ipSq148⟩ _ _ _ (by omega) hSq148) (fun oq166 Sq166 hp167 q166 => ?_)
            rcases q166 with ⟨rfl, hz157, ⟨p158, p159, p160, p161⟩, e162⟩
            show wJ _ _ _ _ _ _ _ _ _ _
            have hSq166 : rQ T n N X f0 b0 b1 S0 u (dp + 1) i153 I154 F155 (pA F155) Sq166 := hz157
            have ipSq166 : ((i153 : Nat) : Int) ≤ tp T n 0 i153 := p160
            have krSq166 := kq_rg T n N X i153
            have nnSq166 := rQ_n hSq166
            have lnSq166 := px_len p161
            refine wa_pop (by decide) ?_
            refine wa_aload_n (n := 0) rfl ?_
            refine wa_dup (by decide) ?_
            refine wb_gfi 237 rfl (wy_pr rfl) wt_237 wf_15_29 (v := (dp + 1)) ((rQ_29 hSq166)) (fun r168 => ?_)
            refine wa_iconst ?_
            refine wa_isub ?_
            refine wb_pfi 237 rfl (wy_pr rfl) wt_237 wf_15_29 (n := 29) rfl ⟨(by omega), (by omega)⟩ ?_
            refine wa_aload_n (n := 0) rfl ?_
            refine wa_iload_n (n := 1) rfl ?_
            refine wa_iconst ?_
            refine wa_iconst ?_
            refine wa_cv 237 rfl (wy_pr rfl) wt_237 (M2 := fun _ => False) rfl at_M_emits ⟨_, rfl⟩ rfl rfl ⟨trivial, (Or.inr ⟨wy_pr rfl, fun q => q⟩), trivial⟩ trivial (fun _ _ q => False.elim q) (emw (S := (w_up Sq166 237 29 ((dp + 1) - 1))) (x := (13, 0, 0, u)) (rQ_dp (x := ((dp + 1) - 1)) hSq166) (by omega) rfl (by show (13 : Int) ≠ 27; decide) rfl ⟨by omega, by omega⟩ ⟨by omega, by omega⟩ ⟨by omega, by omega⟩) (fun oq172 Sq172 hp173 q172 => ?_)
            rcases q172 with ⟨rfl, hz169, l61170, l60171⟩
            show wJ _ _ _ _ _ _ _ _ _ _
            have hSq172 : rQ T n N X f0 b0 b1 S0 u ((dp + 1) - 1) i153 (I154 ++ [(13, 0, 0, u)]) F155 (pA F155) Sq172 := hz169
            have krSq172 := kq_rg T n N X i153
            have nnSq172 := rQ_n hSq172
            have hlSq172 : (I154 ++ [(13, 0, 0, u)]).length = I154.length + 1 := List.length_append
            refine wa_iconst ?_
            refine wa_ireturn rfl ?_
            first
              | (exfalso; omega)
              | (rw [if_neg (by omega)] at hd4; subst hd4; exact ⟨rfl, (by have z := hSq172; rw [show dp + 1 - 1 = dp by omega] at z; exact z), ⟨by omega, by omega, ipSq166, (px_tr (px_tr px_rfl p161) (px_ap _ _))⟩, Or.inl rfl⟩)
          · skip
            have ho := pzF_4 hd (by omega) hd5142
            subst ho
            exact ⟨rfl, ⟨rfl, hf143⟩⟩
        · skip
          exact absurd c141 (by omega)
    · skip
      exact absurd c104 (by omega)
  · skip
    show wJ _ _ _ _ _ _ _ _ _ _
    refine wa_ifne (w_rg0 (by omega) (by omega)) ⟨_, rfl⟩ (fun c174 => ?_) (fun c174 => ?_)
    · skip
      exact absurd c174 (by omega)
    · skip
      refine wa_aload_n (n := 0) rfl ?_
      refine wa_bipush (w_rg2 (by omega) (by omega)) ?_
      refine wa_cv 237 rfl (wy_pr rfl) wt_237 (M2 := fun _ => False) rfl at_M_isSign ⟨_, rfl⟩ rfl rfl ⟨(Or.inr ⟨wy_pr rfl, fun q => q⟩), trivial⟩ trivial (fun _ _ q => False.elim q) (isw (S := S) h (fun _ => sk_33) ⟨by decide, by decide⟩ ⟨by decide, by decide⟩) (fun oq176 Sq176 hp177 q176 => ?_)
      rcases q176 with ⟨rfl, ⟨rfl, ks175⟩ | ⟨rfl, ks175⟩⟩
      · skip
        show wJ _ _ _ _ _ _ _ _ _ _
        refine wa_ifne (w_rg0 (by omega) (by omega)) ⟨_, rfl⟩ (fun c178 => ?_) (fun c178 => ?_)
        · skip
          refine wa_aload_n (n := 0) rfl ?_
          refine wa_bipush (w_rg2 (by omega) (by omega)) ?_
          refine wa_cv 237 rfl (wy_pr rfl) wt_237 (M2 := fun _ => False) rfl at_M_isSign ⟨_, rfl⟩ rfl rfl ⟨(Or.inr ⟨wy_pr rfl, fun q => q⟩), trivial⟩ trivial (fun _ _ q => False.elim q) (isw (S := S) h (fun _ => sk_45) ⟨by decide, by decide⟩ ⟨by decide, by decide⟩) (fun oq180 Sq180 hp181 q180 => ?_)
          rcases q180 with ⟨rfl, ⟨rfl, ks179⟩ | ⟨rfl, ks179⟩⟩
          · skip
            show wJ _ _ _ _ _ _ _ _ _ _
            refine wa_ifeq (w_rg0 (by omega) (by omega)) ⟨_, rfl⟩ (fun c182 => ?_) (fun c182 => ?_)
            · skip
              exact absurd c182 (by omega)
            · skip
              refine wa_bipush (w_rg2 (by omega) (by omega)) ?_
              refine wa_goto ⟨_, rfl⟩ ?_
              refine wa_istore_n (n := 1) rfl ?_
              refine wa_aload_n (n := 0) rfl ?_
              refine wa_cv 237 rfl (wy_pr rfl) wt_237 (M2 := fun _ => False) rfl at_M_deeper ⟨_, rfl⟩ rfl rfl ⟨trivial, (Or.inr ⟨wy_pr rfl, fun q => q⟩), trivial⟩ trivial (fun _ _ q => False.elim q) (dew (S := S) h ip ⟨by omega, by omega⟩) (fun oq185 Sq185 hp186 q185 => ?_)
              rcases q185 with ⟨rfl, hd5183, rfl⟩ | ⟨rfl, hd5183, hf184⟩
              · skip
                show wJ _ _ _ _ _ _ _ _ _ _
                have hd5 := pzF_q hd (by omega) hd5183
                refine wa_aload_n (n := 0) rfl ?_
                refine wa_cv 237 rfl (wy_pr rfl) wt_237 (M2 := fun _ => False) rfl at_M_next ⟨_, rfl⟩ rfl rfl ⟨trivial, (Or.inr ⟨wy_pr rfl, fun q => q⟩), trivial⟩ trivial (fun _ _ q => False.elim q) (nxw (S := (w_up S 237 29 (dp + 1))) (rQ_dp (x := (dp + 1)) h) ⟨by omega, by omega, by omega, by omega, by omega⟩) (fun oq189 Sq189 hp190 q189 => ?_)
                rcases q189 with ⟨rfl, hz187, hl188⟩
                show wJ _ _ _ _ _ _ _ _ _ _
                have hSq189 : rQ T n N X f0 b0 b1 S0 u (dp + 1) (i + 1) I F (pA F) Sq189 := hz187
                have ipSq189 : (((i + 1) : Nat) : Int) ≤ tp T n 0 (i + 1) := pI_nx (N := N) (X := X) ip (rQ_n (rQ_dp (x := (dp + 1)) h)) ⟨by omega, by omega⟩
                have krSq189 := kq_rg T n N X (i + 1)
                have nnSq189 := rQ_n hSq189
                refine wa_aload_n (n := 0) rfl ?_
                rcases hd5 with ⟨v191, hs192, ho193⟩ | ⟨i194, I195, F196, t197, hs192, hd6⟩
                · refine wa_cv 237 rfl (wy_pr rfl) wt_237 (M2 := fun _ => False) rfl at_M_front ⟨_, rfl⟩ rfl rfl ⟨trivial, (Or.inr ⟨wy_pr rfl, fun q => q⟩), trivial⟩ trivial (fun _ _ q => False.elim q) (r7 hs192 ⟨⟨by omega, by omega⟩, by omega, ipSq189⟩ _ _ _ (by omega) hSq189) (fun oq205 Sq205 hp206 q205 => ?_)
                  rcases q205 with ⟨rfl, hf204⟩
                  subst ho193
                  exact ⟨rfl, ⟨rfl, hf204⟩⟩
                refine wa_cv 237 rfl (wy_pr rfl) wt_237 (M2 := fun _ => False) rfl at_M_front ⟨_, rfl⟩ rfl rfl ⟨trivial, (Or.inr ⟨wy_pr rfl, fun q => q⟩), trivial⟩ trivial (fun _ _ q => False.elim q) (r7 hs192 ⟨⟨by omega, by omega⟩, by omega, ipSq189⟩ _ _ _ (by omega) hSq189) (fun oq207 Sq207 hp208 q207 => ?_)
                rcases q207 with ⟨rfl, hz198, ⟨p199, p200, p201, p202⟩, e203⟩
                show wJ _ _ _ _ _ _ _ _ _ _
                have hSq207 : rQ T n N X f0 b0 b1 S0 u (dp + 1) i194 I195 F196 (pA F196) Sq207 := hz198
                have ipSq207 : ((i194 : Nat) : Int) ≤ tp T n 0 i194 := p201
                have krSq207 := kq_rg T n N X i194
                have nnSq207 := rQ_n hSq207
                have lnSq207 := px_len p202
                refine wa_pop (by decide) ?_
                refine wa_aload_n (n := 0) rfl ?_
                refine wa_dup (by decide) ?_
                refine wb_gfi 237 rfl (wy_pr rfl) wt_237 wf_15_29 (v := (dp + 1)) ((rQ_29 hSq207)) (fun r209 => ?_)
                refine wa_iconst ?_
                refine wa_isub ?_
                refine wb_pfi 237 rfl (wy_pr rfl) wt_237 wf_15_29 (n := 29) rfl ⟨(by omega), (by omega)⟩ ?_
                refine wa_aload_n (n := 0) rfl ?_
                refine wa_iload_n (n := 1) rfl ?_
                refine wa_iconst ?_
                refine wa_iconst ?_
                refine wa_cv 237 rfl (wy_pr rfl) wt_237 (M2 := fun _ => False) rfl at_M_emits ⟨_, rfl⟩ rfl rfl ⟨trivial, (Or.inr ⟨wy_pr rfl, fun q => q⟩), trivial⟩ trivial (fun _ _ q => False.elim q) (emw (S := (w_up Sq207 237 29 ((dp + 1) - 1))) (x := (12, 0, 0, u)) (rQ_dp (x := ((dp + 1) - 1)) hSq207) (by omega) rfl (by show (12 : Int) ≠ 27; decide) rfl ⟨by omega, by omega⟩ ⟨by omega, by omega⟩ ⟨by omega, by omega⟩) (fun oq213 Sq213 hp214 q213 => ?_)
                rcases q213 with ⟨rfl, hz210, l61211, l60212⟩
                show wJ _ _ _ _ _ _ _ _ _ _
                have hSq213 : rQ T n N X f0 b0 b1 S0 u ((dp + 1) - 1) i194 (I195 ++ [(12, 0, 0, u)]) F196 (pA F196) Sq213 := hz210
                have krSq213 := kq_rg T n N X i194
                have nnSq213 := rQ_n hSq213
                have hlSq213 : (I195 ++ [(12, 0, 0, u)]).length = I195.length + 1 := List.length_append
                refine wa_iconst ?_
                refine wa_ireturn rfl ?_
                first
                  | (exfalso; omega)
                  | (rw [if_pos (by omega)] at hd6; subst hd6; exact ⟨rfl, (by have z := hSq213; rw [show dp + 1 - 1 = dp by omega] at z; exact z), ⟨by omega, by omega, ipSq207, (px_tr (px_tr px_rfl p202) (px_ap _ _))⟩, Or.inl rfl⟩)
              · skip
                have ho := pzF_4 hd (by omega) hd5183
                subst ho
                exact ⟨rfl, ⟨rfl, hf184⟩⟩
          · skip
            show wJ _ _ _ _ _ _ _ _ _ _
            refine wa_ifeq (w_rg0 (by omega) (by omega)) ⟨_, rfl⟩ (fun c215 => ?_) (fun c215 => ?_)
            · skip
              refine wa_bipush (w_rg2 (by omega) (by omega)) ?_
              refine wa_fall ⟨_, rfl⟩ ?_
              refine wa_istore_n (n := 1) rfl ?_
              refine wa_aload_n (n := 0) rfl ?_
              refine wa_cv 237 rfl (wy_pr rfl) wt_237 (M2 := fun _ => False) rfl at_M_deeper ⟨_, rfl⟩ rfl rfl ⟨trivial, (Or.inr ⟨wy_pr rfl, fun q => q⟩), trivial⟩ trivial (fun _ _ q => False.elim q) (dew (S := S) h ip ⟨by omega, by omega⟩) (fun oq218 Sq218 hp219 q218 => ?_)
              rcases q218 with ⟨rfl, hd5216, rfl⟩ | ⟨rfl, hd5216, hf217⟩
              · skip
                show wJ _ _ _ _ _ _ _ _ _ _
                have hd7 := pzF_q hd (by omega) hd5216
                refine wa_aload_n (n := 0) rfl ?_
                refine wa_cv 237 rfl (wy_pr rfl) wt_237 (M2 := fun _ => False) rfl at_M_next ⟨_, rfl⟩ rfl rfl ⟨trivial, (Or.inr ⟨wy_pr rfl, fun q => q⟩), trivial⟩ trivial (fun _ _ q => False.elim q) (nxw (S := (w_up S 237 29 (dp + 1))) (rQ_dp (x := (dp + 1)) h) ⟨by omega, by omega, by omega, by omega, by omega⟩) (fun oq222 Sq222 hp223 q222 => ?_)
                rcases q222 with ⟨rfl, hz220, hl221⟩
                show wJ _ _ _ _ _ _ _ _ _ _
                have hSq222 : rQ T n N X f0 b0 b1 S0 u (dp + 1) (i + 1) I F (pA F) Sq222 := hz220
                have ipSq222 : (((i + 1) : Nat) : Int) ≤ tp T n 0 (i + 1) := pI_nx (N := N) (X := X) ip (rQ_n (rQ_dp (x := (dp + 1)) h)) ⟨by omega, by omega⟩
                have krSq222 := kq_rg T n N X (i + 1)
                have nnSq222 := rQ_n hSq222
                refine wa_aload_n (n := 0) rfl ?_
                rcases hd7 with ⟨v224, hs225, ho226⟩ | ⟨i227, I228, F229, t230, hs225, hd8⟩
                · refine wa_cv 237 rfl (wy_pr rfl) wt_237 (M2 := fun _ => False) rfl at_M_front ⟨_, rfl⟩ rfl rfl ⟨trivial, (Or.inr ⟨wy_pr rfl, fun q => q⟩), trivial⟩ trivial (fun _ _ q => False.elim q) (r7 hs225 ⟨⟨by omega, by omega⟩, by omega, ipSq222⟩ _ _ _ (by omega) hSq222) (fun oq238 Sq238 hp239 q238 => ?_)
                  rcases q238 with ⟨rfl, hf237⟩
                  subst ho226
                  exact ⟨rfl, ⟨rfl, hf237⟩⟩
                refine wa_cv 237 rfl (wy_pr rfl) wt_237 (M2 := fun _ => False) rfl at_M_front ⟨_, rfl⟩ rfl rfl ⟨trivial, (Or.inr ⟨wy_pr rfl, fun q => q⟩), trivial⟩ trivial (fun _ _ q => False.elim q) (r7 hs225 ⟨⟨by omega, by omega⟩, by omega, ipSq222⟩ _ _ _ (by omega) hSq222) (fun oq240 Sq240 hp241 q240 => ?_)
                rcases q240 with ⟨rfl, hz231, ⟨p232, p233, p234, p235⟩, e236⟩
                show wJ _ _ _ _ _ _ _ _ _ _
                have hSq240 : rQ T n N X f0 b0 b1 S0 u (dp + 1) i227 I228 F229 (pA F229) Sq240 := hz231
                have ipSq240 : ((i227 : Nat) : Int) ≤ tp T n 0 i227 := p234
                have krSq240 := kq_rg T n N X i227
                have nnSq240 := rQ_n hSq240
                have lnSq240 := px_len p235
                refine wa_pop (by decide) ?_
                refine wa_aload_n (n := 0) rfl ?_
                refine wa_dup (by decide) ?_
                refine wb_gfi 237 rfl (wy_pr rfl) wt_237 wf_15_29 (v := (dp + 1)) ((rQ_29 hSq240)) (fun r242 => ?_)
                refine wa_iconst ?_
                refine wa_isub ?_
                refine wb_pfi 237 rfl (wy_pr rfl) wt_237 wf_15_29 (n := 29) rfl ⟨(by omega), (by omega)⟩ ?_
                refine wa_aload_n (n := 0) rfl ?_
                refine wa_iload_n (n := 1) rfl ?_
                refine wa_iconst ?_
                refine wa_iconst ?_
                refine wa_cv 237 rfl (wy_pr rfl) wt_237 (M2 := fun _ => False) rfl at_M_emits ⟨_, rfl⟩ rfl rfl ⟨trivial, (Or.inr ⟨wy_pr rfl, fun q => q⟩), trivial⟩ trivial (fun _ _ q => False.elim q) (emw (S := (w_up Sq240 237 29 ((dp + 1) - 1))) (x := (13, 0, 0, u)) (rQ_dp (x := ((dp + 1) - 1)) hSq240) (by omega) rfl (by show (13 : Int) ≠ 27; decide) rfl ⟨by omega, by omega⟩ ⟨by omega, by omega⟩ ⟨by omega, by omega⟩) (fun oq246 Sq246 hp247 q246 => ?_)
                rcases q246 with ⟨rfl, hz243, l61244, l60245⟩
                show wJ _ _ _ _ _ _ _ _ _ _
                have hSq246 : rQ T n N X f0 b0 b1 S0 u ((dp + 1) - 1) i227 (I228 ++ [(13, 0, 0, u)]) F229 (pA F229) Sq246 := hz243
                have krSq246 := kq_rg T n N X i227
                have nnSq246 := rQ_n hSq246
                have hlSq246 : (I228 ++ [(13, 0, 0, u)]).length = I228.length + 1 := List.length_append
                refine wa_iconst ?_
                refine wa_ireturn rfl ?_
                first
                  | (exfalso; omega)
                  | (rw [if_neg (by omega)] at hd8; subst hd8; exact ⟨rfl, (by have z := hSq246; rw [show dp + 1 - 1 = dp by omega] at z; exact z), ⟨by omega, by omega, ipSq240, (px_tr (px_tr px_rfl p235) (px_ap _ _))⟩, Or.inl rfl⟩)
              · skip
                have ho := pzF_4 hd (by omega) hd5216
                subst ho
                exact ⟨rfl, ⟨rfl, hf217⟩⟩
            · skip
              exact absurd c215 (by omega)
        · skip
          exact absurd c178 (by omega)
      · skip
        show wJ _ _ _ _ _ _ _ _ _ _
        refine wa_ifne (w_rg0 (by omega) (by omega)) ⟨_, rfl⟩ (fun c248 => ?_) (fun c248 => ?_)
        · skip
          exact absurd c248 (by omega)
        · skip
          refine wa_aload_n (n := 0) rfl ?_
          refine wa_cv 237 rfl (wy_pr rfl) wt_237 (M2 := fun _ => False) rfl at_M_behind ⟨_, rfl⟩ rfl rfl ⟨(Or.inr ⟨wy_pr rfl, fun q => q⟩), trivial⟩ trivial (fun _ _ q => False.elim q) (r8 (pzF_8 hd (by omega)) ⟨⟨by omega, by omega⟩, by omega, ip⟩ _ _ _ (by omega) h) (fun oq249 Sq249 hp250 q249 => ?_)
          rcases o with v | ⟨i2, I2, F2, t2⟩
          · rcases q249 with ⟨rfl, hf⟩
            exact ⟨rfl, rfl, hf⟩
          · rcases q249 with ⟨rfl, hz, hp, he⟩
            show wJ _ _ _ _ _ _ _ _ _ _
            refine wa_ireturn rfl ?_
            exact ⟨rfl, hz, hp, he⟩
end Wca
