/-! PART cf: what stands behind a value. -/
section Wcf
variable {xs : List (Nat × List Int32)} {M : Nat → Prop} {d : Nat} {A B C S Z S0 : wS} {Q : wO → wS → Prop} {T : Int → Int} {n f0 u dp b0 b1 : Int} {N X : List (List Int)} {c i k pm : Nat} {I : List pz_I} {F : List pz_F} {o : pz_O}
variable {R : pz_R} {K V P : Nat → Int} {x t : Int} {J : List Int}
theorem r9 (hx : 0 ≤ x ∧ x ≤ 1) (h : rR xs T n N X f0 b0 b1 S0 9 x J i dp u I F o) : rM xs T n N X f0 b0 b1 S0 (3 + 3 * x) t_M_first [(0, (2, 237)), (1, (0, x))] (fun t => some (0, t)) 1 (tE u I.length) dp u i I F o := (show (0 ≤ x ∧ x ≤ 1 → _) from h) hx
theorem r9_1 (h : rR xs T n N X f0 b0 b1 S0 9 1 J i dp u I F o) : rM xs T n N X f0 b0 b1 S0 6 t_M_first [(0, (2, 237)), (1, (0, 1))] (fun t => some (0, t)) 1 (tE u I.length) dp u i I F o := r9 (x := 1) ⟨by decide, by decide⟩ h
theorem r10 (h : rR xs T n N X f0 b0 b1 S0 10 0 [t] i dp u I F o) : rLp xs T n N X f0 b0 b1 S0 7 t_M_behind 1 7 (fun t => [(0, (2, 237)), (1, (0, t)), (2, (0, 1))]) (fun t => [(0, (2, 237)), (1, (0, t))]) t dp u i I F o := h
theorem pzB_18 (hd : pz_BL K V P R t i dp u I F o) (h : K i = 18) : pz_qf (pz_nm K V P (i + 1) I F) (fun i I F y o => if K i = 10 then pz_q (pz_es K P R i dp u I F) (fun i I F e => R 10 0 [0] (i + 1) dp u (I ++ [(27, 5 + 16 * e, y, u)]) F) o else R 10 0 [2] i dp u (I ++ [(27, 0, y, u)]) F o) o := by
  unfold pz_BL at hd; rw [if_pos h] at hd; exact hd
theorem pzB_14 (hd : pz_BL K V P R t i dp u I F o) (h : K i = 14) : pz_q (pz_el K P R i dp u I F) (fun i I F _ => R 10 0 [3] i dp u I F) o := by
  unfold pz_BL at hd; rw [if_neg (by omega), if_pos h] at hd; exact hd
theorem pzB_10 (hd : pz_BL K V P R t i dp u I F o) (h : K i = 10) : pz_q (pz_es K P R i dp u I F) (fun i I F e => R 10 0 [0] (i + 1) dp u (I ++ [(27, 4 + 16 * e, -1, u)]) F) o := by
  unfold pz_BL at hd; rw [if_neg (by omega), if_neg (by omega), if_pos h] at hd; exact hd
theorem pzB_n (hd : pz_BL K V P R t i dp u I F o) (h : K i ≠ 18 ∧ K i ≠ 14 ∧ K i ≠ 10) : o = .inr (i, I, F, t) := by
  unfold pz_BL at hd; rw [if_neg h.1, if_neg h.2.1, if_neg h.2.2] at hd; exact hd
theorem lp_bh (hX : w_X xs) (hd : pz_BL (kq T n N X) (vq T n N X) (tp T n 0) (rR xs T n N X f0 b0 b1 S0) t i dp u I F o) : rR xs T n N X f0 b0 b1 S0 10 0 [t] i dp u I F o := by
  show rLp xs T n N X f0 b0 b1 S0 7 t_M_behind 1 7 (fun t => [(0, (2, 237)), (1, (0, t)), (2, (0, 1))]) (fun t => [(0, (2, 237)), (1, (0, t))]) t dp u i I F o
  intro hpre M D S Q m hD hm h hE hbad hgood
  obtain ⟨⟨d0, d1⟩, hlen, ip⟩ := hpre
  obtain ⟨D, rfl⟩ : ∃ E, D = E + 12 := ⟨D - 12, by omega⟩
  have krS := kq_rg T n N X i
  have nnS := rQ_n h
  refine wa_iload_n (n := 2) rfl ?_
  refine wa_ifeq (w_rg0 (by omega) (by omega)) ⟨_, rfl⟩ (fun c101 => ?_) (fun c101 => ?_)
  · skip
    exact absurd c101 (by omega)
  · skip
    refine wa_aload_n (n := 0) rfl ?_
    refine wa_bipush (w_rg2 (by omega) (by omega)) ?_
    refine wa_cv 237 rfl (wy_pr rfl) wt_237 (M2 := fun _ => False) rfl at_M_accepts ⟨_, rfl⟩ rfl rfl ⟨(Or.inr ⟨wy_pr rfl, fun q => q⟩), trivial, trivial, trivial⟩ trivial (fun _ _ q => False.elim q) (acw (S := S) h (fun _ => sk_46) ⟨by decide, by decide⟩ ⟨by decide, by decide⟩) (fun oq105 Sq105 hp106 q105 => ?_)
    rcases q105 with ⟨rfl, ks102, hz103, hl104⟩ | ⟨rfl, ks102, rfl⟩
    · skip
      show wJ _ _ _ _ _ _ _ _ _ _
      have hSq105 : rQ T n N X f0 b0 b1 S0 u dp (i + 1) I F (pA F) Sq105 := hz103
      have ipSq105 : (((i + 1) : Nat) : Int) ≤ tp T n 0 (i + 1) := pI_nx (N := N) (X := X) ip (rQ_n h) ⟨by omega, by omega⟩
      have krSq105 := kq_rg T n N X (i + 1)
      have nnSq105 := rQ_n hSq105
      have hd1 := pzB_18 hd ks102
      refine wa_ifeq (w_rg0 (by omega) (by omega)) ⟨_, rfl⟩ (fun c107 => ?_) (fun c107 => ?_)
      · skip
        exact absurd c107 (by omega)
      · skip
        refine wa_aload_n (n := 0) rfl ?_
        refine wa_cv 237 rfl (wy_pr rfl) wt_237 (M2 := fun _ => False) rfl at_M_takesName ⟨_, rfl⟩ rfl rfl ⟨(Or.inr ⟨wy_pr rfl, fun q => q⟩), trivial, trivial, trivial⟩ trivial (fun _ _ q => False.elim q) (tnw (S := Sq105) hX hSq105 ipSq105) (fun oq113 Sq113 hp114 q113 => ?_)
        rcases q113 with ⟨rfl, ks108, hz109, z60111, z61112⟩ | ⟨rfl, ks108, hf110⟩ | ⟨rfl, ks108, hf110⟩
        · skip
          show wJ _ _ _ _ _ _ _ _ _ _
          have hSq113 : rQ T n N X f0 b0 b1 S0 u dp (i + 2) I F (pA F) Sq113 := hz109
          have ipSq113 : (((i + 2) : Nat) : Int) ≤ tp T n 0 (i + 2) := pI_nx (N := N) (X := X) ipSq105 (rQ_n hSq105) ⟨by omega, by omega⟩
          have krSq113 := kq_rg T n N X (i + 2)
          have nnSq113 := rQ_n hSq113
          have vnSq113 := vq_nn ks108
          have vuSq113 : (vq T n N X (i + 1)) < ((NL T n N (i + 2)).length : Int) := vq_lt ks108
          have vmSq113 : (NL T n N (i + 2)).length ≤ 4000 := hz109.2.1.1.2.1
          have hd2 := qnm_o hd1 ks108
          refine wa_istore_n (n := 3) rfl ?_
          refine wa_aload_n (n := 0) rfl ?_
          refine wa_bipush (w_rg2 (by omega) (by omega)) ?_
          refine wa_cv 237 rfl (wy_pr rfl) wt_237 (M2 := fun _ => False) rfl at_M_isSign ⟨_, rfl⟩ rfl rfl ⟨trivial, (Or.inr ⟨wy_pr rfl, fun q => q⟩), trivial, trivial, trivial⟩ trivial (fun _ _ q => False.elim q) (isw (S := Sq113) hSq113 (fun _ => sk_40) ⟨by decide, by decide⟩ ⟨by decide, by decide⟩) (fun oq116 Sq116 hp117 q116 => ?_)
          rcases q116 with ⟨rfl, ⟨rfl, ks115⟩ | ⟨rfl, ks115⟩⟩
          · skip
            show wJ _ _ _ _ _ _ _ _ _ _
            rw [if_pos ks115] at hd2
            refine wa_ifeq (w_rg0 (by omega) (by omega)) ⟨_, rfl⟩ (fun c118 => ?_) (fun c118 => ?_)
            · skip
              exact absurd c118 (by omega)
            · skip
              refine wa_aload_n (n := 0) rfl ?_
              rcases hd2 with ⟨v119, hs120, ho121⟩ | ⟨i122, I123, F124, t125, hs120, hd3⟩
              · refine wa_cv 237 rfl (wy_pr rfl) wt_237 (M2 := fun _ => False) rfl at_M_values ⟨_, rfl⟩ rfl rfl ⟨trivial, (Or.inr ⟨wy_pr rfl, fun q => q⟩), trivial, trivial, trivial⟩ trivial (fun _ _ q => False.elim q) (va_w hX hs120 ⟨⟨by omega, by omega⟩, by omega, ipSq113⟩ _ _ _ (by omega) hSq113) (fun oq133 Sq133 hp134 q133 => ?_)
                rcases q133 with ⟨rfl, hf132⟩
                subst ho121
                exact ⟨rfl, (hbad _ rfl _ hf132)⟩
              refine wa_cv 237 rfl (wy_pr rfl) wt_237 (M2 := fun _ => False) rfl at_M_values ⟨_, rfl⟩ rfl rfl ⟨trivial, (Or.inr ⟨wy_pr rfl, fun q => q⟩), trivial, trivial, trivial⟩ trivial (fun _ _ q => False.elim q) (va_w hX hs120 ⟨⟨by omega, by omega⟩, by omega, ipSq113⟩ _ _ _ (by omega) hSq113) (fun oq135 Sq135 hp136 q135 => ?_)
              rcases q135 with ⟨rfl, hz126, ⟨p127, p128, p129, p130⟩, e131⟩
              show wJ _ _ _ _ _ _ _ _ _ _
              have hSq135 : rQ T n N X f0 b0 b1 S0 u dp (i122 + 1) I123 F124 (pA F124) Sq135 := hz126
              have ipSq135 : (((i122 + 1) : Nat) : Int) ≤ tp T n 0 (i122 + 1) := p129
              have krSq135 := kq_rg T n N X (i122 + 1)
              have nnSq135 := rQ_n hSq135
              have lnSq135 := px_len p130
              have eAe131 := e131.1
              have eBe131 := e131.2
              refine wa_istore (n := 4) rfl ?_
              refine wa_aload_n (n := 0) rfl ?_
              refine wa_iconst ?_
              refine wa_iload_n (n := 3) rfl ?_
              refine wa_iload (n := 4) rfl ?_
              refine wa_cv 237 rfl (wy_pr rfl) wt_237 (M2 := fun _ => False) rfl at_M_newSite ⟨_, rfl⟩ rfl rfl ⟨trivial, trivial, (Or.inr ⟨wy_pr rfl, fun q => q⟩), trivial, trivial, trivial⟩ trivial (fun _ _ q => False.elim q) (nsw (S := Sq135) (x := (27, 5 + 16 * t125, (vq T n N X (i + 1)), u)) hSq135 (by omega) ⟨by omega, by omega⟩ ⟨by omega, by omega⟩ ⟨by omega, by omega⟩ rfl) (fun oq140 Sq140 hp141 q140 => ?_)
              rcases q140 with ⟨rfl, hz137, l61138, l60139⟩
              show wJ _ _ _ _ _ _ _ _ _ _
              have hSq140 : rQ T n N X f0 b0 b1 S0 u dp (i122 + 1) (I123 ++ [(27, 5 + 16 * t125, (vq T n N X (i + 1)), u)]) F124 (pA F124) Sq140 := hz137
              have krSq140 := kq_rg T n N X (i122 + 1)
              have nnSq140 := rQ_n hSq140
              have hlSq140 : (I123 ++ [(27, 5 + 16 * t125, (vq T n N X (i + 1)), u)]).length = I123.length + 1 := List.length_append
              refine wa_iconst ?_
              refine wa_istore_n (n := 1) rfl ?_
              refine wa_goto ⟨_, rfl⟩ ?_
              refine wa_goto ⟨_, rfl⟩ ?_
              exact wJ_S (r10 hd3 ⟨⟨by omega, by omega⟩, by omega, ipSq135⟩ _ _ _ _ m (by omega) (by omega) hSq140 (Or.inl rfl) hbad (fun ib Ib Fb tb hb Zb hzb pb eb => hgood _ _ _ _ hb Zb hzb ⟨by have := pb.1; omega, by have := pb.2.1; omega, pb.2.2.1, px_tr (px_tr (px_tr px_rfl p130) (px_ap _ _)) pb.2.2.2⟩ eb)) ⟨rfl, rfl, rfl, trivial⟩
          · skip
            show wJ _ _ _ _ _ _ _ _ _ _
            have hnks115 := hd2
            rw [if_neg ks115] at hnks115
            refine wa_ifeq (w_rg0 (by omega) (by omega)) ⟨_, rfl⟩ (fun c142 => ?_) (fun c142 => ?_)
            · skip
              refine wa_aload_n (n := 0) rfl ?_
              refine wa_iconst ?_
              refine wa_iload_n (n := 3) rfl ?_
              refine wa_iconst ?_
              refine wa_cv 237 rfl (wy_pr rfl) wt_237 (M2 := fun _ => False) rfl at_M_newSite ⟨_, rfl⟩ rfl rfl ⟨trivial, (Or.inr ⟨wy_pr rfl, fun q => q⟩), trivial, trivial, trivial⟩ trivial (fun _ _ q => False.elim q) (nsw (S := Sq113) (x := (27, 0, (vq T n N X (i + 1)), u)) hSq113 (by omega) ⟨by omega, by omega⟩ ⟨by omega, by omega⟩ ⟨by omega, by omega⟩ rfl) (fun oq146 Sq146 hp147 q146 => ?_)
              rcases q146 with ⟨rfl, hz143, l61144, l60145⟩
              show wJ _ _ _ _ _ _ _ _ _ _
              have hSq146 : rQ T n N X f0 b0 b1 S0 u dp (i + 2) (I ++ [(27, 0, (vq T n N X (i + 1)), u)]) F (pA F) Sq146 := hz143
              have krSq146 := kq_rg T n N X (i + 2)
              have nnSq146 := rQ_n hSq146
              have hlSq146 : (I ++ [(27, 0, (vq T n N X (i + 1)), u)]).length = I.length + 1 := List.length_append
              refine wa_iconst ?_
              refine wa_istore_n (n := 1) rfl ?_
              refine wa_fall ⟨_, rfl⟩ ?_
              refine wa_goto ⟨_, rfl⟩ ?_
              exact wJ_S (r10 hnks115 ⟨⟨by omega, by omega⟩, by omega, ipSq113⟩ _ _ _ _ m (by omega) (by omega) hSq146 (Or.inr ⟨⟨by decide, by decide⟩, _, _, rfl, by omega, Or.inr (Or.inl ⟨rfl, by rw [l61144]⟩)⟩) hbad (fun ib Ib Fb tb hb Zb hzb pb eb => hgood _ _ _ _ hb Zb hzb ⟨by have := pb.1; omega, by have := pb.2.1; omega, pb.2.2.1, px_tr (px_tr px_rfl (px_ap _ _)) pb.2.2.2⟩ eb)) ⟨rfl, rfl, rfl, trivial⟩
            · skip
              exact absurd c142 (by omega)
        · skip
          have ho := qnm_7 hd1 ks108
          subst ho
          exact ⟨rfl, (hbad _ rfl _ hf110)⟩
        · skip
          have ho := qnm_1 hd1 ks108
          subst ho
          exact ⟨rfl, (hbad _ rfl _ hf110)⟩
    · skip
      show wJ _ _ _ _ _ _ _ _ _ _
      refine wa_ifeq (w_rg0 (by omega) (by omega)) ⟨_, rfl⟩ (fun c148 => ?_) (fun c148 => ?_)
      · skip
        refine wa_aload_n (n := 0) rfl ?_
        refine wa_bipush (w_rg2 (by omega) (by omega)) ?_
        refine wa_cv 237 rfl (wy_pr rfl) wt_237 (M2 := fun _ => False) rfl at_M_isSign ⟨_, rfl⟩ rfl rfl ⟨(Or.inr ⟨wy_pr rfl, fun q => q⟩), trivial, trivial, trivial⟩ trivial (fun _ _ q => False.elim q) (isw (S := S) h (fun _ => sk_91) ⟨by decide, by decide⟩ ⟨by decide, by decide⟩) (fun oq150 Sq150 hp151 q150 => ?_)
        rcases q150 with ⟨rfl, ⟨rfl, ks149⟩ | ⟨rfl, ks149⟩⟩
        · skip
          show wJ _ _ _ _ _ _ _ _ _ _
          have hd4 := pzB_14 hd ks149
          refine wa_ifeq (w_rg0 (by omega) (by omega)) ⟨_, rfl⟩ (fun c152 => ?_) (fun c152 => ?_)
          · skip
            exact absurd c152 (by omega)
          · skip
            refine wa_aload_n (n := 0) rfl ?_
            rcases hd4 with ⟨v153, hs154, ho155⟩ | ⟨i156, I157, F158, t159, hs154, hd5⟩
            · refine wa_cv 237 rfl (wy_pr rfl) wt_237 (M2 := fun _ => False) rfl at_M_element ⟨_, rfl⟩ rfl rfl ⟨(Or.inr ⟨wy_pr rfl, fun q => q⟩), trivial, trivial, trivial⟩ trivial (fun _ _ q => False.elim q) (el_w hs154 ⟨⟨by omega, by omega⟩, by omega, ip⟩ _ _ _ (by omega) h) (fun oq167 Sq167 hp168 q167 => ?_)
              rcases q167 with ⟨rfl, hf166⟩
              subst ho155
              exact ⟨rfl, (hbad _ rfl _ hf166)⟩
            refine wa_cv 237 rfl (wy_pr rfl) wt_237 (M2 := fun _ => False) rfl at_M_element ⟨_, rfl⟩ rfl rfl ⟨(Or.inr ⟨wy_pr rfl, fun q => q⟩), trivial, trivial, trivial⟩ trivial (fun _ _ q => False.elim q) (el_w hs154 ⟨⟨by omega, by omega⟩, by omega, ip⟩ _ _ _ (by omega) h) (fun oq169 Sq169 hp170 q169 => ?_)
            rcases q169 with ⟨rfl, hz160, ⟨p161, p162, p163, p164⟩, e165⟩
            show wJ _ _ _ _ _ _ _ _ _ _
            have hSq169 : rQ T n N X f0 b0 b1 S0 u dp i156 I157 F158 (pA F158) Sq169 := hz160
            have ipSq169 : ((i156 : Nat) : Int) ≤ tp T n 0 i156 := p163
            have krSq169 := kq_rg T n N X i156
            have nnSq169 := rQ_n hSq169
            have lnSq169 := px_len p164
            refine wa_iconst ?_
            refine wa_istore_n (n := 1) rfl ?_
            refine wa_goto ⟨_, rfl⟩ ?_
            exact wJ_S (r10 hd5 ⟨⟨by omega, by omega⟩, by omega, ipSq169⟩ _ _ _ _ m (by omega) (by omega) hSq169 (by obtain ⟨-, Jz, ez, lz⟩ := e165; exact Or.inr ⟨⟨by decide, by decide⟩, Jz, _, ez, by omega, Or.inr (Or.inr ⟨rfl, rfl⟩)⟩) hbad (fun ib Ib Fb tb hb Zb hzb pb eb => hgood _ _ _ _ hb Zb hzb ⟨by have := pb.1; omega, by have := pb.2.1; omega, pb.2.2.1, px_tr (px_tr px_rfl p164) pb.2.2.2⟩ eb)) ⟨rfl, rfl, rfl, trivial⟩
        · skip
          show wJ _ _ _ _ _ _ _ _ _ _
          refine wa_ifeq (w_rg0 (by omega) (by omega)) ⟨_, rfl⟩ (fun c171 => ?_) (fun c171 => ?_)
          · skip
            refine wa_aload_n (n := 0) rfl ?_
            refine wa_bipush (w_rg2 (by omega) (by omega)) ?_
            refine wa_cv 237 rfl (wy_pr rfl) wt_237 (M2 := fun _ => False) rfl at_M_isSign ⟨_, rfl⟩ rfl rfl ⟨(Or.inr ⟨wy_pr rfl, fun q => q⟩), trivial, trivial, trivial⟩ trivial (fun _ _ q => False.elim q) (isw (S := S) h (fun _ => sk_40) ⟨by decide, by decide⟩ ⟨by decide, by decide⟩) (fun oq173 Sq173 hp174 q173 => ?_)
            rcases q173 with ⟨rfl, ⟨rfl, ks172⟩ | ⟨rfl, ks172⟩⟩
            · skip
              show wJ _ _ _ _ _ _ _ _ _ _
              have hd6 := pzB_10 hd ks172
              refine wa_ifeq (w_rg0 (by omega) (by omega)) ⟨_, rfl⟩ (fun c175 => ?_) (fun c175 => ?_)
              · skip
                exact absurd c175 (by omega)
              · skip
                refine wa_aload_n (n := 0) rfl ?_
                rcases hd6 with ⟨v176, hs177, ho178⟩ | ⟨i179, I180, F181, t182, hs177, hd7⟩
                · refine wa_cv 237 rfl (wy_pr rfl) wt_237 (M2 := fun _ => False) rfl at_M_values ⟨_, rfl⟩ rfl rfl ⟨(Or.inr ⟨wy_pr rfl, fun q => q⟩), trivial, trivial, trivial⟩ trivial (fun _ _ q => False.elim q) (va_w hX hs177 ⟨⟨by omega, by omega⟩, by omega, ip⟩ _ _ _ (by omega) h) (fun oq190 Sq190 hp191 q190 => ?_)
                  rcases q190 with ⟨rfl, hf189⟩
                  subst ho178
                  exact ⟨rfl, (hbad _ rfl _ hf189)⟩
                refine wa_cv 237 rfl (wy_pr rfl) wt_237 (M2 := fun _ => False) rfl at_M_values ⟨_, rfl⟩ rfl rfl ⟨(Or.inr ⟨wy_pr rfl, fun q => q⟩), trivial, trivial, trivial⟩ trivial (fun _ _ q => False.elim q) (va_w hX hs177 ⟨⟨by omega, by omega⟩, by omega, ip⟩ _ _ _ (by omega) h) (fun oq192 Sq192 hp193 q192 => ?_)
                rcases q192 with ⟨rfl, hz183, ⟨p184, p185, p186, p187⟩, e188⟩
                show wJ _ _ _ _ _ _ _ _ _ _
                have hSq192 : rQ T n N X f0 b0 b1 S0 u dp (i179 + 1) I180 F181 (pA F181) Sq192 := hz183
                have ipSq192 : (((i179 + 1) : Nat) : Int) ≤ tp T n 0 (i179 + 1) := p186
                have krSq192 := kq_rg T n N X (i179 + 1)
                have nnSq192 := rQ_n hSq192
                have lnSq192 := px_len p187
                have eAe188 := e188.1
                have eBe188 := e188.2
                refine wa_istore_n (n := 3) rfl ?_
                refine wa_aload_n (n := 0) rfl ?_
                refine wa_iconst ?_
                refine wa_iconst ?_
                refine wa_iload_n (n := 3) rfl ?_
                refine wa_cv 237 rfl (wy_pr rfl) wt_237 (M2 := fun _ => False) rfl at_M_newSite ⟨_, rfl⟩ rfl rfl ⟨trivial, (Or.inr ⟨wy_pr rfl, fun q => q⟩), trivial, trivial, trivial⟩ trivial (fun _ _ q => False.elim q) (nsw (S := Sq192) (x := (27, 4 + 16 * t182, (-1), u)) hSq192 (by omega) ⟨by omega, by omega⟩ ⟨by omega, by omega⟩ ⟨by omega, by omega⟩ rfl) (fun oq197 Sq197 hp198 q197 => ?_)
                rcases q197 with ⟨rfl, hz194, l61195, l60196⟩
                show wJ _ _ _ _ _ _ _ _ _ _
                have hSq197 : rQ T n N X f0 b0 b1 S0 u dp (i179 + 1) (I180 ++ [(27, 4 + 16 * t182, (-1), u)]) F181 (pA F181) Sq197 := hz194
                have krSq197 := kq_rg T n N X (i179 + 1)
                have nnSq197 := rQ_n hSq197
                have hlSq197 : (I180 ++ [(27, 4 + 16 * t182, (-1), u)]).length = I180.length + 1 := List.length_append
                refine wa_iconst ?_
                refine wa_istore_n (n := 1) rfl ?_
                refine wa_goto ⟨_, rfl⟩ ?_
                exact wJ_S (r10 hd7 ⟨⟨by omega, by omega⟩, by omega, ipSq192⟩ _ _ _ _ m (by omega) (by omega) hSq197 (Or.inl rfl) hbad (fun ib Ib Fb tb hb Zb hzb pb eb => hgood _ _ _ _ hb Zb hzb ⟨by have := pb.1; omega, by have := pb.2.1; omega, pb.2.2.1, px_tr (px_tr (px_tr px_rfl p187) (px_ap _ _)) pb.2.2.2⟩ eb)) ⟨rfl, rfl, rfl, trivial⟩
            · skip
              show wJ _ _ _ _ _ _ _ _ _ _
              refine wa_ifeq (w_rg0 (by omega) (by omega)) ⟨_, rfl⟩ (fun c199 => ?_) (fun c199 => ?_)
              · skip
                refine wa_iconst ?_
                refine wa_istore_n (n := 2) rfl ?_
                refine wa_goto ⟨_, rfl⟩ ?_
                refine wa_iload_n (n := 2) rfl ?_
                refine wa_ifeq (w_rg0 (by omega) (by omega)) ⟨_, rfl⟩ (fun c200 => ?_) (fun c200 => ?_)
                · skip
                  exact wJ_S (hgood _ _ _ _ (pzB_n hd ⟨by omega, by omega, by omega⟩) _ h ⟨by omega, by omega, ip, px_rfl⟩ hE) ⟨rfl, rfl, trivial⟩
                · skip
                  exact absurd c200 (by omega)
              · skip
                exact absurd c199 (by omega)
          · skip
            exact absurd c171 (by omega)
      · skip
        exact absurd c148 (by omega)
end Wcf
