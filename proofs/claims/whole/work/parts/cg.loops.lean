/-! PART cg: behind; the loops of lists, objects, makers. -/
section Wcg
variable {xs : List (Nat × List Int32)} {M : Nat → Prop} {d : Nat} {A B C S Z S0 : wS} {Q : wO → wS → Prop} {T : Int → Int} {n f0 u dp b0 b1 : Int} {N X : List (List Int)} {c i k pm : Nat} {I : List pz_I} {F : List pz_F} {o : pz_O}
variable {R : pz_R} {K V P : Nat → Int} {x t v : Int} {J : List Int} {i2 : Nat} {I2 : List pz_I} {F2 : List pz_F}
theorem r12 (hx : 0 ≤ x ∧ x ≤ i) (h : rR xs T n N X f0 b0 b1 S0 12 x J i dp u I F o) : rLq xs T n N X f0 b0 b1 S0 17 t_M_first 7 8 [(0, (2, 237)), (2, (0, x)), (3, (0, 1))] (fun t => [(0, (2, 237)), (2, (0, t))]) (fun j t => 0 ≤ t ∧ t ≤ j) dp u i I F o := (show (0 ≤ x ∧ x ≤ i → _) from h) hx
theorem r13 (h : rR xs T n N X f0 b0 b1 S0 13 0 J i dp u I F o) : rLq1 xs T n N X f0 b0 b1 S0 17 t_M_object 3 4 [(0, (2, 237)), (1, (0, 1))] (fun _ => [(0, (2, 237))]) (fun _ _ => True) dp u i I F o := h
theorem r14 (h : rR xs T n N X f0 b0 b1 S0 14 0 J i dp u I F o) : rLq xs T n N X f0 b0 b1 S0 4 t_M_maker 1 4 [(0, (2, 237)), (1, (0, 1))] (fun _ => [(0, (2, 237))]) (fun _ _ => True) dp u i I F o := h
theorem pzM_18 (hd : pz_ML K V P R i dp u I F o) (h : K i = 18) : pz_qf (pz_nm K V P (i + 1) I F) (fun i I F y => R 14 0 [] i dp u (I ++ [(27, 0, y, u)]) F) o := by
  unfold pz_ML at hd; rw [if_pos h] at hd; exact hd
theorem pzM_14 (hd : pz_ML K V P R i dp u I F o) (h : K i = 14) : pz_q (pz_el K P R i dp u I F) (fun i I F _ => R 14 0 [] i dp u I F) o := by
  unfold pz_ML at hd; rw [if_neg (by omega), if_pos h] at hd; exact hd
theorem pzM_n (hd : pz_ML K V P R i dp u I F o) (h : K i ≠ 18 ∧ K i ≠ 14) : o = .inr (i, I, F, 0) := by
  unfold pz_ML at hd; rw [if_neg h.1, if_neg h.2] at hd; exact hd
theorem me_bh (hd : pz_BH (rR xs T n N X f0 b0 b1 S0) i dp u I F o) : rR xs T n N X f0 b0 b1 S0 8 0 [] i dp u I F o := by
  show rM xs T n N X f0 b0 b1 S0 7 t_M_behind [(0, (2, 237))] (fun t => some (0, t)) 1 (tE u I.length) dp u i I F o
  intro hpre M D S hD h
  obtain ⟨⟨d0, d1⟩, hlen, ip⟩ := hpre
  obtain ⟨D, rfl⟩ : ∃ E, D = E + 12 := ⟨D - 12, by omega⟩
  have krS := kq_rg T n N X i
  have nnS := rQ_n h
  unfold pz_BH at hd
  refine wa_aload_n (n := 0) rfl ?_
  refine wa_iconst ?_
  rcases hd with ⟨v101, hs102, ho103⟩ | ⟨i104, I105, F106, t107, hs102, hd1⟩
  · refine wa_cv 237 rfl (wy_pr rfl) wt_237 (M2 := fun _ => False) rfl at_M_first ⟨_, rfl⟩ rfl rfl ⟨(Or.inr ⟨wy_pr rfl, fun q => q⟩), trivial⟩ trivial (fun _ _ q => False.elim q) (r9_1 hs102 ⟨⟨by omega, by omega⟩, by omega, ip⟩ _ _ _ (by omega) h) (fun oq115 Sq115 hp116 q115 => ?_)
    rcases q115 with ⟨rfl, hf114⟩
    subst ho103
    exact ⟨rfl, ⟨rfl, hf114⟩⟩
  refine wa_cv 237 rfl (wy_pr rfl) wt_237 (M2 := fun _ => False) rfl at_M_first ⟨_, rfl⟩ rfl rfl ⟨(Or.inr ⟨wy_pr rfl, fun q => q⟩), trivial⟩ trivial (fun _ _ q => False.elim q) (r9_1 hs102 ⟨⟨by omega, by omega⟩, by omega, ip⟩ _ _ _ (by omega) h) (fun oq117 Sq117 hp118 q117 => ?_)
  rcases q117 with ⟨rfl, hz108, ⟨p109, p110, p111, p112⟩, e113⟩
  show wJ _ _ _ _ _ _ _ _ _ _
  have hSq117 : rQ T n N X f0 b0 b1 S0 u dp i104 I105 F106 (pA F106) Sq117 := hz108
  have ipSq117 : ((i104 : Nat) : Int) ≤ tp T n 0 i104 := p111
  have krSq117 := kq_rg T n N X i104
  have nnSq117 := rQ_n hSq117
  have lnSq117 := px_len p112
  refine wa_istore_n (n := 1) rfl ?_
  refine wa_iconst ?_
  refine wa_istore_n (n := 2) rfl ?_
  refine wa_fall ⟨_, rfl⟩ ?_
  refine wJ_S (r10 hd1 ⟨⟨by omega, by omega⟩, by omega, ipSq117⟩ _ _ _ _ I.length (by omega) (by omega) hSq117 e113 (fun vb hb Zb hzb => by subst hb; exact ⟨rfl, hzb⟩) (fun ib Ib Fb tb hb Zb hzb pb eb => ?_)) ⟨rfl, rfl, rfl, trivial⟩
  subst hb
  refine wa_iload_n (n := 1) rfl ?_
  refine wa_ireturn rfl ?_
  exact ⟨rfl, hzb, ⟨by have := pb.1; omega, by have := pb.2.1; omega, pb.2.2.1, px_tr (px_tr px_rfl p112) pb.2.2.2⟩, eb⟩
theorem lp_li (hd : pz_LI (kq T n N X) (rR xs T n N X f0 b0 b1 S0) x i dp u I F o) : rR xs T n N X f0 b0 b1 S0 12 x [] i dp u I F o := by
  show (0 ≤ x ∧ x ≤ i → rLq xs T n N X f0 b0 b1 S0 17 t_M_first 7 8 [(0, (2, 237)), (2, (0, x)), (3, (0, 1))] (fun t => [(0, (2, 237)), (2, (0, t))]) (fun j t => 0 ≤ t ∧ t ≤ j) dp u i I F o)
  intro hx
  intro hpre M D S Q hD h hbad hgood
  obtain ⟨⟨d0, d1⟩, hlen, ip⟩ := hpre
  obtain ⟨D, rfl⟩ : ∃ E, D = E + 12 := ⟨D - 12, by omega⟩
  have krS := kq_rg T n N X i
  have nnS := rQ_n h
  unfold pz_LI at hd
  refine wa_iload_n (n := 3) rfl ?_
  refine wa_ifeq (w_rg0 (by omega) (by omega)) ⟨_, rfl⟩ (fun c101 => ?_) (fun c101 => ?_)
  · skip
    exact absurd c101 (by omega)
  · skip
    refine wa_aload_n (n := 0) rfl ?_
    rcases hd with ⟨v102, hs103, ho104⟩ | ⟨i105, I106, F107, t108, hs103, hd1⟩
    · refine wa_cv 237 rfl (wy_pr rfl) wt_237 (M2 := fun _ => False) rfl at_M_value ⟨_, rfl⟩ rfl rfl ⟨(Or.inr ⟨wy_pr rfl, fun q => q⟩), trivial, trivial, trivial⟩ trivial (fun _ _ q => False.elim q) (r4 hs103 ⟨⟨by omega, by omega⟩, by omega, ip⟩ _ _ _ (by omega) h) (fun oq116 Sq116 hp117 q116 => ?_)
      rcases q116 with ⟨rfl, hf115⟩
      subst ho104
      exact ⟨rfl, (hbad _ rfl _ hf115)⟩
    refine wa_cv 237 rfl (wy_pr rfl) wt_237 (M2 := fun _ => False) rfl at_M_value ⟨_, rfl⟩ rfl rfl ⟨(Or.inr ⟨wy_pr rfl, fun q => q⟩), trivial, trivial, trivial⟩ trivial (fun _ _ q => False.elim q) (r4 hs103 ⟨⟨by omega, by omega⟩, by omega, ip⟩ _ _ _ (by omega) h) (fun oq118 Sq118 hp119 q118 => ?_)
    rcases q118 with ⟨rfl, hz109, ⟨p110, p111, p112, p113⟩, e114⟩
    show wJ _ _ _ _ _ _ _ _ _ _
    have hSq118 : rQ T n N X f0 b0 b1 S0 u dp i105 I106 F107 (pA F107) Sq118 := hz109
    have ipSq118 : ((i105 : Nat) : Int) ≤ tp T n 0 i105 := p112
    have krSq118 := kq_rg T n N X i105
    have nnSq118 := rQ_n hSq118
    have lnSq118 := px_len p113
    refine wa_iinc rfl rfl ?_
    refine wa_aload_n (n := 0) rfl ?_
    refine wa_bipush (w_rg2 (by omega) (by omega)) ?_
    refine wa_cv 237 rfl (wy_pr rfl) wt_237 (M2 := fun _ => False) rfl at_M_accepts ⟨_, rfl⟩ rfl rfl ⟨trivial, (Or.inr ⟨wy_pr rfl, fun q => q⟩), trivial, trivial⟩ trivial (fun _ _ q => False.elim q) (acw (S := Sq118) hSq118 (fun _ => sk_44) ⟨by decide, by decide⟩ ⟨by decide, by decide⟩) (fun oq123 Sq123 hp124 q123 => ?_)
    rcases q123 with ⟨rfl, ks120, hz121, hl122⟩ | ⟨rfl, ks120, rfl⟩
    · skip
      show wJ _ _ _ _ _ _ _ _ _ _
      have hSq123 : rQ T n N X f0 b0 b1 S0 u dp (i105 + 1) I106 F107 (pA F107) Sq123 := hz121
      have ipSq123 : (((i105 + 1) : Nat) : Int) ≤ tp T n 0 (i105 + 1) := pI_nx (N := N) (X := X) ipSq118 (rQ_n hSq118) ⟨by omega, by omega⟩
      have krSq123 := kq_rg T n N X (i105 + 1)
      have nnSq123 := rQ_n hSq123
      rw [if_pos ks120] at hd1
      refine wa_istore_n (n := 3) rfl ?_
      refine wa_goto ⟨_, rfl⟩ ?_
      exact wJ_S (r12 ⟨by omega, by omega⟩ hd1 ⟨⟨by omega, by omega⟩, by omega, ipSq123⟩ _ _ _ _ (by omega) hSq123 hbad (fun ib Ib Fb tb hb Zb hzb pb eb => hgood _ _ _ _ hb Zb hzb ⟨by have := pb.1; omega, by have := pb.2.1; omega, pb.2.2.1, px_tr (px_tr px_rfl p113) pb.2.2.2⟩ eb)) ⟨rfl, rfl, rfl, trivial⟩
    · skip
      show wJ _ _ _ _ _ _ _ _ _ _
      rw [if_neg ks120] at hd1
      refine wa_istore_n (n := 3) rfl ?_
      refine wa_goto ⟨_, rfl⟩ ?_
      refine wa_iload_n (n := 3) rfl ?_
      refine wa_ifeq (w_rg0 (by omega) (by omega)) ⟨_, rfl⟩ (fun c125 => ?_) (fun c125 => ?_)
      · skip
        exact wJ_S (hgood _ _ _ _ hd1 _ hSq118 ⟨by omega, by omega, ipSq118, (px_tr px_rfl p113)⟩ ⟨by omega, by omega⟩) ⟨rfl, rfl, trivial⟩
      · skip
        exact absurd c125 (by omega)
theorem lp_ob (hX : w_X xs) (hd : pz_OB (kq T n N X) (vq T n N X) (tp T n 0) (rR xs T n N X f0 b0 b1 S0) i dp u I F o) : rR xs T n N X f0 b0 b1 S0 13 0 [] i dp u I F o := by
  show rLq1 xs T n N X f0 b0 b1 S0 17 t_M_object 3 4 [(0, (2, 237)), (1, (0, 1))] (fun _ => [(0, (2, 237))]) (fun _ _ => True) dp u i I F o
  intro hpre M D S Q hD h hbad hgood
  obtain ⟨⟨d0, d1⟩, hlen, ip⟩ := hpre
  obtain ⟨D, rfl⟩ : ∃ E, D = E + 12 := ⟨D - 12, by omega⟩
  have krS := kq_rg T n N X i
  have nnS := rQ_n h
  unfold pz_OB at hd
  refine wa_iload_n (n := 1) rfl ?_
  refine wa_ifeq (w_rg0 (by omega) (by omega)) ⟨_, rfl⟩ (fun c101 => ?_) (fun c101 => ?_)
  · skip
    exact absurd c101 (by omega)
  · skip
    refine wa_aload_n (n := 0) rfl ?_
    refine wa_cv 237 rfl (wy_pr rfl) wt_237 (M2 := fun _ => False) rfl at_M_takesName ⟨_, rfl⟩ rfl rfl ⟨(Or.inr ⟨wy_pr rfl, fun q => q⟩), trivial, trivial⟩ trivial (fun _ _ q => False.elim q) (tnw (S := S) hX h ip) (fun oq107 Sq107 hp108 q107 => ?_)
    rcases q107 with ⟨rfl, ks102, hz103, z60105, z61106⟩ | ⟨rfl, ks102, hf104⟩ | ⟨rfl, ks102, hf104⟩
    · skip
      show wJ _ _ _ _ _ _ _ _ _ _
      have hSq107 : rQ T n N X f0 b0 b1 S0 u dp (i + 1) I F (pA F) Sq107 := hz103
      have ipSq107 : (((i + 1) : Nat) : Int) ≤ tp T n 0 (i + 1) := pI_nx (N := N) (X := X) ip (rQ_n h) ⟨by omega, by omega⟩
      have krSq107 := kq_rg T n N X (i + 1)
      have nnSq107 := rQ_n hSq107
      have vnSq107 := vq_nn ks102
      have vuSq107 : (vq T n N X i) < ((NL T n N (i + 1)).length : Int) := vq_lt ks102
      have vmSq107 : (NL T n N (i + 1)).length ≤ 4000 := hz103.2.1.1.2.1
      have hd1 := qnm_o hd ks102
      refine wa_istore_n (n := 2) rfl ?_
      refine wa_aload_n (n := 0) rfl ?_
      refine wa_bipush (w_rg2 (by omega) (by omega)) ?_
      refine wa_cv 237 rfl (wy_pr rfl) wt_237 (M2 := fun _ => False) rfl at_M_takes ⟨_, rfl⟩ rfl rfl ⟨trivial, (Or.inr ⟨wy_pr rfl, fun q => q⟩), trivial, trivial⟩ trivial (fun _ _ q => False.elim q) (tkw (S := Sq107) hSq107 ipSq107 (fun _ => sk_58) ⟨by decide, by decide⟩ ⟨by decide, by decide⟩) (fun oq113 Sq113 hp114 q113 => ?_)
      rcases q113 with ⟨rfl, ks109, hz110, hl111⟩ | ⟨rfl, ks109, hf112⟩
      · skip
        show wJ _ _ _ _ _ _ _ _ _ _
        have hSq113 : rQ T n N X f0 b0 b1 S0 u dp (i + 2) I F (pA F) Sq113 := hz110
        have ipSq113 : (((i + 2) : Nat) : Int) ≤ tp T n 0 (i + 2) := pI_nx (N := N) (X := X) ipSq107 (rQ_n hSq107) ⟨by omega, by omega⟩
        have krSq113 := kq_rg T n N X (i + 2)
        have nnSq113 := rQ_n hSq113
        have hd2 := qtk_o hd1 ks109
        refine wa_aload_n (n := 0) rfl ?_
        refine wa_bipush (w_rg2 (by omega) (by omega)) ?_
        refine wa_iconst ?_
        refine wa_iconst ?_
        refine wa_cv 237 rfl (wy_pr rfl) wt_237 (M2 := fun _ => False) rfl at_M_emits ⟨_, rfl⟩ rfl rfl ⟨trivial, (Or.inr ⟨wy_pr rfl, fun q => q⟩), trivial, trivial⟩ trivial (fun _ _ q => False.elim q) (emw (S := Sq113) (x := (6, 0, 0, u)) hSq113 (by omega) rfl (by show (6 : Int) ≠ 27; decide) rfl ⟨by omega, by omega⟩ ⟨by omega, by omega⟩ ⟨by omega, by omega⟩) (fun oq118 Sq118 hp119 q118 => ?_)
        rcases q118 with ⟨rfl, hz115, l61116, l60117⟩
        show wJ _ _ _ _ _ _ _ _ _ _
        have hSq118 : rQ T n N X f0 b0 b1 S0 u dp (i + 2) (I ++ [(6, 0, 0, u)]) F (pA F) Sq118 := hz115
        have krSq118 := kq_rg T n N X (i + 2)
        have nnSq118 := rQ_n hSq118
        have hlSq118 : (I ++ [(6, 0, 0, u)]).length = I.length + 1 := List.length_append
        refine wa_aload_n (n := 0) rfl ?_
        rcases hd2 with ⟨v120, hs121, ho122⟩ | ⟨i123, I124, F125, t126, hs121, hd3⟩
        · refine wa_cv 237 rfl (wy_pr rfl) wt_237 (M2 := fun _ => False) rfl at_M_value ⟨_, rfl⟩ rfl rfl ⟨trivial, (Or.inr ⟨wy_pr rfl, fun q => q⟩), trivial, trivial⟩ trivial (fun _ _ q => False.elim q) (r4 hs121 ⟨⟨by omega, by omega⟩, by omega, ipSq113⟩ _ _ _ (by omega) hSq118) (fun oq134 Sq134 hp135 q134 => ?_)
          rcases q134 with ⟨rfl, hf133⟩
          subst ho122
          exact ⟨rfl, (hbad _ rfl _ hf133)⟩
        refine wa_cv 237 rfl (wy_pr rfl) wt_237 (M2 := fun _ => False) rfl at_M_value ⟨_, rfl⟩ rfl rfl ⟨trivial, (Or.inr ⟨wy_pr rfl, fun q => q⟩), trivial, trivial⟩ trivial (fun _ _ q => False.elim q) (r4 hs121 ⟨⟨by omega, by omega⟩, by omega, ipSq113⟩ _ _ _ (by omega) hSq118) (fun oq136 Sq136 hp137 q136 => ?_)
        rcases q136 with ⟨rfl, hz127, ⟨p128, p129, p130, p131⟩, e132⟩
        show wJ _ _ _ _ _ _ _ _ _ _
        have hSq136 : rQ T n N X f0 b0 b1 S0 u dp i123 I124 F125 (pA F125) Sq136 := hz127
        have ipSq136 : ((i123 : Nat) : Int) ≤ tp T n 0 i123 := p130
        have krSq136 := kq_rg T n N X i123
        have nnSq136 := rQ_n hSq136
        have lnSq136 := px_len p131
        refine wa_aload_n (n := 0) rfl ?_
        refine wa_iconst ?_
        refine wa_iload_n (n := 2) rfl ?_
        refine wa_iconst ?_
        refine wa_cv 237 rfl (wy_pr rfl) wt_237 (M2 := fun _ => False) rfl at_M_newSite ⟨_, rfl⟩ rfl rfl ⟨trivial, (Or.inr ⟨wy_pr rfl, fun q => q⟩), trivial, trivial⟩ trivial (fun _ _ q => False.elim q) (nsw (S := Sq136) (x := (27, 1, (vq T n N X i), u)) hSq136 (by omega) ⟨by omega, by omega⟩ ⟨by omega, by omega⟩ ⟨by omega, by omega⟩ rfl) (fun oq141 Sq141 hp142 q141 => ?_)
        rcases q141 with ⟨rfl, hz138, l61139, l60140⟩
        show wJ _ _ _ _ _ _ _ _ _ _
        have hSq141 : rQ T n N X f0 b0 b1 S0 u dp i123 (I124 ++ [(27, 1, (vq T n N X i), u)]) F125 (pA F125) Sq141 := hz138
        have krSq141 := kq_rg T n N X i123
        have nnSq141 := rQ_n hSq141
        have hlSq141 : (I124 ++ [(27, 1, (vq T n N X i), u)]).length = I124.length + 1 := List.length_append
        refine wa_aload_n (n := 0) rfl ?_
        refine wa_iconst ?_
        refine wa_iconst ?_
        refine wa_iconst ?_
        refine wa_cv 237 rfl (wy_pr rfl) wt_237 (M2 := fun _ => False) rfl at_M_emits ⟨_, rfl⟩ rfl rfl ⟨trivial, (Or.inr ⟨wy_pr rfl, fun q => q⟩), trivial, trivial⟩ trivial (fun _ _ q => False.elim q) (emw (S := Sq141) (x := (5, 0, 0, u)) hSq141 (by omega) rfl (by show (5 : Int) ≠ 27; decide) rfl ⟨by omega, by omega⟩ ⟨by omega, by omega⟩ ⟨by omega, by omega⟩) (fun oq146 Sq146 hp147 q146 => ?_)
        rcases q146 with ⟨rfl, hz143, l61144, l60145⟩
        show wJ _ _ _ _ _ _ _ _ _ _
        have hSq146 : rQ T n N X f0 b0 b1 S0 u dp i123 ((I124 ++ [(27, 1, (vq T n N X i), u)]) ++ [(5, 0, 0, u)]) F125 (pA F125) Sq146 := hz143
        have krSq146 := kq_rg T n N X i123
        have nnSq146 := rQ_n hSq146
        have hlSq146 : ((I124 ++ [(27, 1, (vq T n N X i), u)]) ++ [(5, 0, 0, u)]).length = (I124 ++ [(27, 1, (vq T n N X i), u)]).length + 1 := List.length_append
        refine wa_aload_n (n := 0) rfl ?_
        refine wa_bipush (w_rg2 (by omega) (by omega)) ?_
        refine wa_cv 237 rfl (wy_pr rfl) wt_237 (M2 := fun _ => False) rfl at_M_accepts ⟨_, rfl⟩ rfl rfl ⟨trivial, (Or.inr ⟨wy_pr rfl, fun q => q⟩), trivial, trivial⟩ trivial (fun _ _ q => False.elim q) (acw (S := Sq146) hSq146 (fun _ => sk_44) ⟨by decide, by decide⟩ ⟨by decide, by decide⟩) (fun oq151 Sq151 hp152 q151 => ?_)
        rcases q151 with ⟨rfl, ks148, hz149, hl150⟩ | ⟨rfl, ks148, rfl⟩
        · skip
          show wJ _ _ _ _ _ _ _ _ _ _
          have hSq151 : rQ T n N X f0 b0 b1 S0 u dp (i123 + 1) ((I124 ++ [(27, 1, (vq T n N X i), u)]) ++ [(5, 0, 0, u)]) F125 (pA F125) Sq151 := hz149
          have ipSq151 : (((i123 + 1) : Nat) : Int) ≤ tp T n 0 (i123 + 1) := pI_nx (N := N) (X := X) ipSq136 (rQ_n hSq146) ⟨by omega, by omega⟩
          have krSq151 := kq_rg T n N X (i123 + 1)
          have nnSq151 := rQ_n hSq151
          rw [if_pos ks148] at hd3
          refine wa_istore_n (n := 1) rfl ?_
          refine wa_goto ⟨_, rfl⟩ ?_
          exact wJ_S (r13 hd3 ⟨⟨by omega, by omega⟩, by omega, ipSq151⟩ _ _ _ _ (by omega) hSq151 hbad (fun ib Ib Fb tb hb Zb hzb pb eb => hgood _ _ _ _ hb Zb hzb ⟨by have := pb.1; omega, by have := pb.2.1; omega, pb.2.2.1, px_tr (px_tr (px_tr (px_tr (px_tr px_rfl (px_ap _ _)) p131) (px_ap _ _)) (px_ap _ _)) pb.2.2.2⟩ eb)) ⟨rfl, rfl, trivial⟩
        · skip
          show wJ _ _ _ _ _ _ _ _ _ _
          rw [if_neg ks148] at hd3
          refine wa_istore_n (n := 1) rfl ?_
          refine wa_goto ⟨_, rfl⟩ ?_
          refine wa_iload_n (n := 1) rfl ?_
          refine wa_ifeq (w_rg0 (by omega) (by omega)) ⟨_, rfl⟩ (fun c153 => ?_) (fun c153 => ?_)
          · skip
            exact wJ_S (hgood _ _ _ _ hd3 _ hSq146 ⟨by omega, by omega, ipSq136, (px_tr (px_tr (px_tr (px_tr px_rfl (px_ap _ _)) p131) (px_ap _ _)) (px_ap _ _))⟩ trivial) ⟨rfl, trivial⟩
          · skip
            exact absurd c153 (by omega)
      · skip
        have ho := qtk_1 hd1 ks109
        subst ho
        exact ⟨rfl, (hbad _ rfl _ hf112)⟩
    · skip
      have ho := qnm_7 hd ks102
      subst ho
      exact ⟨rfl, (hbad _ rfl _ hf104)⟩
    · skip
      have ho := qnm_1 hd ks102
      subst ho
      exact ⟨rfl, (hbad _ rfl _ hf104)⟩
theorem lp_mk (hX : w_X xs) (hd : pz_ML (kq T n N X) (vq T n N X) (tp T n 0) (rR xs T n N X f0 b0 b1 S0) i dp u I F o) : rR xs T n N X f0 b0 b1 S0 14 0 [] i dp u I F o := by
  show rLq xs T n N X f0 b0 b1 S0 4 t_M_maker 1 4 [(0, (2, 237)), (1, (0, 1))] (fun _ => [(0, (2, 237))]) (fun _ _ => True) dp u i I F o
  intro hpre M D S Q hD h hbad hgood
  obtain ⟨⟨d0, d1⟩, hlen, ip⟩ := hpre
  obtain ⟨D, rfl⟩ : ∃ E, D = E + 12 := ⟨D - 12, by omega⟩
  have krS := kq_rg T n N X i
  have nnS := rQ_n h
  refine wa_iload_n (n := 1) rfl ?_
  refine wa_ifeq (w_rg0 (by omega) (by omega)) ⟨_, rfl⟩ (fun c101 => ?_) (fun c101 => ?_)
  · skip
    exact absurd c101 (by omega)
  · skip
    refine wa_aload_n (n := 0) rfl ?_
    refine wa_bipush (w_rg2 (by omega) (by omega)) ?_
    refine wa_cv 237 rfl (wy_pr rfl) wt_237 (M2 := fun _ => False) rfl at_M_accepts ⟨_, rfl⟩ rfl rfl ⟨(Or.inr ⟨wy_pr rfl, fun q => q⟩), trivial, trivial⟩ trivial (fun _ _ q => False.elim q) (acw (S := S) h (fun _ => sk_46) ⟨by decide, by decide⟩ ⟨by decide, by decide⟩) (fun oq105 Sq105 hp106 q105 => ?_)
    rcases q105 with ⟨rfl, ks102, hz103, hl104⟩ | ⟨rfl, ks102, rfl⟩
    · skip
      show wJ _ _ _ _ _ _ _ _ _ _
      have hSq105 : rQ T n N X f0 b0 b1 S0 u dp (i + 1) I F (pA F) Sq105 := hz103
      have ipSq105 : (((i + 1) : Nat) : Int) ≤ tp T n 0 (i + 1) := pI_nx (N := N) (X := X) ip (rQ_n h) ⟨by omega, by omega⟩
      have krSq105 := kq_rg T n N X (i + 1)
      have nnSq105 := rQ_n hSq105
      have hd1 := pzM_18 hd ks102
      refine wa_ifeq (w_rg0 (by omega) (by omega)) ⟨_, rfl⟩ (fun c107 => ?_) (fun c107 => ?_)
      · skip
        exact absurd c107 (by omega)
      · skip
        refine wa_aload_n (n := 0) rfl ?_
        refine wa_iconst ?_
        refine wa_aload_n (n := 0) rfl ?_
        refine wa_cv 237 rfl (wy_pr rfl) wt_237 (M2 := fun _ => False) rfl at_M_takesName ⟨_, rfl⟩ rfl rfl ⟨(Or.inr ⟨wy_pr rfl, fun q => q⟩), trivial, trivial⟩ ⟨trivial, (Or.inr ⟨wy_pr rfl, fun q => q⟩), trivial⟩ (fun _ _ q => False.elim q) (tnw (S := Sq105) hX hSq105 ipSq105) (fun oq113 Sq113 hp114 q113 => ?_)
        rcases q113 with ⟨rfl, ks108, hz109, z60111, z61112⟩ | ⟨rfl, ks108, hf110⟩ | ⟨rfl, ks108, hf110⟩
        · skip
          show wJ _ _ _ _ _ _ _ _ _ _
          have hSq113 : rQ T n N X f0 b0 b1 S0 u dp (i + 2) I F (pA F) Sq113 := hz109
          have ipSq113 : (((i + 2) : Nat) : Int) ≤ tp T n 0 (i + 2) := pI_nx (N := N) (X := X) ipSq105 (rQ_n hSq105) ⟨by omega, by omega⟩
          have krSq113 := kq_rg T n N X (i + 2)
          have nnSq113 := rQ_n hSq113
          have vnSq113 := vq_nn ks108
          have vuSq113 : (vq T n N X (i + 1)) < ((NL T n N (i + 2)).length : Int) := vq_lt ks108
          have vmSq113 : (NL T n N (i + 2)).length ≤ 4000 := hz109.2.1.1.2.1
          have hd2 := qnm_o hd1 ks108
          refine wa_iconst ?_
          refine wa_cv 237 rfl (wy_pr rfl) wt_237 (M2 := fun _ => False) rfl at_M_newSite ⟨_, rfl⟩ rfl rfl ⟨(Or.inr ⟨wy_pr rfl, fun q => q⟩), trivial, trivial⟩ trivial (fun _ _ q => False.elim q) (nsw (S := Sq113) (x := (27, 0, (vq T n N X (i + 1)), u)) hSq113 (by omega) ⟨by omega, by omega⟩ ⟨by omega, by omega⟩ ⟨by omega, by omega⟩ rfl) (fun oq118 Sq118 hp119 q118 => ?_)
          rcases q118 with ⟨rfl, hz115, l61116, l60117⟩
          show wJ _ _ _ _ _ _ _ _ _ _
          have hSq118 : rQ T n N X f0 b0 b1 S0 u dp (i + 2) (I ++ [(27, 0, (vq T n N X (i + 1)), u)]) F (pA F) Sq118 := hz115
          have krSq118 := kq_rg T n N X (i + 2)
          have nnSq118 := rQ_n hSq118
          have hlSq118 : (I ++ [(27, 0, (vq T n N X (i + 1)), u)]).length = I.length + 1 := List.length_append
          refine wa_goto ⟨_, rfl⟩ ?_
          exact wJ_S (r14 hd2 ⟨⟨by omega, by omega⟩, by omega, ipSq113⟩ _ _ _ _ (by omega) hSq118 hbad (fun ib Ib Fb tb hb Zb hzb pb eb => hgood _ _ _ _ hb Zb hzb ⟨by have := pb.1; omega, by have := pb.2.1; omega, pb.2.2.1, px_tr (px_tr px_rfl (px_ap _ _)) pb.2.2.2⟩ eb)) ⟨rfl, rfl, trivial⟩
        · skip
          have ho := qnm_7 hd1 ks108
          subst ho
          exact ⟨rfl, (hbad _ rfl _ hf110)⟩
        · skip
          have ho := qnm_1 hd1 ks108
          subst ho
          exact ⟨rfl, (hbad _ rfl _ hf110)⟩
    · skip
      show wJ _ _ _ _ _ _ _ _ _ _
      refine wa_ifeq (w_rg0 (by omega) (by omega)) ⟨_, rfl⟩ (fun c120 => ?_) (fun c120 => ?_)
      · skip
        refine wa_aload_n (n := 0) rfl ?_
        refine wa_bipush (w_rg2 (by omega) (by omega)) ?_
        refine wa_cv 237 rfl (wy_pr rfl) wt_237 (M2 := fun _ => False) rfl at_M_isSign ⟨_, rfl⟩ rfl rfl ⟨(Or.inr ⟨wy_pr rfl, fun q => q⟩), trivial, trivial⟩ trivial (fun _ _ q => False.elim q) (isw (S := S) h (fun _ => sk_91) ⟨by decide, by decide⟩ ⟨by decide, by decide⟩) (fun oq122 Sq122 hp123 q122 => ?_)
        rcases q122 with ⟨rfl, ⟨rfl, ks121⟩ | ⟨rfl, ks121⟩⟩
        · skip
          show wJ _ _ _ _ _ _ _ _ _ _
          have hd3 := pzM_14 hd ks121
          refine wa_ifeq (w_rg0 (by omega) (by omega)) ⟨_, rfl⟩ (fun c124 => ?_) (fun c124 => ?_)
          · skip
            exact absurd c124 (by omega)
          · skip
            refine wa_aload_n (n := 0) rfl ?_
            rcases hd3 with ⟨v125, hs126, ho127⟩ | ⟨i128, I129, F130, t131, hs126, hd4⟩
            · refine wa_cv 237 rfl (wy_pr rfl) wt_237 (M2 := fun _ => False) rfl at_M_element ⟨_, rfl⟩ rfl rfl ⟨(Or.inr ⟨wy_pr rfl, fun q => q⟩), trivial, trivial⟩ trivial (fun _ _ q => False.elim q) (el_w hs126 ⟨⟨by omega, by omega⟩, by omega, ip⟩ _ _ _ (by omega) h) (fun oq139 Sq139 hp140 q139 => ?_)
              rcases q139 with ⟨rfl, hf138⟩
              subst ho127
              exact ⟨rfl, (hbad _ rfl _ hf138)⟩
            refine wa_cv 237 rfl (wy_pr rfl) wt_237 (M2 := fun _ => False) rfl at_M_element ⟨_, rfl⟩ rfl rfl ⟨(Or.inr ⟨wy_pr rfl, fun q => q⟩), trivial, trivial⟩ trivial (fun _ _ q => False.elim q) (el_w hs126 ⟨⟨by omega, by omega⟩, by omega, ip⟩ _ _ _ (by omega) h) (fun oq141 Sq141 hp142 q141 => ?_)
            rcases q141 with ⟨rfl, hz132, ⟨p133, p134, p135, p136⟩, e137⟩
            show wJ _ _ _ _ _ _ _ _ _ _
            have hSq141 : rQ T n N X f0 b0 b1 S0 u dp i128 I129 F130 (pA F130) Sq141 := hz132
            have ipSq141 : ((i128 : Nat) : Int) ≤ tp T n 0 i128 := p135
            have krSq141 := kq_rg T n N X i128
            have nnSq141 := rQ_n hSq141
            have lnSq141 := px_len p136
            refine wa_goto ⟨_, rfl⟩ ?_
            exact wJ_S (r14 hd4 ⟨⟨by omega, by omega⟩, by omega, ipSq141⟩ _ _ _ _ (by omega) hSq141 hbad (fun ib Ib Fb tb hb Zb hzb pb eb => hgood _ _ _ _ hb Zb hzb ⟨by have := pb.1; omega, by have := pb.2.1; omega, pb.2.2.1, px_tr (px_tr px_rfl p136) pb.2.2.2⟩ eb)) ⟨rfl, rfl, trivial⟩
        · skip
          show wJ _ _ _ _ _ _ _ _ _ _
          refine wa_ifeq (w_rg0 (by omega) (by omega)) ⟨_, rfl⟩ (fun c143 => ?_) (fun c143 => ?_)
          · skip
            refine wa_iconst ?_
            refine wa_istore_n (n := 1) rfl ?_
            refine wa_goto ⟨_, rfl⟩ ?_
            refine wa_iload_n (n := 1) rfl ?_
            refine wa_ifeq (w_rg0 (by omega) (by omega)) ⟨_, rfl⟩ (fun c144 => ?_) (fun c144 => ?_)
            · skip
              exact wJ_S (hgood _ _ _ _ (pzM_n hd ⟨by omega, by omega⟩) _ h ⟨by omega, by omega, ip, px_rfl⟩ trivial) ⟨rfl, trivial⟩
            · skip
              exact absurd c144 (by omega)
          · skip
            exact absurd c143 (by omega)
      · skip
        exact absurd c120 (by omega)
end Wcg
