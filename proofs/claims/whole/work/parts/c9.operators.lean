/-! PART c9: the reference's operators in the grammar. -/
section Wc9
variable {xs : List (Nat × List Int32)} {M : Nat → Prop} {d : Nat} {A B C S Z S0 : wS} {Q : wO → wS → Prop} {T : Int → Int} {n f0 u dp b0 b1 : Int} {N X : List (List Int)} {c i k pm : Nat} {I : List pz_I} {F : List pz_F} {o : pz_O}
variable {R : pz_R} {K V P : Nat → Int} {x t : Int} {J : List Int}
theorem r5_1 (h : rR xs T n N X f0 b0 b1 S0 5 1 J i dp u I F o) : rM xs T n N X f0 b0 b1 S0 15 t_M_or [(0, (2, 237))] (fun t => some (0, t)) 1 (tE u I.length) dp u i I F o := h
theorem r5_2 (h : rR xs T n N X f0 b0 b1 S0 5 2 J i dp u I F o) : rM xs T n N X f0 b0 b1 S0 14 t_M_and [(0, (2, 237))] (fun t => some (0, t)) 1 (tE u I.length) dp u i I F o := h
theorem r5_x (hx : 3 ≤ x ∧ x ≤ 7) (h : rR xs T n N X f0 b0 b1 S0 5 x J i dp u I F o) : rM xs T n N X f0 b0 b1 S0 (16 - x) t_M_binary [(0, (2, 237)), (1, (0, x - 3))] (fun t => some (0, t)) 1 (tE u I.length) dp u i I F o := by
  have h2 : (if x = 1 then _ else if x = 2 then _ else (3 ≤ x ∧ x ≤ 7 → _)) := h
  rw [if_neg (by omega), if_neg (by omega)] at h2
  exact h2 hx
theorem r5_3 (h : rR xs T n N X f0 b0 b1 S0 5 3 J i dp u I F o) : rM xs T n N X f0 b0 b1 S0 13 t_M_binary [(0, (2, 237)), (1, (0, 0))] (fun t => some (0, t)) 1 (tE u I.length) dp u i I F o := r5_x (x := 3) ⟨by decide, by decide⟩ h
theorem r5_i (hx : 3 ≤ x ∧ x ≤ 7) (h : rM xs T n N X f0 b0 b1 S0 (16 - x) t_M_binary [(0, (2, 237)), (1, (0, x - 3))] (fun t => some (0, t)) 1 (tE u I.length) dp u i I F o) : rR xs T n N X f0 b0 b1 S0 5 x J i dp u I F o := by
  show (if x = 1 then _ else if x = 2 then _ else (3 ≤ x ∧ x ≤ 7 → _))
  rw [if_neg (by omega), if_neg (by omega)]
  exact fun _ => h
theorem r7 (h : rR xs T n N X f0 b0 b1 S0 7 0 J i dp u I F o) : rM xs T n N X f0 b0 b1 S0 8 t_M_front [(0, (2, 237))] (fun t => some (0, t)) 1 (tE u I.length) dp u i I F o := h
theorem r8 (h : rR xs T n N X f0 b0 b1 S0 8 0 J i dp u I F o) : rM xs T n N X f0 b0 b1 S0 7 t_M_behind [(0, (2, 237))] (fun t => some (0, t)) 1 (tE u I.length) dp u i I F o := h
theorem r6_1 (h : rR xs T n N X f0 b0 b1 S0 6 1 [t] i dp u I F o) : rLp xs T n N X f0 b0 b1 S0 15 t_M_or 1 2 (fun t => [(0, (2, 237)), (1, (0, t))]) (fun t => [(0, (2, 237)), (1, (0, t))]) t dp u i I F o := h
theorem r6_2 (h : rR xs T n N X f0 b0 b1 S0 6 2 [t] i dp u I F o) : rLp xs T n N X f0 b0 b1 S0 14 t_M_and 1 2 (fun t => [(0, (2, 237)), (1, (0, t))]) (fun t => [(0, (2, 237)), (1, (0, t))]) t dp u i I F o := h
theorem r6_x (hx : 3 ≤ x ∧ x ≤ 6) (h : rR xs T n N X f0 b0 b1 S0 6 x [t] i dp u I F o) : rLp xs T n N X f0 b0 b1 S0 (16 - x) t_M_binary 2 3 (fun t => [(0, (2, 237)), (1, (0, x - 3)), (2, (0, t))]) (fun t => [(0, (2, 237)), (1, (0, x - 3)), (2, (0, t))]) t dp u i I F o := by
  have h2 : (if x = 1 then _ else if x = 2 then _ else (3 ≤ x ∧ x ≤ 6 → _)) := h
  rw [if_neg (by omega), if_neg (by omega)] at h2
  exact h2 hx
theorem r6_i (hx : 3 ≤ x ∧ x ≤ 6) (h : rLp xs T n N X f0 b0 b1 S0 (16 - x) t_M_binary 2 3 (fun t => [(0, (2, 237)), (1, (0, x - 3)), (2, (0, t))]) (fun t => [(0, (2, 237)), (1, (0, x - 3)), (2, (0, t))]) t dp u i I F o) : rR xs T n N X f0 b0 b1 S0 6 x [t] i dp u I F o := by
  show (if x = 1 then _ else if x = 2 then _ else (3 ≤ x ∧ x ≤ 6 → _))
  rw [if_neg (by omega), if_neg (by omega)]
  exact fun _ => h
theorem lv_kr {k : Int} (h : 3 ≤ pz_lv k) : 21 ≤ k ∧ k ≤ 32 := by
  unfold pz_lv at h
  by_cases h1 : k = 34
  · rw [if_pos h1] at h; omega
  rw [if_neg h1] at h
  by_cases h2 : k = 33
  · rw [if_pos h2] at h; omega
  rw [if_neg h2] at h
  refine Classical.byContradiction (fun q => ?_)
  rw [if_neg (by omega), if_neg (by omega), if_neg (by omega), if_neg (by omega)] at h
  omega
theorem pzL_n {l : Int} (hd : pz_L K R l t i dp u I F o) (h : pz_lv (K i) ≠ l) : o = .inr (i, I, F, t) := by unfold pz_L at hd; rw [if_pos h] at hd; exact hd
theorem pzL_1 (hd : pz_L K R 1 t i dp u I F o) (h : pz_lv (K i) = 1) : pz_q (R 5 2 [] (i + 1) dp u (I ++ [(22, 0, 0, u)]) F) (fun j I2 F _ => R 6 1 [0] j dp u (pz_a I2 I.length (pz_h I2 u)) F) o := by
  unfold pz_L at hd; rw [if_neg (fun q => q h), if_pos (by decide)] at hd; exact hd
theorem pzL_2 (hd : pz_L K R 2 t i dp u I F o) (h : pz_lv (K i) = 2) : pz_q (R 5 3 [] (i + 1) dp u (I ++ [(23, 0, 0, u)]) F) (fun j I2 F _ => R 6 2 [0] j dp u (pz_a I2 I.length (pz_h I2 u)) F) o := by
  unfold pz_L at hd; rw [if_neg (fun q => q h), if_pos (by decide)] at hd; exact hd
theorem pzL_x {l : Int} (hd : pz_L K R l t i dp u I F o) (h : pz_lv (K i) = l) (hl : 3 ≤ l) : pz_q (R 5 (l + 1) [] (i + 1) dp u I F) (fun j I F _ => R 6 l [0] j dp u (I ++ [(pz_or (K i), 0, 0, u)]) F) o := by
  unfold pz_L at hd; rw [if_neg (fun q => q h), if_neg (by omega)] at hd; exact hd
theorem pzE_n {l : Int} (hd : pz_E R l i dp u I F o) (h : l ≠ 7) : pz_q (R 5 (l + 1) [] i dp u I F) (fun i I F t => R 6 l [t] i dp u I F) o := by unfold pz_E at hd; rw [if_neg h] at hd; exact hd
theorem pzE_7 (hd : pz_E R 7 i dp u I F o) : R 7 0 [] i dp u I F o := by unfold pz_E at hd; rw [if_pos rfl] at hd; exact hd
theorem lp_or (hd : pz_L (kq T n N X) (rR xs T n N X f0 b0 b1 S0) 1 t i dp u I F o) : rR xs T n N X f0 b0 b1 S0 6 1 [t] i dp u I F o := by
  show rLp xs T n N X f0 b0 b1 S0 15 t_M_or 1 2 (fun t => [(0, (2, 237)), (1, (0, t))]) (fun t => [(0, (2, 237)), (1, (0, t))]) t dp u i I F o
  intro hpre M D S Q m hD hm h hE hbad hgood
  obtain ⟨⟨d0, d1⟩, hlen, ip⟩ := hpre
  obtain ⟨D, rfl⟩ : ∃ E, D = E + 12 := ⟨D - 12, by omega⟩
  have krS := kq_rg T n N X i
  have nnS := rQ_n h
  refine wa_aload_n (n := 0) rfl ?_
  refine wa_sipush (by omega) ?_
  refine wa_cv 237 rfl (wy_pr rfl) wt_237 (M2 := fun _ => False) rfl at_M_accepts ⟨_, rfl⟩ rfl rfl ⟨(Or.inr ⟨wy_pr rfl, fun q => q⟩), trivial, trivial⟩ trivial (fun _ _ q => False.elim q) (acw (S := S) h (fun _ => sk_261) ⟨by decide, by decide⟩ ⟨by decide, by decide⟩) (fun oq104 Sq104 hp105 q104 => ?_)
  rcases q104 with ⟨rfl, ks101, hz102, hl103⟩ | ⟨rfl, ks101, rfl⟩
  · skip
    show wJ _ _ _ _ _ _ _ _ _ _
    have hSq104 : rQ T n N X f0 b0 b1 S0 u dp (i + 1) I F (pA F) Sq104 := hz102
    have ipSq104 : (((i + 1) : Nat) : Int) ≤ tp T n 0 (i + 1) := pI_nx (N := N) (X := X) ip (rQ_n h) ⟨by omega, by omega⟩
    have krSq104 := kq_rg T n N X (i + 1)
    have nnSq104 := rQ_n hSq104
    have hd1 := pzL_1 hd ((pz_lv3).1.2 ks101)
    refine wa_ifeq (w_rg0 (by omega) (by omega)) ⟨_, rfl⟩ (fun c106 => ?_) (fun c106 => ?_)
    · skip
      exact absurd c106 (by omega)
    · skip
      refine wa_aload_n (n := 0) rfl ?_
      refine wb_gf5 237 rfl (wy_pr rfl) wt_237 wf_15_28 (v := (nP (u - f0).toNat : Int)) ((rQ_pp hSq104).2.2.1) (fun r107 => ?_)
      refine wa_cv (nP (u - f0).toNat) rfl (rQ_pp hSq104).1 (wt_P0 (by have := (rQ_pp h).2.1; omega)) (M2 := fun _ => False) rfl at_MP_here ⟨_, rfl⟩ rfl rfl ⟨(Or.inr ⟨wy_pr rfl, fun q => q⟩), trivial, trivial⟩ trivial (fun _ _ q => False.elim q) (hew (S := Sq104) hSq104) (fun oq109 Sq109 hp110 q109 => ?_)
      rcases q109 with ⟨rfl, rfl⟩
      show wJ _ _ _ _ _ _ _ _ _ _
      have hr108 := pz_h_rg I u
      refine wa_istore_n (n := 2) rfl ?_
      refine wa_aload_n (n := 0) rfl ?_
      refine wa_bipush (w_rg2 (by omega) (by omega)) ?_
      refine wa_iconst ?_
      refine wa_iconst ?_
      refine wa_cv 237 rfl (wy_pr rfl) wt_237 (M2 := fun _ => False) rfl at_M_emits ⟨_, rfl⟩ rfl rfl ⟨trivial, (Or.inr ⟨wy_pr rfl, fun q => q⟩), trivial, trivial⟩ trivial (fun _ _ q => False.elim q) (emw (S := Sq104) (x := (22, 0, 0, u)) hSq104 (by omega) rfl (by show (22 : Int) ≠ 27; decide) rfl ⟨by omega, by omega⟩ ⟨by omega, by omega⟩ ⟨by omega, by omega⟩) (fun oq114 Sq114 hp115 q114 => ?_)
      rcases q114 with ⟨rfl, hz111, l61112, l60113⟩
      show wJ _ _ _ _ _ _ _ _ _ _
      have hSq114 : rQ T n N X f0 b0 b1 S0 u dp (i + 1) (I ++ [(22, 0, 0, u)]) F (pA F) Sq114 := hz111
      have krSq114 := kq_rg T n N X (i + 1)
      have nnSq114 := rQ_n hSq114
      have hlSq114 : (I ++ [(22, 0, 0, u)]).length = I.length + 1 := List.length_append
      refine wa_aload_n (n := 0) rfl ?_
      rcases hd1 with ⟨v116, hs117, ho118⟩ | ⟨i119, I120, F121, t122, hs117, hd2⟩
      · refine wa_cv 237 rfl (wy_pr rfl) wt_237 (M2 := fun _ => False) rfl at_M_and ⟨_, rfl⟩ rfl rfl ⟨trivial, (Or.inr ⟨wy_pr rfl, fun q => q⟩), trivial, trivial⟩ trivial (fun _ _ q => False.elim q) (r5_2 hs117 ⟨⟨by omega, by omega⟩, by omega, ipSq104⟩ _ _ _ (by omega) hSq114) (fun oq130 Sq130 hp131 q130 => ?_)
        rcases q130 with ⟨rfl, hf129⟩
        subst ho118
        exact ⟨rfl, (hbad _ rfl _ hf129)⟩
      refine wa_cv 237 rfl (wy_pr rfl) wt_237 (M2 := fun _ => False) rfl at_M_and ⟨_, rfl⟩ rfl rfl ⟨trivial, (Or.inr ⟨wy_pr rfl, fun q => q⟩), trivial, trivial⟩ trivial (fun _ _ q => False.elim q) (r5_2 hs117 ⟨⟨by omega, by omega⟩, by omega, ipSq104⟩ _ _ _ (by omega) hSq114) (fun oq132 Sq132 hp133 q132 => ?_)
      rcases q132 with ⟨rfl, hz123, ⟨p124, p125, p126, p127⟩, e128⟩
      show wJ _ _ _ _ _ _ _ _ _ _
      have hSq132 : rQ T n N X f0 b0 b1 S0 u dp i119 I120 F121 (pA F121) Sq132 := hz123
      have ipSq132 : ((i119 : Nat) : Int) ≤ tp T n 0 i119 := p126
      have krSq132 := kq_rg T n N X i119
      have nnSq132 := rQ_n hSq132
      have lnSq132 := px_len p127
      refine wa_pop (by decide) ?_
      refine wa_aload_n (n := 0) rfl ?_
      refine wb_gf5 237 rfl (wy_pr rfl) wt_237 wf_15_28 (v := (nP (u - f0).toNat : Int)) ((rQ_pp hSq132).2.2.1) (fun r134 => ?_)
      refine wb_gf5 (nP (u - f0).toNat) rfl (rQ_pp hSq132).1 (wt_P0 (by have := (rQ_pp h).2.1; omega)) wf_14_5 (v := ((nP (u - f0).toNat + 3 : Nat) : Int)) ((rQ_pa hSq132).1) (fun r135 => ?_)
      refine wa_iload_n (n := 2) rfl ?_
      refine wa_aload_n (n := 0) rfl ?_
      refine wb_gf5 237 rfl (wy_pr rfl) wt_237 wf_15_28 (v := (nP (u - f0).toNat : Int)) ((rQ_pp hSq132).2.2.1) (fun r136 => ?_)
      refine wa_cv (nP (u - f0).toNat) rfl (rQ_pp hSq132).1 (wt_P0 (by have := (rQ_pp h).2.1; omega)) (M2 := fun _ => False) rfl at_MP_here ⟨_, rfl⟩ rfl rfl ⟨trivial, (Or.inr ⟨wy_pr rfl, fun q => q⟩), trivial, trivial⟩ ⟨trivial, (Or.inr ⟨(rQ_pa hSq132).2, fun q => q⟩), trivial⟩ (fun _ _ q => False.elim q) (hew (S := Sq132) hSq132) (fun oq138 Sq138 hp139 q138 => ?_)
      rcases q138 with ⟨rfl, rfl⟩
      show wJ _ _ _ _ _ _ _ _ _ _
      have hr137 := pz_h_rg I120 u
      have lm143 := px_len1 (px_tr px_rfl p127)
      have hc142 := sew (xs := xs) (M := fun _ => False) (d := D + 11) (S := Sq132) (j := I.length) (z := (22, 0, 0, u)) (v := (pz_h I120 u)) hSq132 (by omega) (by omega) (px_get (px_tr px_rfl p127)) rfl ⟨(by show (22 : Int) ≠ 27; decide), (by show (22 : Int) ≠ 24; decide)⟩ ⟨by omega, by omega⟩
      rw [px_take (px_tr px_rfl p127)] at hc142
      refine wa_cv (nP (u - f0).toNat + 3) rfl (rQ_pa hSq132).2 (wt_P2 (by have := (rQ_pp h).2.1; omega) ⟨by decide, by decide⟩) (M2 := fun _ => False) rfl at_MI_set ⟨_, rfl⟩ rfl rfl ⟨trivial, (Or.inr ⟨wy_pr rfl, fun q => q⟩), trivial, trivial⟩ trivial (fun _ _ q => False.elim q) (hc142) (fun oq144 Sq144 hp145 q144 => ?_)
      rcases q144 with ⟨rfl, hz140, hy141⟩
      show wJ _ _ _ _ _ _ _ _ _ _
      have hSq144 : rQ T n N X f0 b0 b1 S0 u dp i119 (pz_a I120 I.length (pz_h I120 u)) F121 (pA F121) Sq144 := hz140
      have krSq144 := kq_rg T n N X i119
      have nnSq144 := rQ_n hSq144
      have hlSq144 : (pz_a I120 I.length (pz_h I120 u)).length = I120.length := pz_a_len _ _ _
      refine wa_iconst ?_
      refine wa_istore_n (n := 1) rfl ?_
      refine wa_goto ⟨_, rfl⟩ ?_
      exact wJ_S (r6_1 hd2 ⟨⟨by omega, by omega⟩, by omega, ipSq132⟩ _ _ _ _ m (by omega) (by omega) hSq144 (Or.inl rfl) hbad (fun ib Ib Fb tb hb Zb hzb pb eb => hgood _ _ _ _ hb Zb hzb ⟨by have := pb.1; omega, by have := pb.2.1; omega, pb.2.2.1, px_tr (px_a (px_tr (px_tr px_rfl (px_ap _ _)) p127) (by omega)) pb.2.2.2⟩ eb)) ⟨rfl, rfl, trivial⟩
  · skip
    show wJ _ _ _ _ _ _ _ _ _ _
    refine wa_ifeq (w_rg0 (by omega) (by omega)) ⟨_, rfl⟩ (fun c146 => ?_) (fun c146 => ?_)
    · skip
      exact hgood _ _ _ _ (pzL_n hd (fun q => ks101 ((pz_lv3).1.1 q))) _ h ⟨by omega, by omega, ip, px_rfl⟩ hE
    · skip
      exact absurd c146 (by omega)
theorem lp_and (hd : pz_L (kq T n N X) (rR xs T n N X f0 b0 b1 S0) 2 t i dp u I F o) : rR xs T n N X f0 b0 b1 S0 6 2 [t] i dp u I F o := by
  show rLp xs T n N X f0 b0 b1 S0 14 t_M_and 1 2 (fun t => [(0, (2, 237)), (1, (0, t))]) (fun t => [(0, (2, 237)), (1, (0, t))]) t dp u i I F o
  intro hpre M D S Q m hD hm h hE hbad hgood
  obtain ⟨⟨d0, d1⟩, hlen, ip⟩ := hpre
  obtain ⟨D, rfl⟩ : ∃ E, D = E + 12 := ⟨D - 12, by omega⟩
  have krS := kq_rg T n N X i
  have nnS := rQ_n h
  refine wa_aload_n (n := 0) rfl ?_
  refine wa_sipush (by omega) ?_
  refine wa_cv 237 rfl (wy_pr rfl) wt_237 (M2 := fun _ => False) rfl at_M_accepts ⟨_, rfl⟩ rfl rfl ⟨(Or.inr ⟨wy_pr rfl, fun q => q⟩), trivial, trivial⟩ trivial (fun _ _ q => False.elim q) (acw (S := S) h (fun _ => sk_260) ⟨by decide, by decide⟩ ⟨by decide, by decide⟩) (fun oq104 Sq104 hp105 q104 => ?_)
  rcases q104 with ⟨rfl, ks101, hz102, hl103⟩ | ⟨rfl, ks101, rfl⟩
  · skip
    show wJ _ _ _ _ _ _ _ _ _ _
    have hSq104 : rQ T n N X f0 b0 b1 S0 u dp (i + 1) I F (pA F) Sq104 := hz102
    have ipSq104 : (((i + 1) : Nat) : Int) ≤ tp T n 0 (i + 1) := pI_nx (N := N) (X := X) ip (rQ_n h) ⟨by omega, by omega⟩
    have krSq104 := kq_rg T n N X (i + 1)
    have nnSq104 := rQ_n hSq104
    have hd1 := pzL_2 hd ((pz_lv3).2.1.2 ks101)
    refine wa_ifeq (w_rg0 (by omega) (by omega)) ⟨_, rfl⟩ (fun c106 => ?_) (fun c106 => ?_)
    · skip
      exact absurd c106 (by omega)
    · skip
      refine wa_aload_n (n := 0) rfl ?_
      refine wb_gf5 237 rfl (wy_pr rfl) wt_237 wf_15_28 (v := (nP (u - f0).toNat : Int)) ((rQ_pp hSq104).2.2.1) (fun r107 => ?_)
      refine wa_cv (nP (u - f0).toNat) rfl (rQ_pp hSq104).1 (wt_P0 (by have := (rQ_pp h).2.1; omega)) (M2 := fun _ => False) rfl at_MP_here ⟨_, rfl⟩ rfl rfl ⟨(Or.inr ⟨wy_pr rfl, fun q => q⟩), trivial, trivial⟩ trivial (fun _ _ q => False.elim q) (hew (S := Sq104) hSq104) (fun oq109 Sq109 hp110 q109 => ?_)
      rcases q109 with ⟨rfl, rfl⟩
      show wJ _ _ _ _ _ _ _ _ _ _
      have hr108 := pz_h_rg I u
      refine wa_istore_n (n := 2) rfl ?_
      refine wa_aload_n (n := 0) rfl ?_
      refine wa_bipush (w_rg2 (by omega) (by omega)) ?_
      refine wa_iconst ?_
      refine wa_iconst ?_
      refine wa_cv 237 rfl (wy_pr rfl) wt_237 (M2 := fun _ => False) rfl at_M_emits ⟨_, rfl⟩ rfl rfl ⟨trivial, (Or.inr ⟨wy_pr rfl, fun q => q⟩), trivial, trivial⟩ trivial (fun _ _ q => False.elim q) (emw (S := Sq104) (x := (23, 0, 0, u)) hSq104 (by omega) rfl (by show (23 : Int) ≠ 27; decide) rfl ⟨by omega, by omega⟩ ⟨by omega, by omega⟩ ⟨by omega, by omega⟩) (fun oq114 Sq114 hp115 q114 => ?_)
      rcases q114 with ⟨rfl, hz111, l61112, l60113⟩
      show wJ _ _ _ _ _ _ _ _ _ _
      have hSq114 : rQ T n N X f0 b0 b1 S0 u dp (i + 1) (I ++ [(23, 0, 0, u)]) F (pA F) Sq114 := hz111
      have krSq114 := kq_rg T n N X (i + 1)
      have nnSq114 := rQ_n hSq114
      have hlSq114 : (I ++ [(23, 0, 0, u)]).length = I.length + 1 := List.length_append
      refine wa_aload_n (n := 0) rfl ?_
      refine wa_iconst ?_
      rcases hd1 with ⟨v116, hs117, ho118⟩ | ⟨i119, I120, F121, t122, hs117, hd2⟩
      · refine wa_cv 237 rfl (wy_pr rfl) wt_237 (M2 := fun _ => False) rfl at_M_binary ⟨_, rfl⟩ rfl rfl ⟨trivial, (Or.inr ⟨wy_pr rfl, fun q => q⟩), trivial, trivial⟩ trivial (fun _ _ q => False.elim q) (r5_3 hs117 ⟨⟨by omega, by omega⟩, by omega, ipSq104⟩ _ _ _ (by omega) hSq114) (fun oq130 Sq130 hp131 q130 => ?_)
        rcases q130 with ⟨rfl, hf129⟩
        subst ho118
        exact ⟨rfl, (hbad _ rfl _ hf129)⟩
      refine wa_cv 237 rfl (wy_pr rfl) wt_237 (M2 := fun _ => False) rfl at_M_binary ⟨_, rfl⟩ rfl rfl ⟨trivial, (Or.inr ⟨wy_pr rfl, fun q => q⟩), trivial, trivial⟩ trivial (fun _ _ q => False.elim q) (r5_3 hs117 ⟨⟨by omega, by omega⟩, by omega, ipSq104⟩ _ _ _ (by omega) hSq114) (fun oq132 Sq132 hp133 q132 => ?_)
      rcases q132 with ⟨rfl, hz123, ⟨p124, p125, p126, p127⟩, e128⟩
      show wJ _ _ _ _ _ _ _ _ _ _
      have hSq132 : rQ T n N X f0 b0 b1 S0 u dp i119 I120 F121 (pA F121) Sq132 := hz123
      have ipSq132 : ((i119 : Nat) : Int) ≤ tp T n 0 i119 := p126
      have krSq132 := kq_rg T n N X i119
      have nnSq132 := rQ_n hSq132
      have lnSq132 := px_len p127
      refine wa_pop (by decide) ?_
      refine wa_aload_n (n := 0) rfl ?_
      refine wb_gf5 237 rfl (wy_pr rfl) wt_237 wf_15_28 (v := (nP (u - f0).toNat : Int)) ((rQ_pp hSq132).2.2.1) (fun r134 => ?_)
      refine wb_gf5 (nP (u - f0).toNat) rfl (rQ_pp hSq132).1 (wt_P0 (by have := (rQ_pp h).2.1; omega)) wf_14_5 (v := ((nP (u - f0).toNat + 3 : Nat) : Int)) ((rQ_pa hSq132).1) (fun r135 => ?_)
      refine wa_iload_n (n := 2) rfl ?_
      refine wa_aload_n (n := 0) rfl ?_
      refine wb_gf5 237 rfl (wy_pr rfl) wt_237 wf_15_28 (v := (nP (u - f0).toNat : Int)) ((rQ_pp hSq132).2.2.1) (fun r136 => ?_)
      refine wa_cv (nP (u - f0).toNat) rfl (rQ_pp hSq132).1 (wt_P0 (by have := (rQ_pp h).2.1; omega)) (M2 := fun _ => False) rfl at_MP_here ⟨_, rfl⟩ rfl rfl ⟨trivial, (Or.inr ⟨wy_pr rfl, fun q => q⟩), trivial, trivial⟩ ⟨trivial, (Or.inr ⟨(rQ_pa hSq132).2, fun q => q⟩), trivial⟩ (fun _ _ q => False.elim q) (hew (S := Sq132) hSq132) (fun oq138 Sq138 hp139 q138 => ?_)
      rcases q138 with ⟨rfl, rfl⟩
      show wJ _ _ _ _ _ _ _ _ _ _
      have hr137 := pz_h_rg I120 u
      have lm143 := px_len1 (px_tr px_rfl p127)
      have hc142 := sew (xs := xs) (M := fun _ => False) (d := D + 11) (S := Sq132) (j := I.length) (z := (23, 0, 0, u)) (v := (pz_h I120 u)) hSq132 (by omega) (by omega) (px_get (px_tr px_rfl p127)) rfl ⟨(by show (23 : Int) ≠ 27; decide), (by show (23 : Int) ≠ 24; decide)⟩ ⟨by omega, by omega⟩
      rw [px_take (px_tr px_rfl p127)] at hc142
      refine wa_cv (nP (u - f0).toNat + 3) rfl (rQ_pa hSq132).2 (wt_P2 (by have := (rQ_pp h).2.1; omega) ⟨by decide, by decide⟩) (M2 := fun _ => False) rfl at_MI_set ⟨_, rfl⟩ rfl rfl ⟨trivial, (Or.inr ⟨wy_pr rfl, fun q => q⟩), trivial, trivial⟩ trivial (fun _ _ q => False.elim q) (hc142) (fun oq144 Sq144 hp145 q144 => ?_)
      rcases q144 with ⟨rfl, hz140, hy141⟩
      show wJ _ _ _ _ _ _ _ _ _ _
      have hSq144 : rQ T n N X f0 b0 b1 S0 u dp i119 (pz_a I120 I.length (pz_h I120 u)) F121 (pA F121) Sq144 := hz140
      have krSq144 := kq_rg T n N X i119
      have nnSq144 := rQ_n hSq144
      have hlSq144 : (pz_a I120 I.length (pz_h I120 u)).length = I120.length := pz_a_len _ _ _
      refine wa_iconst ?_
      refine wa_istore_n (n := 1) rfl ?_
      refine wa_goto ⟨_, rfl⟩ ?_
      exact wJ_S (r6_2 hd2 ⟨⟨by omega, by omega⟩, by omega, ipSq132⟩ _ _ _ _ m (by omega) (by omega) hSq144 (Or.inl rfl) hbad (fun ib Ib Fb tb hb Zb hzb pb eb => hgood _ _ _ _ hb Zb hzb ⟨by have := pb.1; omega, by have := pb.2.1; omega, pb.2.2.1, px_tr (px_a (px_tr (px_tr px_rfl (px_ap _ _)) p127) (by omega)) pb.2.2.2⟩ eb)) ⟨rfl, rfl, trivial⟩
  · skip
    show wJ _ _ _ _ _ _ _ _ _ _
    refine wa_ifeq (w_rg0 (by omega) (by omega)) ⟨_, rfl⟩ (fun c146 => ?_) (fun c146 => ?_)
    · skip
      exact hgood _ _ _ _ (pzL_n hd (fun q => ks101 ((pz_lv3).2.1.1 q))) _ h ⟨by omega, by omega, ip, px_rfl⟩ hE
    · skip
      exact absurd c146 (by omega)
theorem me_or (hd : pz_E (rR xs T n N X f0 b0 b1 S0) 1 i dp u I F o) : rR xs T n N X f0 b0 b1 S0 5 1 [] i dp u I F o := by
  show rM xs T n N X f0 b0 b1 S0 15 t_M_or [(0, (2, 237))] (fun t => some (0, t)) 1 (tE u I.length) dp u i I F o
  intro hpre M D S hD h
  obtain ⟨⟨d0, d1⟩, hlen, ip⟩ := hpre
  obtain ⟨D, rfl⟩ : ∃ E, D = E + 12 := ⟨D - 12, by omega⟩
  have krS := kq_rg T n N X i
  have nnS := rQ_n h
  have hd0 := pzE_n hd (by decide)
  refine wa_aload_n (n := 0) rfl ?_
  rcases hd0 with ⟨v101, hs102, ho103⟩ | ⟨i104, I105, F106, t107, hs102, hd1⟩
  · refine wa_cv 237 rfl (wy_pr rfl) wt_237 (M2 := fun _ => False) rfl at_M_and ⟨_, rfl⟩ rfl rfl ⟨(Or.inr ⟨wy_pr rfl, fun q => q⟩), trivial⟩ trivial (fun _ _ q => False.elim q) (r5_2 hs102 ⟨⟨by omega, by omega⟩, by omega, ip⟩ _ _ _ (by omega) h) (fun oq115 Sq115 hp116 q115 => ?_)
    rcases q115 with ⟨rfl, hf114⟩
    subst ho103
    exact ⟨rfl, ⟨rfl, hf114⟩⟩
  refine wa_cv 237 rfl (wy_pr rfl) wt_237 (M2 := fun _ => False) rfl at_M_and ⟨_, rfl⟩ rfl rfl ⟨(Or.inr ⟨wy_pr rfl, fun q => q⟩), trivial⟩ trivial (fun _ _ q => False.elim q) (r5_2 hs102 ⟨⟨by omega, by omega⟩, by omega, ip⟩ _ _ _ (by omega) h) (fun oq117 Sq117 hp118 q117 => ?_)
  rcases q117 with ⟨rfl, hz108, ⟨p109, p110, p111, p112⟩, e113⟩
  show wJ _ _ _ _ _ _ _ _ _ _
  have hSq117 : rQ T n N X f0 b0 b1 S0 u dp i104 I105 F106 (pA F106) Sq117 := hz108
  have ipSq117 : ((i104 : Nat) : Int) ≤ tp T n 0 i104 := p111
  have krSq117 := kq_rg T n N X i104
  have nnSq117 := rQ_n hSq117
  have lnSq117 := px_len p112
  refine wa_istore_n (n := 1) rfl ?_
  refine wa_fall ⟨_, rfl⟩ ?_
  refine wJ_S (r6_1 hd1 ⟨⟨by omega, by omega⟩, by omega, ipSq117⟩ _ _ _ _ I.length (by omega) (by omega) hSq117 e113 (fun vb hb Zb hzb => by subst hb; exact ⟨rfl, hzb⟩) (fun ib Ib Fb tb hb Zb hzb pb eb => ?_)) ⟨rfl, rfl, trivial⟩
  subst hb
  refine wa_iload_n (n := 1) rfl ?_
  refine wa_ireturn rfl ?_
  exact ⟨rfl, hzb, ⟨by have := pb.1; omega, by have := pb.2.1; omega, pb.2.2.1, px_tr (px_tr px_rfl p112) pb.2.2.2⟩, eb⟩
theorem me_and (hd : pz_E (rR xs T n N X f0 b0 b1 S0) 2 i dp u I F o) : rR xs T n N X f0 b0 b1 S0 5 2 [] i dp u I F o := by
  show rM xs T n N X f0 b0 b1 S0 14 t_M_and [(0, (2, 237))] (fun t => some (0, t)) 1 (tE u I.length) dp u i I F o
  intro hpre M D S hD h
  obtain ⟨⟨d0, d1⟩, hlen, ip⟩ := hpre
  obtain ⟨D, rfl⟩ : ∃ E, D = E + 12 := ⟨D - 12, by omega⟩
  have krS := kq_rg T n N X i
  have nnS := rQ_n h
  have hd0 := pzE_n hd (by decide)
  refine wa_aload_n (n := 0) rfl ?_
  refine wa_iconst ?_
  rcases hd0 with ⟨v101, hs102, ho103⟩ | ⟨i104, I105, F106, t107, hs102, hd1⟩
  · refine wa_cv 237 rfl (wy_pr rfl) wt_237 (M2 := fun _ => False) rfl at_M_binary ⟨_, rfl⟩ rfl rfl ⟨(Or.inr ⟨wy_pr rfl, fun q => q⟩), trivial⟩ trivial (fun _ _ q => False.elim q) (r5_3 hs102 ⟨⟨by omega, by omega⟩, by omega, ip⟩ _ _ _ (by omega) h) (fun oq115 Sq115 hp116 q115 => ?_)
    rcases q115 with ⟨rfl, hf114⟩
    subst ho103
    exact ⟨rfl, ⟨rfl, hf114⟩⟩
  refine wa_cv 237 rfl (wy_pr rfl) wt_237 (M2 := fun _ => False) rfl at_M_binary ⟨_, rfl⟩ rfl rfl ⟨(Or.inr ⟨wy_pr rfl, fun q => q⟩), trivial⟩ trivial (fun _ _ q => False.elim q) (r5_3 hs102 ⟨⟨by omega, by omega⟩, by omega, ip⟩ _ _ _ (by omega) h) (fun oq117 Sq117 hp118 q117 => ?_)
  rcases q117 with ⟨rfl, hz108, ⟨p109, p110, p111, p112⟩, e113⟩
  show wJ _ _ _ _ _ _ _ _ _ _
  have hSq117 : rQ T n N X f0 b0 b1 S0 u dp i104 I105 F106 (pA F106) Sq117 := hz108
  have ipSq117 : ((i104 : Nat) : Int) ≤ tp T n 0 i104 := p111
  have krSq117 := kq_rg T n N X i104
  have nnSq117 := rQ_n hSq117
  have lnSq117 := px_len p112
  refine wa_istore_n (n := 1) rfl ?_
  refine wa_fall ⟨_, rfl⟩ ?_
  refine wJ_S (r6_2 hd1 ⟨⟨by omega, by omega⟩, by omega, ipSq117⟩ _ _ _ _ I.length (by omega) (by omega) hSq117 e113 (fun vb hb Zb hzb => by subst hb; exact ⟨rfl, hzb⟩) (fun ib Ib Fb tb hb Zb hzb pb eb => ?_)) ⟨rfl, rfl, trivial⟩
  subst hb
  refine wa_iload_n (n := 1) rfl ?_
  refine wa_ireturn rfl ?_
  exact ⟨rfl, hzb, ⟨by have := pb.1; omega, by have := pb.2.1; omega, pb.2.2.1, px_tr (px_tr px_rfl p112) pb.2.2.2⟩, eb⟩
theorem lp_bin (hx : 3 ≤ x ∧ x ≤ 6) (hd : pz_L (kq T n N X) (rR xs T n N X f0 b0 b1 S0) x t i dp u I F o) : rR xs T n N X f0 b0 b1 S0 6 x [t] i dp u I F o := by
  refine r6_i hx ?_
  intro hpre M D S Q m hD hm h hE hbad hgood
  obtain ⟨⟨d0, d1⟩, hlen, ip⟩ := hpre
  obtain ⟨D, rfl⟩ : ∃ E, D = E + 12 := ⟨D - 12, by omega⟩
  have krS := kq_rg T n N X i
  have nnS := rQ_n h
  refine wa_aload_n (n := 0) rfl ?_
  refine wa_iload_n (n := 1) rfl ?_
  refine wa_cv 237 rfl (wy_pr rfl) wt_237 (M2 := fun _ => False) rfl at_M_operator ⟨_, rfl⟩ rfl rfl ⟨(Or.inr ⟨wy_pr rfl, fun q => q⟩), trivial, trivial, trivial⟩ trivial (fun _ _ q => False.elim q) (opr (S := S) (l := (x - 3)) ⟨by omega, by omega⟩ h) (fun oq104 Sq104 hp105 q104 => ?_)
  rcases q104 with ⟨rfl, ⟨ks101, rfl, rg102, rg103⟩ | ⟨ks101, rfl⟩⟩
  · skip
    show wJ _ _ _ _ _ _ _ _ _ _
    have hd1 := pzL_x hd (by omega) (by omega)
    have kgks101 := lv_kr (k := (kq T n N X i)) (by omega)
    refine wa_iflt (w_rg0 (by omega) (by omega)) ⟨_, rfl⟩ (fun c106 => ?_) (fun c106 => ?_)
    · skip
      first | (exfalso; omega) | exact hgood _ _ _ _ (pzL_n hd (fun q => ks101 (by omega))) _ h ⟨by omega, by omega, ip, px_rfl⟩ hE
    · skip
      refine wa_aload_n (n := 0) rfl ?_
      refine wa_iload_n (n := 1) rfl ?_
      refine wa_cv 237 rfl (wy_pr rfl) wt_237 (M2 := fun _ => False) rfl at_M_operator ⟨_, rfl⟩ rfl rfl ⟨(Or.inr ⟨wy_pr rfl, fun q => q⟩), trivial, trivial, trivial⟩ trivial (fun _ _ q => False.elim q) (opr (S := S) (l := (x - 3)) ⟨by omega, by omega⟩ h) (fun oq110 Sq110 hp111 q110 => ?_)
      rcases q110 with ⟨rfl, ⟨ks107, rfl, rg108, rg109⟩ | ⟨ks107, rfl⟩⟩
      · skip
        show wJ _ _ _ _ _ _ _ _ _ _
        refine wa_istore_n (n := 3) rfl ?_
        refine wa_aload_n (n := 0) rfl ?_
        refine wa_cv 237 rfl (wy_pr rfl) wt_237 (M2 := fun _ => False) rfl at_M_next ⟨_, rfl⟩ rfl rfl ⟨trivial, (Or.inr ⟨wy_pr rfl, fun q => q⟩), trivial, trivial, trivial⟩ trivial (fun _ _ q => False.elim q) (nxw (S := S) h ⟨by omega, by omega, by omega, by omega, by omega⟩) (fun oq114 Sq114 hp115 q114 => ?_)
        rcases q114 with ⟨rfl, hz112, hl113⟩
        show wJ _ _ _ _ _ _ _ _ _ _
        have hSq114 : rQ T n N X f0 b0 b1 S0 u dp (i + 1) I F (pA F) Sq114 := hz112
        have ipSq114 : (((i + 1) : Nat) : Int) ≤ tp T n 0 (i + 1) := pI_nx (N := N) (X := X) ip (rQ_n h) ⟨by omega, by omega⟩
        have krSq114 := kq_rg T n N X (i + 1)
        have nnSq114 := rQ_n hSq114
        refine wa_aload_n (n := 0) rfl ?_
        refine wa_iload_n (n := 1) rfl ?_
        refine wa_iconst ?_
        refine wa_iadd ?_
        rw [show ((x - 3 + 1) : Int) = (x + 1 - 3) by omega]
        rcases hd1 with ⟨v116, hs117, ho118⟩ | ⟨i119, I120, F121, t122, hs117, hd2⟩
        · refine wa_cv 237 rfl (wy_pr rfl) wt_237 (M2 := fun _ => False) rfl at_M_binary ⟨_, rfl⟩ rfl rfl ⟨trivial, (Or.inr ⟨wy_pr rfl, fun q => q⟩), trivial, trivial, trivial⟩ trivial (fun _ _ q => False.elim q) (r5_x ⟨by omega, by omega⟩ hs117 ⟨⟨by omega, by omega⟩, by omega, ipSq114⟩ _ _ _ (by omega) hSq114) (fun oq130 Sq130 hp131 q130 => ?_)
          rcases q130 with ⟨rfl, hf129⟩
          subst ho118
          exact ⟨rfl, (hbad _ rfl _ hf129)⟩
        refine wa_cv 237 rfl (wy_pr rfl) wt_237 (M2 := fun _ => False) rfl at_M_binary ⟨_, rfl⟩ rfl rfl ⟨trivial, (Or.inr ⟨wy_pr rfl, fun q => q⟩), trivial, trivial, trivial⟩ trivial (fun _ _ q => False.elim q) (r5_x ⟨by omega, by omega⟩ hs117 ⟨⟨by omega, by omega⟩, by omega, ipSq114⟩ _ _ _ (by omega) hSq114) (fun oq132 Sq132 hp133 q132 => ?_)
        rcases q132 with ⟨rfl, hz123, ⟨p124, p125, p126, p127⟩, e128⟩
        show wJ _ _ _ _ _ _ _ _ _ _
        have hSq132 : rQ T n N X f0 b0 b1 S0 u dp i119 I120 F121 (pA F121) Sq132 := hz123
        have ipSq132 : ((i119 : Nat) : Int) ≤ tp T n 0 i119 := p126
        have krSq132 := kq_rg T n N X i119
        have nnSq132 := rQ_n hSq132
        have lnSq132 := px_len p127
        refine wa_pop (by decide) ?_
        refine wa_aload_n (n := 0) rfl ?_
        refine wa_iload_n (n := 3) rfl ?_
        refine wa_iconst ?_
        refine wa_iconst ?_
        refine wa_cv 237 rfl (wy_pr rfl) wt_237 (M2 := fun _ => False) rfl at_M_emits ⟨_, rfl⟩ rfl rfl ⟨trivial, (Or.inr ⟨wy_pr rfl, fun q => q⟩), trivial, trivial, trivial⟩ trivial (fun _ _ q => False.elim q) (emw (S := Sq132) (x := ((pz_or (kq T n N X i)), 0, 0, u)) hSq132 (by omega) rfl (by show ((pz_or (kq T n N X i)) : Int) ≠ 27; omega) (renc_id ⟨by omega, by omega, by omega, by omega⟩) ⟨by omega, by omega⟩ ⟨by omega, by omega⟩ ⟨by omega, by omega⟩) (fun oq137 Sq137 hp138 q137 => ?_)
        rcases q137 with ⟨rfl, hz134, l61135, l60136⟩
        show wJ _ _ _ _ _ _ _ _ _ _
        have hSq137 : rQ T n N X f0 b0 b1 S0 u dp i119 (I120 ++ [((pz_or (kq T n N X i)), 0, 0, u)]) F121 (pA F121) Sq137 := hz134
        have krSq137 := kq_rg T n N X i119
        have nnSq137 := rQ_n hSq137
        have hlSq137 : (I120 ++ [((pz_or (kq T n N X i)), 0, 0, u)]).length = I120.length + 1 := List.length_append
        refine wa_iconst ?_
        refine wa_istore_n (n := 2) rfl ?_
        refine wa_goto ⟨_, rfl⟩ ?_
        exact wJ_S (r6_x hx hd2 ⟨⟨by omega, by omega⟩, by omega, ipSq132⟩ _ _ _ _ m (by omega) (by omega) hSq137 (Or.inl rfl) hbad (fun ib Ib Fb tb hb Zb hzb pb eb => hgood _ _ _ _ hb Zb hzb ⟨by have := pb.1; omega, by have := pb.2.1; omega, pb.2.2.1, px_tr (px_tr (px_tr px_rfl p127) (px_ap _ _)) pb.2.2.2⟩ eb)) ⟨rfl, rfl, rfl, trivial⟩
      · skip
        exact absurd ks101 ks107
  · skip
    show wJ _ _ _ _ _ _ _ _ _ _
    refine wa_iflt (w_rg0 (by omega) (by omega)) ⟨_, rfl⟩ (fun c139 => ?_) (fun c139 => ?_)
    · skip
      first | (exfalso; omega) | exact hgood _ _ _ _ (pzL_n hd (fun q => ks101 (by omega))) _ h ⟨by omega, by omega, ip, px_rfl⟩ hE
    · skip
      exact absurd c139 (by omega)
theorem me_bin (hx : 3 ≤ x ∧ x ≤ 7) (hd : pz_E (rR xs T n N X f0 b0 b1 S0) x i dp u I F o) : rR xs T n N X f0 b0 b1 S0 5 x [] i dp u I F o := by
  refine r5_i hx ?_
  intro hpre M D S hD h
  obtain ⟨⟨d0, d1⟩, hlen, ip⟩ := hpre
  obtain ⟨D, rfl⟩ : ∃ E, D = E + 12 := ⟨D - 12, by omega⟩
  have krS := kq_rg T n N X i
  have nnS := rQ_n h
  refine wa_iload_n (n := 1) rfl ?_
  refine wa_iconst ?_
  refine wa_icmpne (w_rg0 (by omega) (by omega)) (w_rg0 (by omega) (by omega)) ⟨_, rfl⟩ (fun c101 => ?_) (fun c101 => ?_)
  · skip
    have hd0 := pzE_n hd (by omega)
    refine wa_aload_n (n := 0) rfl ?_
    refine wa_iload_n (n := 1) rfl ?_
    refine wa_iconst ?_
    refine wa_iadd ?_
    rw [show ((x - 3 + 1) : Int) = (x + 1 - 3) by omega]
    rcases hd0 with ⟨v102, hs103, ho104⟩ | ⟨i105, I106, F107, t108, hs103, hd1⟩
    · refine wa_cv 237 rfl (wy_pr rfl) wt_237 (M2 := fun _ => False) rfl at_M_binary ⟨_, rfl⟩ rfl rfl ⟨(Or.inr ⟨wy_pr rfl, fun q => q⟩), trivial, trivial⟩ trivial (fun _ _ q => False.elim q) (r5_x ⟨by omega, by omega⟩ hs103 ⟨⟨by omega, by omega⟩, by omega, ip⟩ _ _ _ (by omega) h) (fun oq116 Sq116 hp117 q116 => ?_)
      rcases q116 with ⟨rfl, hf115⟩
      subst ho104
      exact ⟨rfl, ⟨rfl, hf115⟩⟩
    refine wa_cv 237 rfl (wy_pr rfl) wt_237 (M2 := fun _ => False) rfl at_M_binary ⟨_, rfl⟩ rfl rfl ⟨(Or.inr ⟨wy_pr rfl, fun q => q⟩), trivial, trivial⟩ trivial (fun _ _ q => False.elim q) (r5_x ⟨by omega, by omega⟩ hs103 ⟨⟨by omega, by omega⟩, by omega, ip⟩ _ _ _ (by omega) h) (fun oq118 Sq118 hp119 q118 => ?_)
    rcases q118 with ⟨rfl, hz109, ⟨p110, p111, p112, p113⟩, e114⟩
    show wJ _ _ _ _ _ _ _ _ _ _
    have hSq118 : rQ T n N X f0 b0 b1 S0 u dp i105 I106 F107 (pA F107) Sq118 := hz109
    have ipSq118 : ((i105 : Nat) : Int) ≤ tp T n 0 i105 := p112
    have krSq118 := kq_rg T n N X i105
    have nnSq118 := rQ_n hSq118
    have lnSq118 := px_len p113
    refine wa_istore_n (n := 2) rfl ?_
    refine wa_fall ⟨_, rfl⟩ ?_
    refine wJ_S (r6_x ⟨by omega, by omega⟩ hd1 ⟨⟨by omega, by omega⟩, by omega, ipSq118⟩ _ _ _ _ I.length (by omega) (by omega) hSq118 e114 (fun vb hb Zb hzb => by subst hb; exact ⟨rfl, hzb⟩) (fun ib Ib Fb tb hb Zb hzb pb eb => ?_)) ⟨rfl, rfl, rfl, trivial⟩
    subst hb
    refine wa_iload_n (n := 2) rfl ?_
    refine wa_ireturn rfl ?_
    exact ⟨rfl, hzb, ⟨by have := pb.1; omega, by have := pb.2.1; omega, pb.2.2.1, px_tr (px_tr px_rfl p113) pb.2.2.2⟩, eb⟩
  · skip
    refine wa_aload_n (n := 0) rfl ?_
    obtain rfl : x = 7 := by omega
    have hd0 := pzE_7 hd
    refine wa_cv 237 rfl (wy_pr rfl) wt_237 (M2 := fun _ => False) rfl at_M_front ⟨_, rfl⟩ rfl rfl ⟨(Or.inr ⟨wy_pr rfl, fun q => q⟩), trivial, trivial⟩ trivial (fun _ _ q => False.elim q) (r7 hd0 ⟨⟨by omega, by omega⟩, by omega, ip⟩ _ _ _ (by omega) h) (fun oq Sq hq q126 => ?_)
    rcases o with v | ⟨i2, I2, F2, t2⟩
    · rcases q126 with ⟨rfl, hf⟩
      exact ⟨rfl, rfl, hf⟩
    · rcases q126 with ⟨rfl, hz, hp, he⟩
      show wJ _ _ _ _ _ _ _ _ _ _
      refine wa_ireturn rfl ?_
      exact ⟨rfl, hz, hp, he⟩
end Wc9
