/-! PART cd: the reference's values behind a (. -/
section Wcd
variable {xs : List (Nat × List Int32)} {M : Nat → Prop} {d : Nat} {A B C S Z S0 : wS} {Q : wO → wS → Prop} {T : Int → Int} {n f0 u dp b0 b1 : Int} {N X : List (List Int)} {c i k pm : Nat} {I : List pz_I} {F : List pz_F} {o : pz_O}
variable {R : pz_R} {K V P : Nat → Int} {x t : Int} {J : List Int}
theorem r11 (hx : 0 ≤ x ∧ x ≤ 8) (h : rR xs T n N X f0 b0 b1 S0 11 x J i dp u I F o) : rLq xs T n N X f0 b0 b1 S0 17 t_M_values 3 10 [(0, (2, 237)), (1, (0, x)), (2, (0, 1))] (fun t => [(0, (2, 237)), (1, (0, t))]) (fun j t => kq T n N X j = 11 ∧ (0 ≤ t ∧ t ≤ 8)) dp u i I F o ∧ ∀ w : Int, rLq xs T n N X f0 b0 b1 S0 17 t_M_builtin 3 8 [(0, (2, 237)), (1, (0, w)), (2, (0, x)), (3, (0, 1))] (fun t => [(0, (2, 237)), (1, (0, w)), (2, (0, t))]) (fun j t => kq T n N X j = 11 ∧ (0 ≤ t ∧ t ≤ 8)) dp u i I F o := (show (0 ≤ x ∧ x ≤ 8 → _) from h) hx
theorem pzV_1 (hd : pz_VL K P R 8 i dp u I F o) (h : ¬ pz_bx (K i)) : o = .inl (1 + 16 * P i) := by
  unfold pz_VL pz_fa at hd; rw [if_pos rfl] at hd
  rcases hd with z | z
  · exact z.2
  · exact absurd z.1 h
theorem pzV_4 (hd : pz_VL K P R 8 i dp u I F o) (h : pz_bx (K i)) (h2 : (K i = 10 ∨ K i = 14 ∨ K i = 12 ∨ K i = 24 ∨ K i = 28) ∧ 50 ≤ dp) : o = .inl (4 + 16 * P i) := by
  unfold pz_VL pz_fa at hd; rw [if_pos rfl] at hd
  rcases hd with z | z
  · exact absurd h z.1
  · rw [if_pos h2] at z; exact z.2
theorem pzV_6 (hd : pz_VL K P R 8 i dp u I F o) (h : pz_bx (K i)) (h2 : ¬ ((K i = 10 ∨ K i = 14 ∨ K i = 12 ∨ K i = 24 ∨ K i = 28) ∧ 50 ≤ dp)) : o = .inl (6 + 16 * P i) := by
  unfold pz_VL pz_fa at hd; rw [if_pos rfl] at hd
  rcases hd with z | z
  · exact absurd h z.1
  · rw [if_neg h2] at z; exact z.2
theorem pzV_q (hd : pz_VL K P R x i dp u I F o) (h : x ≠ 8) : pz_q (R 4 0 [] i dp u I F) (fun i I F _ o => if K i = 16 then R 11 (x + 1) [] (i + 1) dp u I F o else o = if K i = 11 then .inr (i, I, F, x + 1) else pz_fa P 1 i) o := by
  unfold pz_VL at hd; rw [if_neg h] at hd; exact hd
theorem bx_s (h : rQ T n N X f0 b0 b1 S0 u dp i I F (pA F) S) (hb : pz_bx (kq T n N X i)) : S 237 6 = 4 ↔ (kq T n N X i = 10 ∨ kq T n N X i = 14 ∨ kq T n N X i = 12 ∨ kq T n N X i = 24 ∨ kq T n N X i = 28) := by
  obtain ⟨t6, t7, t8, t9⟩ := rL_tk h.1
  have hq := kq_cs T n N X i
  have hs := sk_rx (lx_si T n 0 (tp T n 0 i))
  unfold pz_bx at hb
  omega
theorem vl_values (hX : w_X xs) (hx : 0 ≤ x ∧ x ≤ 8) (hd : pz_VL (kq T n N X) (tp T n 0) (rR xs T n N X f0 b0 b1 S0) x i dp u I F o) : rLq xs T n N X f0 b0 b1 S0 17 t_M_values 3 10 [(0, (2, 237)), (1, (0, x)), (2, (0, 1))] (fun t => [(0, (2, 237)), (1, (0, t))]) (fun j t => kq T n N X j = 11 ∧ (0 ≤ t ∧ t ≤ 8)) dp u i I F o := by
  intro hpre M D S Q hD h hbad hgood
  obtain ⟨⟨d0, d1⟩, hlen, ip⟩ := hpre
  obtain ⟨D, rfl⟩ : ∃ E, D = E + 12 := ⟨D - 12, by omega⟩
  have krS := kq_rg T n N X i
  have nnS := rQ_n h
  refine wa_iload_n (n := 2) rfl ?_
  refine wa_ifeq (w_rg0 (by omega) (by omega)) ⟨_, rfl⟩ (fun c101 => ?_) (fun c101 => ?_)
  · skip
    exact absurd c101 (by omega)
  · skip
    refine wa_iload_n (n := 1) rfl ?_
    refine wa_bipush (w_rg2 (by omega) (by omega)) ?_
    refine wa_icmpne (w_rg0 (by omega) (by omega)) (w_rg0 (by omega) (by omega)) ⟨_, rfl⟩ (fun c102 => ?_) (fun c102 => ?_)
    · skip
      have hd1 := pzV_q hd (by omega)
      refine wa_aload_n (n := 0) rfl ?_
      rcases hd1 with ⟨v103, hs104, ho105⟩ | ⟨i106, I107, F108, t109, hs104, hd2⟩
      · refine wa_cv 237 rfl (wy_pr rfl) wt_237 (M2 := fun _ => False) rfl at_M_value ⟨_, rfl⟩ rfl rfl ⟨(Or.inr ⟨wy_pr rfl, fun q => q⟩), trivial, trivial, trivial⟩ trivial (fun _ _ q => False.elim q) (r4 hs104 ⟨⟨by omega, by omega⟩, by omega, ip⟩ _ _ _ (by omega) h) (fun oq117 Sq117 hp118 q117 => ?_)
        rcases q117 with ⟨rfl, hf116⟩
        subst ho105
        exact ⟨rfl, (hbad _ rfl _ hf116)⟩
      refine wa_cv 237 rfl (wy_pr rfl) wt_237 (M2 := fun _ => False) rfl at_M_value ⟨_, rfl⟩ rfl rfl ⟨(Or.inr ⟨wy_pr rfl, fun q => q⟩), trivial, trivial, trivial⟩ trivial (fun _ _ q => False.elim q) (r4 hs104 ⟨⟨by omega, by omega⟩, by omega, ip⟩ _ _ _ (by omega) h) (fun oq119 Sq119 hp120 q119 => ?_)
      rcases q119 with ⟨rfl, hz110, ⟨p111, p112, p113, p114⟩, e115⟩
      show wJ _ _ _ _ _ _ _ _ _ _
      have hSq119 : rQ T n N X f0 b0 b1 S0 u dp i106 I107 F108 (pA F108) Sq119 := hz110
      have ipSq119 : ((i106 : Nat) : Int) ≤ tp T n 0 i106 := p113
      have krSq119 := kq_rg T n N X i106
      have nnSq119 := rQ_n hSq119
      have lnSq119 := px_len p114
      refine wa_iinc rfl rfl ?_
      refine wa_aload_n (n := 0) rfl ?_
      refine wa_bipush (w_rg2 (by omega) (by omega)) ?_
      refine wa_cv 237 rfl (wy_pr rfl) wt_237 (M2 := fun _ => False) rfl at_M_accepts ⟨_, rfl⟩ rfl rfl ⟨trivial, (Or.inr ⟨wy_pr rfl, fun q => q⟩), trivial, trivial⟩ trivial (fun _ _ q => False.elim q) (acw (S := Sq119) hSq119 (fun _ => sk_44) ⟨by decide, by decide⟩ ⟨by decide, by decide⟩) (fun oq124 Sq124 hp125 q124 => ?_)
      rcases q124 with ⟨rfl, ks121, hz122, hl123⟩ | ⟨rfl, ks121, rfl⟩
      · skip
        show wJ _ _ _ _ _ _ _ _ _ _
        have hSq124 : rQ T n N X f0 b0 b1 S0 u dp (i106 + 1) I107 F108 (pA F108) Sq124 := hz122
        have ipSq124 : (((i106 + 1) : Nat) : Int) ≤ tp T n 0 (i106 + 1) := pI_nx (N := N) (X := X) ipSq119 (rQ_n hSq119) ⟨by omega, by omega⟩
        have krSq124 := kq_rg T n N X (i106 + 1)
        have nnSq124 := rQ_n hSq124
        rw [if_pos ks121] at hd2
        refine wa_istore_n (n := 2) rfl ?_
        refine wa_goto ⟨_, rfl⟩ ?_
        exact wJ_S ((r11 ⟨by omega, by omega⟩ hd2).1 ⟨⟨by omega, by omega⟩, by omega, ipSq124⟩ _ _ _ _ (by omega) hSq124 hbad (fun ib Ib Fb tb hb Zb hzb pb eb => hgood _ _ _ _ hb Zb hzb ⟨by have := pb.1; omega, by have := pb.2.1; omega, pb.2.2.1, px_tr (px_tr px_rfl p114) pb.2.2.2⟩ eb)) ⟨rfl, rfl, rfl, trivial⟩
      · skip
        show wJ _ _ _ _ _ _ _ _ _ _
        rw [if_neg ks121] at hd2
        refine wa_istore_n (n := 2) rfl ?_
        refine wa_goto ⟨_, rfl⟩ ?_
        refine wa_iload_n (n := 2) rfl ?_
        refine wa_ifeq (w_rg0 (by omega) (by omega)) ⟨_, rfl⟩ (fun c126 => ?_) (fun c126 => ?_)
        · skip
          by_cases hk11 : (kq T n N X i106) = 11
          · rw [if_pos hk11] at hd2
            exact wJ_S (hgood _ _ _ _ hd2 _ hSq119 ⟨by omega, by omega, ipSq119, (px_tr px_rfl p114)⟩ ⟨hk11, by omega, by omega⟩) ⟨rfl, rfl, trivial⟩
          refine wa_aload_n (n := 0) rfl ?_
          refine wa_bipush (w_rg2 (by omega) (by omega)) ?_
          refine wa_cv 237 rfl (wy_pr rfl) wt_237 (M2 := fun _ => False) rfl at_M_closes ⟨_, rfl⟩ rfl rfl ⟨trivial, trivial, (Or.inr ⟨wy_pr rfl, fun q => q⟩), trivial⟩ trivial (fun _ _ q => False.elim q) (clw (S := Sq119) hSq119 ipSq119 (fun _ => sk_41) ⟨by decide, by decide⟩ ⟨by decide, by decide⟩ ⟨by omega, by omega⟩) (fun oq131 Sq131 hp132 q131 => ?_)
          rcases q131 with ⟨rfl, ks127, hz128, hl129⟩ | ⟨rfl, ks127, hf130⟩
          · skip
            exact absurd ks127 hk11
          · skip
            have ho := (show o = .inl (1 + 16 * (tp T n 0 i106)) from (by rw [if_neg hk11] at hd2; exact hd2))
            subst ho
            exact ⟨rfl, (hbad _ rfl _ hf130)⟩
        · skip
          exact absurd c126 (by omega)
    · skip
      refine wa_aload_n (n := 0) rfl ?_
      refine wa_aload_n (n := 0) rfl ?_
      refine wa_cv 237 rfl (wy_pr rfl) wt_237 (M2 := fun _ => False) rfl at_M_canBeginValue ⟨_, rfl⟩ rfl rfl ⟨(Or.inr ⟨wy_pr rfl, fun q => q⟩), trivial, trivial, trivial⟩ ⟨(Or.inr ⟨wy_pr rfl, fun q => q⟩), trivial⟩ (fun _ _ q => False.elim q) (cbw (S := S) hX h) (fun oq134 Sq134 hp135 q134 => ?_)
      rcases q134 with ⟨rfl, ⟨rfl, bx133⟩ | ⟨rfl, bx133⟩⟩
      · skip
        show wJ _ _ _ _ _ _ _ _ _ _
        refine wa_iconst ?_
        refine wa_cv 237 rfl (wy_pr rfl) wt_237 (M2 := fun _ => False) rfl at_M_must ⟨_, rfl⟩ rfl rfl ⟨(Or.inr ⟨wy_pr rfl, fun q => q⟩), trivial, trivial, trivial⟩ trivial (fun _ _ q => False.elim q) (must_ok (S := S) (g := 1) (n := 1) (by omega) ⟨by omega, by omega⟩) (fun oq137 Sq137 hp138 q137 => ?_)
        rcases q137 with ⟨hg136, rfl, rfl⟩ | ⟨hg136, rfl, rfl⟩
        · skip
          show wJ _ _ _ _ _ _ _ _ _ _
          refine wa_aload_n (n := 0) rfl ?_
          refine wb_gfi 237 rfl (wy_pr rfl) wt_237 wf_15_6 (v := (S 237 6)) rfl (fun r139 => ?_)
          refine wa_iconst ?_
          refine wa_icmpne (w_rg0 (by omega) (by omega)) (w_rg0 (by omega) (by omega)) ⟨_, rfl⟩ (fun c140 => ?_) (fun c140 => ?_)
          · skip
            refine wa_iconst ?_
            refine wa_fall ⟨_, rfl⟩ ?_
            refine wa_istore_n (n := 3) rfl ?_
            refine wa_aload_n (n := 0) rfl ?_
            refine wa_iload_n (n := 3) rfl ?_
            refine wa_ifeq (w_rg0 (by omega) (by omega)) ⟨_, rfl⟩ (fun c141 => ?_) (fun c141 => ?_)
            · skip
              refine wa_iconst ?_
              refine wa_goto ⟨_, rfl⟩ ?_
              refine wa_iconst ?_
              refine wa_cv 237 rfl (wy_pr rfl) wt_237 (M2 := fun _ => False) rfl at_M_must ⟨_, rfl⟩ rfl rfl ⟨trivial, (Or.inr ⟨wy_pr rfl, fun q => q⟩), trivial, trivial, trivial⟩ trivial (fun _ _ q => False.elim q) (must_ok (S := S) (g := 1) (n := 4) (by omega) ⟨by omega, by omega⟩) (fun oq143 Sq143 hp144 q143 => ?_)
              rcases q143 with ⟨hg142, rfl, rfl⟩ | ⟨hg142, rfl, rfl⟩
              · skip
                show wJ _ _ _ _ _ _ _ _ _ _
                refine wa_aload_n (n := 0) rfl ?_
                refine wa_bipush (w_rg2 (by omega) (by omega)) ?_
                refine wa_cv 237 rfl (wy_pr rfl) wt_237 (M2 := fun _ => False) rfl at_M_fault ⟨_, rfl⟩ rfl rfl ⟨trivial, (Or.inr ⟨wy_pr rfl, fun q => q⟩), trivial, trivial, trivial⟩ trivial (fun _ _ q => False.elim q) (fault_ok (S := S) (n := 6) ⟨by omega, by omega⟩) (fun oq145 Sq145 hp146 q145 => ?_)
                rcases q145 with ⟨rfl, rfl⟩
                have ho := pzV_6 (by rw [show (8 : Int) = x by omega]; exact hd) bx133 (fun z => by have := (bx_s h bx133).2 z.1; omega)
                subst ho
                exact ⟨rfl, (hbad _ rfl _ (rFu_mk h ip))⟩
              · skip
                exact absurd hg142 (by decide)
            · skip
              exact absurd c141 (by omega)
          · skip
            refine wa_iconst ?_
            refine wa_goto ⟨_, rfl⟩ ?_
            refine wa_istore_n (n := 3) rfl ?_
            refine wa_aload_n (n := 0) rfl ?_
            refine wa_iload_n (n := 3) rfl ?_
            refine wa_ifeq (w_rg0 (by omega) (by omega)) ⟨_, rfl⟩ (fun c147 => ?_) (fun c147 => ?_)
            · skip
              exact absurd c147 (by omega)
            · skip
              refine wa_aload_n (n := 0) rfl ?_
              refine wb_gfi 237 rfl (wy_pr rfl) wt_237 wf_15_29 (v := dp) ((rQ_29 h)) (fun r148 => ?_)
              refine wa_bipush (w_rg2 (by omega) (by omega)) ?_
              refine wa_icmpge (w_rg0 (by omega) (by omega)) (w_rg0 (by omega) (by omega)) ⟨_, rfl⟩ (fun c149 => ?_) (fun c149 => ?_)
              · skip
                refine wa_iconst ?_
                refine wa_fall ⟨_, rfl⟩ ?_
                refine wa_iconst ?_
                refine wa_cv 237 rfl (wy_pr rfl) wt_237 (M2 := fun _ => False) rfl at_M_must ⟨_, rfl⟩ rfl rfl ⟨trivial, (Or.inr ⟨wy_pr rfl, fun q => q⟩), trivial, trivial, trivial⟩ trivial (fun _ _ q => False.elim q) (must_ok (S := S) (g := 0) (n := 4) (by omega) ⟨by omega, by omega⟩) (fun oq151 Sq151 hp152 q151 => ?_)
                rcases q151 with ⟨hg150, rfl, rfl⟩ | ⟨hg150, rfl, rfl⟩
                · skip
                  exact absurd hg150 (by decide)
                · skip
                  have ho := pzV_4 (by rw [show (8 : Int) = x by omega]; exact hd) bx133 ⟨(bx_s h bx133).1 (by omega), by omega⟩
                  subst ho
                  exact ⟨rfl, (hbad _ rfl _ (rFu_mk h ip))⟩
              · skip
                refine wa_fall ⟨_, rfl⟩ ?_
                refine wa_iconst ?_
                refine wa_goto ⟨_, rfl⟩ ?_
                refine wa_iconst ?_
                refine wa_cv 237 rfl (wy_pr rfl) wt_237 (M2 := fun _ => False) rfl at_M_must ⟨_, rfl⟩ rfl rfl ⟨trivial, (Or.inr ⟨wy_pr rfl, fun q => q⟩), trivial, trivial, trivial⟩ trivial (fun _ _ q => False.elim q) (must_ok (S := S) (g := 1) (n := 4) (by omega) ⟨by omega, by omega⟩) (fun oq154 Sq154 hp155 q154 => ?_)
                rcases q154 with ⟨hg153, rfl, rfl⟩ | ⟨hg153, rfl, rfl⟩
                · skip
                  show wJ _ _ _ _ _ _ _ _ _ _
                  refine wa_aload_n (n := 0) rfl ?_
                  refine wa_bipush (w_rg2 (by omega) (by omega)) ?_
                  refine wa_cv 237 rfl (wy_pr rfl) wt_237 (M2 := fun _ => False) rfl at_M_fault ⟨_, rfl⟩ rfl rfl ⟨trivial, (Or.inr ⟨wy_pr rfl, fun q => q⟩), trivial, trivial, trivial⟩ trivial (fun _ _ q => False.elim q) (fault_ok (S := S) (n := 6) ⟨by omega, by omega⟩) (fun oq156 Sq156 hp157 q156 => ?_)
                  rcases q156 with ⟨rfl, rfl⟩
                  have ho := pzV_6 (by rw [show (8 : Int) = x by omega]; exact hd) bx133 (fun z => by have := (bx_s h bx133).2 z.1; omega)
                  subst ho
                  exact ⟨rfl, (hbad _ rfl _ (rFu_mk h ip))⟩
                · skip
                  exact absurd hg153 (by decide)
        · skip
          exact absurd hg136 (by decide)
      · skip
        show wJ _ _ _ _ _ _ _ _ _ _
        refine wa_iconst ?_
        refine wa_cv 237 rfl (wy_pr rfl) wt_237 (M2 := fun _ => False) rfl at_M_must ⟨_, rfl⟩ rfl rfl ⟨(Or.inr ⟨wy_pr rfl, fun q => q⟩), trivial, trivial, trivial⟩ trivial (fun _ _ q => False.elim q) (must_ok (S := S) (g := 0) (n := 1) (by omega) ⟨by omega, by omega⟩) (fun oq159 Sq159 hp160 q159 => ?_)
        rcases q159 with ⟨hg158, rfl, rfl⟩ | ⟨hg158, rfl, rfl⟩
        · skip
          exact absurd hg158 (by decide)
        · skip
          have ho := pzV_1 (by rw [show (8 : Int) = x by omega]; exact hd) bx133
          subst ho
          exact ⟨rfl, (hbad _ rfl _ (rFu_mk h ip))⟩
theorem vl_builtin {w : Int} (hX : w_X xs) (hx : 0 ≤ x ∧ x ≤ 8) (hd : pz_VL (kq T n N X) (tp T n 0) (rR xs T n N X f0 b0 b1 S0) x i dp u I F o) : rLq xs T n N X f0 b0 b1 S0 17 t_M_builtin 3 8 [(0, (2, 237)), (1, (0, w)), (2, (0, x)), (3, (0, 1))] (fun t => [(0, (2, 237)), (1, (0, w)), (2, (0, t))]) (fun j t => kq T n N X j = 11 ∧ (0 ≤ t ∧ t ≤ 8)) dp u i I F o := by
  intro hpre M D S Q hD h hbad hgood
  obtain ⟨⟨d0, d1⟩, hlen, ip⟩ := hpre
  obtain ⟨D, rfl⟩ : ∃ E, D = E + 12 := ⟨D - 12, by omega⟩
  have krS := kq_rg T n N X i
  have nnS := rQ_n h
  refine wa_iload_n (n := 3) rfl ?_
  refine wa_ifeq (w_rg0 (by omega) (by omega)) ⟨_, rfl⟩ (fun c101 => ?_) (fun c101 => ?_)
  · skip
    exact absurd c101 (by omega)
  · skip
    refine wa_iload_n (n := 2) rfl ?_
    refine wa_bipush (w_rg2 (by omega) (by omega)) ?_
    refine wa_icmpne (w_rg0 (by omega) (by omega)) (w_rg0 (by omega) (by omega)) ⟨_, rfl⟩ (fun c102 => ?_) (fun c102 => ?_)
    · skip
      have hd1 := pzV_q hd (by omega)
      refine wa_aload_n (n := 0) rfl ?_
      rcases hd1 with ⟨v103, hs104, ho105⟩ | ⟨i106, I107, F108, t109, hs104, hd2⟩
      · refine wa_cv 237 rfl (wy_pr rfl) wt_237 (M2 := fun _ => False) rfl at_M_value ⟨_, rfl⟩ rfl rfl ⟨(Or.inr ⟨wy_pr rfl, fun q => q⟩), trivial, trivial, trivial, trivial⟩ trivial (fun _ _ q => False.elim q) (r4 hs104 ⟨⟨by omega, by omega⟩, by omega, ip⟩ _ _ _ (by omega) h) (fun oq117 Sq117 hp118 q117 => ?_)
        rcases q117 with ⟨rfl, hf116⟩
        subst ho105
        exact ⟨rfl, (hbad _ rfl _ hf116)⟩
      refine wa_cv 237 rfl (wy_pr rfl) wt_237 (M2 := fun _ => False) rfl at_M_value ⟨_, rfl⟩ rfl rfl ⟨(Or.inr ⟨wy_pr rfl, fun q => q⟩), trivial, trivial, trivial, trivial⟩ trivial (fun _ _ q => False.elim q) (r4 hs104 ⟨⟨by omega, by omega⟩, by omega, ip⟩ _ _ _ (by omega) h) (fun oq119 Sq119 hp120 q119 => ?_)
      rcases q119 with ⟨rfl, hz110, ⟨p111, p112, p113, p114⟩, e115⟩
      show wJ _ _ _ _ _ _ _ _ _ _
      have hSq119 : rQ T n N X f0 b0 b1 S0 u dp i106 I107 F108 (pA F108) Sq119 := hz110
      have ipSq119 : ((i106 : Nat) : Int) ≤ tp T n 0 i106 := p113
      have krSq119 := kq_rg T n N X i106
      have nnSq119 := rQ_n hSq119
      have lnSq119 := px_len p114
      refine wa_iinc rfl rfl ?_
      refine wa_aload_n (n := 0) rfl ?_
      refine wa_bipush (w_rg2 (by omega) (by omega)) ?_
      refine wa_cv 237 rfl (wy_pr rfl) wt_237 (M2 := fun _ => False) rfl at_M_accepts ⟨_, rfl⟩ rfl rfl ⟨trivial, (Or.inr ⟨wy_pr rfl, fun q => q⟩), trivial, trivial, trivial⟩ trivial (fun _ _ q => False.elim q) (acw (S := Sq119) hSq119 (fun _ => sk_44) ⟨by decide, by decide⟩ ⟨by decide, by decide⟩) (fun oq124 Sq124 hp125 q124 => ?_)
      rcases q124 with ⟨rfl, ks121, hz122, hl123⟩ | ⟨rfl, ks121, rfl⟩
      · skip
        show wJ _ _ _ _ _ _ _ _ _ _
        have hSq124 : rQ T n N X f0 b0 b1 S0 u dp (i106 + 1) I107 F108 (pA F108) Sq124 := hz122
        have ipSq124 : (((i106 + 1) : Nat) : Int) ≤ tp T n 0 (i106 + 1) := pI_nx (N := N) (X := X) ipSq119 (rQ_n hSq119) ⟨by omega, by omega⟩
        have krSq124 := kq_rg T n N X (i106 + 1)
        have nnSq124 := rQ_n hSq124
        rw [if_pos ks121] at hd2
        refine wa_istore_n (n := 3) rfl ?_
        refine wa_goto ⟨_, rfl⟩ ?_
        exact wJ_S ((r11 ⟨by omega, by omega⟩ hd2).2 w ⟨⟨by omega, by omega⟩, by omega, ipSq124⟩ _ _ _ _ (by omega) hSq124 hbad (fun ib Ib Fb tb hb Zb hzb pb eb => hgood _ _ _ _ hb Zb hzb ⟨by have := pb.1; omega, by have := pb.2.1; omega, pb.2.2.1, px_tr (px_tr px_rfl p114) pb.2.2.2⟩ eb)) ⟨rfl, rfl, rfl, rfl, trivial⟩
      · skip
        show wJ _ _ _ _ _ _ _ _ _ _
        rw [if_neg ks121] at hd2
        refine wa_istore_n (n := 3) rfl ?_
        refine wa_goto ⟨_, rfl⟩ ?_
        refine wa_iload_n (n := 3) rfl ?_
        refine wa_ifeq (w_rg0 (by omega) (by omega)) ⟨_, rfl⟩ (fun c126 => ?_) (fun c126 => ?_)
        · skip
          by_cases hk11 : (kq T n N X i106) = 11
          · rw [if_pos hk11] at hd2
            exact wJ_S (hgood _ _ _ _ hd2 _ hSq119 ⟨by omega, by omega, ipSq119, (px_tr px_rfl p114)⟩ ⟨hk11, by omega, by omega⟩) ⟨rfl, rfl, rfl, trivial⟩
          refine wa_aload_n (n := 0) rfl ?_
          refine wa_aload_n (n := 0) rfl ?_
          refine wa_bipush (w_rg2 (by omega) (by omega)) ?_
          refine wa_cv 237 rfl (wy_pr rfl) wt_237 (M2 := fun _ => False) rfl at_M_isSign ⟨_, rfl⟩ rfl rfl ⟨trivial, trivial, (Or.inr ⟨wy_pr rfl, fun q => q⟩), trivial, trivial⟩ ⟨(Or.inr ⟨wy_pr rfl, fun q => q⟩), trivial⟩ (fun _ _ q => False.elim q) (isw (S := Sq119) hSq119 (fun _ => sk_41) ⟨by decide, by decide⟩ ⟨by decide, by decide⟩) (fun oq128 Sq128 hp129 q128 => ?_)
          rcases q128 with ⟨rfl, ⟨rfl, ks127⟩ | ⟨rfl, ks127⟩⟩
          · skip
            exact absurd ks127 hk11
          · skip
            show wJ _ _ _ _ _ _ _ _ _ _
            refine wa_iconst ?_
            refine wa_cv 237 rfl (wy_pr rfl) wt_237 (M2 := fun _ => False) rfl at_M_must ⟨_, rfl⟩ rfl rfl ⟨trivial, trivial, (Or.inr ⟨wy_pr rfl, fun q => q⟩), trivial, trivial⟩ trivial (fun _ _ q => False.elim q) (must_ok (S := Sq119) (g := 0) (n := 1) (by omega) ⟨by omega, by omega⟩) (fun oq131 Sq131 hp132 q131 => ?_)
            rcases q131 with ⟨hg130, rfl, rfl⟩ | ⟨hg130, rfl, rfl⟩
            · skip
              exact absurd hg130 (by decide)
            · skip
              have ho := (show o = .inl (1 + 16 * (tp T n 0 i106)) from (by rw [if_neg hk11] at hd2; exact hd2))
              subst ho
              exact ⟨rfl, (hbad _ rfl _ (rFu_mk hSq119 ipSq119))⟩
        · skip
          exact absurd c126 (by omega)
    · skip
      refine wa_aload_n (n := 0) rfl ?_
      refine wa_aload_n (n := 0) rfl ?_
      refine wa_cv 237 rfl (wy_pr rfl) wt_237 (M2 := fun _ => False) rfl at_M_canBeginValue ⟨_, rfl⟩ rfl rfl ⟨(Or.inr ⟨wy_pr rfl, fun q => q⟩), trivial, trivial, trivial, trivial⟩ ⟨(Or.inr ⟨wy_pr rfl, fun q => q⟩), trivial⟩ (fun _ _ q => False.elim q) (cbw (S := S) hX h) (fun oq134 Sq134 hp135 q134 => ?_)
      rcases q134 with ⟨rfl, ⟨rfl, bx133⟩ | ⟨rfl, bx133⟩⟩
      · skip
        show wJ _ _ _ _ _ _ _ _ _ _
        refine wa_iconst ?_
        refine wa_cv 237 rfl (wy_pr rfl) wt_237 (M2 := fun _ => False) rfl at_M_must ⟨_, rfl⟩ rfl rfl ⟨(Or.inr ⟨wy_pr rfl, fun q => q⟩), trivial, trivial, trivial, trivial⟩ trivial (fun _ _ q => False.elim q) (must_ok (S := S) (g := 1) (n := 1) (by omega) ⟨by omega, by omega⟩) (fun oq137 Sq137 hp138 q137 => ?_)
        rcases q137 with ⟨hg136, rfl, rfl⟩ | ⟨hg136, rfl, rfl⟩
        · skip
          show wJ _ _ _ _ _ _ _ _ _ _
          refine wa_aload_n (n := 0) rfl ?_
          refine wa_aload_n (n := 0) rfl ?_
          refine wb_gfi 237 rfl (wy_pr rfl) wt_237 wf_15_6 (v := (S 237 6)) rfl (fun r139 => ?_)
          refine wa_iconst ?_
          refine wa_icmpne (w_rg0 (by omega) (by omega)) (w_rg0 (by omega) (by omega)) ⟨_, rfl⟩ (fun c140 => ?_) (fun c140 => ?_)
          · skip
            refine wa_iconst ?_
            refine wa_goto ⟨_, rfl⟩ ?_
            refine wa_iconst ?_
            refine wa_cv 237 rfl (wy_pr rfl) wt_237 (M2 := fun _ => False) rfl at_M_must ⟨_, rfl⟩ rfl rfl ⟨(Or.inr ⟨wy_pr rfl, fun q => q⟩), trivial, trivial, trivial, trivial⟩ trivial (fun _ _ q => False.elim q) (must_ok (S := S) (g := 1) (n := 4) (by omega) ⟨by omega, by omega⟩) (fun oq142 Sq142 hp143 q142 => ?_)
            rcases q142 with ⟨hg141, rfl, rfl⟩ | ⟨hg141, rfl, rfl⟩
            · skip
              show wJ _ _ _ _ _ _ _ _ _ _
              refine wa_aload_n (n := 0) rfl ?_
              refine wa_bipush (w_rg2 (by omega) (by omega)) ?_
              refine wa_cv 237 rfl (wy_pr rfl) wt_237 (M2 := fun _ => False) rfl at_M_fault ⟨_, rfl⟩ rfl rfl ⟨(Or.inr ⟨wy_pr rfl, fun q => q⟩), trivial, trivial, trivial, trivial⟩ trivial (fun _ _ q => False.elim q) (fault_ok (S := S) (n := 6) ⟨by omega, by omega⟩) (fun oq144 Sq144 hp145 q144 => ?_)
              rcases q144 with ⟨rfl, rfl⟩
              have ho := pzV_6 (by rw [show (8 : Int) = x by omega]; exact hd) bx133 (fun z => by have := (bx_s h bx133).2 z.1; omega)
              subst ho
              exact ⟨rfl, (hbad _ rfl _ (rFu_mk h ip))⟩
            · skip
              exact absurd hg141 (by decide)
          · skip
            refine wa_aload_n (n := 0) rfl ?_
            refine wb_gfi 237 rfl (wy_pr rfl) wt_237 wf_15_29 (v := dp) ((rQ_29 h)) (fun r146 => ?_)
            refine wa_bipush (w_rg2 (by omega) (by omega)) ?_
            refine wa_icmpge (w_rg0 (by omega) (by omega)) (w_rg0 (by omega) (by omega)) ⟨_, rfl⟩ (fun c147 => ?_) (fun c147 => ?_)
            · skip
              refine wa_iconst ?_
              refine wa_fall ⟨_, rfl⟩ ?_
              refine wa_iconst ?_
              refine wa_cv 237 rfl (wy_pr rfl) wt_237 (M2 := fun _ => False) rfl at_M_must ⟨_, rfl⟩ rfl rfl ⟨(Or.inr ⟨wy_pr rfl, fun q => q⟩), trivial, trivial, trivial, trivial⟩ trivial (fun _ _ q => False.elim q) (must_ok (S := S) (g := 0) (n := 4) (by omega) ⟨by omega, by omega⟩) (fun oq149 Sq149 hp150 q149 => ?_)
              rcases q149 with ⟨hg148, rfl, rfl⟩ | ⟨hg148, rfl, rfl⟩
              · skip
                exact absurd hg148 (by decide)
              · skip
                have ho := pzV_4 (by rw [show (8 : Int) = x by omega]; exact hd) bx133 ⟨(bx_s h bx133).1 (by omega), by omega⟩
                subst ho
                exact ⟨rfl, (hbad _ rfl _ (rFu_mk h ip))⟩
            · skip
              refine wa_fall ⟨_, rfl⟩ ?_
              refine wa_iconst ?_
              refine wa_goto ⟨_, rfl⟩ ?_
              refine wa_iconst ?_
              refine wa_cv 237 rfl (wy_pr rfl) wt_237 (M2 := fun _ => False) rfl at_M_must ⟨_, rfl⟩ rfl rfl ⟨(Or.inr ⟨wy_pr rfl, fun q => q⟩), trivial, trivial, trivial, trivial⟩ trivial (fun _ _ q => False.elim q) (must_ok (S := S) (g := 1) (n := 4) (by omega) ⟨by omega, by omega⟩) (fun oq152 Sq152 hp153 q152 => ?_)
              rcases q152 with ⟨hg151, rfl, rfl⟩ | ⟨hg151, rfl, rfl⟩
              · skip
                show wJ _ _ _ _ _ _ _ _ _ _
                refine wa_aload_n (n := 0) rfl ?_
                refine wa_bipush (w_rg2 (by omega) (by omega)) ?_
                refine wa_cv 237 rfl (wy_pr rfl) wt_237 (M2 := fun _ => False) rfl at_M_fault ⟨_, rfl⟩ rfl rfl ⟨(Or.inr ⟨wy_pr rfl, fun q => q⟩), trivial, trivial, trivial, trivial⟩ trivial (fun _ _ q => False.elim q) (fault_ok (S := S) (n := 6) ⟨by omega, by omega⟩) (fun oq154 Sq154 hp155 q154 => ?_)
                rcases q154 with ⟨rfl, rfl⟩
                have ho := pzV_6 (by rw [show (8 : Int) = x by omega]; exact hd) bx133 (fun z => by have := (bx_s h bx133).2 z.1; omega)
                subst ho
                exact ⟨rfl, (hbad _ rfl _ (rFu_mk h ip))⟩
              · skip
                exact absurd hg151 (by decide)
        · skip
          exact absurd hg136 (by decide)
      · skip
        show wJ _ _ _ _ _ _ _ _ _ _
        refine wa_iconst ?_
        refine wa_cv 237 rfl (wy_pr rfl) wt_237 (M2 := fun _ => False) rfl at_M_must ⟨_, rfl⟩ rfl rfl ⟨(Or.inr ⟨wy_pr rfl, fun q => q⟩), trivial, trivial, trivial, trivial⟩ trivial (fun _ _ q => False.elim q) (must_ok (S := S) (g := 0) (n := 1) (by omega) ⟨by omega, by omega⟩) (fun oq157 Sq157 hp158 q157 => ?_)
        rcases q157 with ⟨hg156, rfl, rfl⟩ | ⟨hg156, rfl, rfl⟩
        · skip
          exact absurd hg156 (by decide)
        · skip
          have ho := pzV_1 (by rw [show (8 : Int) = x by omega]; exact hd) bx133
          subst ho
          exact ⟨rfl, (hbad _ rfl _ (rFu_mk h ip))⟩
end Wcd
