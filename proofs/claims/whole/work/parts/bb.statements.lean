/-! PART bb: the Compiler's if, and its row of statements. -/
section Wbb
variable {xs : List (Nat × List Int32)} {M : Nat → Prop} {d : Nat} {A B C S Z : wS} {Q : wO → wS → Prop} {T : Int → Int} {n : Int} {N X : List (List Int)} {c i : Nat} {f u w : Int} {I : List pz_I} {F : List pz_F}
/-- jumps, each of which tells which one came ahead of it -/
def jc (S : wS) : Int → List Int → Prop
  | e, [] => e = -1
  | e, j :: J => e = j ∧ jc S (S 65 j) J
def jo (m : Int) : Int → List Int → Prop
  | _, [] => True
  | b, j :: J => (m ≤ j ∧ j < b) ∧ jo m j J
theorem jo_le {m : Int} : ∀ (J : List Int) (b b2 : Int), b ≤ b2 → jo m b J → jo m b2 J
  | [], _, _, _, _ => trivial
  | j :: J, b, b2, hb, h => ⟨⟨h.1.1, by have := h.1.2; omega⟩, h.2⟩
theorem jo_len {m : Int} (hm : 0 ≤ m) : ∀ (J : List Int) (b : Int), 0 ≤ b → jo m b J → (J.length : Int) ≤ b
  | [], _, hb, _ => hb
  | j :: J, b, hb, h => by
    have h1 := jo_len hm J j (by have := h.1.1; omega) h.2
    have h2 := h.1.2
    have h3 : ((j :: J).length : Int) = (J.length : Int) + 1 := rfl
    omega
theorem jc_ag {m : Int} (hm : 0 ≤ m) : ∀ (J : List Int) (b e : Int), (∀ x : Int, 0 ≤ x → x < b → Z 65 x = S 65 x) → jo m b J → jc S e J → jc Z e J
  | [], _, _, _, _, h => h
  | j :: J, b, e, hz, ho, h => ⟨h.1, by
    rw [hz j (by have := ho.1.1; omega) ho.1.2]
    exact jc_ag hm J j _ (fun x x0 x1 => hz x x0 (by have := ho.1.2; omega)) ho.2 h.2⟩
theorem jc_rg {m b e : Int} {J : List Int} (hm : 0 ≤ m) (ho : jo m b J) (h : jc S e J) (hb : b ≤ 1000000) : -1 ≤ e ∧ e < 1000000 := by
  cases J with
  | nil => have h2 : e = -1 := h; omega
  | cons j J => have h2 : e = j := h.1; have h3 := ho.1; omega
theorem pz_aa_len (v : Int) : ∀ (J : List Int) (I : List pz_I), (pz_aa I v J).length = I.length
  | [], _ => rfl
  | j :: J, I => by
    show (pz_aa (pz_a I j.toNat v) v J).length = I.length
    rw [pz_aa_len v J, pz_a_len]
theorem cQ_la {op a b : Int} (h : cQ T n N X c f u w i (I ++ [(op, a, b, u)]) F S) (ha : a ≠ -9) : S 65 (I.length : Int) = a := by
  have h1 := h.2.2.1.2.2.2 I.length (by rw [List.length_append]; exact Nat.lt_succ_self _)
  rw [gD_r] at h1
  exact h1.2.1 ha
/-- what a method that reads ends with, where the instructions below m stay -/
def cM (T : Int → Int) (n : Int) (N X : List (List Int)) (c : Nat) (f : Int) (G : pz_R → pz_O → Prop) (m u w : Int) (i : Nat) (I : List pz_I) (F : List pz_F) (S : wS) (o : wO) (Z : wS) : Prop := (∃ (i2 : Nat) (I2 : List pz_I) (F2 : List pz_F), o = .inl none ∧ cD T n N X f G (.inr (i2, I2, F2, 0)) ∧ cQ T n N X c f u w i2 I2 F2 Z ∧ cQg f m w S Z ∧ (i + 1 ≤ i2 ∧ I2.length + 1 * i ≤ I.length + 1 * i2 ∧ pz_le F F2 ∧ I.length ≤ I2.length)) ∨ (∃ (v : Nat) (x : Int), o = .inr v ∧ cD T n N X f G (.inl x) ∧ cQf f S Z v x)
theorem cM_tr {G G2 : pz_R → pz_O → Prop} {m : Int} {i1 : Nat} {I1 : List pz_I} {F1 : List pz_F} {S1 : wS} {o : wO} (hm : 0 ≤ m) (hw : 0 ≤ w) (g1 : cQg f m w S S1) (hi : i ≤ i1) (hl : I1.length + 1 * i ≤ I.length + 1 * i1) (hl2 : I.length ≤ I1.length) (hle : pz_le F F1) (hG : ∀ R : pz_R, pz_C (kq T n N X) (vq T n N X) (tp T n 0) f R → ∀ o : pz_O, G2 R o → G R o) (h : cM T n N X c f G2 m u w i1 I1 F1 S1 o Z) : cM T n N X c f G m u w i I F S o Z := by
  rcases h with ⟨i2, I2, F2, h1, h2, h3, h4, ⟨h5, h6, h7, h8⟩⟩ | ⟨v, x, h1, h2, h3⟩
  · exact Or.inl ⟨i2, I2, F2, h1, fun R hR => hG R hR _ (h2 R hR), h3, cQg_tr g1 h4, ⟨by omega, by omega, pz_le_tr hle h7, by omega⟩⟩
  · exact Or.inr ⟨v, x, h1, fun R hR => hG R hR _ (h2 R hR), cQf_tr g1 hm hw h3⟩
theorem ri_8 {D : Nat} {m dp v : Int} (hm : 0 ≤ m) : ∀ (J : List Int) (e q : Int) (I : List pz_I) (S : wS), cQ T n N X c f u w i I F S → jc S e J → jo m (I.length : Int) J → (0 ≤ q ∧ q + (J.length : Int) ≤ (I.length : Int)) → pz_h I u = v → wJ (pe_GA xs) wY0 (mS [64, 65, 66, 67, 69, 70]) (D + 4) t_XP_readIf ((pe_at t_XP_readIf.bl 8).getD (0, [])).2 [(0, (2, 63)), (1, (0, dp)), (2, (0, e)), (4, (0, q))] [] S (fun o Z => o = .inl none ∧ cQ T n N X c f u w i (pz_aa I v J) F Z ∧ cQg f m w S Z) := by
  intro J
  induction J with
  | nil =>
    intro e q I S h hj ho hq hv
    have he : e = -1 := hj
    have h6 := cQ_h6 h
    have e0 : (([] : List Int).length : Int) = 0 := rfl
    refine wa_iload (n := 4) rfl ?_
    refine wa_aload_n (n := 0) rfl ?_
    refine wb_gfi 63 rfl (wy_pr rfl) wt_63 wf_1_7 (v := (I.length : Int)) ((cQ_7 h)) (fun r101 => ?_)
    refine wa_icmpge (w_rg0 (by omega) (by omega)) (w_rg0 (by omega) (by omega)) ⟨_, rfl⟩ (fun c102 => ?_) (fun c102 => ?_)
    · skip
      refine wa_return rfl ?_
      exact ⟨rfl, h, cQg_rfl⟩
    · skip
      refine wa_iload_n (n := 2) rfl ?_
      refine wa_iconst ?_
      refine wa_icmpeq (w_rg0 (by omega) (by omega)) (w_rg0 (by omega) (by omega)) ⟨_, rfl⟩ (fun c103 => ?_) (fun c103 => ?_)
      · skip
        refine wa_return rfl ?_
        exact ⟨rfl, h, cQg_rfl⟩
      · skip
        exact absurd c103 (by omega)
  | cons j J ih =>
    intro e q I S h hj ho hq hv
    obtain ⟨he, hj2⟩ := hj
    obtain ⟨⟨ho1, ho2⟩, ho3⟩ := ho
    have h6 := cQ_h6 h
    obtain ⟨jn, rfl⟩ : ∃ jn : Nat, j = (jn : Int) := ⟨j.toNat, by omega⟩
    subst he
    have e0 : (((jn : Int) :: J).length : Int) = (J.length : Int) + 1 := rfl
    have hn := h.2.2.1.1
    have h7 := cQ_7 h
    have hl65 : S 65 (-1) = S 64 (-1) := hn.2.1
    have hl7 := hn.1.2
    have g0 : cQg f (I.length : Int) w S S := cQg_rfl
    refine wa_iload (n := 4) rfl ?_
    refine wa_aload_n (n := 0) rfl ?_
    refine wb_gfi 63 rfl (wy_pr rfl) wt_63 wf_1_7 (v := (I.length : Int)) ((cQ_7 h)) (fun r101 => ?_)
    refine wa_icmpge (w_rg0 (by omega) (by omega)) (w_rg0 (by omega) (by omega)) ⟨_, rfl⟩ (fun c102 => ?_) (fun c102 => ?_)
    · skip
      exact absurd c102 (by omega)
    · skip
      refine wa_iload_n (n := 2) rfl ?_
      refine wa_iconst ?_
      refine wa_icmpeq (w_rg0 (by omega) (by omega)) (w_rg0 (by omega) (by omega)) ⟨_, rfl⟩ (fun c103 => ?_) (fun c103 => ?_)
      · skip
        exact absurd c103 (by omega)
      · skip
        refine wa_aload_n (n := 0) rfl ?_
        refine wb_gf4 63 rfl (wy_pr rfl) wt_63 wf_1_4 (v := 65) wl_63_4 ?_
        refine wa_iload_n (n := 2) rfl ?_
        refine wb_iald 65 rfl (wy_pr rfl) wt_65 (n := (S 64 (-1))) (hl65) (by omega) (by omega) (v := (S 65 (jn : Int))) rfl (fun r104 => ?_)
        refine wa_istore (n := 5) rfl ?_
        refine wa_aload_n (n := 0) rfl ?_
        refine wa_iload_n (n := 2) rfl ?_
        refine wa_cv 63 rfl (wy_pr rfl) wt_63 (M2 := fun _ => False) rfl at_XP_aimHere ⟨_, rfl⟩ rfl rfl ⟨trivial, (Or.inr ⟨wy_pr rfl, fun q => q⟩), trivial, trivial, trivial, trivial⟩ trivial (fun _ _ q => False.elim q) (am_q (S := S) (j := jn) h (by omega)) (fun oq105 Sq105 hp106 q105 => ?_)
        rcases q105 with ⟨rfl, hc1, hg1, ht1, hx1⟩
        show wJ _ _ _ _ _ _ _ _ _ _
        refine wa_iload (n := 5) rfl ?_
        refine wa_istore_n (n := 2) rfl ?_
        refine wa_iinc rfl rfl ?_
        refine wa_goto ⟨_, rfl⟩ ?_
        have hc2 : cQ T n N X c f u w i (pz_a I jn v) F Sq105 := by rw [← hv]; exact hc1
        refine wJ_S (wJ_mono (ih (S 65 (jn : Int)) (q + 1) (pz_a I jn v) Sq105 hc2 (jc_ag hm J jn _ (fun x x0 x1 => hx1 x (by omega)) ho3 hj2) (jo_le J _ _ (by rw [pz_a_len]; omega) ho3) ⟨by omega, by rw [pz_a_len]; omega⟩ (by rw [pz_a_h]; exact hv)) (fun o Z hz => ⟨hz.1, hz.2.1, cQg_tr (hg1 m w ho1) hz.2.2⟩)) ⟨rfl, rfl, rfl, rfl, trivial⟩
theorem ri_1 {D m : Nat} {dp k : Int} (hX : cX xs T n N X c f m) (hS : cST xs T n N X c f m) (hD : 0 ≤ dp ∧ dp ≤ 50 ∧ 10 * (51 - dp) + 22 ≤ (D : Int)) (hw : w ≤ 20 * dp) (hk0 : 0 ≤ k) : ∀ (fu : Nat) (J : List Int) (e q : Int) (i : Nat) (I : List pz_I) (F : List pz_F) (S : wS), c - i < fu → cQ T n N X c f u w i I F S → c - i < m + 1 → I.length ≤ 1 * i → kq T n N X i = 42 → jc S e J → jo k (I.length : Int) J → k ≤ (I.length : Int) → (0 ≤ q ∧ q ≤ (i : Int)) → wJ (pe_GA xs) wY0 (mS [64, 65, 66, 67, 69, 70]) D t_XP_readIf ((pe_at t_XP_readIf.bl 1).getD (0, [])).2 [(0, (2, 63)), (1, (0, dp)), (2, (0, e)), (3, (0, 1)), (4, (0, q))] [] S (cM T n N X c f (fun R => R 3 0 J i dp u I F) k u w i I F S) := by
  obtain ⟨D, rfl⟩ : ∃ D2, D = D2 + 16 := ⟨D - 16, by omega⟩
  intro fu
  induction fu with
  | zero => intro J e q i I F S hf; exact absurd hf (Nat.not_lt_zero _)
  | succ fu ih =>
    intro J e q i I F S hfu h hm hI hk42 hjc hjo hkI hq
    have g0 : cQg f (I.length : Int) w S S := cQg_rfl
    have kr0 := kq_rg T n N X i
    have ic0 := cQ_ic h
    have hcn := cQ_cn h
    have hwr := cQ_wr h
    obtain ⟨hu1, hu2⟩ := cQ_ur h
    have her := jc_rg hk0 hjo hjc (by omega)
    refine wa_iload_n (n := 3) rfl ?_
    refine wa_ifeq (w_rg0 (by omega) (by omega)) ⟨_, rfl⟩ (fun c101 => ?_) (fun c101 => ?_)
    · skip
      exact absurd c101 (by omega)
    · skip
      refine wa_iload (n := 4) rfl ?_
      refine wa_aload_n (n := 0) rfl ?_
      refine wb_gf4 63 rfl (wy_pr rfl) wt_63 wf_1_0 (v := 14) wl_63_0 ?_
      refine wb_gfi 14 rfl (wy_pr rfl) wt_14 wf_6_3 (v := ((c : Int) + 1)) ((cQ_3 h)) (fun r102 => ?_)
      refine wa_icmpge (w_rg0 (by omega) (by omega)) (w_rg0 (by omega) (by omega)) ⟨_, rfl⟩ (fun c103 => ?_) (fun c103 => ?_)
      · skip
        exact absurd c103 (by omega)
      · skip
        refine wa_iconst ?_
        refine wa_istore_n (n := 3) rfl ?_
        refine wa_aload_n (n := 0) rfl ?_
        refine wb_gf4 63 rfl (wy_pr rfl) wt_63 wf_1_0 (v := 14) wl_63_0 ?_
        refine wa_cv 14 rfl (wy_pr rfl) wt_14 (M2 := fun _ => False) rfl at_XR_next ⟨_, rfl⟩ rfl rfl ⟨trivial, (Or.inr ⟨wy_pr rfl, fun q => q⟩), trivial, trivial, trivial, trivial⟩ trivial (fun _ _ q => False.elim q) (nx_q (S := S) h ⟨by omega, by omega⟩) (fun oq107 Sq107 hp108 q107 => ?_)
        rcases q107 with ⟨rfl, hc104, hg105, ht106⟩
        show wJ _ _ _ _ _ _ _ _ _ _
        have hSq107 : cQ T n N X c f u w (i + 1) I F Sq107 := hc104
        have gSq107 : cQg f (I.length : Int) w S Sq107 := cQg_tr g0 (hg105 _ _)
        have krSq107 := kq_rg T n N X (i + 1)
        have icSq107 := cQ_ic hSq107
        refine wa_aload_n (n := 0) rfl ?_
        refine wa_iload_n (n := 1) rfl ?_
        refine wa_cv 63 rfl (wy_pr rfl) wt_63 (M2 := mS [64, 65, 66, 67, 69, 70]) rfl at_XP_readCondition ⟨_, rfl⟩ rfl rfl ⟨trivial, (Or.inr ⟨wy_pr rfl, mS_no rfl⟩), trivial, trivial, trivial, trivial⟩ trivial (fun _ _ q => q) (rc_q (S := Sq107) hX hS hSq107 (by omega) ⟨by omega, by omega, by omega⟩ (by omega) (by omega)) (fun oq123 Sq123 hp124 q123 => ?_)
        rcases q123 with ⟨i109, I110, F111, rfl, hd112, hc113, hg114, ⟨p115, p116, p117, p118⟩⟩ | ⟨v119, x120, rfl, hd121, hz122⟩
        · skip
          show wJ _ _ _ _ _ _ _ _ _ _
          have hSq123 : cQ T n N X c f u w i109 (I110 ++ [(21, 0, 0, u)]) F111 Sq123 := hc113
          have gSq123 : cQg f (I.length : Int) w S Sq123 := cQg_tr gSq107 (cQg_mo hg114 (by omega) (by omega))
          have krSq123 := kq_rg T n N X i109
          have icSq123 := cQ_ic hSq123
          have flSq123 := p117.1
          have hlSq123 : (I110 ++ [(21, 0, 0, u)]).length = I110.length + 1 := List.length_append
          refine wa_istore (n := 5) rfl ?_
          refine wa_aload_n (n := 0) rfl ?_
          refine wa_iload_n (n := 1) rfl ?_
          refine wa_cv 63 rfl (wy_pr rfl) wt_63 (M2 := mS [64, 65, 66, 67, 69, 70]) rfl at_XP_readBlock ⟨_, rfl⟩ rfl rfl ⟨trivial, trivial, (Or.inr ⟨wy_pr rfl, mS_no rfl⟩), trivial, trivial, trivial, trivial⟩ trivial (fun _ _ q => q) (rb_q hX hS hSq123 (by omega) ⟨by omega, by omega, by omega⟩ (by omega) (by omega)) (fun oq141 Sq141 hp142 q141 => ?_)
          rcases q141 with ⟨i125, I126, F127, t128, rfl, hd129, hc130, hg131, ⟨p132, p133, p134, p135⟩, e136⟩ | ⟨v137, x138, rfl, hd139, hz140⟩
          · skip
            show wJ _ _ _ _ _ _ _ _ _ _
            have hSq141 : cQ T n N X c f u w i125 I126 F127 Sq141 := hc130
            have gSq141 : cQg f (I.length : Int) w S Sq141 := cQg_tr gSq123 (cQg_mo hg131 (by omega) (by omega))
            have krSq141 := kq_rg T n N X i125
            have icSq141 := cQ_ic hSq141
            have flSq141 := p134.1
            refine wa_aload_n (n := 0) rfl ?_
            refine wb_gf4 63 rfl (wy_pr rfl) wt_63 wf_1_0 (v := 14) wl_63_0 ?_
            refine wa_cv 14 rfl (wy_pr rfl) wt_14 (M2 := fun _ => False) rfl at_XR_kind ⟨_, rfl⟩ rfl rfl ⟨trivial, trivial, (Or.inr ⟨wy_pr rfl, fun q => q⟩), trivial, trivial, trivial, trivial⟩ trivial (fun _ _ q => False.elim q) (kd_q (S := Sq141) hSq141) (fun oq143 Sq143 hp144 q143 => ?_)
            rcases q143 with ⟨rfl, rfl⟩
            show wJ _ _ _ _ _ _ _ _ _ _
            refine wa_bipush (w_rg2 (by omega) (by omega)) ?_
            refine wa_icmpne (w_rg0 (by omega) (by omega)) (w_rg0 (by omega) (by omega)) ⟨_, rfl⟩ (fun c145 => ?_) (fun c145 => ?_)
            · skip
              refine wa_aload_n (n := 0) rfl ?_
              refine wa_iload (n := 5) rfl ?_
              refine wa_cv 63 rfl (wy_pr rfl) wt_63 (M2 := fun _ => False) rfl at_XP_aimHere ⟨_, rfl⟩ rfl rfl ⟨trivial, trivial, (Or.inr ⟨wy_pr rfl, fun q => q⟩), trivial, trivial, trivial, trivial⟩ trivial (fun _ _ q => False.elim q) (am_q (S := Sq141) (j := I110.length) hSq141 (by omega)) (fun oq150 Sq150 hp151 q150 => ?_)
              rcases q150 with ⟨rfl, hc146, hg147, ht148, hx149⟩
              show wJ _ _ _ _ _ _ _ _ _ _
              have hSq150 : cQ T n N X c f u w i125 (pz_a I126 I110.length (pz_h I126 u)) F127 Sq150 := hc146
              have gSq150 : cQg f (I.length : Int) w S Sq150 := cQg_tr gSq141 (hg147 _ _ (by omega))
              have hlSq150 : (pz_a I126 I110.length (pz_h I126 u)).length = I126.length := pz_a_len _ _ _
              refine wa_fall ⟨_, rfl⟩ ?_
              refine wa_iinc rfl rfl ?_
              refine wa_goto ⟨_, rfl⟩ ?_
              refine wa_iload_n (n := 3) rfl ?_
              refine wa_ifeq (w_rg0 (by omega) (by omega)) ⟨_, rfl⟩ (fun c152 => ?_) (fun c152 => ?_)
              · skip
                refine wa_iconst ?_
                refine wa_istore (n := 4) rfl ?_
                refine wa_fall ⟨_, rfl⟩ ?_
                have hjn : jc Sq150 e J := (jc_ag hk0 J _ _ (fun x x0 x1 => (gSq150.2.1 x x0 x1).2.1) hjo hjc)
                have hjo2 : jo k ((pz_a I126 I110.length (pz_h I126 u)).length : Int) J := jo_le J _ _ (by omega) hjo
                have hjl := jo_len hk0 J _ (by omega) hjo2
                have hal := pz_aa_len (pz_h I126 u) J (pz_a I126 I110.length (pz_h I126 u))
                refine wJ_S (wJ_mono (ri_8 (D := D + 12) (dp := dp) hk0 J e 0 (pz_a I126 I110.length (pz_h I126 u)) Sq150 hSq150 hjn hjo2 ⟨by omega, by omega⟩ (pz_a_h _ _ _ _)) (fun o Z hz => ?_)) ⟨rfl, rfl, rfl, rfl, trivial⟩
                obtain ⟨rfl, hz1, hz2⟩ := hz
                refine Or.inl ⟨_, _, _, rfl, fun R hR => ?_, hz1, cQg_tr (cQg_mo gSq150 (by omega) (by omega)) hz2, ⟨by omega, by omega, (pz_le_tr (pz_le_tr pz_le_rfl p117) p134), by omega⟩⟩
                try dsimp only
                refine pz_cCH hR ?_
                unfold pz_CH
                repeat first | rw [if_pos (by omega)] | rw [if_neg (by omega)]
                refine pz_qo (hd112 R hR) ?_
                repeat first | rw [if_pos (by omega)] | rw [if_neg (by omega)]
                first | refine pz_qo (hd129 R hR) ?_ | exact hd129 R hR
                all_goals repeat first | rw [if_pos (by omega)] | rw [if_neg (by omega)]
                all_goals first | rfl | (exfalso; omega)
              · skip
                exact absurd c152 (by omega)
            · skip
              refine wa_aload_n (n := 0) rfl ?_
              refine wa_bipush (w_rg2 (by omega) (by omega)) ?_
              refine wa_iload_n (n := 2) rfl ?_
              refine wa_iconst ?_
              refine wa_cv 63 rfl (wy_pr rfl) wt_63 (M2 := mS [64, 65, 66, 67]) rfl at_XP_note ⟨_, rfl⟩ rfl rfl ⟨trivial, trivial, (Or.inr ⟨wy_pr rfl, mS_no rfl⟩), trivial, trivial, trivial, trivial⟩ trivial (fun _ _ q => mS_sub (by decide) q) (nt_q (S := Sq141) (op := 20) (a := e) (b := 0) (l := I126.length) hSq141 ⟨by omega, by omega⟩ ⟨by omega, by omega⟩ ⟨by omega, by omega⟩ (by omega) (by omega) (by omega)) (fun oq156 Sq156 hp157 q156 => ?_)
              rcases q156 with ⟨rfl, hc153, hg154, ht155⟩
              show wJ _ _ _ _ _ _ _ _ _ _
              have hSq156 : cQ T n N X c f u w i125 (I126 ++ [(20, e, 0, u)]) F127 Sq156 := hc153
              have gSq156 : cQg f (I.length : Int) w S Sq156 := cQg_tr gSq141 (hg154 _ _ (by omega))
              have hlSq156 : (I126 ++ [(20, e, 0, u)]).length = I126.length + 1 := List.length_append
              have hl2Sq156 : (I126 ++ [(20, -9, 0, u)]).length = I126.length + 1 := List.length_append
              have h2Sq156 : cQ T n N X c f u w i125 (I126 ++ [(20, -9, 0, u)]) F127 Sq156 := cQ_any hSq156
              have eASq156 : Sq156 65 (I126.length : Int) = e := cQ_la hSq156 (by omega)
              refine wa_istore_n (n := 2) rfl ?_
              refine wa_aload_n (n := 0) rfl ?_
              refine wa_iload (n := 5) rfl ?_
              refine wa_cv 63 rfl (wy_pr rfl) wt_63 (M2 := fun _ => False) rfl at_XP_aimHere ⟨_, rfl⟩ rfl rfl ⟨trivial, trivial, trivial, (Or.inr ⟨wy_pr rfl, fun q => q⟩), trivial, trivial, trivial⟩ trivial (fun _ _ q => False.elim q) (am_q (S := Sq156) (j := I110.length) h2Sq156 (by omega)) (fun oq162 Sq162 hp163 q162 => ?_)
              rcases q162 with ⟨rfl, hc158, hg159, ht160, hx161⟩
              show wJ _ _ _ _ _ _ _ _ _ _
              have hSq162 : cQ T n N X c f u w i125 (pz_a (I126 ++ [(20, -9, 0, u)]) I110.length (pz_h (I126 ++ [(20, -9, 0, u)]) u)) F127 Sq162 := hc158
              have gSq162 : cQg f (I.length : Int) w S Sq162 := cQg_tr gSq156 (hg159 _ _ (by omega))
              have hlSq162 : (pz_a (I126 ++ [(20, -9, 0, u)]) I110.length (pz_h (I126 ++ [(20, -9, 0, u)]) u)).length = (I126 ++ [(20, -9, 0, u)]).length := pz_a_len _ _ _
              have eASq162 : Sq162 65 (I126.length : Int) = e := (hx161 _ (by omega)).trans eASq156
              refine wa_aload_n (n := 0) rfl ?_
              refine wb_gf4 63 rfl (wy_pr rfl) wt_63 wf_1_0 (v := 14) wl_63_0 ?_
              refine wa_cv 14 rfl (wy_pr rfl) wt_14 (M2 := fun _ => False) rfl at_XR_next ⟨_, rfl⟩ rfl rfl ⟨trivial, trivial, trivial, (Or.inr ⟨wy_pr rfl, fun q => q⟩), trivial, trivial, trivial⟩ trivial (fun _ _ q => False.elim q) (nx_q (S := Sq162) hSq162 ⟨by omega, by omega⟩) (fun oq167 Sq167 hp168 q167 => ?_)
              rcases q167 with ⟨rfl, hc164, hg165, ht166⟩
              show wJ _ _ _ _ _ _ _ _ _ _
              have hSq167 : cQ T n N X c f u w (i125 + 1) (pz_a (I126 ++ [(20, -9, 0, u)]) I110.length (pz_h (I126 ++ [(20, -9, 0, u)]) u)) F127 Sq167 := hc164
              have gSq167 : cQg f (I.length : Int) w S Sq167 := cQg_tr gSq162 (hg165 _ _)
              have krSq167 := kq_rg T n N X (i125 + 1)
              have icSq167 := cQ_ic hSq167
              have eASq167 : Sq167 65 (I126.length : Int) = e := ((hg165 ((I126.length : Int) + 1) 0).2.1 _ (by omega) (by omega)).2.1.trans eASq162
              refine wa_aload_n (n := 0) rfl ?_
              refine wb_gf4 63 rfl (wy_pr rfl) wt_63 wf_1_0 (v := 14) wl_63_0 ?_
              refine wa_cv 14 rfl (wy_pr rfl) wt_14 (M2 := fun _ => False) rfl at_XR_kind ⟨_, rfl⟩ rfl rfl ⟨trivial, trivial, trivial, (Or.inr ⟨wy_pr rfl, fun q => q⟩), trivial, trivial, trivial⟩ trivial (fun _ _ q => False.elim q) (kd_q (S := Sq167) hSq167) (fun oq169 Sq169 hp170 q169 => ?_)
              rcases q169 with ⟨rfl, rfl⟩
              show wJ _ _ _ _ _ _ _ _ _ _
              refine wa_bipush (w_rg2 (by omega) (by omega)) ?_
              refine wa_fall ⟨_, rfl⟩ ?_
              refine wa_icmpne (w_rg0 (by omega) (by omega)) (w_rg0 (by omega) (by omega)) ⟨_, rfl⟩ (fun c171 => ?_) (fun c171 => ?_)
              · skip
                refine wa_iconst ?_
                refine wa_fall ⟨_, rfl⟩ ?_
                refine wa_istore_n (n := 3) rfl ?_
                refine wa_iload_n (n := 3) rfl ?_
                refine wa_ifne (w_rg0 (by omega) (by omega)) ⟨_, rfl⟩ (fun c172 => ?_) (fun c172 => ?_)
                · skip
                  exact absurd c172 (by omega)
                · skip
                  refine wa_aload_n (n := 0) rfl ?_
                  refine wa_iload_n (n := 1) rfl ?_
                  refine wa_cv 63 rfl (wy_pr rfl) wt_63 (M2 := mS [64, 65, 66, 67, 69, 70]) rfl at_XP_readBlock ⟨_, rfl⟩ rfl rfl ⟨trivial, trivial, trivial, (Or.inr ⟨wy_pr rfl, mS_no rfl⟩), trivial, trivial, trivial⟩ trivial (fun _ _ q => q) (rb_q hX hS hSq167 (by omega) ⟨by omega, by omega, by omega⟩ (by omega) (by omega)) (fun oq189 Sq189 hp190 q189 => ?_)
                  rcases q189 with ⟨i173, I174, F175, t176, rfl, hd177, hc178, hg179, ⟨p180, p181, p182, p183⟩, e184⟩ | ⟨v185, x186, rfl, hd187, hz188⟩
                  · skip
                    show wJ _ _ _ _ _ _ _ _ _ _
                    have hSq189 : cQ T n N X c f u w i173 I174 F175 Sq189 := hc178
                    have gSq189 : cQg f (I.length : Int) w S Sq189 := cQg_tr gSq167 (cQg_mo hg179 (by omega) (by omega))
                    have krSq189 := kq_rg T n N X i173
                    have icSq189 := cQ_ic hSq189
                    have flSq189 := p182.1
                    have eASq189 : Sq189 65 (I126.length : Int) = e := (hg179.2.1 _ (by omega) (by omega)).2.1.trans eASq167
                    refine wa_goto ⟨_, rfl⟩ ?_
                    refine wa_iinc rfl rfl ?_
                    refine wa_goto ⟨_, rfl⟩ ?_
                    refine wa_iload_n (n := 3) rfl ?_
                    refine wa_ifeq (w_rg0 (by omega) (by omega)) ⟨_, rfl⟩ (fun c191 => ?_) (fun c191 => ?_)
                    · skip
                      refine wa_iconst ?_
                      refine wa_istore (n := 4) rfl ?_
                      refine wa_fall ⟨_, rfl⟩ ?_
                      have hjn : jc Sq189 ((I126.length : Nat) : Int) ((I126.length : Int) :: J) := ⟨rfl, by rw [eASq189]; exact (jc_ag hk0 J _ _ (fun x x0 x1 => (gSq189.2.1 x x0 x1).2.1) hjo hjc)⟩
                      have hjo2 : jo k (I174.length : Int) ((I126.length : Int) :: J) := ⟨⟨by omega, by omega⟩, jo_le J _ _ (by omega) hjo⟩
                      have hjl := jo_len hk0 ((I126.length : Int) :: J) _ (by omega) hjo2
                      have hal := pz_aa_len (pz_h I174 u) ((I126.length : Int) :: J) I174
                      refine wJ_S (wJ_mono (ri_8 (D := D + 12) (dp := dp) hk0 ((I126.length : Int) :: J) ((I126.length : Nat) : Int) 0 I174 Sq189 hSq189 hjn hjo2 ⟨by omega, by omega⟩ rfl) (fun o Z hz => ?_)) ⟨rfl, rfl, rfl, rfl, trivial⟩
                      obtain ⟨rfl, hz1, hz2⟩ := hz
                      refine Or.inl ⟨_, _, _, rfl, fun R hR => ?_, hz1, cQg_tr (cQg_mo gSq189 (by omega) (by omega)) hz2, ⟨by omega, by omega, (pz_le_tr (pz_le_tr (pz_le_tr pz_le_rfl p117) p134) p182), by omega⟩⟩
                      try dsimp only
                      refine pz_cCH hR ?_
                      unfold pz_CH
                      repeat first | rw [if_pos (by omega)] | rw [if_neg (by omega)]
                      refine pz_qo (hd112 R hR) ?_
                      repeat first | rw [if_pos (by omega)] | rw [if_neg (by omega)]
                      first | refine pz_qo (hd129 R hR) ?_ | exact hd129 R hR
                      repeat first | rw [if_pos (by omega)] | rw [if_neg (by omega)]
                      first | refine pz_qo (hd177 R hR) ?_ | exact hd177 R hR
                      all_goals repeat first | rw [if_pos (by omega)] | rw [if_neg (by omega)]
                      all_goals first | rfl | (exfalso; omega)
                    · skip
                      exact absurd c191 (by omega)
                  · skip
                    refine ⟨rfl, ?_⟩
                    refine Or.inr ⟨_, _, rfl, fun R hR => ?_, cQf_tr gSq167 (by omega) (by omega) hz188⟩
                    try dsimp only
                    refine pz_cCH hR ?_
                    unfold pz_CH
                    repeat first | rw [if_pos (by omega)] | rw [if_neg (by omega)]
                    refine pz_qo (hd112 R hR) ?_
                    repeat first | rw [if_pos (by omega)] | rw [if_neg (by omega)]
                    first | refine pz_qo (hd129 R hR) ?_ | exact hd129 R hR
                    repeat first | rw [if_pos (by omega)] | rw [if_neg (by omega)]
                    first | exact pz_qi (hd187 R hR) | exact hd187 R hR
                    all_goals repeat first | rw [if_pos (by omega)] | rw [if_neg (by omega)]
                    all_goals first | rfl | (exfalso; omega)
              · skip
                refine wa_iconst ?_
                refine wa_goto ⟨_, rfl⟩ ?_
                refine wa_istore_n (n := 3) rfl ?_
                refine wa_iload_n (n := 3) rfl ?_
                refine wa_ifne (w_rg0 (by omega) (by omega)) ⟨_, rfl⟩ (fun c192 => ?_) (fun c192 => ?_)
                · skip
                  refine wa_iinc rfl rfl ?_
                  refine wa_goto ⟨_, rfl⟩ ?_
                  have hjn : jc Sq167 (I126.length : Int) ((I126.length : Int) :: J) := ⟨rfl, by rw [eASq167]; exact (jc_ag hk0 J _ _ (fun x x0 x1 => (gSq167.2.1 x x0 x1).2.1) hjo hjc)⟩
                  refine wJ_S (wJ_mono (ih ((I126.length : Int) :: J) (I126.length : Int) (q + 1) (i125 + 1) (pz_a (I126 ++ [(20, -9, 0, u)]) I110.length (pz_h (I126 ++ [(20, -9, 0, u)]) u)) F127 Sq167 (by omega) hSq167 (by omega) (by omega) (by omega) hjn ⟨⟨by omega, by omega⟩, jo_le J _ _ (by omega) hjo⟩ (by omega) ⟨by omega, by omega⟩) (fun o Z hz => cM_tr hk0 (by omega) (cQg_mo gSq167 (by omega) (by omega)) (by omega) (by omega) (by omega) (pz_le_tr (pz_le_tr pz_le_rfl p117) p134) (fun R hR o ho => ?_) hz)) ⟨rfl, rfl, rfl, rfl, rfl, trivial⟩
                  try dsimp only
                  refine pz_cCH hR ?_
                  unfold pz_CH
                  repeat first | rw [if_pos (by omega)] | rw [if_neg (by omega)]
                  refine pz_qo (hd112 R hR) ?_
                  repeat first | rw [if_pos (by omega)] | rw [if_neg (by omega)]
                  first | refine pz_qo (hd129 R hR) ?_ | exact hd129 R hR
                  all_goals repeat first | rw [if_pos (by omega)] | rw [if_neg (by omega)]
                  all_goals exact ho
                · skip
                  exact absurd c192 (by omega)
          · skip
            refine ⟨rfl, ?_⟩
            refine Or.inr ⟨_, _, rfl, fun R hR => ?_, cQf_tr gSq123 (by omega) (by omega) hz140⟩
            try dsimp only
            refine pz_cCH hR ?_
            unfold pz_CH
            repeat first | rw [if_pos (by omega)] | rw [if_neg (by omega)]
            refine pz_qo (hd112 R hR) ?_
            repeat first | rw [if_pos (by omega)] | rw [if_neg (by omega)]
            first | exact pz_qi (hd139 R hR) | exact hd139 R hR
            all_goals repeat first | rw [if_pos (by omega)] | rw [if_neg (by omega)]
            all_goals first | rfl | (exfalso; omega)
        · skip
          refine ⟨rfl, ?_⟩
          refine Or.inr ⟨_, _, rfl, fun R hR => ?_, cQf_tr gSq107 (by omega) (by omega) hz122⟩
          try dsimp only
          refine pz_cCH hR ?_
          unfold pz_CH
          repeat first | rw [if_pos (by omega)] | rw [if_neg (by omega)]
          exact pz_qi (hd121 R hR)
          all_goals repeat first | rw [if_pos (by omega)] | rw [if_neg (by omega)]
          all_goals first | rfl | (exfalso; omega)
theorem ri_q {D m : Nat} {dp : Int} (hX : cX xs T n N X c f (m)) (hS : cST xs T n N X c f m) (h : cQ T n N X c f u w i I F S) (hm : c - i < m + 1) (hD : 0 ≤ dp ∧ dp ≤ 50 ∧ 10 * (51 - dp) + 22 ≤ (D : Int)) (hI : I.length ≤ 1 * i) (hw : w ≤ 20 * dp) (hk : kq T n N X i = 42) : wJ (pe_GA xs) wY0 (mS [64, 65, 66, 67, 69, 70]) D t_XP_readIf ((pe_at t_XP_readIf.bl 0).getD (0, [])).2 [(0, (2, 63)), (1, (0, dp))] [] S (cR T n N X c f (fun R => R 3 0 [] i dp u I F) u w i I F 1 (fun _ _ _ => True) S) := by
  have g0 : cQg f (I.length : Int) w S S := cQg_rfl
  have kr0 := kq_rg T n N X i
  have ic0 := cQ_ic h
  have hcn := cQ_cn h
  have hwr := cQ_wr h
  obtain ⟨hu1, hu2⟩ := cQ_ur h
  obtain ⟨D, rfl⟩ : ∃ D2, D = D2 + 16 := ⟨D - 16, by omega⟩
  refine wa_iconst ?_
  refine wa_istore_n (n := 2) rfl ?_
  refine wa_iconst ?_
  refine wa_istore_n (n := 3) rfl ?_
  refine wa_iconst ?_
  refine wa_istore (n := 4) rfl ?_
  refine wa_fall ⟨_, rfl⟩ ?_
  refine wJ_S (wJ_mono (ri_1 (k := (I.length : Int)) hX hS hD hw (by omega) (c + 1) [] (-1) 0 i I F S (by omega) h hm hI hk rfl trivial (by omega) ⟨by omega, by omega⟩) (fun o Z hz => ?_)) ⟨rfl, rfl, rfl, rfl, rfl, trivial⟩
  rcases hz with ⟨i2, I2, F2, h1, h2, h3, h4, h5⟩ | hz
  · exact Or.inl ⟨i2, I2, F2, 0, h1, h2, h3, h4, h5, trivial⟩
  · exact Or.inr hz
theorem ss_1 {D m : Nat} {dp : Int} (hX : cX xs T n N X c f (m + 1)) (hS : cST xs T n N X c f m) (hD : 0 ≤ dp ∧ dp ≤ 50 ∧ 10 * (51 - dp) + 24 ≤ (D : Int)) (hw : w ≤ 20 * dp) : ∀ (fu : Nat) (q : Int) (i : Nat) (I : List pz_I) (F : List pz_F) (S : wS), c - i < fu → cQ T n N X c f u w i I F S → c - i < m + 1 → I.length ≤ 1 * i → (0 ≤ q ∧ q ≤ (i : Int)) → wJ (pe_GA xs) wY0 (mS [64, 65, 66, 67, 69, 70]) D t_XP_readStatements ((pe_at t_XP_readStatements.bl 1).getD (0, [])).2 [(0, (2, 63)), (1, (0, dp)), (2, (0, q))] [] S (cR T n N X c f (fun R => R 0 0 [] i dp u I F) u w i I F 0 (fun _ _ _ => True) S) := by
  obtain ⟨D, rfl⟩ : ∃ D2, D = D2 + 16 := ⟨D - 16, by omega⟩
  have hXm := cX_le hX
  intro fu
  induction fu with
  | zero => intro q i I F S hf; exact absurd hf (Nat.not_lt_zero _)
  | succ fu ih =>
    intro q i I F S hfu h hm hI hq
    have g0 : cQg f (I.length : Int) w S S := cQg_rfl
    have kr0 := kq_rg T n N X i
    have ic0 := cQ_ic h
    have hcn := cQ_cn h
    have hwr := cQ_wr h
    obtain ⟨hu1, hu2⟩ := cQ_ur h
    refine wa_iload_n (n := 2) rfl ?_
    refine wa_aload_n (n := 0) rfl ?_
    refine wb_gf4 63 rfl (wy_pr rfl) wt_63 wf_1_0 (v := 14) wl_63_0 ?_
    refine wb_gfi 14 rfl (wy_pr rfl) wt_14 wf_6_3 (v := ((c : Int) + 1)) ((cQ_3 h)) (fun r101 => ?_)
    refine wa_icmpge (w_rg0 (by omega) (by omega)) (w_rg0 (by omega) (by omega)) ⟨_, rfl⟩ (fun c102 => ?_) (fun c102 => ?_)
    · skip
      exact absurd c102 (by omega)
    · skip
      refine wa_aload_n (n := 0) rfl ?_
      refine wb_gf4 63 rfl (wy_pr rfl) wt_63 wf_1_0 (v := 14) wl_63_0 ?_
      refine wa_cv 14 rfl (wy_pr rfl) wt_14 (M2 := fun _ => False) rfl at_XR_kind ⟨_, rfl⟩ rfl rfl ⟨(Or.inr ⟨wy_pr rfl, fun q => q⟩), trivial, trivial, trivial⟩ trivial (fun _ _ q => False.elim q) (kd_q (S := S) h) (fun oq103 Sq103 hp104 q103 => ?_)
      rcases q103 with ⟨rfl, rfl⟩
      show wJ _ _ _ _ _ _ _ _ _ _
      by_cases c105 : (kq T n N X i) = 0
      · refine wa_lw (tb := 0) (w_rg0 (by omega) (by omega)) (q := (84, 2)) (by rw [c105]; first | rfl | decide) ⟨_, rfl⟩ ?_
        refine wa_return rfl ?_
        refine Or.inl ⟨_, _, _, 0, rfl, fun R hR => ?_, h, g0, ⟨by omega, by omega, pz_le_rfl, by omega⟩, trivial⟩
        try dsimp only
        refine pz_cSS hR ?_
        unfold pz_SS
        all_goals repeat first | rw [if_pos (by omega)] | rw [if_neg (by omega)]
        all_goals first | rfl | (exfalso; omega)
      by_cases c106 : (kq T n N X i) = 13
      · refine wa_lw (tb := 0) (w_rg0 (by omega) (by omega)) (q := (84, 2)) (by rw [c106]; first | rfl | decide) ⟨_, rfl⟩ ?_
        refine wa_return rfl ?_
        refine Or.inl ⟨_, _, _, 0, rfl, fun R hR => ?_, h, g0, ⟨by omega, by omega, pz_le_rfl, by omega⟩, trivial⟩
        try dsimp only
        refine pz_cSS hR ?_
        unfold pz_SS
        all_goals repeat first | rw [if_pos (by omega)] | rw [if_neg (by omega)]
        all_goals first | rfl | (exfalso; omega)
      by_cases c107 : (kq T n N X i) = 40
      · refine wa_lw (tb := 0) (w_rg0 (by omega) (by omega)) (q := (85, 3)) (by rw [c107]; first | rfl | decide) ⟨_, rfl⟩ ?_
        refine wa_aload_n (n := 0) rfl ?_
        refine wa_iload_n (n := 1) rfl ?_
        refine wa_cv 63 rfl (wy_pr rfl) wt_63 (M2 := mS [64, 65, 66, 67, 69, 70]) rfl at_XP_readVar ⟨_, rfl⟩ rfl rfl ⟨(Or.inr ⟨wy_pr rfl, mS_no rfl⟩), trivial, trivial, trivial⟩ trivial (fun _ _ q => q) (rv_q hXm hS h (by omega) ⟨by omega, by omega, by omega⟩ (by omega) (by omega) (by omega)) (fun oq124 Sq124 hp125 q124 => ?_)
        rcases q124 with ⟨i108, I109, F110, t111, rfl, hd112, hc113, hg114, ⟨p115, p116, p117, p118⟩, e119⟩ | ⟨v120, x121, rfl, hd122, hz123⟩
        · skip
          show wJ _ _ _ _ _ _ _ _ _ _
          have hSq124 : cQ T n N X c f u w i108 I109 F110 Sq124 := hc113
          have gSq124 : cQg f (I.length : Int) w S Sq124 := cQg_tr g0 (cQg_mo hg114 (by omega) (by omega))
          have krSq124 := kq_rg T n N X i108
          have icSq124 := cQ_ic hSq124
          have flSq124 := p117.1
          refine wa_goto ⟨_, rfl⟩ ?_
          refine wa_iinc rfl rfl ?_
          refine wa_goto ⟨_, rfl⟩ ?_
          refine wJ_S (wJ_mono (ih (q + 1) i108 I109 F110 Sq124 (by omega) hSq124 (by omega) (by omega) ⟨by omega, by omega⟩) (fun o Z hz => cR_tr (by omega) gSq124 (by omega) (by omega) (by omega) (pz_le_tr pz_le_rfl p117) (fun R hR o ho => pz_cSS hR ?_) hz)) ⟨rfl, rfl, rfl, trivial⟩
          unfold pz_SS
          repeat first | rw [if_pos (by omega)] | rw [if_neg (by omega)]
          refine pz_qo (t := t111) (pz_cST hR ?_) ho
          unfold pz_ST
          repeat first | rw [if_pos (by omega)] | rw [if_neg (by omega)]
          exact hd112 R hR
        · skip
          refine ⟨rfl, ?_⟩
          refine Or.inr ⟨_, _, rfl, fun R hR => pz_cSS hR ?_, cQf_tr g0 (by omega) (by omega) hz123⟩
          unfold pz_SS
          repeat first | rw [if_pos (by omega)] | rw [if_neg (by omega)]
          refine pz_qi (pz_cST hR ?_)
          unfold pz_ST
          repeat first | rw [if_pos (by omega)] | rw [if_neg (by omega)]
          exact hd122 R hR
      by_cases c126 : (kq T n N X i) = 41
      · refine wa_lw (tb := 0) (w_rg0 (by omega) (by omega)) (q := (93, 4)) (by rw [c126]; first | rfl | decide) ⟨_, rfl⟩ ?_
        refine wa_aload_n (n := 0) rfl ?_
        refine wa_iload_n (n := 1) rfl ?_
        refine wa_cv 63 rfl (wy_pr rfl) wt_63 (M2 := mS [64, 65, 66, 67, 69, 70]) rfl at_XP_readFun ⟨_, rfl⟩ rfl rfl ⟨(Or.inr ⟨wy_pr rfl, mS_no rfl⟩), trivial, trivial, trivial⟩ trivial (fun _ _ q => q) (ru_q hXm hS h (by omega) ⟨by omega, by omega, by omega⟩ (by omega) (by omega) (by omega)) (fun oq143 Sq143 hp144 q143 => ?_)
        rcases q143 with ⟨i127, I128, F129, t130, rfl, hd131, hc132, hg133, ⟨p134, p135, p136, p137⟩, e138⟩ | ⟨v139, x140, rfl, hd141, hz142⟩
        · skip
          show wJ _ _ _ _ _ _ _ _ _ _
          have hSq143 : cQ T n N X c f u w i127 I128 F129 Sq143 := hc132
          have gSq143 : cQg f (I.length : Int) w S Sq143 := cQg_tr g0 (cQg_mo hg133 (by omega) (by omega))
          have krSq143 := kq_rg T n N X i127
          have icSq143 := cQ_ic hSq143
          have flSq143 := p136.1
          refine wa_goto ⟨_, rfl⟩ ?_
          refine wa_iinc rfl rfl ?_
          refine wa_goto ⟨_, rfl⟩ ?_
          refine wJ_S (wJ_mono (ih (q + 1) i127 I128 F129 Sq143 (by omega) hSq143 (by omega) (by omega) ⟨by omega, by omega⟩) (fun o Z hz => cR_tr (by omega) gSq143 (by omega) (by omega) (by omega) (pz_le_tr pz_le_rfl p136) (fun R hR o ho => pz_cSS hR ?_) hz)) ⟨rfl, rfl, rfl, trivial⟩
          unfold pz_SS
          repeat first | rw [if_pos (by omega)] | rw [if_neg (by omega)]
          refine pz_qo (t := t130) (pz_cST hR ?_) ho
          unfold pz_ST
          repeat first | rw [if_pos (by omega)] | rw [if_neg (by omega)]
          exact hd131 R hR
        · skip
          refine ⟨rfl, ?_⟩
          refine Or.inr ⟨_, _, rfl, fun R hR => pz_cSS hR ?_, cQf_tr g0 (by omega) (by omega) hz142⟩
          unfold pz_SS
          repeat first | rw [if_pos (by omega)] | rw [if_neg (by omega)]
          refine pz_qi (pz_cST hR ?_)
          unfold pz_ST
          repeat first | rw [if_pos (by omega)] | rw [if_neg (by omega)]
          exact hd141 R hR
      by_cases c145 : (kq T n N X i) = 42
      · refine wa_lw (tb := 0) (w_rg0 (by omega) (by omega)) (q := (101, 5)) (by rw [c145]; first | rfl | decide) ⟨_, rfl⟩ ?_
        refine wa_aload_n (n := 0) rfl ?_
        refine wa_iload_n (n := 1) rfl ?_
        refine wa_cv 63 rfl (wy_pr rfl) wt_63 (M2 := mS [64, 65, 66, 67, 69, 70]) rfl at_XP_readIf ⟨_, rfl⟩ rfl rfl ⟨(Or.inr ⟨wy_pr rfl, mS_no rfl⟩), trivial, trivial, trivial⟩ trivial (fun _ _ q => q) (ri_q hXm hS h (by omega) ⟨by omega, by omega, by omega⟩ (by omega) (by omega) (by omega)) (fun oq162 Sq162 hp163 q162 => ?_)
        rcases q162 with ⟨i146, I147, F148, t149, rfl, hd150, hc151, hg152, ⟨p153, p154, p155, p156⟩, e157⟩ | ⟨v158, x159, rfl, hd160, hz161⟩
        · skip
          show wJ _ _ _ _ _ _ _ _ _ _
          have hSq162 : cQ T n N X c f u w i146 I147 F148 Sq162 := hc151
          have gSq162 : cQg f (I.length : Int) w S Sq162 := cQg_tr g0 (cQg_mo hg152 (by omega) (by omega))
          have krSq162 := kq_rg T n N X i146
          have icSq162 := cQ_ic hSq162
          have flSq162 := p155.1
          refine wa_goto ⟨_, rfl⟩ ?_
          refine wa_iinc rfl rfl ?_
          refine wa_goto ⟨_, rfl⟩ ?_
          refine wJ_S (wJ_mono (ih (q + 1) i146 I147 F148 Sq162 (by omega) hSq162 (by omega) (by omega) ⟨by omega, by omega⟩) (fun o Z hz => cR_tr (by omega) gSq162 (by omega) (by omega) (by omega) (pz_le_tr pz_le_rfl p155) (fun R hR o ho => pz_cSS hR ?_) hz)) ⟨rfl, rfl, rfl, trivial⟩
          unfold pz_SS
          repeat first | rw [if_pos (by omega)] | rw [if_neg (by omega)]
          refine pz_qo (t := t149) (pz_cST hR ?_) ho
          unfold pz_ST
          repeat first | rw [if_pos (by omega)] | rw [if_neg (by omega)]
          exact hd150 R hR
        · skip
          refine ⟨rfl, ?_⟩
          refine Or.inr ⟨_, _, rfl, fun R hR => pz_cSS hR ?_, cQf_tr g0 (by omega) (by omega) hz161⟩
          unfold pz_SS
          repeat first | rw [if_pos (by omega)] | rw [if_neg (by omega)]
          refine pz_qi (pz_cST hR ?_)
          unfold pz_ST
          repeat first | rw [if_pos (by omega)] | rw [if_neg (by omega)]
          exact hd160 R hR
      by_cases c164 : (kq T n N X i) = 44
      · refine wa_lw (tb := 0) (w_rg0 (by omega) (by omega)) (q := (109, 6)) (by rw [c164]; first | rfl | decide) ⟨_, rfl⟩ ?_
        refine wa_aload_n (n := 0) rfl ?_
        refine wa_iload_n (n := 1) rfl ?_
        refine wa_cv 63 rfl (wy_pr rfl) wt_63 (M2 := mS [64, 65, 66, 67, 69, 70]) rfl at_XP_readWhile ⟨_, rfl⟩ rfl rfl ⟨(Or.inr ⟨wy_pr rfl, mS_no rfl⟩), trivial, trivial, trivial⟩ trivial (fun _ _ q => q) (rw_q hXm hS h (by omega) ⟨by omega, by omega, by omega⟩ (by omega) (by omega) (by omega)) (fun oq181 Sq181 hp182 q181 => ?_)
        rcases q181 with ⟨i165, I166, F167, t168, rfl, hd169, hc170, hg171, ⟨p172, p173, p174, p175⟩, e176⟩ | ⟨v177, x178, rfl, hd179, hz180⟩
        · skip
          show wJ _ _ _ _ _ _ _ _ _ _
          have hSq181 : cQ T n N X c f u w i165 I166 F167 Sq181 := hc170
          have gSq181 : cQg f (I.length : Int) w S Sq181 := cQg_tr g0 (cQg_mo hg171 (by omega) (by omega))
          have krSq181 := kq_rg T n N X i165
          have icSq181 := cQ_ic hSq181
          have flSq181 := p174.1
          refine wa_goto ⟨_, rfl⟩ ?_
          refine wa_iinc rfl rfl ?_
          refine wa_goto ⟨_, rfl⟩ ?_
          refine wJ_S (wJ_mono (ih (q + 1) i165 I166 F167 Sq181 (by omega) hSq181 (by omega) (by omega) ⟨by omega, by omega⟩) (fun o Z hz => cR_tr (by omega) gSq181 (by omega) (by omega) (by omega) (pz_le_tr pz_le_rfl p174) (fun R hR o ho => pz_cSS hR ?_) hz)) ⟨rfl, rfl, rfl, trivial⟩
          unfold pz_SS
          repeat first | rw [if_pos (by omega)] | rw [if_neg (by omega)]
          refine pz_qo (t := t168) (pz_cST hR ?_) ho
          unfold pz_ST
          repeat first | rw [if_pos (by omega)] | rw [if_neg (by omega)]
          exact hd169 R hR
        · skip
          refine ⟨rfl, ?_⟩
          refine Or.inr ⟨_, _, rfl, fun R hR => pz_cSS hR ?_, cQf_tr g0 (by omega) (by omega) hz180⟩
          unfold pz_SS
          repeat first | rw [if_pos (by omega)] | rw [if_neg (by omega)]
          refine pz_qi (pz_cST hR ?_)
          unfold pz_ST
          repeat first | rw [if_pos (by omega)] | rw [if_neg (by omega)]
          exact hd179 R hR
      by_cases c183 : (kq T n N X i) = 45
      · refine wa_lw (tb := 0) (w_rg0 (by omega) (by omega)) (q := (117, 7)) (by rw [c183]; first | rfl | decide) ⟨_, rfl⟩ ?_
        refine wa_aload_n (n := 0) rfl ?_
        refine wa_iload_n (n := 1) rfl ?_
        refine wa_cv 63 rfl (wy_pr rfl) wt_63 (M2 := mS [64, 65, 66, 67, 69, 70]) rfl at_XP_readLeaving ⟨_, rfl⟩ rfl rfl ⟨(Or.inr ⟨wy_pr rfl, mS_no rfl⟩), trivial, trivial, trivial⟩ trivial (fun _ _ q => q) (rl_q hXm hS h (by omega) ⟨by omega, by omega, by omega⟩ (by omega) (by omega) (by omega)) (fun oq200 Sq200 hp201 q200 => ?_)
        rcases q200 with ⟨i184, I185, F186, t187, rfl, hd188, hc189, hg190, ⟨p191, p192, p193, p194⟩, e195⟩ | ⟨v196, x197, rfl, hd198, hz199⟩
        · skip
          show wJ _ _ _ _ _ _ _ _ _ _
          have hSq200 : cQ T n N X c f u w i184 I185 F186 Sq200 := hc189
          have gSq200 : cQg f (I.length : Int) w S Sq200 := cQg_tr g0 (cQg_mo hg190 (by omega) (by omega))
          have krSq200 := kq_rg T n N X i184
          have icSq200 := cQ_ic hSq200
          have flSq200 := p193.1
          refine wa_goto ⟨_, rfl⟩ ?_
          refine wa_iinc rfl rfl ?_
          refine wa_goto ⟨_, rfl⟩ ?_
          refine wJ_S (wJ_mono (ih (q + 1) i184 I185 F186 Sq200 (by omega) hSq200 (by omega) (by omega) ⟨by omega, by omega⟩) (fun o Z hz => cR_tr (by omega) gSq200 (by omega) (by omega) (by omega) (pz_le_tr pz_le_rfl p193) (fun R hR o ho => pz_cSS hR ?_) hz)) ⟨rfl, rfl, rfl, trivial⟩
          unfold pz_SS
          repeat first | rw [if_pos (by omega)] | rw [if_neg (by omega)]
          refine pz_qo (t := t187) (pz_cST hR ?_) ho
          unfold pz_ST
          repeat first | rw [if_pos (by omega)] | rw [if_neg (by omega)]
          exact hd188 R hR
        · skip
          refine ⟨rfl, ?_⟩
          refine Or.inr ⟨_, _, rfl, fun R hR => pz_cSS hR ?_, cQf_tr g0 (by omega) (by omega) hz199⟩
          unfold pz_SS
          repeat first | rw [if_pos (by omega)] | rw [if_neg (by omega)]
          refine pz_qi (pz_cST hR ?_)
          unfold pz_ST
          repeat first | rw [if_pos (by omega)] | rw [if_neg (by omega)]
          exact hd198 R hR
      by_cases c202 : (kq T n N X i) = 46
      · refine wa_lw (tb := 0) (w_rg0 (by omega) (by omega)) (q := (117, 7)) (by rw [c202]; first | rfl | decide) ⟨_, rfl⟩ ?_
        refine wa_aload_n (n := 0) rfl ?_
        refine wa_iload_n (n := 1) rfl ?_
        refine wa_cv 63 rfl (wy_pr rfl) wt_63 (M2 := mS [64, 65, 66, 67, 69, 70]) rfl at_XP_readLeaving ⟨_, rfl⟩ rfl rfl ⟨(Or.inr ⟨wy_pr rfl, mS_no rfl⟩), trivial, trivial, trivial⟩ trivial (fun _ _ q => q) (rl_q hXm hS h (by omega) ⟨by omega, by omega, by omega⟩ (by omega) (by omega) (by omega)) (fun oq219 Sq219 hp220 q219 => ?_)
        rcases q219 with ⟨i203, I204, F205, t206, rfl, hd207, hc208, hg209, ⟨p210, p211, p212, p213⟩, e214⟩ | ⟨v215, x216, rfl, hd217, hz218⟩
        · skip
          show wJ _ _ _ _ _ _ _ _ _ _
          have hSq219 : cQ T n N X c f u w i203 I204 F205 Sq219 := hc208
          have gSq219 : cQg f (I.length : Int) w S Sq219 := cQg_tr g0 (cQg_mo hg209 (by omega) (by omega))
          have krSq219 := kq_rg T n N X i203
          have icSq219 := cQ_ic hSq219
          have flSq219 := p212.1
          refine wa_goto ⟨_, rfl⟩ ?_
          refine wa_iinc rfl rfl ?_
          refine wa_goto ⟨_, rfl⟩ ?_
          refine wJ_S (wJ_mono (ih (q + 1) i203 I204 F205 Sq219 (by omega) hSq219 (by omega) (by omega) ⟨by omega, by omega⟩) (fun o Z hz => cR_tr (by omega) gSq219 (by omega) (by omega) (by omega) (pz_le_tr pz_le_rfl p212) (fun R hR o ho => pz_cSS hR ?_) hz)) ⟨rfl, rfl, rfl, trivial⟩
          unfold pz_SS
          repeat first | rw [if_pos (by omega)] | rw [if_neg (by omega)]
          refine pz_qo (t := t206) (pz_cST hR ?_) ho
          unfold pz_ST
          repeat first | rw [if_pos (by omega)] | rw [if_neg (by omega)]
          exact hd207 R hR
        · skip
          refine ⟨rfl, ?_⟩
          refine Or.inr ⟨_, _, rfl, fun R hR => pz_cSS hR ?_, cQf_tr g0 (by omega) (by omega) hz218⟩
          unfold pz_SS
          repeat first | rw [if_pos (by omega)] | rw [if_neg (by omega)]
          refine pz_qi (pz_cST hR ?_)
          unfold pz_ST
          repeat first | rw [if_pos (by omega)] | rw [if_neg (by omega)]
          exact hd217 R hR
      by_cases c221 : (kq T n N X i) = 47
      · refine wa_lw (tb := 0) (w_rg0 (by omega) (by omega)) (q := (125, 8)) (by rw [c221]; first | rfl | decide) ⟨_, rfl⟩ ?_
        refine wa_aload_n (n := 0) rfl ?_
        refine wa_iload_n (n := 1) rfl ?_
        refine wa_cv 63 rfl (wy_pr rfl) wt_63 (M2 := mS [64, 65, 66, 67, 69, 70]) rfl at_XP_readTry ⟨_, rfl⟩ rfl rfl ⟨(Or.inr ⟨wy_pr rfl, mS_no rfl⟩), trivial, trivial, trivial⟩ trivial (fun _ _ q => q) (rt_q hXm hS h (by omega) ⟨by omega, by omega, by omega⟩ (by omega) (by omega) (by omega)) (fun oq238 Sq238 hp239 q238 => ?_)
        rcases q238 with ⟨i222, I223, F224, t225, rfl, hd226, hc227, hg228, ⟨p229, p230, p231, p232⟩, e233⟩ | ⟨v234, x235, rfl, hd236, hz237⟩
        · skip
          show wJ _ _ _ _ _ _ _ _ _ _
          have hSq238 : cQ T n N X c f u w i222 I223 F224 Sq238 := hc227
          have gSq238 : cQg f (I.length : Int) w S Sq238 := cQg_tr g0 (cQg_mo hg228 (by omega) (by omega))
          have krSq238 := kq_rg T n N X i222
          have icSq238 := cQ_ic hSq238
          have flSq238 := p231.1
          refine wa_goto ⟨_, rfl⟩ ?_
          refine wa_iinc rfl rfl ?_
          refine wa_goto ⟨_, rfl⟩ ?_
          refine wJ_S (wJ_mono (ih (q + 1) i222 I223 F224 Sq238 (by omega) hSq238 (by omega) (by omega) ⟨by omega, by omega⟩) (fun o Z hz => cR_tr (by omega) gSq238 (by omega) (by omega) (by omega) (pz_le_tr pz_le_rfl p231) (fun R hR o ho => pz_cSS hR ?_) hz)) ⟨rfl, rfl, rfl, trivial⟩
          unfold pz_SS
          repeat first | rw [if_pos (by omega)] | rw [if_neg (by omega)]
          refine pz_qo (t := t225) (pz_cST hR ?_) ho
          unfold pz_ST
          repeat first | rw [if_pos (by omega)] | rw [if_neg (by omega)]
          exact hd226 R hR
        · skip
          refine ⟨rfl, ?_⟩
          refine Or.inr ⟨_, _, rfl, fun R hR => pz_cSS hR ?_, cQf_tr g0 (by omega) (by omega) hz237⟩
          unfold pz_SS
          repeat first | rw [if_pos (by omega)] | rw [if_neg (by omega)]
          refine pz_qi (pz_cST hR ?_)
          unfold pz_ST
          repeat first | rw [if_pos (by omega)] | rw [if_neg (by omega)]
          exact hd236 R hR
      refine wa_lw (tb := 0) (w_rg0 (by omega) (by omega)) (q := (133, 9)) (lw_df [0, 13, 40, 41, 42, 44, 45, 46, 47] rfl (by simp only [List.mem_cons, List.not_mem_nil, or_false, not_or]; omega) (by first | rfl | decide)) ⟨_, rfl⟩ ?_
      refine wa_aload_n (n := 0) rfl ?_
      refine wa_iload_n (n := 1) rfl ?_
      refine wa_cv 63 rfl (wy_pr rfl) wt_63 (M2 := mS [64, 65, 66, 67, 69, 70]) rfl at_XP_readPlain ⟨_, rfl⟩ rfl rfl ⟨(Or.inr ⟨wy_pr rfl, mS_no rfl⟩), trivial, trivial, trivial⟩ trivial (fun _ _ q => q) (rp_q hX hS h (by omega) ⟨by omega, by omega, by omega⟩ (by omega) (by omega)) (fun oq256 Sq256 hp257 q256 => ?_)
      rcases q256 with ⟨i240, I241, F242, t243, rfl, hd244, hc245, hg246, ⟨p247, p248, p249, p250⟩, e251⟩ | ⟨v252, x253, rfl, hd254, hz255⟩
      · skip
        show wJ _ _ _ _ _ _ _ _ _ _
        have hSq256 : cQ T n N X c f u w i240 I241 F242 Sq256 := hc245
        have gSq256 : cQg f (I.length : Int) w S Sq256 := cQg_tr g0 (cQg_mo hg246 (by omega) (by omega))
        have krSq256 := kq_rg T n N X i240
        have icSq256 := cQ_ic hSq256
        have flSq256 := p249.1
        refine wa_fall ⟨_, rfl⟩ ?_
        refine wa_iinc rfl rfl ?_
        refine wa_goto ⟨_, rfl⟩ ?_
        refine wJ_S (wJ_mono (ih (q + 1) i240 I241 F242 Sq256 (by omega) hSq256 (by omega) (by omega) ⟨by omega, by omega⟩) (fun o Z hz => cR_tr (by omega) gSq256 (by omega) (by omega) (by omega) (pz_le_tr pz_le_rfl p249) (fun R hR o ho => pz_cSS hR ?_) hz)) ⟨rfl, rfl, rfl, trivial⟩
        unfold pz_SS
        repeat first | rw [if_pos (by omega)] | rw [if_neg (by omega)]
        refine pz_qo (t := t243) (pz_cST hR ?_) ho
        unfold pz_ST
        repeat first | rw [if_pos (by omega)] | rw [if_neg (by omega)]
        exact hd244 R hR
      · skip
        refine ⟨rfl, ?_⟩
        refine Or.inr ⟨_, _, rfl, fun R hR => pz_cSS hR ?_, cQf_tr g0 (by omega) (by omega) hz255⟩
        unfold pz_SS
        repeat first | rw [if_pos (by omega)] | rw [if_neg (by omega)]
        refine pz_qi (pz_cST hR ?_)
        unfold pz_ST
        repeat first | rw [if_pos (by omega)] | rw [if_neg (by omega)]
        exact hd254 R hR
theorem cST_s {m : Nat} (hX : cX xs T n N X c f (m + 1)) (hS : cST xs T n N X c f m) : cST xs T n N X c f (m + 1) := by
  intro D dp u w i I F S hm hD hI h
  refine wa_iconst ?_
  refine wa_istore_n (n := 2) rfl ?_
  refine wa_fall ⟨_, rfl⟩ ?_
  exact wJ_S (ss_1 hX hS hD hI.2 (c + 1) 0 i I F S (by omega) h hm hI.1 ⟨by omega, by omega⟩) ⟨rfl, rfl, rfl, trivial⟩
end Wbb
