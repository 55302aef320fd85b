/-! PART bc: the Compiler's ES, lists, objects, builtins, firsts. -/
section Wbc
variable {xs : List (Nat × List Int32)} {M : Nat → Prop} {d : Nat} {A B C S Z : wS} {Q : wO → wS → Prop} {T : Int → Int} {n : Int} {N X : List (List Int)} {c i : Nat} {f u w : Int} {I : List pz_I} {F : List pz_F}
/-- what an assignment takes for its target stands last -/
def tl_I (u : Int) (m : Nat) (t : Int) (I2 : List pz_I) : Prop := t = 0 ∨ ∃ (I3 : List pz_I) (x : pz_I), I2 = I3 ++ [x] ∧ m ≤ I3.length ∧ x.2.2.2 = u ∧ ((t = 1 ∧ x.1 = 3 ∧ 0 ≤ x.2.1 ∧ x.2.1 ≤ 2147483647) ∨ ((t = 2 ∨ t = 3) ∧ x.1 = 27 ∧ -2147483648 ≤ x.2.2.1 ∧ x.2.2.1 ≤ 2147483647))
theorem cQ_k (h : cQ T n N X c f u w i I F S) : S 15 (S 14 4) = kq T n N X i := by rw [h.1.2.1]; exact (qx_at h.1.1 h.1.2).2.2.1
def tx_101 : List Int32 := [1, 1, 1, 2, 2, 2, 1, 1]
theorem pz_wa_rg (k : Int) : 1 ≤ pz_wa k ∧ pz_wa k ≤ 2 := by unfold pz_wa; split <;> omega
theorem wa_101 {k : Int} (h : 54 ≤ k ∧ k < 62) : w_tx tx_101 (k - 54) = pz_wa k := by
  have h2 : k = 54 ∨ k = 55 ∨ k = 56 ∨ k = 57 ∨ k = 58 ∨ k = 59 ∨ k = 60 ∨ k = 61 := by omega
  rcases h2 with rfl | rfl | rfl | rfl | rfl | rfl | rfl | rfl <;> decide +kernel
theorem cV_tr {G G2 : pz_R → pz_O → Prop} {E : Int → List pz_I → wS → Prop} {i1 e e1 : Nat} {I1 : List pz_I} {F1 : List pz_F} {S1 : wS} {o : wO} (hw : 0 ≤ w) (g1 : cQg f (I.length : Int) w S S1) (hi : i + e ≤ i1 + e1) (hl : I1.length + 1 * i ≤ I.length + 1 * i1) (hl2 : I.length ≤ I1.length) (hle : pz_le F F1) (hG : ∀ R : pz_R, pz_C (kq T n N X) (vq T n N X) (tp T n 0) f R → ∀ o : pz_O, G2 R o → G R o) (h : cV T n N X c f G2 u w i1 I1 F1 e1 E S1 o Z) : cV T n N X c f G u w i I F e E S o Z := by
  rcases h with ⟨i2, I2, F2, t, h1, h2, h3, h4, ⟨h5, h6, h7, h8⟩, h9⟩ | ⟨v, x, h1, h2, h3⟩
  · exact Or.inl ⟨i2, I2, F2, t, h1, fun R hR => hG R hR _ (h2 R hR), h3, cQg_tr g1 (cQg_mo h4 (by omega) (by omega)), ⟨by omega, by omega, pz_le_tr hle h7, by omega⟩, h9⟩
  · exact Or.inr ⟨v, x, h1, fun R hR => hG R hR _ (h2 R hR), cQf_tr g1 (by omega) hw h3⟩
theorem rn_q {dp : Int} (h : cQ T n N X c f u w i I F S) (hdp : 0 ≤ dp ∧ dp ≤ 1000) : wJ (pe_GA xs) wY0 M (d + 7) t_XP_refuseNinth ((pe_at t_XP_refuseNinth.bl 0).getD (0, [])).2 [(0, (2, 63)), (1, (0, dp))] [] S (fun o Z => ∃ (v : Nat) (x : Int), o = .inr v ∧ ((¬ pz_bx (kq T n N X i) ∧ (.inl x : pz_O) = pz_fa (tp T n 0) 1 i) ∨ (pz_bx (kq T n N X i) ∧ (.inl x : pz_O) = if (kq T n N X i = 10 ∨ kq T n N X i = 14 ∨ kq T n N X i = 12 ∨ kq T n N X i = 24 ∨ kq T n N X i = 28) ∧ 50 ≤ dp then pz_fa (tp T n 0) 4 i else pz_fa (tp T n 0) 6 i)) ∧ ry_ag S Z v x) := by
  have kr0 := kq_rg T n N X i
  refine wa_aload_n (n := 0) rfl ?_
  refine wb_gf4 63 rfl (wy_pr rfl) wt_63 wf_1_0 (v := 14) wl_63_0 ?_
  refine wa_cv 14 rfl (wy_pr rfl) wt_14 (M2 := fun _ => False) rfl at_XR_kind ⟨_, rfl⟩ rfl rfl ⟨(Or.inr ⟨wy_pr rfl, fun q => q⟩), trivial, trivial⟩ trivial (fun _ _ q => False.elim q) (kd_q (S := S) h) (fun oq101 Sq101 hp102 q101 => ?_)
  rcases q101 with ⟨rfl, rfl⟩
  show wJ _ _ _ _ _ _ _ _ _ _
  refine wa_istore_n (n := 2) rfl ?_
  refine wa_iload_n (n := 2) rfl ?_
  refine wa_cs (M2 := fun _ => False) rfl at_XP_beginsExpression ⟨_, rfl⟩ rfl rfl ⟨trivial, (Or.inr ⟨wy_pr rfl, fun q => q⟩), trivial, trivial⟩ trivial (fun _ _ q => False.elim q) ?_ (fun _ _ _ q => q)
  refine wa_iload_n (n := 0) rfl ?_
  refine wa_iconst ?_
  refine wa_icmplt (w_rg0 (by omega) (by omega)) (w_rg0 (by omega) (by omega)) ⟨_, rfl⟩ (fun c103 => ?_) (fun c103 => ?_)
  · skip
    refine wa_iload_n (n := 0) rfl ?_
    refine wa_bipush (w_rg2 (by omega) (by omega)) ?_
    refine wa_icmpeq (w_rg0 (by omega) (by omega)) (w_rg0 (by omega) (by omega)) ⟨_, rfl⟩ (fun c104 => ?_) (fun c104 => ?_)
    · skip
      exact absurd c104 (by omega)
    · skip
      refine wa_iload_n (n := 0) rfl ?_
      refine wa_bipush (w_rg2 (by omega) (by omega)) ?_
      refine wa_icmpeq (w_rg0 (by omega) (by omega)) (w_rg0 (by omega) (by omega)) ⟨_, rfl⟩ (fun c105 => ?_) (fun c105 => ?_)
      · skip
        exact absurd c105 (by omega)
      · skip
        refine wa_iload_n (n := 0) rfl ?_
        refine wa_bipush (w_rg2 (by omega) (by omega)) ?_
        refine wa_icmpeq (w_rg0 (by omega) (by omega)) (w_rg0 (by omega) (by omega)) ⟨_, rfl⟩ (fun c106 => ?_) (fun c106 => ?_)
        · skip
          exact absurd c106 (by omega)
        · skip
          refine wa_iload_n (n := 0) rfl ?_
          refine wa_bipush (w_rg2 (by omega) (by omega)) ?_
          refine wa_icmpeq (w_rg0 (by omega) (by omega)) (w_rg0 (by omega) (by omega)) ⟨_, rfl⟩ (fun c107 => ?_) (fun c107 => ?_)
          · skip
            exact absurd c107 (by omega)
          · skip
            refine wa_iload_n (n := 0) rfl ?_
            refine wa_bipush (w_rg2 (by omega) (by omega)) ?_
            refine wa_icmpeq (w_rg0 (by omega) (by omega)) (w_rg0 (by omega) (by omega)) ⟨_, rfl⟩ (fun c108 => ?_) (fun c108 => ?_)
            · skip
              exact absurd c108 (by omega)
            · skip
              refine wa_iload_n (n := 0) rfl ?_
              refine wa_bipush (w_rg2 (by omega) (by omega)) ?_
              refine wa_icmpeq (w_rg0 (by omega) (by omega)) (w_rg0 (by omega) (by omega)) ⟨_, rfl⟩ (fun c109 => ?_) (fun c109 => ?_)
              · skip
                exact absurd c109 (by omega)
              · skip
                refine wa_iload_n (n := 0) rfl ?_
                refine wa_bipush (w_rg2 (by omega) (by omega)) ?_
                refine wa_icmplt (w_rg0 (by omega) (by omega)) (w_rg0 (by omega) (by omega)) ⟨_, rfl⟩ (fun c110 => ?_) (fun c110 => ?_)
                · skip
                  refine wa_iconst ?_
                  refine wa_fall ⟨_, rfl⟩ ?_
                  refine wa_zreturn rfl (Or.inl rfl) ?_
                  show wJ _ _ _ _ _ _ _ _ _ _
                  refine wa_ifne (w_rg0 (by omega) (by omega)) ⟨_, rfl⟩ (fun c111 => ?_) (fun c111 => ?_)
                  · skip
                    exact absurd c111 (by omega)
                  · skip
                    refine wa_aload_n (n := 0) rfl ?_
                    refine wa_iconst ?_
                    refine wa_cv 63 rfl (wy_pr rfl) wt_63 (M2 := fun _ => False) rfl at_XP_refuse ⟨_, rfl⟩ rfl rfl ⟨trivial, (Or.inr ⟨wy_pr rfl, fun q => q⟩), trivial, trivial⟩ trivial (fun _ _ q => False.elim q) (rf_q (S := S) (k := 1) h ⟨by omega, by omega⟩) (fun oq114 Sq114 hp115 q114 => ?_)
                    rcases q114 with ⟨v112, rfl, hz113⟩
                    have hthr := hz113
                    refine ⟨rfl, ?_⟩
                    exact ⟨_, _, rfl, (by first | exact Or.inl ⟨by unfold pz_bx; omega, rfl⟩ | exact Or.inr ⟨by unfold pz_bx; omega, by rw [if_pos (by omega)]; rfl⟩ | exact Or.inr ⟨by unfold pz_bx; omega, by rw [if_neg (by omega)]; rfl⟩), hthr⟩
                · skip
                  exact absurd c110 (by omega)
  · skip
    refine wa_iload_n (n := 0) rfl ?_
    refine wa_bipush (w_rg2 (by omega) (by omega)) ?_
    refine wa_icmple (w_rg0 (by omega) (by omega)) (w_rg0 (by omega) (by omega)) ⟨_, rfl⟩ (fun c116 => ?_) (fun c116 => ?_)
    · skip
      refine wa_iconst ?_
      refine wa_goto ⟨_, rfl⟩ ?_
      refine wa_zreturn rfl (Or.inr rfl) ?_
      show wJ _ _ _ _ _ _ _ _ _ _
      refine wa_ifne (w_rg0 (by omega) (by omega)) ⟨_, rfl⟩ (fun c117 => ?_) (fun c117 => ?_)
      · skip
        refine wa_iload_n (n := 2) rfl ?_
        refine wa_bipush (w_rg2 (by omega) (by omega)) ?_
        refine wa_icmpeq (w_rg0 (by omega) (by omega)) (w_rg0 (by omega) (by omega)) ⟨_, rfl⟩ (fun c118 => ?_) (fun c118 => ?_)
        · skip
          exact absurd c118 (by omega)
        · skip
          refine wa_iload_n (n := 2) rfl ?_
          refine wa_bipush (w_rg2 (by omega) (by omega)) ?_
          refine wa_icmpeq (w_rg0 (by omega) (by omega)) (w_rg0 (by omega) (by omega)) ⟨_, rfl⟩ (fun c119 => ?_) (fun c119 => ?_)
          · skip
            exact absurd c119 (by omega)
          · skip
            refine wa_iload_n (n := 2) rfl ?_
            refine wa_bipush (w_rg2 (by omega) (by omega)) ?_
            refine wa_icmpeq (w_rg0 (by omega) (by omega)) (w_rg0 (by omega) (by omega)) ⟨_, rfl⟩ (fun c120 => ?_) (fun c120 => ?_)
            · skip
              exact absurd c120 (by omega)
            · skip
              refine wa_iload_n (n := 2) rfl ?_
              refine wa_bipush (w_rg2 (by omega) (by omega)) ?_
              refine wa_icmpeq (w_rg0 (by omega) (by omega)) (w_rg0 (by omega) (by omega)) ⟨_, rfl⟩ (fun c121 => ?_) (fun c121 => ?_)
              · skip
                exact absurd c121 (by omega)
              · skip
                refine wa_iload_n (n := 2) rfl ?_
                refine wa_bipush (w_rg2 (by omega) (by omega)) ?_
                refine wa_icmpne (w_rg0 (by omega) (by omega)) (w_rg0 (by omega) (by omega)) ⟨_, rfl⟩ (fun c122 => ?_) (fun c122 => ?_)
                · skip
                  refine wa_iconst ?_
                  refine wa_fall ⟨_, rfl⟩ ?_
                  refine wa_istore_n (n := 3) rfl ?_
                  refine wa_aload_n (n := 0) rfl ?_
                  refine wa_iload_n (n := 3) rfl ?_
                  refine wa_ifeq (w_rg0 (by omega) (by omega)) ⟨_, rfl⟩ (fun c123 => ?_) (fun c123 => ?_)
                  · skip
                    refine wa_bipush (w_rg2 (by omega) (by omega)) ?_
                    refine wa_fall ⟨_, rfl⟩ ?_
                    refine wa_cv 63 rfl (wy_pr rfl) wt_63 (M2 := fun _ => False) rfl at_XP_refuse ⟨_, rfl⟩ rfl rfl ⟨trivial, trivial, (Or.inr ⟨wy_pr rfl, fun q => q⟩), trivial, trivial⟩ trivial (fun _ _ q => False.elim q) (rf_q (S := S) (k := 6) h ⟨by omega, by omega⟩) (fun oq126 Sq126 hp127 q126 => ?_)
                    rcases q126 with ⟨v124, rfl, hz125⟩
                    have hthr := hz125
                    refine ⟨rfl, ?_⟩
                    exact ⟨_, _, rfl, (by first | exact Or.inl ⟨by unfold pz_bx; omega, rfl⟩ | exact Or.inr ⟨by unfold pz_bx; omega, by rw [if_pos (by omega)]; rfl⟩ | exact Or.inr ⟨by unfold pz_bx; omega, by rw [if_neg (by omega)]; rfl⟩), hthr⟩
                  · skip
                    exact absurd c123 (by omega)
                · skip
                  exact absurd c122 (by omega)
      · skip
        exact absurd c117 (by omega)
    · skip
      refine wa_fall ⟨_, rfl⟩ ?_
      refine wa_iload_n (n := 0) rfl ?_
      refine wa_bipush (w_rg2 (by omega) (by omega)) ?_
      refine wa_icmpeq (w_rg0 (by omega) (by omega)) (w_rg0 (by omega) (by omega)) ⟨_, rfl⟩ (fun c128 => ?_) (fun c128 => ?_)
      · skip
        refine wa_iconst ?_
        refine wa_goto ⟨_, rfl⟩ ?_
        refine wa_zreturn rfl (Or.inr rfl) ?_
        show wJ _ _ _ _ _ _ _ _ _ _
        refine wa_ifne (w_rg0 (by omega) (by omega)) ⟨_, rfl⟩ (fun c129 => ?_) (fun c129 => ?_)
        · skip
          refine wa_iload_n (n := 2) rfl ?_
          refine wa_bipush (w_rg2 (by omega) (by omega)) ?_
          refine wa_icmpeq (w_rg0 (by omega) (by omega)) (w_rg0 (by omega) (by omega)) ⟨_, rfl⟩ (fun c130 => ?_) (fun c130 => ?_)
          · skip
            refine wa_iconst ?_
            refine wa_goto ⟨_, rfl⟩ ?_
            refine wa_istore_n (n := 3) rfl ?_
            refine wa_aload_n (n := 0) rfl ?_
            refine wa_iload_n (n := 3) rfl ?_
            refine wa_ifeq (w_rg0 (by omega) (by omega)) ⟨_, rfl⟩ (fun c131 => ?_) (fun c131 => ?_)
            · skip
              exact absurd c131 (by omega)
            · skip
              refine wa_iload_n (n := 1) rfl ?_
              refine wa_bipush (w_rg2 (by omega) (by omega)) ?_
              refine wa_icmplt (w_rg0 (by omega) (by omega)) (w_rg0 (by omega) (by omega)) ⟨_, rfl⟩ (fun c132 => ?_) (fun c132 => ?_)
              · skip
                refine wa_bipush (w_rg2 (by omega) (by omega)) ?_
                refine wa_fall ⟨_, rfl⟩ ?_
                refine wa_cv 63 rfl (wy_pr rfl) wt_63 (M2 := fun _ => False) rfl at_XP_refuse ⟨_, rfl⟩ rfl rfl ⟨trivial, trivial, (Or.inr ⟨wy_pr rfl, fun q => q⟩), trivial, trivial⟩ trivial (fun _ _ q => False.elim q) (rf_q (S := S) (k := 6) h ⟨by omega, by omega⟩) (fun oq135 Sq135 hp136 q135 => ?_)
                rcases q135 with ⟨v133, rfl, hz134⟩
                have hthr := hz134
                refine ⟨rfl, ?_⟩
                exact ⟨_, _, rfl, (by first | exact Or.inl ⟨by unfold pz_bx; omega, rfl⟩ | exact Or.inr ⟨by unfold pz_bx; omega, by rw [if_pos (by omega)]; rfl⟩ | exact Or.inr ⟨by unfold pz_bx; omega, by rw [if_neg (by omega)]; rfl⟩), hthr⟩
              · skip
                refine wa_iconst ?_
                refine wa_goto ⟨_, rfl⟩ ?_
                refine wa_cv 63 rfl (wy_pr rfl) wt_63 (M2 := fun _ => False) rfl at_XP_refuse ⟨_, rfl⟩ rfl rfl ⟨trivial, trivial, (Or.inr ⟨wy_pr rfl, fun q => q⟩), trivial, trivial⟩ trivial (fun _ _ q => False.elim q) (rf_q (S := S) (k := 4) h ⟨by omega, by omega⟩) (fun oq139 Sq139 hp140 q139 => ?_)
                rcases q139 with ⟨v137, rfl, hz138⟩
                have hthr := hz138
                refine ⟨rfl, ?_⟩
                exact ⟨_, _, rfl, (by first | exact Or.inl ⟨by unfold pz_bx; omega, rfl⟩ | exact Or.inr ⟨by unfold pz_bx; omega, by rw [if_pos (by omega)]; rfl⟩ | exact Or.inr ⟨by unfold pz_bx; omega, by rw [if_neg (by omega)]; rfl⟩), hthr⟩
          · skip
            exact absurd c130 (by omega)
        · skip
          exact absurd c129 (by omega)
      · skip
        refine wa_iload_n (n := 0) rfl ?_
        refine wa_bipush (w_rg2 (by omega) (by omega)) ?_
        refine wa_icmpeq (w_rg0 (by omega) (by omega)) (w_rg0 (by omega) (by omega)) ⟨_, rfl⟩ (fun c141 => ?_) (fun c141 => ?_)
        · skip
          refine wa_iconst ?_
          refine wa_goto ⟨_, rfl⟩ ?_
          refine wa_zreturn rfl (Or.inr rfl) ?_
          show wJ _ _ _ _ _ _ _ _ _ _
          refine wa_ifne (w_rg0 (by omega) (by omega)) ⟨_, rfl⟩ (fun c142 => ?_) (fun c142 => ?_)
          · skip
            refine wa_iload_n (n := 2) rfl ?_
            refine wa_bipush (w_rg2 (by omega) (by omega)) ?_
            refine wa_icmpeq (w_rg0 (by omega) (by omega)) (w_rg0 (by omega) (by omega)) ⟨_, rfl⟩ (fun c143 => ?_) (fun c143 => ?_)
            · skip
              exact absurd c143 (by omega)
            · skip
              refine wa_iload_n (n := 2) rfl ?_
              refine wa_bipush (w_rg2 (by omega) (by omega)) ?_
              refine wa_icmpeq (w_rg0 (by omega) (by omega)) (w_rg0 (by omega) (by omega)) ⟨_, rfl⟩ (fun c144 => ?_) (fun c144 => ?_)
              · skip
                refine wa_iconst ?_
                refine wa_goto ⟨_, rfl⟩ ?_
                refine wa_istore_n (n := 3) rfl ?_
                refine wa_aload_n (n := 0) rfl ?_
                refine wa_iload_n (n := 3) rfl ?_
                refine wa_ifeq (w_rg0 (by omega) (by omega)) ⟨_, rfl⟩ (fun c145 => ?_) (fun c145 => ?_)
                · skip
                  exact absurd c145 (by omega)
                · skip
                  refine wa_iload_n (n := 1) rfl ?_
                  refine wa_bipush (w_rg2 (by omega) (by omega)) ?_
                  refine wa_icmplt (w_rg0 (by omega) (by omega)) (w_rg0 (by omega) (by omega)) ⟨_, rfl⟩ (fun c146 => ?_) (fun c146 => ?_)
                  · skip
                    refine wa_bipush (w_rg2 (by omega) (by omega)) ?_
                    refine wa_fall ⟨_, rfl⟩ ?_
                    refine wa_cv 63 rfl (wy_pr rfl) wt_63 (M2 := fun _ => False) rfl at_XP_refuse ⟨_, rfl⟩ rfl rfl ⟨trivial, trivial, (Or.inr ⟨wy_pr rfl, fun q => q⟩), trivial, trivial⟩ trivial (fun _ _ q => False.elim q) (rf_q (S := S) (k := 6) h ⟨by omega, by omega⟩) (fun oq149 Sq149 hp150 q149 => ?_)
                    rcases q149 with ⟨v147, rfl, hz148⟩
                    have hthr := hz148
                    refine ⟨rfl, ?_⟩
                    exact ⟨_, _, rfl, (by first | exact Or.inl ⟨by unfold pz_bx; omega, rfl⟩ | exact Or.inr ⟨by unfold pz_bx; omega, by rw [if_pos (by omega)]; rfl⟩ | exact Or.inr ⟨by unfold pz_bx; omega, by rw [if_neg (by omega)]; rfl⟩), hthr⟩
                  · skip
                    refine wa_iconst ?_
                    refine wa_goto ⟨_, rfl⟩ ?_
                    refine wa_cv 63 rfl (wy_pr rfl) wt_63 (M2 := fun _ => False) rfl at_XP_refuse ⟨_, rfl⟩ rfl rfl ⟨trivial, trivial, (Or.inr ⟨wy_pr rfl, fun q => q⟩), trivial, trivial⟩ trivial (fun _ _ q => False.elim q) (rf_q (S := S) (k := 4) h ⟨by omega, by omega⟩) (fun oq153 Sq153 hp154 q153 => ?_)
                    rcases q153 with ⟨v151, rfl, hz152⟩
                    have hthr := hz152
                    refine ⟨rfl, ?_⟩
                    exact ⟨_, _, rfl, (by first | exact Or.inl ⟨by unfold pz_bx; omega, rfl⟩ | exact Or.inr ⟨by unfold pz_bx; omega, by rw [if_pos (by omega)]; rfl⟩ | exact Or.inr ⟨by unfold pz_bx; omega, by rw [if_neg (by omega)]; rfl⟩), hthr⟩
              · skip
                exact absurd c144 (by omega)
          · skip
            exact absurd c142 (by omega)
        · skip
          refine wa_iload_n (n := 0) rfl ?_
          refine wa_bipush (w_rg2 (by omega) (by omega)) ?_
          refine wa_icmpeq (w_rg0 (by omega) (by omega)) (w_rg0 (by omega) (by omega)) ⟨_, rfl⟩ (fun c155 => ?_) (fun c155 => ?_)
          · skip
            refine wa_iconst ?_
            refine wa_goto ⟨_, rfl⟩ ?_
            refine wa_zreturn rfl (Or.inr rfl) ?_
            show wJ _ _ _ _ _ _ _ _ _ _
            refine wa_ifne (w_rg0 (by omega) (by omega)) ⟨_, rfl⟩ (fun c156 => ?_) (fun c156 => ?_)
            · skip
              refine wa_iload_n (n := 2) rfl ?_
              refine wa_bipush (w_rg2 (by omega) (by omega)) ?_
              refine wa_icmpeq (w_rg0 (by omega) (by omega)) (w_rg0 (by omega) (by omega)) ⟨_, rfl⟩ (fun c157 => ?_) (fun c157 => ?_)
              · skip
                exact absurd c157 (by omega)
              · skip
                refine wa_iload_n (n := 2) rfl ?_
                refine wa_bipush (w_rg2 (by omega) (by omega)) ?_
                refine wa_icmpeq (w_rg0 (by omega) (by omega)) (w_rg0 (by omega) (by omega)) ⟨_, rfl⟩ (fun c158 => ?_) (fun c158 => ?_)
                · skip
                  exact absurd c158 (by omega)
                · skip
                  refine wa_iload_n (n := 2) rfl ?_
                  refine wa_bipush (w_rg2 (by omega) (by omega)) ?_
                  refine wa_icmpeq (w_rg0 (by omega) (by omega)) (w_rg0 (by omega) (by omega)) ⟨_, rfl⟩ (fun c159 => ?_) (fun c159 => ?_)
                  · skip
                    refine wa_iconst ?_
                    refine wa_goto ⟨_, rfl⟩ ?_
                    refine wa_istore_n (n := 3) rfl ?_
                    refine wa_aload_n (n := 0) rfl ?_
                    refine wa_iload_n (n := 3) rfl ?_
                    refine wa_ifeq (w_rg0 (by omega) (by omega)) ⟨_, rfl⟩ (fun c160 => ?_) (fun c160 => ?_)
                    · skip
                      exact absurd c160 (by omega)
                    · skip
                      refine wa_iload_n (n := 1) rfl ?_
                      refine wa_bipush (w_rg2 (by omega) (by omega)) ?_
                      refine wa_icmplt (w_rg0 (by omega) (by omega)) (w_rg0 (by omega) (by omega)) ⟨_, rfl⟩ (fun c161 => ?_) (fun c161 => ?_)
                      · skip
                        refine wa_bipush (w_rg2 (by omega) (by omega)) ?_
                        refine wa_fall ⟨_, rfl⟩ ?_
                        refine wa_cv 63 rfl (wy_pr rfl) wt_63 (M2 := fun _ => False) rfl at_XP_refuse ⟨_, rfl⟩ rfl rfl ⟨trivial, trivial, (Or.inr ⟨wy_pr rfl, fun q => q⟩), trivial, trivial⟩ trivial (fun _ _ q => False.elim q) (rf_q (S := S) (k := 6) h ⟨by omega, by omega⟩) (fun oq164 Sq164 hp165 q164 => ?_)
                        rcases q164 with ⟨v162, rfl, hz163⟩
                        have hthr := hz163
                        refine ⟨rfl, ?_⟩
                        exact ⟨_, _, rfl, (by first | exact Or.inl ⟨by unfold pz_bx; omega, rfl⟩ | exact Or.inr ⟨by unfold pz_bx; omega, by rw [if_pos (by omega)]; rfl⟩ | exact Or.inr ⟨by unfold pz_bx; omega, by rw [if_neg (by omega)]; rfl⟩), hthr⟩
                      · skip
                        refine wa_iconst ?_
                        refine wa_goto ⟨_, rfl⟩ ?_
                        refine wa_cv 63 rfl (wy_pr rfl) wt_63 (M2 := fun _ => False) rfl at_XP_refuse ⟨_, rfl⟩ rfl rfl ⟨trivial, trivial, (Or.inr ⟨wy_pr rfl, fun q => q⟩), trivial, trivial⟩ trivial (fun _ _ q => False.elim q) (rf_q (S := S) (k := 4) h ⟨by omega, by omega⟩) (fun oq168 Sq168 hp169 q168 => ?_)
                        rcases q168 with ⟨v166, rfl, hz167⟩
                        have hthr := hz167
                        refine ⟨rfl, ?_⟩
                        exact ⟨_, _, rfl, (by first | exact Or.inl ⟨by unfold pz_bx; omega, rfl⟩ | exact Or.inr ⟨by unfold pz_bx; omega, by rw [if_pos (by omega)]; rfl⟩ | exact Or.inr ⟨by unfold pz_bx; omega, by rw [if_neg (by omega)]; rfl⟩), hthr⟩
                  · skip
                    exact absurd c159 (by omega)
            · skip
              exact absurd c156 (by omega)
          · skip
            refine wa_iload_n (n := 0) rfl ?_
            refine wa_bipush (w_rg2 (by omega) (by omega)) ?_
            refine wa_icmpeq (w_rg0 (by omega) (by omega)) (w_rg0 (by omega) (by omega)) ⟨_, rfl⟩ (fun c170 => ?_) (fun c170 => ?_)
            · skip
              refine wa_iconst ?_
              refine wa_goto ⟨_, rfl⟩ ?_
              refine wa_zreturn rfl (Or.inr rfl) ?_
              show wJ _ _ _ _ _ _ _ _ _ _
              refine wa_ifne (w_rg0 (by omega) (by omega)) ⟨_, rfl⟩ (fun c171 => ?_) (fun c171 => ?_)
              · skip
                refine wa_iload_n (n := 2) rfl ?_
                refine wa_bipush (w_rg2 (by omega) (by omega)) ?_
                refine wa_icmpeq (w_rg0 (by omega) (by omega)) (w_rg0 (by omega) (by omega)) ⟨_, rfl⟩ (fun c172 => ?_) (fun c172 => ?_)
                · skip
                  exact absurd c172 (by omega)
                · skip
                  refine wa_iload_n (n := 2) rfl ?_
                  refine wa_bipush (w_rg2 (by omega) (by omega)) ?_
                  refine wa_icmpeq (w_rg0 (by omega) (by omega)) (w_rg0 (by omega) (by omega)) ⟨_, rfl⟩ (fun c173 => ?_) (fun c173 => ?_)
                  · skip
                    exact absurd c173 (by omega)
                  · skip
                    refine wa_iload_n (n := 2) rfl ?_
                    refine wa_bipush (w_rg2 (by omega) (by omega)) ?_
                    refine wa_icmpeq (w_rg0 (by omega) (by omega)) (w_rg0 (by omega) (by omega)) ⟨_, rfl⟩ (fun c174 => ?_) (fun c174 => ?_)
                    · skip
                      exact absurd c174 (by omega)
                    · skip
                      refine wa_iload_n (n := 2) rfl ?_
                      refine wa_bipush (w_rg2 (by omega) (by omega)) ?_
                      refine wa_icmpeq (w_rg0 (by omega) (by omega)) (w_rg0 (by omega) (by omega)) ⟨_, rfl⟩ (fun c175 => ?_) (fun c175 => ?_)
                      · skip
                        refine wa_iconst ?_
                        refine wa_goto ⟨_, rfl⟩ ?_
                        refine wa_istore_n (n := 3) rfl ?_
                        refine wa_aload_n (n := 0) rfl ?_
                        refine wa_iload_n (n := 3) rfl ?_
                        refine wa_ifeq (w_rg0 (by omega) (by omega)) ⟨_, rfl⟩ (fun c176 => ?_) (fun c176 => ?_)
                        · skip
                          exact absurd c176 (by omega)
                        · skip
                          refine wa_iload_n (n := 1) rfl ?_
                          refine wa_bipush (w_rg2 (by omega) (by omega)) ?_
                          refine wa_icmplt (w_rg0 (by omega) (by omega)) (w_rg0 (by omega) (by omega)) ⟨_, rfl⟩ (fun c177 => ?_) (fun c177 => ?_)
                          · skip
                            refine wa_bipush (w_rg2 (by omega) (by omega)) ?_
                            refine wa_fall ⟨_, rfl⟩ ?_
                            refine wa_cv 63 rfl (wy_pr rfl) wt_63 (M2 := fun _ => False) rfl at_XP_refuse ⟨_, rfl⟩ rfl rfl ⟨trivial, trivial, (Or.inr ⟨wy_pr rfl, fun q => q⟩), trivial, trivial⟩ trivial (fun _ _ q => False.elim q) (rf_q (S := S) (k := 6) h ⟨by omega, by omega⟩) (fun oq180 Sq180 hp181 q180 => ?_)
                            rcases q180 with ⟨v178, rfl, hz179⟩
                            have hthr := hz179
                            refine ⟨rfl, ?_⟩
                            exact ⟨_, _, rfl, (by first | exact Or.inl ⟨by unfold pz_bx; omega, rfl⟩ | exact Or.inr ⟨by unfold pz_bx; omega, by rw [if_pos (by omega)]; rfl⟩ | exact Or.inr ⟨by unfold pz_bx; omega, by rw [if_neg (by omega)]; rfl⟩), hthr⟩
                          · skip
                            refine wa_iconst ?_
                            refine wa_goto ⟨_, rfl⟩ ?_
                            refine wa_cv 63 rfl (wy_pr rfl) wt_63 (M2 := fun _ => False) rfl at_XP_refuse ⟨_, rfl⟩ rfl rfl ⟨trivial, trivial, (Or.inr ⟨wy_pr rfl, fun q => q⟩), trivial, trivial⟩ trivial (fun _ _ q => False.elim q) (rf_q (S := S) (k := 4) h ⟨by omega, by omega⟩) (fun oq184 Sq184 hp185 q184 => ?_)
                            rcases q184 with ⟨v182, rfl, hz183⟩
                            have hthr := hz183
                            refine ⟨rfl, ?_⟩
                            exact ⟨_, _, rfl, (by first | exact Or.inl ⟨by unfold pz_bx; omega, rfl⟩ | exact Or.inr ⟨by unfold pz_bx; omega, by rw [if_pos (by omega)]; rfl⟩ | exact Or.inr ⟨by unfold pz_bx; omega, by rw [if_neg (by omega)]; rfl⟩), hthr⟩
                      · skip
                        exact absurd c175 (by omega)
              · skip
                exact absurd c171 (by omega)
            · skip
              refine wa_iload_n (n := 0) rfl ?_
              refine wa_bipush (w_rg2 (by omega) (by omega)) ?_
              refine wa_icmpeq (w_rg0 (by omega) (by omega)) (w_rg0 (by omega) (by omega)) ⟨_, rfl⟩ (fun c186 => ?_) (fun c186 => ?_)
              · skip
                refine wa_iconst ?_
                refine wa_goto ⟨_, rfl⟩ ?_
                refine wa_zreturn rfl (Or.inr rfl) ?_
                show wJ _ _ _ _ _ _ _ _ _ _
                refine wa_ifne (w_rg0 (by omega) (by omega)) ⟨_, rfl⟩ (fun c187 => ?_) (fun c187 => ?_)
                · skip
                  refine wa_iload_n (n := 2) rfl ?_
                  refine wa_bipush (w_rg2 (by omega) (by omega)) ?_
                  refine wa_icmpeq (w_rg0 (by omega) (by omega)) (w_rg0 (by omega) (by omega)) ⟨_, rfl⟩ (fun c188 => ?_) (fun c188 => ?_)
                  · skip
                    exact absurd c188 (by omega)
                  · skip
                    refine wa_iload_n (n := 2) rfl ?_
                    refine wa_bipush (w_rg2 (by omega) (by omega)) ?_
                    refine wa_icmpeq (w_rg0 (by omega) (by omega)) (w_rg0 (by omega) (by omega)) ⟨_, rfl⟩ (fun c189 => ?_) (fun c189 => ?_)
                    · skip
                      exact absurd c189 (by omega)
                    · skip
                      refine wa_iload_n (n := 2) rfl ?_
                      refine wa_bipush (w_rg2 (by omega) (by omega)) ?_
                      refine wa_icmpeq (w_rg0 (by omega) (by omega)) (w_rg0 (by omega) (by omega)) ⟨_, rfl⟩ (fun c190 => ?_) (fun c190 => ?_)
                      · skip
                        exact absurd c190 (by omega)
                      · skip
                        refine wa_iload_n (n := 2) rfl ?_
                        refine wa_bipush (w_rg2 (by omega) (by omega)) ?_
                        refine wa_icmpeq (w_rg0 (by omega) (by omega)) (w_rg0 (by omega) (by omega)) ⟨_, rfl⟩ (fun c191 => ?_) (fun c191 => ?_)
                        · skip
                          exact absurd c191 (by omega)
                        · skip
                          refine wa_iload_n (n := 2) rfl ?_
                          refine wa_bipush (w_rg2 (by omega) (by omega)) ?_
                          refine wa_icmpne (w_rg0 (by omega) (by omega)) (w_rg0 (by omega) (by omega)) ⟨_, rfl⟩ (fun c192 => ?_) (fun c192 => ?_)
                          · skip
                            exact absurd c192 (by omega)
                          · skip
                            refine wa_fall ⟨_, rfl⟩ ?_
                            refine wa_iconst ?_
                            refine wa_goto ⟨_, rfl⟩ ?_
                            refine wa_istore_n (n := 3) rfl ?_
                            refine wa_aload_n (n := 0) rfl ?_
                            refine wa_iload_n (n := 3) rfl ?_
                            refine wa_ifeq (w_rg0 (by omega) (by omega)) ⟨_, rfl⟩ (fun c193 => ?_) (fun c193 => ?_)
                            · skip
                              exact absurd c193 (by omega)
                            · skip
                              refine wa_iload_n (n := 1) rfl ?_
                              refine wa_bipush (w_rg2 (by omega) (by omega)) ?_
                              refine wa_icmplt (w_rg0 (by omega) (by omega)) (w_rg0 (by omega) (by omega)) ⟨_, rfl⟩ (fun c194 => ?_) (fun c194 => ?_)
                              · skip
                                refine wa_bipush (w_rg2 (by omega) (by omega)) ?_
                                refine wa_fall ⟨_, rfl⟩ ?_
                                refine wa_cv 63 rfl (wy_pr rfl) wt_63 (M2 := fun _ => False) rfl at_XP_refuse ⟨_, rfl⟩ rfl rfl ⟨trivial, trivial, (Or.inr ⟨wy_pr rfl, fun q => q⟩), trivial, trivial⟩ trivial (fun _ _ q => False.elim q) (rf_q (S := S) (k := 6) h ⟨by omega, by omega⟩) (fun oq197 Sq197 hp198 q197 => ?_)
                                rcases q197 with ⟨v195, rfl, hz196⟩
                                have hthr := hz196
                                refine ⟨rfl, ?_⟩
                                exact ⟨_, _, rfl, (by first | exact Or.inl ⟨by unfold pz_bx; omega, rfl⟩ | exact Or.inr ⟨by unfold pz_bx; omega, by rw [if_pos (by omega)]; rfl⟩ | exact Or.inr ⟨by unfold pz_bx; omega, by rw [if_neg (by omega)]; rfl⟩), hthr⟩
                              · skip
                                refine wa_iconst ?_
                                refine wa_goto ⟨_, rfl⟩ ?_
                                refine wa_cv 63 rfl (wy_pr rfl) wt_63 (M2 := fun _ => False) rfl at_XP_refuse ⟨_, rfl⟩ rfl rfl ⟨trivial, trivial, (Or.inr ⟨wy_pr rfl, fun q => q⟩), trivial, trivial⟩ trivial (fun _ _ q => False.elim q) (rf_q (S := S) (k := 4) h ⟨by omega, by omega⟩) (fun oq201 Sq201 hp202 q201 => ?_)
                                rcases q201 with ⟨v199, rfl, hz200⟩
                                have hthr := hz200
                                refine ⟨rfl, ?_⟩
                                exact ⟨_, _, rfl, (by first | exact Or.inl ⟨by unfold pz_bx; omega, rfl⟩ | exact Or.inr ⟨by unfold pz_bx; omega, by rw [if_pos (by omega)]; rfl⟩ | exact Or.inr ⟨by unfold pz_bx; omega, by rw [if_neg (by omega)]; rfl⟩), hthr⟩
                · skip
                  exact absurd c187 (by omega)
              · skip
                refine wa_iload_n (n := 0) rfl ?_
                refine wa_bipush (w_rg2 (by omega) (by omega)) ?_
                refine wa_icmpeq (w_rg0 (by omega) (by omega)) (w_rg0 (by omega) (by omega)) ⟨_, rfl⟩ (fun c203 => ?_) (fun c203 => ?_)
                · skip
                  refine wa_iconst ?_
                  refine wa_goto ⟨_, rfl⟩ ?_
                  refine wa_zreturn rfl (Or.inr rfl) ?_
                  show wJ _ _ _ _ _ _ _ _ _ _
                  refine wa_ifne (w_rg0 (by omega) (by omega)) ⟨_, rfl⟩ (fun c204 => ?_) (fun c204 => ?_)
                  · skip
                    refine wa_iload_n (n := 2) rfl ?_
                    refine wa_bipush (w_rg2 (by omega) (by omega)) ?_
                    refine wa_icmpeq (w_rg0 (by omega) (by omega)) (w_rg0 (by omega) (by omega)) ⟨_, rfl⟩ (fun c205 => ?_) (fun c205 => ?_)
                    · skip
                      exact absurd c205 (by omega)
                    · skip
                      refine wa_iload_n (n := 2) rfl ?_
                      refine wa_bipush (w_rg2 (by omega) (by omega)) ?_
                      refine wa_icmpeq (w_rg0 (by omega) (by omega)) (w_rg0 (by omega) (by omega)) ⟨_, rfl⟩ (fun c206 => ?_) (fun c206 => ?_)
                      · skip
                        exact absurd c206 (by omega)
                      · skip
                        refine wa_iload_n (n := 2) rfl ?_
                        refine wa_bipush (w_rg2 (by omega) (by omega)) ?_
                        refine wa_icmpeq (w_rg0 (by omega) (by omega)) (w_rg0 (by omega) (by omega)) ⟨_, rfl⟩ (fun c207 => ?_) (fun c207 => ?_)
                        · skip
                          exact absurd c207 (by omega)
                        · skip
                          refine wa_iload_n (n := 2) rfl ?_
                          refine wa_bipush (w_rg2 (by omega) (by omega)) ?_
                          refine wa_icmpeq (w_rg0 (by omega) (by omega)) (w_rg0 (by omega) (by omega)) ⟨_, rfl⟩ (fun c208 => ?_) (fun c208 => ?_)
                          · skip
                            exact absurd c208 (by omega)
                          · skip
                            refine wa_iload_n (n := 2) rfl ?_
                            refine wa_bipush (w_rg2 (by omega) (by omega)) ?_
                            refine wa_icmpne (w_rg0 (by omega) (by omega)) (w_rg0 (by omega) (by omega)) ⟨_, rfl⟩ (fun c209 => ?_) (fun c209 => ?_)
                            · skip
                              refine wa_iconst ?_
                              refine wa_fall ⟨_, rfl⟩ ?_
                              refine wa_istore_n (n := 3) rfl ?_
                              refine wa_aload_n (n := 0) rfl ?_
                              refine wa_iload_n (n := 3) rfl ?_
                              refine wa_ifeq (w_rg0 (by omega) (by omega)) ⟨_, rfl⟩ (fun c210 => ?_) (fun c210 => ?_)
                              · skip
                                refine wa_bipush (w_rg2 (by omega) (by omega)) ?_
                                refine wa_fall ⟨_, rfl⟩ ?_
                                refine wa_cv 63 rfl (wy_pr rfl) wt_63 (M2 := fun _ => False) rfl at_XP_refuse ⟨_, rfl⟩ rfl rfl ⟨trivial, trivial, (Or.inr ⟨wy_pr rfl, fun q => q⟩), trivial, trivial⟩ trivial (fun _ _ q => False.elim q) (rf_q (S := S) (k := 6) h ⟨by omega, by omega⟩) (fun oq213 Sq213 hp214 q213 => ?_)
                                rcases q213 with ⟨v211, rfl, hz212⟩
                                have hthr := hz212
                                refine ⟨rfl, ?_⟩
                                exact ⟨_, _, rfl, (by first | exact Or.inl ⟨by unfold pz_bx; omega, rfl⟩ | exact Or.inr ⟨by unfold pz_bx; omega, by rw [if_pos (by omega)]; rfl⟩ | exact Or.inr ⟨by unfold pz_bx; omega, by rw [if_neg (by omega)]; rfl⟩), hthr⟩
                              · skip
                                exact absurd c210 (by omega)
                            · skip
                              exact absurd c209 (by omega)
                  · skip
                    exact absurd c204 (by omega)
                · skip
                  refine wa_iload_n (n := 0) rfl ?_
                  refine wa_bipush (w_rg2 (by omega) (by omega)) ?_
                  refine wa_icmplt (w_rg0 (by omega) (by omega)) (w_rg0 (by omega) (by omega)) ⟨_, rfl⟩ (fun c215 => ?_) (fun c215 => ?_)
                  · skip
                    refine wa_iconst ?_
                    refine wa_fall ⟨_, rfl⟩ ?_
                    refine wa_zreturn rfl (Or.inl rfl) ?_
                    show wJ _ _ _ _ _ _ _ _ _ _
                    refine wa_ifne (w_rg0 (by omega) (by omega)) ⟨_, rfl⟩ (fun c216 => ?_) (fun c216 => ?_)
                    · skip
                      exact absurd c216 (by omega)
                    · skip
                      refine wa_aload_n (n := 0) rfl ?_
                      refine wa_iconst ?_
                      refine wa_cv 63 rfl (wy_pr rfl) wt_63 (M2 := fun _ => False) rfl at_XP_refuse ⟨_, rfl⟩ rfl rfl ⟨trivial, (Or.inr ⟨wy_pr rfl, fun q => q⟩), trivial, trivial⟩ trivial (fun _ _ q => False.elim q) (rf_q (S := S) (k := 1) h ⟨by omega, by omega⟩) (fun oq219 Sq219 hp220 q219 => ?_)
                      rcases q219 with ⟨v217, rfl, hz218⟩
                      have hthr := hz218
                      refine ⟨rfl, ?_⟩
                      exact ⟨_, _, rfl, (by first | exact Or.inl ⟨by unfold pz_bx; omega, rfl⟩ | exact Or.inr ⟨by unfold pz_bx; omega, by rw [if_pos (by omega)]; rfl⟩ | exact Or.inr ⟨by unfold pz_bx; omega, by rw [if_neg (by omega)]; rfl⟩), hthr⟩
                  · skip
                    refine wa_iload_n (n := 0) rfl ?_
                    refine wa_bipush (w_rg2 (by omega) (by omega)) ?_
                    refine wa_icmpge (w_rg0 (by omega) (by omega)) (w_rg0 (by omega) (by omega)) ⟨_, rfl⟩ (fun c221 => ?_) (fun c221 => ?_)
                    · skip
                      refine wa_iconst ?_
                      refine wa_fall ⟨_, rfl⟩ ?_
                      refine wa_zreturn rfl (Or.inl rfl) ?_
                      show wJ _ _ _ _ _ _ _ _ _ _
                      refine wa_ifne (w_rg0 (by omega) (by omega)) ⟨_, rfl⟩ (fun c222 => ?_) (fun c222 => ?_)
                      · skip
                        exact absurd c222 (by omega)
                      · skip
                        refine wa_aload_n (n := 0) rfl ?_
                        refine wa_iconst ?_
                        refine wa_cv 63 rfl (wy_pr rfl) wt_63 (M2 := fun _ => False) rfl at_XP_refuse ⟨_, rfl⟩ rfl rfl ⟨trivial, (Or.inr ⟨wy_pr rfl, fun q => q⟩), trivial, trivial⟩ trivial (fun _ _ q => False.elim q) (rf_q (S := S) (k := 1) h ⟨by omega, by omega⟩) (fun oq225 Sq225 hp226 q225 => ?_)
                        rcases q225 with ⟨v223, rfl, hz224⟩
                        have hthr := hz224
                        refine ⟨rfl, ?_⟩
                        exact ⟨_, _, rfl, (by first | exact Or.inl ⟨by unfold pz_bx; omega, rfl⟩ | exact Or.inr ⟨by unfold pz_bx; omega, by rw [if_pos (by omega)]; rfl⟩ | exact Or.inr ⟨by unfold pz_bx; omega, by rw [if_neg (by omega)]; rfl⟩), hthr⟩
                    · skip
                      refine wa_fall ⟨_, rfl⟩ ?_
                      refine wa_iconst ?_
                      refine wa_goto ⟨_, rfl⟩ ?_
                      refine wa_zreturn rfl (Or.inr rfl) ?_
                      show wJ _ _ _ _ _ _ _ _ _ _
                      refine wa_ifne (w_rg0 (by omega) (by omega)) ⟨_, rfl⟩ (fun c227 => ?_) (fun c227 => ?_)
                      · skip
                        refine wa_iload_n (n := 2) rfl ?_
                        refine wa_bipush (w_rg2 (by omega) (by omega)) ?_
                        refine wa_icmpeq (w_rg0 (by omega) (by omega)) (w_rg0 (by omega) (by omega)) ⟨_, rfl⟩ (fun c228 => ?_) (fun c228 => ?_)
                        · skip
                          exact absurd c228 (by omega)
                        · skip
                          refine wa_iload_n (n := 2) rfl ?_
                          refine wa_bipush (w_rg2 (by omega) (by omega)) ?_
                          refine wa_icmpeq (w_rg0 (by omega) (by omega)) (w_rg0 (by omega) (by omega)) ⟨_, rfl⟩ (fun c229 => ?_) (fun c229 => ?_)
                          · skip
                            exact absurd c229 (by omega)
                          · skip
                            refine wa_iload_n (n := 2) rfl ?_
                            refine wa_bipush (w_rg2 (by omega) (by omega)) ?_
                            refine wa_icmpeq (w_rg0 (by omega) (by omega)) (w_rg0 (by omega) (by omega)) ⟨_, rfl⟩ (fun c230 => ?_) (fun c230 => ?_)
                            · skip
                              exact absurd c230 (by omega)
                            · skip
                              refine wa_iload_n (n := 2) rfl ?_
                              refine wa_bipush (w_rg2 (by omega) (by omega)) ?_
                              refine wa_icmpeq (w_rg0 (by omega) (by omega)) (w_rg0 (by omega) (by omega)) ⟨_, rfl⟩ (fun c231 => ?_) (fun c231 => ?_)
                              · skip
                                exact absurd c231 (by omega)
                              · skip
                                refine wa_iload_n (n := 2) rfl ?_
                                refine wa_bipush (w_rg2 (by omega) (by omega)) ?_
                                refine wa_icmpne (w_rg0 (by omega) (by omega)) (w_rg0 (by omega) (by omega)) ⟨_, rfl⟩ (fun c232 => ?_) (fun c232 => ?_)
                                · skip
                                  refine wa_iconst ?_
                                  refine wa_fall ⟨_, rfl⟩ ?_
                                  refine wa_istore_n (n := 3) rfl ?_
                                  refine wa_aload_n (n := 0) rfl ?_
                                  refine wa_iload_n (n := 3) rfl ?_
                                  refine wa_ifeq (w_rg0 (by omega) (by omega)) ⟨_, rfl⟩ (fun c233 => ?_) (fun c233 => ?_)
                                  · skip
                                    refine wa_bipush (w_rg2 (by omega) (by omega)) ?_
                                    refine wa_fall ⟨_, rfl⟩ ?_
                                    refine wa_cv 63 rfl (wy_pr rfl) wt_63 (M2 := fun _ => False) rfl at_XP_refuse ⟨_, rfl⟩ rfl rfl ⟨trivial, trivial, (Or.inr ⟨wy_pr rfl, fun q => q⟩), trivial, trivial⟩ trivial (fun _ _ q => False.elim q) (rf_q (S := S) (k := 6) h ⟨by omega, by omega⟩) (fun oq236 Sq236 hp237 q236 => ?_)
                                    rcases q236 with ⟨v234, rfl, hz235⟩
                                    have hthr := hz235
                                    refine ⟨rfl, ?_⟩
                                    exact ⟨_, _, rfl, (by first | exact Or.inl ⟨by unfold pz_bx; omega, rfl⟩ | exact Or.inr ⟨by unfold pz_bx; omega, by rw [if_pos (by omega)]; rfl⟩ | exact Or.inr ⟨by unfold pz_bx; omega, by rw [if_neg (by omega)]; rfl⟩), hthr⟩
                                  · skip
                                    exact absurd c233 (by omega)
                                · skip
                                  exact absurd c232 (by omega)
                      · skip
                        exact absurd c227 (by omega)
theorem es_3 {D m : Nat} {dp : Int} (hX : cX xs T n N X c f m) (hS : cST xs T n N X c f m) (hD : 0 ≤ dp ∧ dp < 50 ∧ 10 * (51 - dp) + 16 ≤ (D : Int)) (hw : w ≤ 20 * dp + 12) : ∀ (fu : Nat) (x q : Int) (i : Nat) (I : List pz_I) (F : List pz_F) (S : wS), c - i < fu → cQ T n N X c f u w i I F S → c - i < m → I.length ≤ 1 * i → (0 ≤ x ∧ x ≤ 8 ∧ 0 ≤ q ∧ q ≤ (i : Int)) → wJ (pe_GA xs) wY0 (mS [64, 65, 66, 67, 69, 70]) D t_XP_readEs ((pe_at t_XP_readEs.bl 3).getD (0, [])).2 [(0, (2, 63)), (1, (0, dp)), (2, (0, x)), (3, (0, 1)), (4, (0, q))] [] S (cV T n N X c f (fun R => R 11 x [] i (dp + 1) u I F) u w i I F 1 (fun t _ Z => (0 ≤ t ∧ t ≤ 8) ∧ Z 63 16 = 0 ∧ Z 15 (Z 14 4) = 11) S) := by
  obtain ⟨D, rfl⟩ : ∃ D2, D = D2 + 14 := ⟨D - 14, by omega⟩
  intro fu
  induction fu with
  | zero => intro x q i I F S hf; exact absurd hf (Nat.not_lt_zero _)
  | succ fu ih =>
    intro x q i I F S hfu h hm hI hq
    have g0 : cQg f (I.length : Int) w S S := cQg_rfl
    have kr0 := kq_rg T n N X i
    have ic0 := cQ_ic h
    have hcn := cQ_cn h
    have hwr := cQ_wr h
    obtain ⟨hu1, hu2⟩ := cQ_ur h
    refine wa_iload_n (n := 3) rfl ?_
    refine wa_ifeq (w_rg0 (by omega) (by omega)) ⟨_, rfl⟩ (fun c101 => ?_) (fun c101 => ?_)
    · skip
      exact absurd c101 (by omega)
    · skip
      refine wa_iload (n := 4) rfl ?_
      refine wa_aload_n (n := 0) rfl ?_
      refine wb_gf4 63 rfl (wy_pr rfl) wt_63 wf_1_0 (v := 14) wl_63_0 ?_
      refine wb_gfi 14 rfl (wy_pr rfl) wt_14 wf_6_3 (v := ((c : Int) + 1)) ((cQ_3 h)) (fun r102 => ?_)
      refine wa_icmpge (w_rg0 (by omega) (by omega)) (w_rg0 (by omega) (by omega)) ⟨_, rfl⟩ (fun c103 => ?_) (fun c103 => ?_)
      · skip
        exact absurd c103 (by omega)
      · skip
        refine wa_iload_n (n := 2) rfl ?_
        refine wa_bipush (w_rg2 (by omega) (by omega)) ?_
        refine wa_icmpne (w_rg0 (by omega) (by omega)) (w_rg0 (by omega) (by omega)) ⟨_, rfl⟩ (fun c104 => ?_) (fun c104 => ?_)
        · skip
          refine wa_aload_n (n := 0) rfl ?_
          refine wa_iload_n (n := 1) rfl ?_
          refine wa_iconst ?_
          refine wa_iadd ?_
          refine wa_cv 63 rfl (wy_pr rfl) wt_63 (M2 := mS [64, 65, 66, 67, 69, 70]) rfl at_XP_readExpression ⟨_, rfl⟩ rfl rfl ⟨(Or.inr ⟨wy_pr rfl, mS_no rfl⟩), trivial, trivial, trivial, trivial, trivial⟩ trivial (fun _ _ q => q) (hX _ (dp + 1) u w i I F S (by omega) ⟨by omega, by omega, by omega⟩ ⟨by omega, by omega⟩ h) (fun oq121 Sq121 hp122 q121 => ?_)
          rcases q121 with ⟨i105, I106, F107, t108, rfl, hd109, hc110, hg111, ⟨p112, p113, p114, p115⟩, e116⟩ | ⟨v117, x118, rfl, hd119, hz120⟩
          · skip
            show wJ _ _ _ _ _ _ _ _ _ _
            have hSq121 : cQ T n N X c f u w i105 I106 F107 Sq121 := hc110
            have gSq121 : cQg f (I.length : Int) w S Sq121 := cQg_tr g0 (cQg_mo hg111 (by omega) (by omega))
            have krSq121 := kq_rg T n N X i105
            have icSq121 := cQ_ic hSq121
            have tSq121 : Sq121 63 16 = 0 := e116
            have flSq121 := p114.1
            refine wa_iinc rfl rfl ?_
            refine wa_aload_n (n := 0) rfl ?_
            refine wb_gf4 63 rfl (wy_pr rfl) wt_63 wf_1_0 (v := 14) wl_63_0 ?_
            refine wa_cv 14 rfl (wy_pr rfl) wt_14 (M2 := fun _ => False) rfl at_XR_kind ⟨_, rfl⟩ rfl rfl ⟨trivial, (Or.inr ⟨wy_pr rfl, fun q => q⟩), trivial, trivial, trivial, trivial⟩ trivial (fun _ _ q => False.elim q) (kd_q (S := Sq121) hSq121) (fun oq123 Sq123 hp124 q123 => ?_)
            rcases q123 with ⟨rfl, rfl⟩
            show wJ _ _ _ _ _ _ _ _ _ _
            refine wa_bipush (w_rg2 (by omega) (by omega)) ?_
            refine wa_icmpne (w_rg0 (by omega) (by omega)) (w_rg0 (by omega) (by omega)) ⟨_, rfl⟩ (fun c125 => ?_) (fun c125 => ?_)
            · skip
              refine wa_iconst ?_
              refine wa_fall ⟨_, rfl⟩ ?_
              refine wa_istore_n (n := 3) rfl ?_
              refine wa_iload_n (n := 3) rfl ?_
              refine wa_ifeq (w_rg0 (by omega) (by omega)) ⟨_, rfl⟩ (fun c126 => ?_) (fun c126 => ?_)
              · skip
                refine wa_iinc rfl rfl ?_
                refine wa_goto ⟨_, rfl⟩ ?_
                refine wa_iload_n (n := 3) rfl ?_
                refine wa_ifeq (w_rg0 (by omega) (by omega)) ⟨_, rfl⟩ (fun c127 => ?_) (fun c127 => ?_)
                · skip
                  refine wa_aload_n (n := 0) rfl ?_
                  refine wb_gf4 63 rfl (wy_pr rfl) wt_63 wf_1_0 (v := 14) wl_63_0 ?_
                  refine wa_cv 14 rfl (wy_pr rfl) wt_14 (M2 := fun _ => False) rfl at_XR_kind ⟨_, rfl⟩ rfl rfl ⟨trivial, trivial, trivial, (Or.inr ⟨wy_pr rfl, fun q => q⟩), trivial, trivial⟩ trivial (fun _ _ q => False.elim q) (kd_q (S := Sq121) hSq121) (fun oq128 Sq128 hp129 q128 => ?_)
                  rcases q128 with ⟨rfl, rfl⟩
                  show wJ _ _ _ _ _ _ _ _ _ _
                  refine wa_bipush (w_rg2 (by omega) (by omega)) ?_
                  refine wa_icmpeq (w_rg0 (by omega) (by omega)) (w_rg0 (by omega) (by omega)) ⟨_, rfl⟩ (fun c130 => ?_) (fun c130 => ?_)
                  · skip
                    refine wa_iload_n (n := 2) rfl ?_
                    refine wa_ireturn rfl ?_
                    refine Or.inl ⟨_, _, _, (x + 1), rfl, fun R hR => ?_, hSq121, gSq121, ⟨by omega, by omega, (pz_le_tr pz_le_rfl p114), by omega⟩, ⟨⟨by omega, by omega⟩, tSq121, (cQ_k hSq121).trans (by omega)⟩⟩
                    try dsimp only
                    refine pz_cVL hR ?_
                    unfold pz_VL
                    repeat first | rw [if_pos (by omega)] | rw [if_neg (by omega)]
                    first | refine pz_qo (hd109 R hR) ?_ | exact hd109 R hR
                    all_goals repeat first | rw [if_pos (by omega)] | rw [if_neg (by omega)]
                    all_goals first | rfl | (exfalso; omega)
                  · skip
                    refine wa_aload_n (n := 0) rfl ?_
                    refine wa_iconst ?_
                    refine wa_cv 63 rfl (wy_pr rfl) wt_63 (M2 := fun _ => False) rfl at_XP_refuse ⟨_, rfl⟩ rfl rfl ⟨trivial, trivial, trivial, (Or.inr ⟨wy_pr rfl, fun q => q⟩), trivial, trivial⟩ trivial (fun _ _ q => False.elim q) (rf_q (S := Sq121) (k := 1) hSq121 ⟨by omega, by omega⟩) (fun oq133 Sq133 hp134 q133 => ?_)
                    rcases q133 with ⟨v131, rfl, hz132⟩
                    refine ⟨rfl, ?_⟩
                    refine Or.inr ⟨_, _, rfl, fun R hR => ?_, cQf_of gSq121 (by omega) (by omega) (cQn_of hSq121) hz132⟩
                    try dsimp only
                    refine pz_cVL hR ?_
                    unfold pz_VL
                    repeat first | rw [if_pos (by omega)] | rw [if_neg (by omega)]
                    first | refine pz_qo (hd109 R hR) ?_ | exact hd109 R hR
                    repeat first | rw [if_pos (by omega)] | rw [if_neg (by omega)]
                    rfl
                    all_goals repeat first | rw [if_pos (by omega)] | rw [if_neg (by omega)]
                    all_goals first | rfl | (exfalso; omega)
                · skip
                  exact absurd c127 (by omega)
              · skip
                exact absurd c126 (by omega)
            · skip
              refine wa_iconst ?_
              refine wa_goto ⟨_, rfl⟩ ?_
              refine wa_istore_n (n := 3) rfl ?_
              refine wa_iload_n (n := 3) rfl ?_
              refine wa_ifeq (w_rg0 (by omega) (by omega)) ⟨_, rfl⟩ (fun c135 => ?_) (fun c135 => ?_)
              · skip
                exact absurd c135 (by omega)
              · skip
                refine wa_aload_n (n := 0) rfl ?_
                refine wb_gf4 63 rfl (wy_pr rfl) wt_63 wf_1_0 (v := 14) wl_63_0 ?_
                refine wa_cv 14 rfl (wy_pr rfl) wt_14 (M2 := fun _ => False) rfl at_XR_next ⟨_, rfl⟩ rfl rfl ⟨trivial, trivial, (Or.inr ⟨wy_pr rfl, fun q => q⟩), trivial, trivial, trivial⟩ trivial (fun _ _ q => False.elim q) (nx_q (S := Sq121) hSq121 ⟨by omega, by omega⟩) (fun oq139 Sq139 hp140 q139 => ?_)
                rcases q139 with ⟨rfl, hc136, hg137, ht138⟩
                show wJ _ _ _ _ _ _ _ _ _ _
                have hSq139 : cQ T n N X c f u w (i105 + 1) I106 F107 Sq139 := hc136
                have gSq139 : cQg f (I.length : Int) w S Sq139 := cQg_tr gSq121 (hg137 _ _)
                have krSq139 := kq_rg T n N X (i105 + 1)
                have icSq139 := cQ_ic hSq139
                have tSq139 : Sq139 63 16 = 0 := (ht138.1).trans tSq121
                refine wa_fall ⟨_, rfl⟩ ?_
                refine wa_iinc rfl rfl ?_
                refine wa_goto ⟨_, rfl⟩ ?_
                refine wJ_S (wJ_mono (ih (x + 1) (q + 1) (i105 + 1) I106 F107 Sq139 (by omega) hSq139 (by omega) (by omega) ⟨by omega, by omega, by omega, by omega⟩) (fun o Z hz => cV_tr (by omega) gSq139 (by omega) (by omega) (by omega) (pz_le_tr pz_le_rfl p114) (fun R hR o ho => ?_) hz)) ⟨rfl, rfl, rfl, rfl, rfl, trivial⟩
                try dsimp only
                refine pz_cVL hR ?_
                unfold pz_VL
                repeat first | rw [if_pos (by omega)] | rw [if_neg (by omega)]
                first | refine pz_qo (hd109 R hR) ?_ | exact hd109 R hR
                all_goals repeat first | rw [if_pos (by omega)] | rw [if_neg (by omega)]
                all_goals exact ho
          · skip
            refine ⟨rfl, ?_⟩
            refine Or.inr ⟨_, _, rfl, fun R hR => ?_, cQf_tr g0 (by omega) (by omega) hz120⟩
            try dsimp only
            refine pz_cVL hR ?_
            unfold pz_VL
            repeat first | rw [if_pos (by omega)] | rw [if_neg (by omega)]
            first | exact pz_qi (hd119 R hR) | exact hd119 R hR
            all_goals repeat first | rw [if_pos (by omega)] | rw [if_neg (by omega)]
            all_goals first | rfl | (exfalso; omega)
        · skip
          refine wa_aload_n (n := 0) rfl ?_
          refine wa_iload_n (n := 1) rfl ?_
          refine wa_iconst ?_
          refine wa_iadd ?_
          refine wa_cv 63 rfl (wy_pr rfl) wt_63 (M2 := fun _ => False) rfl at_XP_refuseNinth ⟨_, rfl⟩ rfl rfl ⟨(Or.inr ⟨wy_pr rfl, fun q => q⟩), trivial, trivial, trivial, trivial, trivial⟩ trivial (fun _ _ q => False.elim q) (rn_q (S := S) (dp := (dp + 1)) h ⟨by omega, by omega⟩) (fun oq145 Sq145 hp146 q145 => ?_)
          rcases q145 with ⟨v141, x142, rfl, hd143, hz144⟩
          refine ⟨rfl, ?_⟩
          refine Or.inr ⟨_, _, rfl, fun R hR => ?_, cQf_of g0 (by omega) (by omega) (cQn_of h) hz144⟩
          try dsimp only
          refine pz_cVL hR ?_
          unfold pz_VL
          repeat first | rw [if_pos (by omega)] | rw [if_neg (by omega)]
          exact hd143
          all_goals repeat first | rw [if_pos (by omega)] | rw [if_neg (by omega)]
          all_goals first | rfl | (exfalso; omega)
theorem es_q {D m : Nat} {dp : Int} (hX : cX xs T n N X c f m) (hS : cST xs T n N X c f m) (h : cQ T n N X c f u w i I F S) (hm : c - i < m + 1) (hD : 0 ≤ dp ∧ dp ≤ 50 ∧ 10 * (51 - dp) + 16 ≤ (D : Int)) (hI : I.length ≤ 1 * i) (hw : w ≤ 20 * dp + 12) : wJ (pe_GA xs) wY0 (mS [64, 65, 66, 67, 69, 70]) D t_XP_readEs ((pe_at t_XP_readEs.bl 0).getD (0, [])).2 [(0, (2, 63)), (1, (0, dp))] [] S (cV T n N X c f (fun R => pz_es (kq T n N X) (tp T n 0) R i dp u I F) u w i I F 1 (fun t _ Z => (0 ≤ t ∧ t ≤ 8) ∧ (S 63 16 = 0 → Z 63 16 = 0) ∧ Z 15 (Z 14 4) = 11) S) := by
  have g0 : cQg f (I.length : Int) w S S := cQg_rfl
  have kr0 := kq_rg T n N X i
  have ic0 := cQ_ic h
  have hcn := cQ_cn h
  have hwr := cQ_wr h
  obtain ⟨hu1, hu2⟩ := cQ_ur h
  obtain ⟨D, rfl⟩ : ∃ D2, D = D2 + 14 := ⟨D - 14, by omega⟩
  refine wa_aload_n (n := 0) rfl ?_
  refine wa_bipush (w_rg2 (by omega) (by omega)) ?_
  refine wa_iload_n (n := 1) rfl ?_
  refine wa_cv 63 rfl (wy_pr rfl) wt_63 (M2 := fun _ => False) rfl at_XP_open ⟨_, rfl⟩ rfl rfl ⟨(Or.inr ⟨wy_pr rfl, fun q => q⟩), trivial, trivial⟩ trivial (fun _ _ q => False.elim q) (op_q (S := S) (k := 10) (dp := dp) h ⟨by omega, by omega⟩ ⟨by omega, by omega⟩) (fun oq111 Sq111 hp112 q111 => ?_)
  rcases q111 with ⟨rfl, hk104, hc101, hg102, ht103⟩ | ⟨v105, rfl, hk107, hz106⟩ | ⟨v108, rfl, hk110, hz109⟩
  · skip
    show wJ _ _ _ _ _ _ _ _ _ _
    have hSq111 : cQ T n N X c f u w (i + 1) I F Sq111 := hc101
    have gSq111 : cQg f (I.length : Int) w S Sq111 := cQg_tr g0 (hg102 _ _)
    have krSq111 := kq_rg T n N X (i + 1)
    have icSq111 := cQ_ic hSq111
    have tSq111 : Sq111 63 16 = (S 63 16) := (ht103.1).trans rfl
    have dSq111 : pz_op (kq T n N X) (tp T n 0) 10 dp i I F = .inr ((i + 1), I, F, 0) := pz_op_o hk104
    refine wa_iconst ?_
    refine wa_istore_n (n := 2) rfl ?_
    refine wa_aload_n (n := 0) rfl ?_
    refine wb_gf4 63 rfl (wy_pr rfl) wt_63 wf_1_0 (v := 14) wl_63_0 ?_
    refine wa_cv 14 rfl (wy_pr rfl) wt_14 (M2 := fun _ => False) rfl at_XR_kind ⟨_, rfl⟩ rfl rfl ⟨trivial, (Or.inr ⟨wy_pr rfl, fun q => q⟩), trivial, trivial⟩ trivial (fun _ _ q => False.elim q) (kd_q (S := Sq111) hSq111) (fun oq113 Sq113 hp114 q113 => ?_)
    rcases q113 with ⟨rfl, rfl⟩
    show wJ _ _ _ _ _ _ _ _ _ _
    refine wa_bipush (w_rg2 (by omega) (by omega)) ?_
    refine wa_icmpeq (w_rg0 (by omega) (by omega)) (w_rg0 (by omega) (by omega)) ⟨_, rfl⟩ (fun c115 => ?_) (fun c115 => ?_)
    · skip
      refine wa_iconst ?_
      refine wa_fall ⟨_, rfl⟩ ?_
      refine wa_istore_n (n := 3) rfl ?_
      refine wa_iconst ?_
      refine wa_istore (n := 4) rfl ?_
      refine wa_fall ⟨_, rfl⟩ ?_
      refine wa_iload_n (n := 3) rfl ?_
      refine wa_ifeq (w_rg0 (by omega) (by omega)) ⟨_, rfl⟩ (fun c116 => ?_) (fun c116 => ?_)
      · skip
        refine wa_aload_n (n := 0) rfl ?_
        refine wb_gf4 63 rfl (wy_pr rfl) wt_63 wf_1_0 (v := 14) wl_63_0 ?_
        refine wa_cv 14 rfl (wy_pr rfl) wt_14 (M2 := fun _ => False) rfl at_XR_kind ⟨_, rfl⟩ rfl rfl ⟨trivial, trivial, trivial, (Or.inr ⟨wy_pr rfl, fun q => q⟩), trivial, trivial⟩ trivial (fun _ _ q => False.elim q) (kd_q (S := Sq111) hSq111) (fun oq117 Sq117 hp118 q117 => ?_)
        rcases q117 with ⟨rfl, rfl⟩
        show wJ _ _ _ _ _ _ _ _ _ _
        refine wa_bipush (w_rg2 (by omega) (by omega)) ?_
        refine wa_icmpeq (w_rg0 (by omega) (by omega)) (w_rg0 (by omega) (by omega)) ⟨_, rfl⟩ (fun c119 => ?_) (fun c119 => ?_)
        · skip
          refine wa_iload_n (n := 2) rfl ?_
          refine wa_ireturn rfl ?_
          refine Or.inl ⟨_, _, _, 0, rfl, fun R hR => ?_, hSq111, gSq111, ⟨by omega, by omega, pz_le_rfl, by omega⟩, ⟨⟨by omega, by omega⟩, fun h0 => (tSq111).trans h0, (cQ_k hSq111).trans (by omega)⟩⟩
          try dsimp only
          unfold pz_es
          repeat first | rw [if_pos (by omega)] | rw [if_neg (by omega)]
          first | refine pz_fo dSq111 ?_ | exact dSq111.symm | skip
          all_goals repeat first | rw [if_pos (by omega)] | rw [if_neg (by omega)]
          all_goals first | rfl | (exfalso; omega)
        · skip
          exact absurd c119 (by omega)
      · skip
        exact absurd c116 (by omega)
    · skip
      refine wa_iconst ?_
      refine wa_goto ⟨_, rfl⟩ ?_
      refine wa_istore_n (n := 3) rfl ?_
      refine wa_iconst ?_
      refine wa_istore (n := 4) rfl ?_
      refine wa_fall ⟨_, rfl⟩ ?_
      refine wJ_S (wJ_mono (es_3 (D := D + 14) hX hS (by omega) hw (c + 1) 0 0 (i + 1) I F Sq111 (by omega) hSq111 (by omega) (by omega) ⟨by omega, by omega, by omega, by omega⟩) (fun o Z hz => ?_)) ⟨rfl, rfl, rfl, rfl, rfl, trivial⟩
      have hz2 := cV_tr (I := I) (i := i) (F := F) (e := 1) (G := fun R => pz_es (kq T n N X) (tp T n 0) R i dp u I F) (by omega) gSq111 (by omega) (by omega) (by omega) pz_le_rfl (fun R hR o ho => ?_) hz
      · rcases hz2 with ⟨i2, I2, F2, t, a1, a2, a3, a4, a5, a6, a7, a8⟩ | hz2
        · exact Or.inl ⟨i2, I2, F2, t, a1, a2, a3, a4, a5, a6, fun _ => a7, a8⟩
        · exact Or.inr hz2
      try dsimp only
      unfold pz_es
      repeat first | rw [if_pos (by omega)] | rw [if_neg (by omega)]
      first | refine pz_fo dSq111 ?_ | exact dSq111.symm | skip
      all_goals repeat first | rw [if_pos (by omega)] | rw [if_neg (by omega)]
      all_goals exact ho
  · skip
    refine ⟨rfl, ?_⟩
    refine Or.inr ⟨_, _, rfl, fun R hR => ?_, cQf_of g0 (by omega) (by omega) (cQn_of h) hz106⟩
    try dsimp only
    unfold pz_es
    repeat first | rw [if_pos (by omega)] | rw [if_neg (by omega)]
    first | exact pz_fi (pz_op_1 hk107) | exact (pz_op_1 hk107).symm | (exfalso; omega)
    all_goals repeat first | rw [if_pos (by omega)] | rw [if_neg (by omega)]
    all_goals first | rfl | (exfalso; omega)
  · skip
    refine ⟨rfl, ?_⟩
    refine Or.inr ⟨_, _, rfl, fun R hR => ?_, cQf_of g0 (by omega) (by omega) (cQn_of h) hz109⟩
    try dsimp only
    unfold pz_es
    repeat first | rw [if_pos (by omega)] | rw [if_neg (by omega)]
    first | exact pz_fi (pz_op_4 hk110) | exact (pz_op_4 hk110).symm | rfl
    all_goals repeat first | rw [if_pos (by omega)] | rw [if_neg (by omega)]
    all_goals first | rfl | (exfalso; omega)
theorem li_3 {D m : Nat} {dp : Int} (hX : cX xs T n N X c f m) (hS : cST xs T n N X c f m) (hD : 0 ≤ dp ∧ dp < 50 ∧ 10 * (51 - dp) + 16 ≤ (D : Int)) (hw : w ≤ 20 * dp + 12) : ∀ (fu : Nat) (x q : Int) (i : Nat) (I : List pz_I) (F : List pz_F) (S : wS), c - i < fu → cQ T n N X c f u w i I F S → c - i < m → I.length ≤ 1 * i → (0 ≤ x ∧ x ≤ (i : Int) ∧ 0 ≤ q ∧ q ≤ (i : Int)) → wJ (pe_GA xs) wY0 (mS [64, 65, 66, 67, 69, 70]) D t_XP_readList ((pe_at t_XP_readList.bl 3).getD (0, [])).2 [(0, (2, 63)), (1, (0, dp)), (2, (0, x)), (3, (0, 1)), (4, (0, q))] [] S (cR T n N X c f (fun R => pz_q (R 12 x [] i (dp + 1) u I F) (fun i I F t => pz_qf (pz_tk (kq T n N X) (tp T n 0) 15 i I F) (fun i I F _ o => o = .inr (i, I ++ [(25, t, 0, u)], F, 0)))) u w i I F 1 (fun t _ Z => t = 0 ∧ Z 63 16 = 0) S) := by
  obtain ⟨D, rfl⟩ : ∃ D2, D = D2 + 14 := ⟨D - 14, by omega⟩
  intro fu
  induction fu with
  | zero => intro x q i I F S hf; exact absurd hf (Nat.not_lt_zero _)
  | succ fu ih =>
    intro x q i I F S hfu h hm hI hq
    have g0 : cQg f (I.length : Int) w S S := cQg_rfl
    have kr0 := kq_rg T n N X i
    have ic0 := cQ_ic h
    have hcn := cQ_cn h
    have hwr := cQ_wr h
    obtain ⟨hu1, hu2⟩ := cQ_ur h
    refine wa_iload_n (n := 3) rfl ?_
    refine wa_ifeq (w_rg0 (by omega) (by omega)) ⟨_, rfl⟩ (fun c101 => ?_) (fun c101 => ?_)
    · skip
      exact absurd c101 (by omega)
    · skip
      refine wa_iload (n := 4) rfl ?_
      refine wa_aload_n (n := 0) rfl ?_
      refine wb_gf4 63 rfl (wy_pr rfl) wt_63 wf_1_0 (v := 14) wl_63_0 ?_
      refine wb_gfi 14 rfl (wy_pr rfl) wt_14 wf_6_3 (v := ((c : Int) + 1)) ((cQ_3 h)) (fun r102 => ?_)
      refine wa_icmpge (w_rg0 (by omega) (by omega)) (w_rg0 (by omega) (by omega)) ⟨_, rfl⟩ (fun c103 => ?_) (fun c103 => ?_)
      · skip
        exact absurd c103 (by omega)
      · skip
        refine wa_aload_n (n := 0) rfl ?_
        refine wa_iload_n (n := 1) rfl ?_
        refine wa_iconst ?_
        refine wa_iadd ?_
        refine wa_cv 63 rfl (wy_pr rfl) wt_63 (M2 := mS [64, 65, 66, 67, 69, 70]) rfl at_XP_readExpression ⟨_, rfl⟩ rfl rfl ⟨(Or.inr ⟨wy_pr rfl, mS_no rfl⟩), trivial, trivial, trivial, trivial, trivial⟩ trivial (fun _ _ q => q) (hX _ (dp + 1) u w i I F S (by omega) ⟨by omega, by omega, by omega⟩ ⟨by omega, by omega⟩ h) (fun oq120 Sq120 hp121 q120 => ?_)
        rcases q120 with ⟨i104, I105, F106, t107, rfl, hd108, hc109, hg110, ⟨p111, p112, p113, p114⟩, e115⟩ | ⟨v116, x117, rfl, hd118, hz119⟩
        · skip
          show wJ _ _ _ _ _ _ _ _ _ _
          have hSq120 : cQ T n N X c f u w i104 I105 F106 Sq120 := hc109
          have gSq120 : cQg f (I.length : Int) w S Sq120 := cQg_tr g0 (cQg_mo hg110 (by omega) (by omega))
          have krSq120 := kq_rg T n N X i104
          have icSq120 := cQ_ic hSq120
          have tSq120 : Sq120 63 16 = 0 := e115
          have flSq120 := p113.1
          refine wa_iinc rfl rfl ?_
          refine wa_aload_n (n := 0) rfl ?_
          refine wb_gf4 63 rfl (wy_pr rfl) wt_63 wf_1_0 (v := 14) wl_63_0 ?_
          refine wa_cv 14 rfl (wy_pr rfl) wt_14 (M2 := fun _ => False) rfl at_XR_kind ⟨_, rfl⟩ rfl rfl ⟨trivial, (Or.inr ⟨wy_pr rfl, fun q => q⟩), trivial, trivial, trivial, trivial⟩ trivial (fun _ _ q => False.elim q) (kd_q (S := Sq120) hSq120) (fun oq122 Sq122 hp123 q122 => ?_)
          rcases q122 with ⟨rfl, rfl⟩
          show wJ _ _ _ _ _ _ _ _ _ _
          refine wa_bipush (w_rg2 (by omega) (by omega)) ?_
          refine wa_icmpne (w_rg0 (by omega) (by omega)) (w_rg0 (by omega) (by omega)) ⟨_, rfl⟩ (fun c124 => ?_) (fun c124 => ?_)
          · skip
            refine wa_iconst ?_
            refine wa_fall ⟨_, rfl⟩ ?_
            refine wa_istore_n (n := 3) rfl ?_
            refine wa_iload_n (n := 3) rfl ?_
            refine wa_ifeq (w_rg0 (by omega) (by omega)) ⟨_, rfl⟩ (fun c125 => ?_) (fun c125 => ?_)
            · skip
              refine wa_iinc rfl rfl ?_
              refine wa_goto ⟨_, rfl⟩ ?_
              refine wa_iload_n (n := 3) rfl ?_
              refine wa_ifeq (w_rg0 (by omega) (by omega)) ⟨_, rfl⟩ (fun c126 => ?_) (fun c126 => ?_)
              · skip
                refine wa_aload_n (n := 0) rfl ?_
                refine wa_bipush (w_rg2 (by omega) (by omega)) ?_
                refine wa_cv 63 rfl (wy_pr rfl) wt_63 (M2 := fun _ => False) rfl at_XP_take ⟨_, rfl⟩ rfl rfl ⟨trivial, trivial, trivial, (Or.inr ⟨wy_pr rfl, fun q => q⟩), trivial, trivial⟩ trivial (fun _ _ q => False.elim q) (tk_q (S := Sq120) (k := 15) hSq120 ⟨by omega, by omega⟩) (fun oq134 Sq134 hp135 q134 => ?_)
                rcases q134 with ⟨rfl, hk130, hc127, hg128, ht129⟩ | ⟨v131, rfl, hk133, hz132⟩
                · skip
                  show wJ _ _ _ _ _ _ _ _ _ _
                  have hSq134 : cQ T n N X c f u w (i104 + 1) I105 F106 Sq134 := hc127
                  have gSq134 : cQg f (I.length : Int) w S Sq134 := cQg_tr gSq120 (hg128 _ _)
                  have krSq134 := kq_rg T n N X (i104 + 1)
                  have icSq134 := cQ_ic hSq134
                  have tSq134 : Sq134 63 16 = 0 := (ht129.1).trans tSq120
                  have dSq134 : pz_tk (kq T n N X) (tp T n 0) 15 i104 I105 F106 = .inr ((i104 + 1), I105, F106, 0) := pz_tk_o hk130
                  refine wa_aload_n (n := 0) rfl ?_
                  refine wa_bipush (w_rg2 (by omega) (by omega)) ?_
                  refine wa_iload_n (n := 2) rfl ?_
                  refine wa_iconst ?_
                  refine wa_cv 63 rfl (wy_pr rfl) wt_63 (M2 := mS [64, 65, 66, 67]) rfl at_XP_note ⟨_, rfl⟩ rfl rfl ⟨trivial, trivial, trivial, (Or.inr ⟨wy_pr rfl, mS_no rfl⟩), trivial, trivial⟩ trivial (fun _ _ q => mS_sub (by decide) q) (nt_q (S := Sq134) (op := 25) (a := (x + 1)) (b := 0) (l := I105.length) hSq134 ⟨by omega, by omega⟩ ⟨by omega, by omega⟩ ⟨by omega, by omega⟩ (by omega) (by omega) (by omega)) (fun oq139 Sq139 hp140 q139 => ?_)
                  rcases q139 with ⟨rfl, hc136, hg137, ht138⟩
                  show wJ _ _ _ _ _ _ _ _ _ _
                  have hSq139 : cQ T n N X c f u w (i104 + 1) (I105 ++ [(25, (x + 1), 0, u)]) F106 Sq139 := hc136
                  have gSq139 : cQg f (I.length : Int) w S Sq139 := cQg_tr gSq134 (hg137 _ _ (by omega))
                  have tSq139 : Sq139 63 16 = 0 := (ht138).trans tSq134
                  have hlSq139 : (I105 ++ [(25, (x + 1), 0, u)]).length = I105.length + 1 := List.length_append
                  refine wa_pop (by decide) ?_
                  refine wa_return rfl ?_
                  refine Or.inl ⟨_, _, _, 0, rfl, fun R hR => ?_, hSq139, gSq139, ⟨by omega, by omega, (pz_le_tr pz_le_rfl p113), by omega⟩, ⟨rfl, tSq139⟩⟩
                  try dsimp only
                  repeat first | rw [if_pos (by omega)] | rw [if_neg (by omega)]
                  refine pz_qo (i := i104) (I := I105) (F := F106) (t := x + 1) (pz_cLI hR (by unfold pz_LI; refine pz_qo (hd108 R hR) ?_; (repeat first | rw [if_pos (by omega)] | rw [if_neg (by omega)]); all_goals rfl)) ?_
                  repeat first | rw [if_pos (by omega)] | rw [if_neg (by omega)]
                  first | refine pz_fo dSq134 ?_ | exact dSq134.symm | exact (pz_tk_o hk130).symm | skip
                  all_goals repeat first | rw [if_pos (by omega)] | rw [if_neg (by omega)]
                  all_goals first | rfl | (exfalso; omega)
                · skip
                  refine ⟨rfl, ?_⟩
                  refine Or.inr ⟨_, _, rfl, fun R hR => ?_, cQf_of gSq120 (by omega) (by omega) (cQn_of hSq120) hz132⟩
                  try dsimp only
                  repeat first | rw [if_pos (by omega)] | rw [if_neg (by omega)]
                  refine pz_qo (i := i104) (I := I105) (F := F106) (t := x + 1) (pz_cLI hR (by unfold pz_LI; refine pz_qo (hd108 R hR) ?_; (repeat first | rw [if_pos (by omega)] | rw [if_neg (by omega)]); all_goals rfl)) ?_
                  repeat first | rw [if_pos (by omega)] | rw [if_neg (by omega)]
                  first | exact pz_fi (pz_tk_f hk133) | exact (pz_tk_f hk133).symm | (exfalso; omega)
                  all_goals repeat first | rw [if_pos (by omega)] | rw [if_neg (by omega)]
                  all_goals first | rfl | (exfalso; omega)
              · skip
                exact absurd c126 (by omega)
            · skip
              exact absurd c125 (by omega)
          · skip
            refine wa_iconst ?_
            refine wa_goto ⟨_, rfl⟩ ?_
            refine wa_istore_n (n := 3) rfl ?_
            refine wa_iload_n (n := 3) rfl ?_
            refine wa_ifeq (w_rg0 (by omega) (by omega)) ⟨_, rfl⟩ (fun c141 => ?_) (fun c141 => ?_)
            · skip
              exact absurd c141 (by omega)
            · skip
              refine wa_aload_n (n := 0) rfl ?_
              refine wb_gf4 63 rfl (wy_pr rfl) wt_63 wf_1_0 (v := 14) wl_63_0 ?_
              refine wa_cv 14 rfl (wy_pr rfl) wt_14 (M2 := fun _ => False) rfl at_XR_next ⟨_, rfl⟩ rfl rfl ⟨trivial, trivial, (Or.inr ⟨wy_pr rfl, fun q => q⟩), trivial, trivial, trivial⟩ trivial (fun _ _ q => False.elim q) (nx_q (S := Sq120) hSq120 ⟨by omega, by omega⟩) (fun oq145 Sq145 hp146 q145 => ?_)
              rcases q145 with ⟨rfl, hc142, hg143, ht144⟩
              show wJ _ _ _ _ _ _ _ _ _ _
              have hSq145 : cQ T n N X c f u w (i104 + 1) I105 F106 Sq145 := hc142
              have gSq145 : cQg f (I.length : Int) w S Sq145 := cQg_tr gSq120 (hg143 _ _)
              have krSq145 := kq_rg T n N X (i104 + 1)
              have icSq145 := cQ_ic hSq145
              have tSq145 : Sq145 63 16 = 0 := (ht144.1).trans tSq120
              refine wa_fall ⟨_, rfl⟩ ?_
              refine wa_iinc rfl rfl ?_
              refine wa_goto ⟨_, rfl⟩ ?_
              refine wJ_S (wJ_mono (ih (x + 1) (q + 1) (i104 + 1) I105 F106 Sq145 (by omega) hSq145 (by omega) (by omega) ⟨by omega, by omega, by omega, by omega⟩) (fun o Z hz => cR_tr (by omega) gSq145 (by omega) (by omega) (by omega) (pz_le_tr pz_le_rfl p113) (fun R hR o ho => pz_q_mono (fun o2 ho2 => pz_cLI hR (by unfold pz_LI; refine pz_qo (hd108 R hR) ?_; (repeat first | rw [if_pos (by omega)] | rw [if_neg (by omega)]); exact ho2)) ho) hz)) ⟨rfl, rfl, rfl, rfl, rfl, trivial⟩
        · skip
          refine ⟨rfl, ?_⟩
          refine Or.inr ⟨_, _, rfl, fun R hR => ?_, cQf_tr g0 (by omega) (by omega) hz119⟩
          try dsimp only
          repeat first | rw [if_pos (by omega)] | rw [if_neg (by omega)]
          refine pz_qi (pz_cLI hR ?_)
          repeat first | rw [if_pos (by omega)] | rw [if_neg (by omega)]
          unfold pz_LI
          repeat first | rw [if_pos (by omega)] | rw [if_neg (by omega)]
          first | exact pz_qi (hd118 R hR) | exact hd118 R hR
          all_goals repeat first | rw [if_pos (by omega)] | rw [if_neg (by omega)]
          all_goals first | rfl | (exfalso; omega)
theorem li_q {D m : Nat} {dp : Int} (hX : cX xs T n N X c f m) (hS : cST xs T n N X c f m) (h : cQ T n N X c f u w i I F S) (hm : c - i < m + 1) (hD : 0 ≤ dp ∧ dp ≤ 50 ∧ 10 * (51 - dp) + 16 ≤ (D : Int)) (hI : I.length ≤ 1 * i) (hw : w ≤ 20 * dp + 12) (ht : S 63 16 = 0) : wJ (pe_GA xs) wY0 (mS [64, 65, 66, 67, 69, 70]) D t_XP_readList ((pe_at t_XP_readList.bl 0).getD (0, [])).2 [(0, (2, 63)), (1, (0, dp))] [] S (cR T n N X c f (fun R => pz_FI14 (kq T n N X) (tp T n 0) R i dp u I F) u w i I F 1 (fun t _ Z => t = 0 ∧ Z 63 16 = 0) S) := by
  have g0 : cQg f (I.length : Int) w S S := cQg_rfl
  have kr0 := kq_rg T n N X i
  have ic0 := cQ_ic h
  have hcn := cQ_cn h
  have hwr := cQ_wr h
  obtain ⟨hu1, hu2⟩ := cQ_ur h
  obtain ⟨D, rfl⟩ : ∃ D2, D = D2 + 14 := ⟨D - 14, by omega⟩
  refine wa_aload_n (n := 0) rfl ?_
  refine wa_bipush (w_rg2 (by omega) (by omega)) ?_
  refine wa_iload_n (n := 1) rfl ?_
  refine wa_cv 63 rfl (wy_pr rfl) wt_63 (M2 := fun _ => False) rfl at_XP_open ⟨_, rfl⟩ rfl rfl ⟨(Or.inr ⟨wy_pr rfl, fun q => q⟩), trivial, trivial⟩ trivial (fun _ _ q => False.elim q) (op_q (S := S) (k := 14) (dp := dp) h ⟨by omega, by omega⟩ ⟨by omega, by omega⟩) (fun oq111 Sq111 hp112 q111 => ?_)
  rcases q111 with ⟨rfl, hk104, hc101, hg102, ht103⟩ | ⟨v105, rfl, hk107, hz106⟩ | ⟨v108, rfl, hk110, hz109⟩
  · skip
    show wJ _ _ _ _ _ _ _ _ _ _
    have hSq111 : cQ T n N X c f u w (i + 1) I F Sq111 := hc101
    have gSq111 : cQg f (I.length : Int) w S Sq111 := cQg_tr g0 (hg102 _ _)
    have krSq111 := kq_rg T n N X (i + 1)
    have icSq111 := cQ_ic hSq111
    have tSq111 : Sq111 63 16 = 0 := (ht103.1).trans ht
    have dSq111 : pz_op (kq T n N X) (tp T n 0) 14 dp i I F = .inr ((i + 1), I, F, 0) := pz_op_o hk104
    refine wa_iconst ?_
    refine wa_istore_n (n := 2) rfl ?_
    refine wa_aload_n (n := 0) rfl ?_
    refine wb_gf4 63 rfl (wy_pr rfl) wt_63 wf_1_0 (v := 14) wl_63_0 ?_
    refine wa_cv 14 rfl (wy_pr rfl) wt_14 (M2 := fun _ => False) rfl at_XR_kind ⟨_, rfl⟩ rfl rfl ⟨trivial, (Or.inr ⟨wy_pr rfl, fun q => q⟩), trivial, trivial⟩ trivial (fun _ _ q => False.elim q) (kd_q (S := Sq111) hSq111) (fun oq113 Sq113 hp114 q113 => ?_)
    rcases q113 with ⟨rfl, rfl⟩
    show wJ _ _ _ _ _ _ _ _ _ _
    refine wa_bipush (w_rg2 (by omega) (by omega)) ?_
    refine wa_icmpeq (w_rg0 (by omega) (by omega)) (w_rg0 (by omega) (by omega)) ⟨_, rfl⟩ (fun c115 => ?_) (fun c115 => ?_)
    · skip
      refine wa_iconst ?_
      refine wa_fall ⟨_, rfl⟩ ?_
      refine wa_istore_n (n := 3) rfl ?_
      refine wa_iconst ?_
      refine wa_istore (n := 4) rfl ?_
      refine wa_fall ⟨_, rfl⟩ ?_
      refine wa_iload_n (n := 3) rfl ?_
      refine wa_ifeq (w_rg0 (by omega) (by omega)) ⟨_, rfl⟩ (fun c116 => ?_) (fun c116 => ?_)
      · skip
        refine wa_aload_n (n := 0) rfl ?_
        refine wa_bipush (w_rg2 (by omega) (by omega)) ?_
        refine wa_cv 63 rfl (wy_pr rfl) wt_63 (M2 := fun _ => False) rfl at_XP_take ⟨_, rfl⟩ rfl rfl ⟨trivial, trivial, trivial, (Or.inr ⟨wy_pr rfl, fun q => q⟩), trivial, trivial⟩ trivial (fun _ _ q => False.elim q) (tk_q (S := Sq111) (k := 15) hSq111 ⟨by omega, by omega⟩) (fun oq124 Sq124 hp125 q124 => ?_)
        rcases q124 with ⟨rfl, hk120, hc117, hg118, ht119⟩ | ⟨v121, rfl, hk123, hz122⟩
        · skip
          show wJ _ _ _ _ _ _ _ _ _ _
          have hSq124 : cQ T n N X c f u w (i + 2) I F Sq124 := hc117
          have gSq124 : cQg f (I.length : Int) w S Sq124 := cQg_tr gSq111 (hg118 _ _)
          have krSq124 := kq_rg T n N X (i + 2)
          have icSq124 := cQ_ic hSq124
          have tSq124 : Sq124 63 16 = 0 := (ht119.1).trans tSq111
          have dSq124 : pz_tk (kq T n N X) (tp T n 0) 15 (i + 1) I F = .inr ((i + 2), I, F, 0) := pz_tk_o hk120
          refine wa_aload_n (n := 0) rfl ?_
          refine wa_bipush (w_rg2 (by omega) (by omega)) ?_
          refine wa_iload_n (n := 2) rfl ?_
          refine wa_iconst ?_
          refine wa_cv 63 rfl (wy_pr rfl) wt_63 (M2 := mS [64, 65, 66, 67]) rfl at_XP_note ⟨_, rfl⟩ rfl rfl ⟨trivial, trivial, trivial, (Or.inr ⟨wy_pr rfl, mS_no rfl⟩), trivial, trivial⟩ trivial (fun _ _ q => mS_sub (by decide) q) (nt_q (S := Sq124) (op := 25) (a := 0) (b := 0) (l := I.length) hSq124 ⟨by omega, by omega⟩ ⟨by omega, by omega⟩ ⟨by omega, by omega⟩ (by omega) (by omega) (by omega)) (fun oq129 Sq129 hp130 q129 => ?_)
          rcases q129 with ⟨rfl, hc126, hg127, ht128⟩
          show wJ _ _ _ _ _ _ _ _ _ _
          have hSq129 : cQ T n N X c f u w (i + 2) (I ++ [(25, 0, 0, u)]) F Sq129 := hc126
          have gSq129 : cQg f (I.length : Int) w S Sq129 := cQg_tr gSq124 (hg127 _ _ (by omega))
          have tSq129 : Sq129 63 16 = 0 := (ht128).trans tSq124
          have hlSq129 : (I ++ [(25, 0, 0, u)]).length = I.length + 1 := List.length_append
          refine wa_pop (by decide) ?_
          refine wa_return rfl ?_
          refine Or.inl ⟨_, _, _, 0, rfl, fun R hR => ?_, hSq129, gSq129, ⟨by omega, by omega, pz_le_rfl, by omega⟩, ⟨rfl, tSq129⟩⟩
          try dsimp only
          unfold pz_FI14
          repeat first | rw [if_pos (by omega)] | rw [if_neg (by omega)]
          first | refine pz_fo dSq111 ?_ | exact dSq111.symm | skip
          repeat first | rw [if_pos (by omega)] | rw [if_neg (by omega)]
          refine pz_qo (i := (i + 1)) (I := I) (F := F) (t := 0) (by (repeat first | rw [if_pos (by omega)] | rw [if_neg (by omega)]); all_goals rfl) ?_
          repeat first | rw [if_pos (by omega)] | rw [if_neg (by omega)]
          first | refine pz_fo dSq124 ?_ | exact dSq124.symm | exact (pz_tk_o hk120).symm | skip
          all_goals repeat first | rw [if_pos (by omega)] | rw [if_neg (by omega)]
          all_goals first | rfl | (exfalso; omega)
        · skip
          refine ⟨rfl, ?_⟩
          refine Or.inr ⟨_, _, rfl, fun R hR => ?_, cQf_of gSq111 (by omega) (by omega) (cQn_of hSq111) hz122⟩
          try dsimp only
          unfold pz_FI14
          repeat first | rw [if_pos (by omega)] | rw [if_neg (by omega)]
          first | refine pz_fo dSq111 ?_ | exact dSq111.symm | skip
          repeat first | rw [if_pos (by omega)] | rw [if_neg (by omega)]
          refine pz_qo (i := (i + 1)) (I := I) (F := F) (t := 0) (by (repeat first | rw [if_pos (by omega)] | rw [if_neg (by omega)]); all_goals rfl) ?_
          repeat first | rw [if_pos (by omega)] | rw [if_neg (by omega)]
          first | exact pz_fi (pz_tk_f hk123) | exact (pz_tk_f hk123).symm | (exfalso; omega)
          all_goals repeat first | rw [if_pos (by omega)] | rw [if_neg (by omega)]
          all_goals first | rfl | (exfalso; omega)
      · skip
        exact absurd c116 (by omega)
    · skip
      refine wa_iconst ?_
      refine wa_goto ⟨_, rfl⟩ ?_
      refine wa_istore_n (n := 3) rfl ?_
      refine wa_iconst ?_
      refine wa_istore (n := 4) rfl ?_
      refine wa_fall ⟨_, rfl⟩ ?_
      refine wJ_S (wJ_mono (li_3 (D := D + 14) hX hS (by omega) hw (c + 1) 0 0 (i + 1) I F Sq111 (by omega) hSq111 (by omega) (by omega) ⟨by omega, by omega, by omega, by omega⟩) (fun o Z hz => cR_tr (by omega) gSq111 (by omega) (by omega) (by omega) pz_le_rfl (fun R hR o ho => ?_) hz)) ⟨rfl, rfl, rfl, rfl, rfl, trivial⟩
      unfold pz_FI14
      first | refine pz_fo dSq111 ?_ | exact dSq111.symm | skip
      exact pz_q_mono (fun o2 ho2 => by (repeat first | rw [if_pos (by omega)] | rw [if_neg (by omega)]); exact ho2) ho
  · skip
    refine ⟨rfl, ?_⟩
    refine Or.inr ⟨_, _, rfl, fun R hR => ?_, cQf_of g0 (by omega) (by omega) (cQn_of h) hz106⟩
    try dsimp only
    unfold pz_FI14
    repeat first | rw [if_pos (by omega)] | rw [if_neg (by omega)]
    first | exact pz_fi (pz_op_1 hk107) | exact (pz_op_1 hk107).symm | (exfalso; omega)
    all_goals repeat first | rw [if_pos (by omega)] | rw [if_neg (by omega)]
    all_goals first | rfl | (exfalso; omega)
  · skip
    refine ⟨rfl, ?_⟩
    refine Or.inr ⟨_, _, rfl, fun R hR => ?_, cQf_of g0 (by omega) (by omega) (cQn_of h) hz109⟩
    try dsimp only
    unfold pz_FI14
    repeat first | rw [if_pos (by omega)] | rw [if_neg (by omega)]
    first | exact pz_fi (pz_op_4 hk110) | exact (pz_op_4 hk110).symm | rfl
    all_goals repeat first | rw [if_pos (by omega)] | rw [if_neg (by omega)]
    all_goals first | rfl | (exfalso; omega)
theorem ob_3 {D m : Nat} {dp : Int} (hX : cX xs T n N X c f m) (hS : cST xs T n N X c f m) (hD : 0 ≤ dp ∧ dp < 50 ∧ 10 * (51 - dp) + 16 ≤ (D : Int)) (hw : w ≤ 20 * dp + 12) : ∀ (fu : Nat) (q : Int) (i : Nat) (I : List pz_I) (F : List pz_F) (S : wS), c - i < fu → cQ T n N X c f u w i I F S → c - i < m → I.length ≤ 1 * i → (0 ≤ q ∧ q ≤ (i : Int)) → wJ (pe_GA xs) wY0 (mS [64, 65, 66, 67, 69, 70]) D t_XP_readObject ((pe_at t_XP_readObject.bl 3).getD (0, [])).2 [(0, (2, 63)), (1, (0, dp)), (2, (0, 1)), (3, (0, q))] [] S (cR T n N X c f (fun R => pz_q (R 13 0 [] i (dp + 1) u I F) (fun i I F _ => pz_qf (pz_tk (kq T n N X) (tp T n 0) 13 i I F) (fun i I F _ o => o = .inr (i, I, F, 0)))) u w i I F 1 (fun t _ Z => t = 0 ∧ Z 63 16 = 0) S) := by
  obtain ⟨D, rfl⟩ : ∃ D2, D = D2 + 14 := ⟨D - 14, by omega⟩
  intro fu
  induction fu with
  | zero => intro q i I F S hf; exact absurd hf (Nat.not_lt_zero _)
  | succ fu ih =>
    intro q i I F S hfu h hm hI hq
    have g0 : cQg f (I.length : Int) w S S := cQg_rfl
    have kr0 := kq_rg T n N X i
    have ic0 := cQ_ic h
    have hcn := cQ_cn h
    have hwr := cQ_wr h
    obtain ⟨hu1, hu2⟩ := cQ_ur h
    refine wa_iload_n (n := 2) rfl ?_
    refine wa_ifeq (w_rg0 (by omega) (by omega)) ⟨_, rfl⟩ (fun c101 => ?_) (fun c101 => ?_)
    · skip
      exact absurd c101 (by omega)
    · skip
      refine wa_iload_n (n := 3) rfl ?_
      refine wa_aload_n (n := 0) rfl ?_
      refine wb_gf4 63 rfl (wy_pr rfl) wt_63 wf_1_0 (v := 14) wl_63_0 ?_
      refine wb_gfi 14 rfl (wy_pr rfl) wt_14 wf_6_3 (v := ((c : Int) + 1)) ((cQ_3 h)) (fun r102 => ?_)
      refine wa_icmpge (w_rg0 (by omega) (by omega)) (w_rg0 (by omega) (by omega)) ⟨_, rfl⟩ (fun c103 => ?_) (fun c103 => ?_)
      · skip
        exact absurd c103 (by omega)
      · skip
        refine wa_aload_n (n := 0) rfl ?_
        refine wa_cv 63 rfl (wy_pr rfl) wt_63 (M2 := fun _ => False) rfl at_XP_takeName ⟨_, rfl⟩ rfl rfl ⟨(Or.inr ⟨wy_pr rfl, fun q => q⟩), trivial, trivial, trivial, trivial⟩ trivial (fun _ _ q => False.elim q) (tn_q (S := S) h) (fun oq114 Sq114 hp115 q114 => ?_)
        rcases q114 with ⟨rfl, hk107, hc104, hg105, ht106⟩ | ⟨v108, rfl, hk110, hz109⟩ | ⟨v111, rfl, hk113, hz112⟩
        · skip
          show wJ _ _ _ _ _ _ _ _ _ _
          have hSq114 : cQ T n N X c f u w (i + 1) I F Sq114 := hc104
          have gSq114 : cQg f (I.length : Int) w S Sq114 := cQg_tr g0 (hg105 _ _)
          have krSq114 := kq_rg T n N X (i + 1)
          have icSq114 := cQ_ic hSq114
          have dSq114 : pz_nm (kq T n N X) (vq T n N X) (tp T n 0) i I F = .inr ((i + 1), I, F, (vq T n N X i)) := pz_nm_o hk107.1
          have vnSq114 := vq_nn hk107.1
          refine wa_istore (n := 4) rfl ?_
          refine wa_aload_n (n := 0) rfl ?_
          refine wa_bipush (w_rg2 (by omega) (by omega)) ?_
          refine wa_cv 63 rfl (wy_pr rfl) wt_63 (M2 := fun _ => False) rfl at_XP_take ⟨_, rfl⟩ rfl rfl ⟨trivial, (Or.inr ⟨wy_pr rfl, fun q => q⟩), trivial, trivial, trivial, trivial⟩ trivial (fun _ _ q => False.elim q) (tk_q (S := Sq114) (k := 19) hSq114 ⟨by omega, by omega⟩) (fun oq123 Sq123 hp124 q123 => ?_)
          rcases q123 with ⟨rfl, hk119, hc116, hg117, ht118⟩ | ⟨v120, rfl, hk122, hz121⟩
          · skip
            show wJ _ _ _ _ _ _ _ _ _ _
            have hSq123 : cQ T n N X c f u w (i + 2) I F Sq123 := hc116
            have gSq123 : cQg f (I.length : Int) w S Sq123 := cQg_tr gSq114 (hg117 _ _)
            have krSq123 := kq_rg T n N X (i + 2)
            have icSq123 := cQ_ic hSq123
            have dSq123 : pz_tk (kq T n N X) (tp T n 0) 19 (i + 1) I F = .inr ((i + 2), I, F, 0) := pz_tk_o hk119
            refine wa_aload_n (n := 0) rfl ?_
            refine wa_bipush (w_rg2 (by omega) (by omega)) ?_
            refine wa_iconst ?_
            refine wa_iconst ?_
            refine wa_cv 63 rfl (wy_pr rfl) wt_63 (M2 := mS [64, 65, 66, 67]) rfl at_XP_note ⟨_, rfl⟩ rfl rfl ⟨trivial, (Or.inr ⟨wy_pr rfl, mS_no rfl⟩), trivial, trivial, trivial, trivial⟩ trivial (fun _ _ q => mS_sub (by decide) q) (nt_q (S := Sq123) (op := 6) (a := 0) (b := 0) (l := I.length) hSq123 ⟨by omega, by omega⟩ ⟨by omega, by omega⟩ ⟨by omega, by omega⟩ (by omega) (by omega) (by omega)) (fun oq128 Sq128 hp129 q128 => ?_)
            rcases q128 with ⟨rfl, hc125, hg126, ht127⟩
            show wJ _ _ _ _ _ _ _ _ _ _
            have hSq128 : cQ T n N X c f u w (i + 2) (I ++ [(6, 0, 0, u)]) F Sq128 := hc125
            have gSq128 : cQg f (I.length : Int) w S Sq128 := cQg_tr gSq123 (hg126 _ _ (by omega))
            have hlSq128 : (I ++ [(6, 0, 0, u)]).length = I.length + 1 := List.length_append
            refine wa_pop (by decide) ?_
            refine wa_aload_n (n := 0) rfl ?_
            refine wa_iload_n (n := 1) rfl ?_
            refine wa_iconst ?_
            refine wa_iadd ?_
            refine wa_cv 63 rfl (wy_pr rfl) wt_63 (M2 := mS [64, 65, 66, 67, 69, 70]) rfl at_XP_readExpression ⟨_, rfl⟩ rfl rfl ⟨trivial, (Or.inr ⟨wy_pr rfl, mS_no rfl⟩), trivial, trivial, trivial, trivial⟩ trivial (fun _ _ q => q) (hX _ (dp + 1) u w (i + 2) (I ++ [(6, 0, 0, u)]) F Sq128 (by omega) ⟨by omega, by omega, by omega⟩ ⟨by omega, by omega⟩ hSq128) (fun oq146 Sq146 hp147 q146 => ?_)
            rcases q146 with ⟨i130, I131, F132, t133, rfl, hd134, hc135, hg136, ⟨p137, p138, p139, p140⟩, e141⟩ | ⟨v142, x143, rfl, hd144, hz145⟩
            · skip
              show wJ _ _ _ _ _ _ _ _ _ _
              have hSq146 : cQ T n N X c f u w i130 I131 F132 Sq146 := hc135
              have gSq146 : cQg f (I.length : Int) w S Sq146 := cQg_tr gSq128 (cQg_mo hg136 (by omega) (by omega))
              have krSq146 := kq_rg T n N X i130
              have icSq146 := cQ_ic hSq146
              have tSq146 : Sq146 63 16 = 0 := e141
              have flSq146 := p139.1
              refine wa_aload_n (n := 0) rfl ?_
              refine wa_iconst ?_
              refine wa_iload (n := 4) rfl ?_
              refine wa_iconst ?_
              refine wa_cv 63 rfl (wy_pr rfl) wt_63 (M2 := mS [64, 65, 66, 67]) rfl at_XP_noteSite ⟨_, rfl⟩ rfl rfl ⟨trivial, (Or.inr ⟨wy_pr rfl, mS_no rfl⟩), trivial, trivial, trivial, trivial⟩ trivial (fun _ _ q => mS_sub (by decide) q) (ns_q (S := Sq146) (k := 1) (y := (vq T n N X i)) (e := 0) hSq146 ⟨by omega, by omega⟩ ⟨by omega, by omega⟩ ⟨by omega, by omega⟩ (by omega)) (fun oq151 Sq151 hp152 q151 => ?_)
              rcases q151 with ⟨rfl, hc148, hg149, ht150⟩
              show wJ _ _ _ _ _ _ _ _ _ _
              have hSq151 : cQ T n N X c f u w i130 (I131 ++ [(27, 1, (vq T n N X i), u)]) F132 Sq151 := hc148
              have gSq151 : cQg f (I.length : Int) w S Sq151 := cQg_tr gSq146 (hg149 _ _ (by omega))
              have tSq151 : Sq151 63 16 = 0 := (ht150).trans tSq146
              have hlSq151 : (I131 ++ [(27, 1, (vq T n N X i), u)]).length = I131.length + 1 := List.length_append
              refine wa_aload_n (n := 0) rfl ?_
              refine wa_iconst ?_
              refine wa_iconst ?_
              refine wa_iconst ?_
              refine wa_cv 63 rfl (wy_pr rfl) wt_63 (M2 := mS [64, 65, 66, 67]) rfl at_XP_note ⟨_, rfl⟩ rfl rfl ⟨trivial, (Or.inr ⟨wy_pr rfl, mS_no rfl⟩), trivial, trivial, trivial, trivial⟩ trivial (fun _ _ q => mS_sub (by decide) q) (nt_q (S := Sq151) (op := 5) (a := 0) (b := 0) (l := (I131.length + 1)) hSq151 ⟨by omega, by omega⟩ ⟨by omega, by omega⟩ ⟨by omega, by omega⟩ (by omega) (by omega) (by omega)) (fun oq156 Sq156 hp157 q156 => ?_)
              rcases q156 with ⟨rfl, hc153, hg154, ht155⟩
              show wJ _ _ _ _ _ _ _ _ _ _
              have hSq156 : cQ T n N X c f u w i130 ((I131 ++ [(27, 1, (vq T n N X i), u)]) ++ [(5, 0, 0, u)]) F132 Sq156 := hc153
              have gSq156 : cQg f (I.length : Int) w S Sq156 := cQg_tr gSq151 (hg154 _ _ (by omega))
              have tSq156 : Sq156 63 16 = 0 := (ht155).trans tSq151
              have hlSq156 : ((I131 ++ [(27, 1, (vq T n N X i), u)]) ++ [(5, 0, 0, u)]).length = (I131 ++ [(27, 1, (vq T n N X i), u)]).length + 1 := List.length_append
              refine wa_pop (by decide) ?_
              refine wa_aload_n (n := 0) rfl ?_
              refine wb_gf4 63 rfl (wy_pr rfl) wt_63 wf_1_0 (v := 14) wl_63_0 ?_
              refine wa_cv 14 rfl (wy_pr rfl) wt_14 (M2 := fun _ => False) rfl at_XR_kind ⟨_, rfl⟩ rfl rfl ⟨trivial, (Or.inr ⟨wy_pr rfl, fun q => q⟩), trivial, trivial, trivial, trivial⟩ trivial (fun _ _ q => False.elim q) (kd_q (S := Sq156) hSq156) (fun oq158 Sq158 hp159 q158 => ?_)
              rcases q158 with ⟨rfl, rfl⟩
              show wJ _ _ _ _ _ _ _ _ _ _
              refine wa_bipush (w_rg2 (by omega) (by omega)) ?_
              refine wa_icmpne (w_rg0 (by omega) (by omega)) (w_rg0 (by omega) (by omega)) ⟨_, rfl⟩ (fun c160 => ?_) (fun c160 => ?_)
              · skip
                refine wa_iconst ?_
                refine wa_fall ⟨_, rfl⟩ ?_
                refine wa_istore_n (n := 2) rfl ?_
                refine wa_iload_n (n := 2) rfl ?_
                refine wa_ifeq (w_rg0 (by omega) (by omega)) ⟨_, rfl⟩ (fun c161 => ?_) (fun c161 => ?_)
                · skip
                  refine wa_iinc rfl rfl ?_
                  refine wa_goto ⟨_, rfl⟩ ?_
                  refine wa_iload_n (n := 2) rfl ?_
                  refine wa_ifeq (w_rg0 (by omega) (by omega)) ⟨_, rfl⟩ (fun c162 => ?_) (fun c162 => ?_)
                  · skip
                    refine wa_aload_n (n := 0) rfl ?_
                    refine wa_bipush (w_rg2 (by omega) (by omega)) ?_
                    refine wa_cv 63 rfl (wy_pr rfl) wt_63 (M2 := fun _ => False) rfl at_XP_take ⟨_, rfl⟩ rfl rfl ⟨trivial, trivial, trivial, (Or.inr ⟨wy_pr rfl, fun q => q⟩), trivial, trivial⟩ trivial (fun _ _ q => False.elim q) (tk_q (S := Sq156) (k := 13) hSq156 ⟨by omega, by omega⟩) (fun oq170 Sq170 hp171 q170 => ?_)
                    rcases q170 with ⟨rfl, hk166, hc163, hg164, ht165⟩ | ⟨v167, rfl, hk169, hz168⟩
                    · skip
                      show wJ _ _ _ _ _ _ _ _ _ _
                      have hSq170 : cQ T n N X c f u w (i130 + 1) ((I131 ++ [(27, 1, (vq T n N X i), u)]) ++ [(5, 0, 0, u)]) F132 Sq170 := hc163
                      have gSq170 : cQg f (I.length : Int) w S Sq170 := cQg_tr gSq156 (hg164 _ _)
                      have krSq170 := kq_rg T n N X (i130 + 1)
                      have icSq170 := cQ_ic hSq170
                      have tSq170 : Sq170 63 16 = 0 := (ht165.1).trans tSq156
                      have dSq170 : pz_tk (kq T n N X) (tp T n 0) 13 i130 ((I131 ++ [(27, 1, (vq T n N X i), u)]) ++ [(5, 0, 0, u)]) F132 = .inr ((i130 + 1), ((I131 ++ [(27, 1, (vq T n N X i), u)]) ++ [(5, 0, 0, u)]), F132, 0) := pz_tk_o hk166
                      refine wa_return rfl ?_
                      refine Or.inl ⟨_, _, _, 0, rfl, fun R hR => ?_, hSq170, gSq170, ⟨by omega, by omega, (pz_le_tr pz_le_rfl p139), by omega⟩, ⟨rfl, tSq170⟩⟩
                      try dsimp only
                      repeat first | rw [if_pos (by omega)] | rw [if_neg (by omega)]
                      refine pz_qo (i := i130) (I := ((I131 ++ [(27, 1, (vq T n N X i), u)]) ++ [(5, 0, 0, u)])) (F := F132) (t := 0) (pz_cOB hR (by unfold pz_OB; (first | refine pz_fo dSq114 ?_ | skip); (first | refine pz_fo dSq123 ?_ | exact dSq123.symm | exact (pz_tk_o hk119).symm | skip); (first | refine pz_qo (hd134 R hR) ?_ | exact hd134 R hR); (repeat first | rw [if_pos (by omega)] | rw [if_neg (by omega)]); all_goals rfl)) ?_
                      repeat first | rw [if_pos (by omega)] | rw [if_neg (by omega)]
                      first | refine pz_fo dSq170 ?_ | exact dSq170.symm | exact (pz_tk_o hk166).symm | skip
                      all_goals repeat first | rw [if_pos (by omega)] | rw [if_neg (by omega)]
                      all_goals first | rfl | (exfalso; omega)
                    · skip
                      refine ⟨rfl, ?_⟩
                      refine Or.inr ⟨_, _, rfl, fun R hR => ?_, cQf_of gSq156 (by omega) (by omega) (cQn_of hSq156) hz168⟩
                      try dsimp only
                      repeat first | rw [if_pos (by omega)] | rw [if_neg (by omega)]
                      refine pz_qo (i := i130) (I := ((I131 ++ [(27, 1, (vq T n N X i), u)]) ++ [(5, 0, 0, u)])) (F := F132) (t := 0) (pz_cOB hR (by unfold pz_OB; (first | refine pz_fo dSq114 ?_ | skip); (first | refine pz_fo dSq123 ?_ | exact dSq123.symm | exact (pz_tk_o hk119).symm | skip); (first | refine pz_qo (hd134 R hR) ?_ | exact hd134 R hR); (repeat first | rw [if_pos (by omega)] | rw [if_neg (by omega)]); all_goals rfl)) ?_
                      repeat first | rw [if_pos (by omega)] | rw [if_neg (by omega)]
                      first | exact pz_fi (pz_tk_f hk169) | exact (pz_tk_f hk169).symm | (exfalso; omega)
                      all_goals repeat first | rw [if_pos (by omega)] | rw [if_neg (by omega)]
                      all_goals first | rfl | (exfalso; omega)
                  · skip
                    exact absurd c162 (by omega)
                · skip
                  exact absurd c161 (by omega)
              · skip
                refine wa_iconst ?_
                refine wa_goto ⟨_, rfl⟩ ?_
                refine wa_istore_n (n := 2) rfl ?_
                refine wa_iload_n (n := 2) rfl ?_
                refine wa_ifeq (w_rg0 (by omega) (by omega)) ⟨_, rfl⟩ (fun c172 => ?_) (fun c172 => ?_)
                · skip
                  exact absurd c172 (by omega)
                · skip
                  refine wa_aload_n (n := 0) rfl ?_
                  refine wb_gf4 63 rfl (wy_pr rfl) wt_63 wf_1_0 (v := 14) wl_63_0 ?_
                  refine wa_cv 14 rfl (wy_pr rfl) wt_14 (M2 := fun _ => False) rfl at_XR_next ⟨_, rfl⟩ rfl rfl ⟨trivial, trivial, (Or.inr ⟨wy_pr rfl, fun q => q⟩), trivial, trivial, trivial⟩ trivial (fun _ _ q => False.elim q) (nx_q (S := Sq156) hSq156 ⟨by omega, by omega⟩) (fun oq176 Sq176 hp177 q176 => ?_)
                  rcases q176 with ⟨rfl, hc173, hg174, ht175⟩
                  show wJ _ _ _ _ _ _ _ _ _ _
                  have hSq176 : cQ T n N X c f u w (i130 + 1) ((I131 ++ [(27, 1, (vq T n N X i), u)]) ++ [(5, 0, 0, u)]) F132 Sq176 := hc173
                  have gSq176 : cQg f (I.length : Int) w S Sq176 := cQg_tr gSq156 (hg174 _ _)
                  have krSq176 := kq_rg T n N X (i130 + 1)
                  have icSq176 := cQ_ic hSq176
                  have tSq176 : Sq176 63 16 = 0 := (ht175.1).trans tSq156
                  refine wa_fall ⟨_, rfl⟩ ?_
                  refine wa_iinc rfl rfl ?_
                  refine wa_goto ⟨_, rfl⟩ ?_
                  refine wJ_S (wJ_mono (ih (q + 1) (i130 + 1) ((I131 ++ [(27, 1, (vq T n N X i), u)]) ++ [(5, 0, 0, u)]) F132 Sq176 (by omega) hSq176 (by omega) (by omega) ⟨by omega, by omega⟩) (fun o Z hz => cR_tr (by omega) gSq176 (by omega) (by omega) (by omega) (pz_le_tr pz_le_rfl p139) (fun R hR o ho => pz_q_mono (fun o2 ho2 => pz_cOB hR (by unfold pz_OB; (first | refine pz_fo dSq114 ?_ | skip); (first | refine pz_fo dSq123 ?_ | exact dSq123.symm | exact (pz_tk_o hk119).symm | skip); (first | refine pz_qo (hd134 R hR) ?_ | exact hd134 R hR); (repeat first | rw [if_pos (by omega)] | rw [if_neg (by omega)]); exact ho2)) ho) hz)) ⟨rfl, rfl, rfl, rfl, trivial⟩
            · skip
              refine ⟨rfl, ?_⟩
              refine Or.inr ⟨_, _, rfl, fun R hR => ?_, cQf_tr gSq128 (by omega) (by omega) hz145⟩
              refine pz_qi (pz_cOB hR ?_)
              unfold pz_OB
              try dsimp only
              repeat first | rw [if_pos (by omega)] | rw [if_neg (by omega)]
              first | refine pz_fo dSq114 ?_ | skip
              repeat first | rw [if_pos (by omega)] | rw [if_neg (by omega)]
              first | refine pz_fo dSq123 ?_ | exact dSq123.symm | exact (pz_tk_o hk119).symm | skip
              repeat first | rw [if_pos (by omega)] | rw [if_neg (by omega)]
              first | exact pz_qi (hd144 R hR) | exact hd144 R hR
              all_goals repeat first | rw [if_pos (by omega)] | rw [if_neg (by omega)]
              all_goals first | rfl | (exfalso; omega)
          · skip
            refine ⟨rfl, ?_⟩
            refine Or.inr ⟨_, _, rfl, fun R hR => ?_, cQf_of gSq114 (by omega) (by omega) (cQn_of hSq114) hz121⟩
            refine pz_qi (pz_cOB hR ?_)
            unfold pz_OB
            try dsimp only
            repeat first | rw [if_pos (by omega)] | rw [if_neg (by omega)]
            first | refine pz_fo dSq114 ?_ | skip
            repeat first | rw [if_pos (by omega)] | rw [if_neg (by omega)]
            first | exact pz_fi (pz_tk_f hk122) | exact (pz_tk_f hk122).symm | (exfalso; omega)
            all_goals repeat first | rw [if_pos (by omega)] | rw [if_neg (by omega)]
            all_goals first | rfl | (exfalso; omega)
        · skip
          refine ⟨rfl, ?_⟩
          refine Or.inr ⟨_, _, rfl, fun R hR => ?_, cQf_of g0 (by omega) (by omega) (cQn_of h) hz109⟩
          refine pz_qi (pz_cOB hR ?_)
          unfold pz_OB
          try dsimp only
          repeat first | rw [if_pos (by omega)] | rw [if_neg (by omega)]
          first | exact pz_fi (pz_nm_7 hk110) | rfl | (exfalso; omega)
          all_goals repeat first | rw [if_pos (by omega)] | rw [if_neg (by omega)]
          all_goals first | rfl | (exfalso; omega)
        · skip
          refine ⟨rfl, ?_⟩
          refine Or.inr ⟨_, _, rfl, fun R hR => ?_, cQf_of g0 (by omega) (by omega) (cQn_of h) hz112⟩
          refine pz_qi (pz_cOB hR ?_)
          unfold pz_OB
          try dsimp only
          repeat first | rw [if_pos (by omega)] | rw [if_neg (by omega)]
          first | exact pz_fi (pz_nm_1 hk113) | rfl | (exfalso; omega)
          all_goals repeat first | rw [if_pos (by omega)] | rw [if_neg (by omega)]
          all_goals first | rfl | (exfalso; omega)
theorem ob_q {D m : Nat} {dp : Int} (hX : cX xs T n N X c f m) (hS : cST xs T n N X c f m) (h : cQ T n N X c f u w i I F S) (hm : c - i < m + 1) (hD : 0 ≤ dp ∧ dp ≤ 50 ∧ 10 * (51 - dp) + 16 ≤ (D : Int)) (hI : I.length ≤ 1 * i) (hw : w ≤ 20 * dp + 12) (ht : S 63 16 = 0) : wJ (pe_GA xs) wY0 (mS [64, 65, 66, 67, 69, 70]) D t_XP_readObject ((pe_at t_XP_readObject.bl 0).getD (0, [])).2 [(0, (2, 63)), (1, (0, dp))] [] S (cR T n N X c f (fun R => pz_FI12 (kq T n N X) (tp T n 0) R i dp u I F) u w i I F 1 (fun t _ Z => t = 0 ∧ Z 63 16 = 0) S) := by
  have g0 : cQg f (I.length : Int) w S S := cQg_rfl
  have kr0 := kq_rg T n N X i
  have ic0 := cQ_ic h
  have hcn := cQ_cn h
  have hwr := cQ_wr h
  obtain ⟨hu1, hu2⟩ := cQ_ur h
  obtain ⟨D, rfl⟩ : ∃ D2, D = D2 + 14 := ⟨D - 14, by omega⟩
  refine wa_aload_n (n := 0) rfl ?_
  refine wa_bipush (w_rg2 (by omega) (by omega)) ?_
  refine wa_iload_n (n := 1) rfl ?_
  refine wa_cv 63 rfl (wy_pr rfl) wt_63 (M2 := fun _ => False) rfl at_XP_open ⟨_, rfl⟩ rfl rfl ⟨(Or.inr ⟨wy_pr rfl, fun q => q⟩), trivial, trivial⟩ trivial (fun _ _ q => False.elim q) (op_q (S := S) (k := 12) (dp := dp) h ⟨by omega, by omega⟩ ⟨by omega, by omega⟩) (fun oq111 Sq111 hp112 q111 => ?_)
  rcases q111 with ⟨rfl, hk104, hc101, hg102, ht103⟩ | ⟨v105, rfl, hk107, hz106⟩ | ⟨v108, rfl, hk110, hz109⟩
  · skip
    show wJ _ _ _ _ _ _ _ _ _ _
    have hSq111 : cQ T n N X c f u w (i + 1) I F Sq111 := hc101
    have gSq111 : cQg f (I.length : Int) w S Sq111 := cQg_tr g0 (hg102 _ _)
    have krSq111 := kq_rg T n N X (i + 1)
    have icSq111 := cQ_ic hSq111
    have tSq111 : Sq111 63 16 = 0 := (ht103.1).trans ht
    have dSq111 : pz_op (kq T n N X) (tp T n 0) 12 dp i I F = .inr ((i + 1), I, F, 0) := pz_op_o hk104
    refine wa_aload_n (n := 0) rfl ?_
    refine wa_bipush (w_rg2 (by omega) (by omega)) ?_
    refine wa_iconst ?_
    refine wa_iconst ?_
    refine wa_cv 63 rfl (wy_pr rfl) wt_63 (M2 := mS [64, 65, 66, 67]) rfl at_XP_note ⟨_, rfl⟩ rfl rfl ⟨(Or.inr ⟨wy_pr rfl, mS_no rfl⟩), trivial, trivial⟩ trivial (fun _ _ q => mS_sub (by decide) q) (nt_q (S := Sq111) (op := 26) (a := 0) (b := 0) (l := I.length) hSq111 ⟨by omega, by omega⟩ ⟨by omega, by omega⟩ ⟨by omega, by omega⟩ (by omega) (by omega) (by omega)) (fun oq116 Sq116 hp117 q116 => ?_)
    rcases q116 with ⟨rfl, hc113, hg114, ht115⟩
    show wJ _ _ _ _ _ _ _ _ _ _
    have hSq116 : cQ T n N X c f u w (i + 1) (I ++ [(26, 0, 0, u)]) F Sq116 := hc113
    have gSq116 : cQg f (I.length : Int) w S Sq116 := cQg_tr gSq111 (hg114 _ _ (by omega))
    have tSq116 : Sq116 63 16 = 0 := (ht115).trans tSq111
    have hlSq116 : (I ++ [(26, 0, 0, u)]).length = I.length + 1 := List.length_append
    refine wa_pop (by decide) ?_
    refine wa_aload_n (n := 0) rfl ?_
    refine wb_gf4 63 rfl (wy_pr rfl) wt_63 wf_1_0 (v := 14) wl_63_0 ?_
    refine wa_cv 14 rfl (wy_pr rfl) wt_14 (M2 := fun _ => False) rfl at_XR_kind ⟨_, rfl⟩ rfl rfl ⟨(Or.inr ⟨wy_pr rfl, fun q => q⟩), trivial, trivial⟩ trivial (fun _ _ q => False.elim q) (kd_q (S := Sq116) hSq116) (fun oq118 Sq118 hp119 q118 => ?_)
    rcases q118 with ⟨rfl, rfl⟩
    show wJ _ _ _ _ _ _ _ _ _ _
    refine wa_bipush (w_rg2 (by omega) (by omega)) ?_
    refine wa_icmpeq (w_rg0 (by omega) (by omega)) (w_rg0 (by omega) (by omega)) ⟨_, rfl⟩ (fun c120 => ?_) (fun c120 => ?_)
    · skip
      refine wa_iconst ?_
      refine wa_fall ⟨_, rfl⟩ ?_
      refine wa_istore_n (n := 2) rfl ?_
      refine wa_iconst ?_
      refine wa_istore_n (n := 3) rfl ?_
      refine wa_fall ⟨_, rfl⟩ ?_
      refine wa_iload_n (n := 2) rfl ?_
      refine wa_ifeq (w_rg0 (by omega) (by omega)) ⟨_, rfl⟩ (fun c121 => ?_) (fun c121 => ?_)
      · skip
        refine wa_aload_n (n := 0) rfl ?_
        refine wa_bipush (w_rg2 (by omega) (by omega)) ?_
        refine wa_cv 63 rfl (wy_pr rfl) wt_63 (M2 := fun _ => False) rfl at_XP_take ⟨_, rfl⟩ rfl rfl ⟨trivial, trivial, (Or.inr ⟨wy_pr rfl, fun q => q⟩), trivial, trivial⟩ trivial (fun _ _ q => False.elim q) (tk_q (S := Sq116) (k := 13) hSq116 ⟨by omega, by omega⟩) (fun oq129 Sq129 hp130 q129 => ?_)
        rcases q129 with ⟨rfl, hk125, hc122, hg123, ht124⟩ | ⟨v126, rfl, hk128, hz127⟩
        · skip
          show wJ _ _ _ _ _ _ _ _ _ _
          have hSq129 : cQ T n N X c f u w (i + 2) (I ++ [(26, 0, 0, u)]) F Sq129 := hc122
          have gSq129 : cQg f (I.length : Int) w S Sq129 := cQg_tr gSq116 (hg123 _ _)
          have krSq129 := kq_rg T n N X (i + 2)
          have icSq129 := cQ_ic hSq129
          have tSq129 : Sq129 63 16 = 0 := (ht124.1).trans tSq116
          have dSq129 : pz_tk (kq T n N X) (tp T n 0) 13 (i + 1) (I ++ [(26, 0, 0, u)]) F = .inr ((i + 2), (I ++ [(26, 0, 0, u)]), F, 0) := pz_tk_o hk125
          refine wa_return rfl ?_
          refine Or.inl ⟨_, _, _, 0, rfl, fun R hR => ?_, hSq129, gSq129, ⟨by omega, by omega, pz_le_rfl, by omega⟩, ⟨rfl, tSq129⟩⟩
          try dsimp only
          unfold pz_FI12
          repeat first | rw [if_pos (by omega)] | rw [if_neg (by omega)]
          first | refine pz_fo dSq111 ?_ | exact dSq111.symm | skip
          repeat first | rw [if_pos (by omega)] | rw [if_neg (by omega)]
          refine pz_qo (i := (i + 1)) (I := (I ++ [(26, 0, 0, u)])) (F := F) (t := 0) (by (repeat first | rw [if_pos (by omega)] | rw [if_neg (by omega)]); all_goals rfl) ?_
          repeat first | rw [if_pos (by omega)] | rw [if_neg (by omega)]
          first | refine pz_fo dSq129 ?_ | exact dSq129.symm | exact (pz_tk_o hk125).symm | skip
          all_goals repeat first | rw [if_pos (by omega)] | rw [if_neg (by omega)]
          all_goals first | rfl | (exfalso; omega)
        · skip
          refine ⟨rfl, ?_⟩
          refine Or.inr ⟨_, _, rfl, fun R hR => ?_, cQf_of gSq116 (by omega) (by omega) (cQn_of hSq116) hz127⟩
          try dsimp only
          unfold pz_FI12
          repeat first | rw [if_pos (by omega)] | rw [if_neg (by omega)]
          first | refine pz_fo dSq111 ?_ | exact dSq111.symm | skip
          repeat first | rw [if_pos (by omega)] | rw [if_neg (by omega)]
          refine pz_qo (i := (i + 1)) (I := (I ++ [(26, 0, 0, u)])) (F := F) (t := 0) (by (repeat first | rw [if_pos (by omega)] | rw [if_neg (by omega)]); all_goals rfl) ?_
          repeat first | rw [if_pos (by omega)] | rw [if_neg (by omega)]
          first | exact pz_fi (pz_tk_f hk128) | exact (pz_tk_f hk128).symm | (exfalso; omega)
          all_goals repeat first | rw [if_pos (by omega)] | rw [if_neg (by omega)]
          all_goals first | rfl | (exfalso; omega)
      · skip
        exact absurd c121 (by omega)
    · skip
      refine wa_iconst ?_
      refine wa_goto ⟨_, rfl⟩ ?_
      refine wa_istore_n (n := 2) rfl ?_
      refine wa_iconst ?_
      refine wa_istore_n (n := 3) rfl ?_
      refine wa_fall ⟨_, rfl⟩ ?_
      refine wJ_S (wJ_mono (ob_3 (D := D + 14) hX hS (by omega) hw (c + 1) 0 (i + 1) (I ++ [(26, 0, 0, u)]) F Sq116 (by omega) hSq116 (by omega) (by omega) ⟨by omega, by omega⟩) (fun o Z hz => cR_tr (by omega) gSq116 (by omega) (by omega) (by omega) pz_le_rfl (fun R hR o ho => ?_) hz)) ⟨rfl, rfl, rfl, rfl, trivial⟩
      unfold pz_FI12
      first | refine pz_fo dSq111 ?_ | exact dSq111.symm | skip
      exact pz_q_mono (fun o2 ho2 => by (repeat first | rw [if_pos (by omega)] | rw [if_neg (by omega)]); exact ho2) ho
  · skip
    refine ⟨rfl, ?_⟩
    refine Or.inr ⟨_, _, rfl, fun R hR => ?_, cQf_of g0 (by omega) (by omega) (cQn_of h) hz106⟩
    try dsimp only
    unfold pz_FI12
    repeat first | rw [if_pos (by omega)] | rw [if_neg (by omega)]
    first | exact pz_fi (pz_op_1 hk107) | exact (pz_op_1 hk107).symm | (exfalso; omega)
    all_goals repeat first | rw [if_pos (by omega)] | rw [if_neg (by omega)]
    all_goals first | rfl | (exfalso; omega)
  · skip
    refine ⟨rfl, ?_⟩
    refine Or.inr ⟨_, _, rfl, fun R hR => ?_, cQf_of g0 (by omega) (by omega) (cQn_of h) hz109⟩
    try dsimp only
    unfold pz_FI12
    repeat first | rw [if_pos (by omega)] | rw [if_neg (by omega)]
    first | exact pz_fi (pz_op_4 hk110) | exact (pz_op_4 hk110).symm | rfl
    all_goals repeat first | rw [if_pos (by omega)] | rw [if_neg (by omega)]
    all_goals first | rfl | (exfalso; omega)
theorem bu_q {D m : Nat} {dp : Int} (hX : cX xs T n N X c f m) (hS : cST xs T n N X c f m) (h : cQ T n N X c f u w i I F S) (hm : c - i < m + 1) (hD : 0 ≤ dp ∧ dp ≤ 50 ∧ 10 * (51 - dp) + 17 ≤ (D : Int)) (hI : I.length ≤ 1 * i) (hw : w ≤ 20 * dp + 12) (hx101 : pe_at (pe_GA xs).xs 101 = some (1, tx_101)) (ht : S 63 16 = 0) (hk : 54 ≤ kq T n N X i ∧ kq T n N X i < 62) : wJ (pe_GA xs) wY0 (mS [64, 65, 66, 67, 69, 70]) D t_XP_readBuiltin ((pe_at t_XP_readBuiltin.bl 0).getD (0, [])).2 [(0, (2, 63)), (1, (0, dp))] [] S (cR T n N X c f (fun R => pz_FI54 (kq T n N X) (tp T n 0) R i dp u I F) u w i I F 1 (fun t _ Z => t = 0 ∧ Z 63 16 = 0) S) := by
  have g0 : cQg f (I.length : Int) w S S := cQg_rfl
  have kr0 := kq_rg T n N X i
  have ic0 := cQ_ic h
  have hcn := cQ_cn h
  have hwr := cQ_wr h
  obtain ⟨hu1, hu2⟩ := cQ_ur h
  obtain ⟨D, rfl⟩ : ∃ D2, D = D2 + 14 := ⟨D - 14, by omega⟩
  have hwr1 := pz_wa_rg (kq T n N X i)
  have htl : tx_101.length = 8 := rfl
  refine wa_aload_n (n := 0) rfl ?_
  refine wb_gf4 63 rfl (wy_pr rfl) wt_63 wf_1_0 (v := 14) wl_63_0 ?_
  refine wa_cv 14 rfl (wy_pr rfl) wt_14 (M2 := fun _ => False) rfl at_XR_kind ⟨_, rfl⟩ rfl rfl ⟨(Or.inr ⟨wy_pr rfl, fun q => q⟩), trivial, trivial⟩ trivial (fun _ _ q => False.elim q) (kd_q (S := S) h) (fun oq101 Sq101 hp102 q101 => ?_)
  rcases q101 with ⟨rfl, rfl⟩
  show wJ _ _ _ _ _ _ _ _ _ _
  refine wa_bipush (w_rg2 (by omega) (by omega)) ?_
  refine wa_isub ?_
  refine wa_istore_n (n := 2) rfl ?_
  refine wa_aload_n (n := 0) rfl ?_
  refine wb_gf4 63 rfl (wy_pr rfl) wt_63 wf_1_0 (v := 14) wl_63_0 ?_
  refine wa_cv 14 rfl (wy_pr rfl) wt_14 (M2 := fun _ => False) rfl at_XR_next ⟨_, rfl⟩ rfl rfl ⟨trivial, (Or.inr ⟨wy_pr rfl, fun q => q⟩), trivial, trivial⟩ trivial (fun _ _ q => False.elim q) (nx_q (S := S) h ⟨by omega, by omega⟩) (fun oq106 Sq106 hp107 q106 => ?_)
  rcases q106 with ⟨rfl, hc103, hg104, ht105⟩
  show wJ _ _ _ _ _ _ _ _ _ _
  have hSq106 : cQ T n N X c f u w (i + 1) I F Sq106 := hc103
  have gSq106 : cQg f (I.length : Int) w S Sq106 := cQg_tr g0 (hg104 _ _)
  have krSq106 := kq_rg T n N X (i + 1)
  have icSq106 := cQ_ic hSq106
  have tSq106 : Sq106 63 16 = 0 := (ht105.1).trans ht
  refine wa_aload_n (n := 0) rfl ?_
  refine wa_iload_n (n := 1) rfl ?_
  refine wa_cv 63 rfl (wy_pr rfl) wt_63 (M2 := mS [64, 65, 66, 67, 69, 70]) rfl at_XP_readEs ⟨_, rfl⟩ rfl rfl ⟨trivial, (Or.inr ⟨wy_pr rfl, mS_no rfl⟩), trivial, trivial⟩ trivial (fun _ _ q => q) (es_q hX hS hSq106 (by omega) ⟨by omega, by omega, by omega⟩ (by omega) (by omega)) (fun oq124 Sq124 hp125 q124 => ?_)
  rcases q124 with ⟨i108, I109, F110, t111, rfl, hd112, hc113, hg114, ⟨p115, p116, p117, p118⟩, e119⟩ | ⟨v120, x121, rfl, hd122, hz123⟩
  · skip
    show wJ _ _ _ _ _ _ _ _ _ _
    have hSq124 : cQ T n N X c f u w i108 I109 F110 Sq124 := hc113
    have gSq124 : cQg f (I.length : Int) w S Sq124 := cQg_tr gSq106 (cQg_mo hg114 (by omega) (by omega))
    have krSq124 := kq_rg T n N X i108
    have icSq124 := cQ_ic hSq124
    have tSq124 : Sq124 63 16 = 0 := (e119.2.1 tSq106)
    have flSq124 := p117.1
    have trSq124 : 0 ≤ t111 ∧ t111 ≤ 8 := e119.1
    have k11Sq124 := (cQ_k hSq124).symm.trans e119.2.2
    refine wa_gs ?_
    refine wa_iload_n (n := 2) rfl ?_
    refine wb_xald 101 rfl hx101 (by decide) (by omega) (by omega) (v := (pz_wa (kq T n N X i))) (wa_101 hk) (fun r126 => ?_)
    refine wa_icmpeq (w_rg0 (by omega) (by omega)) (w_rg0 (by omega) (by omega)) ⟨_, rfl⟩ (fun c127 => ?_) (fun c127 => ?_)
    · skip
      refine wa_aload_n (n := 0) rfl ?_
      refine wb_gf4 63 rfl (wy_pr rfl) wt_63 wf_1_0 (v := 14) wl_63_0 ?_
      refine wa_cv 14 rfl (wy_pr rfl) wt_14 (M2 := fun _ => False) rfl at_XR_next ⟨_, rfl⟩ rfl rfl ⟨trivial, (Or.inr ⟨wy_pr rfl, fun q => q⟩), trivial, trivial⟩ trivial (fun _ _ q => False.elim q) (nx_q (S := Sq124) hSq124 ⟨by omega, by omega⟩) (fun oq131 Sq131 hp132 q131 => ?_)
      rcases q131 with ⟨rfl, hc128, hg129, ht130⟩
      show wJ _ _ _ _ _ _ _ _ _ _
      have hSq131 : cQ T n N X c f u w (i108 + 1) I109 F110 Sq131 := hc128
      have gSq131 : cQg f (I.length : Int) w S Sq131 := cQg_tr gSq124 (hg129 _ _)
      have krSq131 := kq_rg T n N X (i108 + 1)
      have icSq131 := cQ_ic hSq131
      have tSq131 : Sq131 63 16 = 0 := (ht130.1).trans tSq124
      refine wa_aload_n (n := 0) rfl ?_
      refine wa_bipush (w_rg2 (by omega) (by omega)) ?_
      refine wa_iload_n (n := 2) rfl ?_
      refine wa_iconst ?_
      refine wa_cv 63 rfl (wy_pr rfl) wt_63 (M2 := mS [64, 65, 66, 67]) rfl at_XP_note ⟨_, rfl⟩ rfl rfl ⟨trivial, (Or.inr ⟨wy_pr rfl, mS_no rfl⟩), trivial, trivial⟩ trivial (fun _ _ q => mS_sub (by decide) q) (nt_q (S := Sq131) (op := 28) (a := ((kq T n N X i) - 54)) (b := 0) (l := I109.length) hSq131 ⟨by omega, by omega⟩ ⟨by omega, by omega⟩ ⟨by omega, by omega⟩ (by omega) (by omega) (by omega)) (fun oq136 Sq136 hp137 q136 => ?_)
      rcases q136 with ⟨rfl, hc133, hg134, ht135⟩
      show wJ _ _ _ _ _ _ _ _ _ _
      have hSq136 : cQ T n N X c f u w (i108 + 1) (I109 ++ [(28, ((kq T n N X i) - 54), 0, u)]) F110 Sq136 := hc133
      have gSq136 : cQg f (I.length : Int) w S Sq136 := cQg_tr gSq131 (hg134 _ _ (by omega))
      have tSq136 : Sq136 63 16 = 0 := (ht135).trans tSq131
      have hlSq136 : (I109 ++ [(28, ((kq T n N X i) - 54), 0, u)]).length = I109.length + 1 := List.length_append
      refine wa_pop (by decide) ?_
      refine wa_return rfl ?_
      refine Or.inl ⟨_, _, _, 0, rfl, fun R hR => ?_, hSq136, gSq136, ⟨by omega, by omega, (pz_le_tr pz_le_rfl p117), by omega⟩, ⟨rfl, tSq136⟩⟩
      try dsimp only
      unfold pz_FI54
      repeat first | rw [if_pos (by omega)] | rw [if_neg (by omega)]
      first | refine pz_qo (hd112 R hR) ?_ | exact hd112 R hR
      all_goals repeat first | rw [if_pos (by omega)] | rw [if_neg (by omega)]
      all_goals first | rfl | (exfalso; omega)
    · skip
      refine wa_aload_n (n := 0) rfl ?_
      refine wa_iconst ?_
      refine wa_cv 63 rfl (wy_pr rfl) wt_63 (M2 := fun _ => False) rfl at_XP_refuse ⟨_, rfl⟩ rfl rfl ⟨trivial, (Or.inr ⟨wy_pr rfl, fun q => q⟩), trivial, trivial⟩ trivial (fun _ _ q => False.elim q) (rf_q (S := Sq124) (k := 5) hSq124 ⟨by omega, by omega⟩) (fun oq140 Sq140 hp141 q140 => ?_)
      rcases q140 with ⟨v138, rfl, hz139⟩
      refine ⟨rfl, ?_⟩
      refine Or.inr ⟨_, _, rfl, fun R hR => ?_, cQf_of gSq124 (by omega) (by omega) (cQn_of hSq124) hz139⟩
      try dsimp only
      unfold pz_FI54
      repeat first | rw [if_pos (by omega)] | rw [if_neg (by omega)]
      first | refine pz_qo (hd112 R hR) ?_ | exact hd112 R hR
      repeat first | rw [if_pos (by omega)] | rw [if_neg (by omega)]
      rfl
      all_goals repeat first | rw [if_pos (by omega)] | rw [if_neg (by omega)]
      all_goals first | rfl | (exfalso; omega)
  · skip
    refine ⟨rfl, ?_⟩
    refine Or.inr ⟨_, _, rfl, fun R hR => ?_, cQf_tr gSq106 (by omega) (by omega) hz123⟩
    try dsimp only
    unfold pz_FI54
    repeat first | rw [if_pos (by omega)] | rw [if_neg (by omega)]
    first | exact pz_qi (hd122 R hR) | exact hd122 R hR
    all_goals repeat first | rw [if_pos (by omega)] | rw [if_neg (by omega)]
    all_goals first | rfl | (exfalso; omega)
theorem fi_q {D m : Nat} {dp : Int} (hX : cX xs T n N X c f m) (hS : cST xs T n N X c f m) (h : cQ T n N X c f u w i I F S) (hm : c - i < m + 1) (hD : 0 ≤ dp ∧ dp ≤ 50 ∧ 10 * (51 - dp) + 18 ≤ (D : Int)) (hI : I.length ≤ 1 * i) (hw : w ≤ 20 * dp + 12) {x : Int} (hx101 : pe_at (pe_GA xs).xs 101 = some (1, tx_101)) (hx : x = 0 ∨ kq T n N X i ≠ 49) : wJ (pe_GA xs) wY0 (mS [64, 65, 66, 67, 69, 70]) D t_XP_readFirst ((pe_at t_XP_readFirst.bl 0).getD (0, [])).2 [(0, (2, 63)), (1, (0, dp))] [] S (cR T n N X c f (fun R => R 9 x [] i dp u I F) u w i I F 1 (fun t I2 Z => ((0 ≤ t ∧ t ≤ 3) ∧ Z 63 16 = t) ∧ tl_I u I.length t I2) S) := by
  have g0 : cQg f (I.length : Int) w S S := cQg_rfl
  have kr0 := kq_rg T n N X i
  have ic0 := cQ_ic h
  have hcn := cQ_cn h
  have hwr := cQ_wr h
  obtain ⟨hu1, hu2⟩ := cQ_ur h
  obtain ⟨D, rfl⟩ : ∃ D2, D = D2 + 14 := ⟨D - 14, by omega⟩
  refine wa_aload_n (n := 0) rfl ?_
  refine wb_gf4 63 rfl (wy_pr rfl) wt_63 wf_1_0 (v := 14) wl_63_0 ?_
  refine wa_cv 14 rfl (wy_pr rfl) wt_14 (M2 := fun _ => False) rfl at_XR_kind ⟨_, rfl⟩ rfl rfl ⟨(Or.inr ⟨wy_pr rfl, fun q => q⟩), trivial, trivial⟩ trivial (fun _ _ q => False.elim q) (kd_q (S := S) h) (fun oq101 Sq101 hp102 q101 => ?_)
  rcases q101 with ⟨rfl, rfl⟩
  show wJ _ _ _ _ _ _ _ _ _ _
  refine wa_istore_n (n := 2) rfl ?_
  refine wa_aload_n (n := 0) rfl ?_
  refine wa_iconst ?_
  refine wb_pfi 63 rfl (wy_pr rfl) wt_63 wf_1_16 (n := 16) rfl ⟨(by omega), (by omega)⟩ ?_
  refine wa_iload_n (n := 2) rfl ?_
  by_cases c103 : (kq T n N X i) = 5
  · refine wa_lw (tb := 0) (w_rg0 (by omega) (by omega)) (q := (58, 1)) (by rw [c103]; first | rfl | decide) ⟨_, rfl⟩ ?_
    refine wa_aload_n (n := 0) rfl ?_
    refine wa_iconst ?_
    refine wa_aload_n (n := 0) rfl ?_
    refine wa_cv 63 rfl (wy_pr rfl) wt_63 (M2 := fun _ => False) rfl at_XP_takeName ⟨_, rfl⟩ rfl rfl ⟨trivial, (Or.inr ⟨wy_pr rfl, fun q => q⟩), trivial, trivial⟩ ⟨trivial, (Or.inr ⟨wy_pr rfl, fun q => q⟩), trivial⟩ (fun _ _ q => False.elim q) (tn_q (S := (w_up S 63 16 0)) (cQ_63 (k := 16) (x := 0) h (Or.inl rfl))) (fun oq114 Sq114 hp115 q114 => ?_)
    rcases q114 with ⟨rfl, hk107, hc104, hg105, ht106⟩ | ⟨v108, rfl, hk110, hz109⟩ | ⟨v111, rfl, hk113, hz112⟩
    · skip
      show wJ _ _ _ _ _ _ _ _ _ _
      have hSq114 : cQ T n N X c f u w (i + 1) I F Sq114 := hc104
      have gSq114 : cQg f (I.length : Int) w S Sq114 := cQg_tr (cQg_tr g0 (cQg_up (by omega) (by decide) (by omega))) (hg105 _ _)
      have krSq114 := kq_rg T n N X (i + 1)
      have icSq114 := cQ_ic hSq114
      have tSq114 : Sq114 63 16 = 0 := (ht106.1).trans (w_up_same _ _ _ _)
      have dSq114 : pz_nm (kq T n N X) (vq T n N X) (tp T n 0) i I F = .inr ((i + 1), I, F, (vq T n N X i)) := pz_nm_o hk107.1
      have vnSq114 := vq_nn hk107.1
      refine wa_iconst ?_
      refine wa_cv 63 rfl (wy_pr rfl) wt_63 (M2 := mS [64, 65, 66, 67]) rfl at_XP_note ⟨_, rfl⟩ rfl rfl ⟨trivial, (Or.inr ⟨wy_pr rfl, mS_no rfl⟩), trivial, trivial⟩ trivial (fun _ _ q => mS_sub (by decide) q) (nt_q (S := Sq114) (op := 3) (a := (vq T n N X i)) (b := 0) (l := I.length) hSq114 ⟨by omega, by omega⟩ ⟨by omega, by omega⟩ ⟨by omega, by omega⟩ (by omega) (by omega) (by omega)) (fun oq119 Sq119 hp120 q119 => ?_)
      rcases q119 with ⟨rfl, hc116, hg117, ht118⟩
      show wJ _ _ _ _ _ _ _ _ _ _
      have hSq119 : cQ T n N X c f u w (i + 1) (I ++ [(3, (vq T n N X i), 0, u)]) F Sq119 := hc116
      have gSq119 : cQg f (I.length : Int) w S Sq119 := cQg_tr gSq114 (hg117 _ _ (by omega))
      have tSq119 : Sq119 63 16 = 0 := (ht118).trans tSq114
      have hlSq119 : (I ++ [(3, (vq T n N X i), 0, u)]).length = I.length + 1 := List.length_append
      refine wa_pop (by decide) ?_
      refine wa_aload_n (n := 0) rfl ?_
      refine wa_iconst ?_
      refine wb_pfi 63 rfl (wy_pr rfl) wt_63 wf_1_16 (n := 16) rfl ⟨(by omega), (by omega)⟩ ?_
      refine wa_goto ⟨_, rfl⟩ ?_
      refine wa_return rfl ?_
      refine Or.inl ⟨_, _, _, 1, rfl, fun R hR => ?_, (cQ_63 (k := 16) (x := 1) hSq119 (Or.inl rfl)), (cQg_tr gSq119 (cQg_up (by omega) (by decide) (by omega))), ⟨by omega, by omega, pz_le_rfl, by omega⟩, ⟨⟨by omega, by omega⟩, (w_up_same _ _ _ _)⟩, Or.inr ⟨_, _, rfl, by omega, rfl, Or.inl ⟨rfl, rfl, by dsimp only; omega, by dsimp only; omega⟩⟩⟩
      try dsimp only
      refine pz_cFI hR ?_
      unfold pz_FI
      repeat first | rw [if_pos (by omega)] | rw [if_neg (by omega)]
      first | refine pz_fo dSq114 ?_ | skip
      all_goals repeat first | rw [if_pos (by omega)] | rw [if_neg (by omega)]
      all_goals first | rfl | (exfalso; omega)
    · skip
      refine ⟨rfl, ?_⟩
      refine Or.inr ⟨_, _, rfl, fun R hR => ?_, cQf_of (cQg_tr g0 (cQg_up (by omega) (by decide) (by omega))) (by omega) (by omega) (cQn_of (cQ_63 (k := 16) (x := 0) h (Or.inl rfl))) hz109⟩
      try dsimp only
      refine pz_cFI hR ?_
      unfold pz_FI
      repeat first | rw [if_pos (by omega)] | rw [if_neg (by omega)]
      first | exact pz_fi (pz_nm_7 hk110) | rfl | (exfalso; omega)
      all_goals repeat first | rw [if_pos (by omega)] | rw [if_neg (by omega)]
      all_goals first | rfl | (exfalso; omega)
    · skip
      refine ⟨rfl, ?_⟩
      refine Or.inr ⟨_, _, rfl, fun R hR => ?_, cQf_of (cQg_tr g0 (cQg_up (by omega) (by decide) (by omega))) (by omega) (by omega) (cQn_of (cQ_63 (k := 16) (x := 0) h (Or.inl rfl))) hz112⟩
      try dsimp only
      refine pz_cFI hR ?_
      unfold pz_FI
      repeat first | rw [if_pos (by omega)] | rw [if_neg (by omega)]
      first | exact pz_fi (pz_nm_1 hk113) | rfl | (exfalso; omega)
      all_goals repeat first | rw [if_pos (by omega)] | rw [if_neg (by omega)]
      all_goals first | rfl | (exfalso; omega)
  by_cases c121 : (kq T n N X i) = 6
  · refine wa_lw (tb := 0) (w_rg0 (by omega) (by omega)) (q := (58, 1)) (by rw [c121]; first | rfl | decide) ⟨_, rfl⟩ ?_
    refine wa_aload_n (n := 0) rfl ?_
    refine wa_iconst ?_
    refine wa_aload_n (n := 0) rfl ?_
    refine wa_cv 63 rfl (wy_pr rfl) wt_63 (M2 := fun _ => False) rfl at_XP_takeName ⟨_, rfl⟩ rfl rfl ⟨trivial, (Or.inr ⟨wy_pr rfl, fun q => q⟩), trivial, trivial⟩ ⟨trivial, (Or.inr ⟨wy_pr rfl, fun q => q⟩), trivial⟩ (fun _ _ q => False.elim q) (tn_q (S := (w_up S 63 16 0)) (cQ_63 (k := 16) (x := 0) h (Or.inl rfl))) (fun oq132 Sq132 hp133 q132 => ?_)
    rcases q132 with ⟨rfl, hk125, hc122, hg123, ht124⟩ | ⟨v126, rfl, hk128, hz127⟩ | ⟨v129, rfl, hk131, hz130⟩
    · skip
      show wJ _ _ _ _ _ _ _ _ _ _
      have hSq132 : cQ T n N X c f u w (i + 1) I F Sq132 := hc122
      have gSq132 : cQg f (I.length : Int) w S Sq132 := cQg_tr (cQg_tr g0 (cQg_up (by omega) (by decide) (by omega))) (hg123 _ _)
      have krSq132 := kq_rg T n N X (i + 1)
      have icSq132 := cQ_ic hSq132
      have tSq132 : Sq132 63 16 = 0 := (ht124.1).trans (w_up_same _ _ _ _)
      have dSq132 : pz_nm (kq T n N X) (vq T n N X) (tp T n 0) i I F = .inr ((i + 1), I, F, (vq T n N X i)) := pz_nm_o hk125.1
      have vnSq132 := vq_nn hk125.1
      refine wa_iconst ?_
      refine wa_cv 63 rfl (wy_pr rfl) wt_63 (M2 := mS [64, 65, 66, 67]) rfl at_XP_note ⟨_, rfl⟩ rfl rfl ⟨trivial, (Or.inr ⟨wy_pr rfl, mS_no rfl⟩), trivial, trivial⟩ trivial (fun _ _ q => mS_sub (by decide) q) (nt_q (S := Sq132) (op := 3) (a := (vq T n N X i)) (b := 0) (l := I.length) hSq132 ⟨by omega, by omega⟩ ⟨by omega, by omega⟩ ⟨by omega, by omega⟩ (by omega) (by omega) (by omega)) (fun oq137 Sq137 hp138 q137 => ?_)
      rcases q137 with ⟨rfl, hc134, hg135, ht136⟩
      show wJ _ _ _ _ _ _ _ _ _ _
      have hSq137 : cQ T n N X c f u w (i + 1) (I ++ [(3, (vq T n N X i), 0, u)]) F Sq137 := hc134
      have gSq137 : cQg f (I.length : Int) w S Sq137 := cQg_tr gSq132 (hg135 _ _ (by omega))
      have tSq137 : Sq137 63 16 = 0 := (ht136).trans tSq132
      have hlSq137 : (I ++ [(3, (vq T n N X i), 0, u)]).length = I.length + 1 := List.length_append
      refine wa_pop (by decide) ?_
      refine wa_aload_n (n := 0) rfl ?_
      refine wa_iconst ?_
      refine wb_pfi 63 rfl (wy_pr rfl) wt_63 wf_1_16 (n := 16) rfl ⟨(by omega), (by omega)⟩ ?_
      refine wa_goto ⟨_, rfl⟩ ?_
      refine wa_return rfl ?_
      refine Or.inl ⟨_, _, _, 1, rfl, fun R hR => ?_, (cQ_63 (k := 16) (x := 1) hSq137 (Or.inl rfl)), (cQg_tr gSq137 (cQg_up (by omega) (by decide) (by omega))), ⟨by omega, by omega, pz_le_rfl, by omega⟩, ⟨⟨by omega, by omega⟩, (w_up_same _ _ _ _)⟩, Or.inr ⟨_, _, rfl, by omega, rfl, Or.inl ⟨rfl, rfl, by dsimp only; omega, by dsimp only; omega⟩⟩⟩
      try dsimp only
      refine pz_cFI hR ?_
      unfold pz_FI
      repeat first | rw [if_pos (by omega)] | rw [if_neg (by omega)]
      first | refine pz_fo dSq132 ?_ | skip
      all_goals repeat first | rw [if_pos (by omega)] | rw [if_neg (by omega)]
      all_goals first | rfl | (exfalso; omega)
    · skip
      refine ⟨rfl, ?_⟩
      refine Or.inr ⟨_, _, rfl, fun R hR => ?_, cQf_of (cQg_tr g0 (cQg_up (by omega) (by decide) (by omega))) (by omega) (by omega) (cQn_of (cQ_63 (k := 16) (x := 0) h (Or.inl rfl))) hz127⟩
      try dsimp only
      refine pz_cFI hR ?_
      unfold pz_FI
      repeat first | rw [if_pos (by omega)] | rw [if_neg (by omega)]
      first | exact pz_fi (pz_nm_7 hk128) | rfl | (exfalso; omega)
      all_goals repeat first | rw [if_pos (by omega)] | rw [if_neg (by omega)]
      all_goals first | rfl | (exfalso; omega)
    · skip
      refine ⟨rfl, ?_⟩
      refine Or.inr ⟨_, _, rfl, fun R hR => ?_, cQf_of (cQg_tr g0 (cQg_up (by omega) (by decide) (by omega))) (by omega) (by omega) (cQn_of (cQ_63 (k := 16) (x := 0) h (Or.inl rfl))) hz130⟩
      try dsimp only
      refine pz_cFI hR ?_
      unfold pz_FI
      repeat first | rw [if_pos (by omega)] | rw [if_neg (by omega)]
      first | exact pz_fi (pz_nm_1 hk131) | rfl | (exfalso; omega)
      all_goals repeat first | rw [if_pos (by omega)] | rw [if_neg (by omega)]
      all_goals first | rfl | (exfalso; omega)
  by_cases c139 : (kq T n N X i) = 10
  · refine wa_lw (tb := 0) (w_rg0 (by omega) (by omega)) (q := (77, 2)) (by rw [c139]; first | rfl | decide) ⟨_, rfl⟩ ?_
    refine wa_aload_n (n := 0) rfl ?_
    refine wa_bipush (w_rg2 (by omega) (by omega)) ?_
    refine wa_iload_n (n := 1) rfl ?_
    refine wa_cv 63 rfl (wy_pr rfl) wt_63 (M2 := fun _ => False) rfl at_XP_open ⟨_, rfl⟩ rfl rfl ⟨trivial, (Or.inr ⟨wy_pr rfl, fun q => q⟩), trivial, trivial⟩ trivial (fun _ _ q => False.elim q) (op_q (S := (w_up S 63 16 0)) (k := 10) (dp := dp) (cQ_63 (k := 16) (x := 0) h (Or.inl rfl)) ⟨by omega, by omega⟩ ⟨by omega, by omega⟩) (fun oq150 Sq150 hp151 q150 => ?_)
    rcases q150 with ⟨rfl, hk143, hc140, hg141, ht142⟩ | ⟨v144, rfl, hk146, hz145⟩ | ⟨v147, rfl, hk149, hz148⟩
    · skip
      show wJ _ _ _ _ _ _ _ _ _ _
      have hSq150 : cQ T n N X c f u w (i + 1) I F Sq150 := hc140
      have gSq150 : cQg f (I.length : Int) w S Sq150 := cQg_tr (cQg_tr g0 (cQg_up (by omega) (by decide) (by omega))) (hg141 _ _)
      have krSq150 := kq_rg T n N X (i + 1)
      have icSq150 := cQ_ic hSq150
      have tSq150 : Sq150 63 16 = 0 := (ht142.1).trans (w_up_same _ _ _ _)
      have dSq150 : pz_op (kq T n N X) (tp T n 0) 10 dp i I F = .inr ((i + 1), I, F, 0) := pz_op_o hk143
      refine wa_aload_n (n := 0) rfl ?_
      refine wa_iload_n (n := 1) rfl ?_
      refine wa_iconst ?_
      refine wa_iadd ?_
      refine wa_cv 63 rfl (wy_pr rfl) wt_63 (M2 := mS [64, 65, 66, 67, 69, 70]) rfl at_XP_readExpression ⟨_, rfl⟩ rfl rfl ⟨trivial, (Or.inr ⟨wy_pr rfl, mS_no rfl⟩), trivial, trivial⟩ trivial (fun _ _ q => q) (hX _ (dp + 1) u w (i + 1) I F Sq150 (by omega) ⟨by omega, by omega, by omega⟩ ⟨by omega, by omega⟩ hSq150) (fun oq168 Sq168 hp169 q168 => ?_)
      rcases q168 with ⟨i152, I153, F154, t155, rfl, hd156, hc157, hg158, ⟨p159, p160, p161, p162⟩, e163⟩ | ⟨v164, x165, rfl, hd166, hz167⟩
      · skip
        show wJ _ _ _ _ _ _ _ _ _ _
        have hSq168 : cQ T n N X c f u w i152 I153 F154 Sq168 := hc157
        have gSq168 : cQg f (I.length : Int) w S Sq168 := cQg_tr gSq150 (cQg_mo hg158 (by omega) (by omega))
        have krSq168 := kq_rg T n N X i152
        have icSq168 := cQ_ic hSq168
        have tSq168 : Sq168 63 16 = 0 := e163
        have flSq168 := p161.1
        refine wa_aload_n (n := 0) rfl ?_
        refine wa_bipush (w_rg2 (by omega) (by omega)) ?_
        refine wa_cv 63 rfl (wy_pr rfl) wt_63 (M2 := fun _ => False) rfl at_XP_take ⟨_, rfl⟩ rfl rfl ⟨trivial, (Or.inr ⟨wy_pr rfl, fun q => q⟩), trivial, trivial⟩ trivial (fun _ _ q => False.elim q) (tk_q (S := Sq168) (k := 11) hSq168 ⟨by omega, by omega⟩) (fun oq177 Sq177 hp178 q177 => ?_)
        rcases q177 with ⟨rfl, hk173, hc170, hg171, ht172⟩ | ⟨v174, rfl, hk176, hz175⟩
        · skip
          show wJ _ _ _ _ _ _ _ _ _ _
          have hSq177 : cQ T n N X c f u w (i152 + 1) I153 F154 Sq177 := hc170
          have gSq177 : cQg f (I.length : Int) w S Sq177 := cQg_tr gSq168 (hg171 _ _)
          have krSq177 := kq_rg T n N X (i152 + 1)
          have icSq177 := cQ_ic hSq177
          have tSq177 : Sq177 63 16 = 0 := (ht172.1).trans tSq168
          have dSq177 : pz_tk (kq T n N X) (tp T n 0) 11 i152 I153 F154 = .inr ((i152 + 1), I153, F154, 0) := pz_tk_o hk173
          refine wa_goto ⟨_, rfl⟩ ?_
          refine wa_return rfl ?_
          refine Or.inl ⟨_, _, _, 0, rfl, fun R hR => ?_, hSq177, gSq177, ⟨by omega, by omega, (pz_le_tr pz_le_rfl p161), by omega⟩, ⟨⟨by omega, by omega⟩, tSq177⟩, Or.inl rfl⟩
          try dsimp only
          refine pz_cFI hR ?_
          unfold pz_FI
          repeat first | rw [if_pos (by omega)] | rw [if_neg (by omega)]
          refine pz_qo (t := 0) ?_ rfl
          unfold pz_cd
          repeat first | rw [if_pos (by omega)] | rw [if_neg (by omega)]
          first | refine pz_fo dSq150 ?_ | exact dSq150.symm | skip
          repeat first | rw [if_pos (by omega)] | rw [if_neg (by omega)]
          first | refine pz_qo (hd156 R hR) ?_ | exact hd156 R hR
          repeat first | rw [if_pos (by omega)] | rw [if_neg (by omega)]
          first | refine pz_fo dSq177 ?_ | exact dSq177.symm | exact (pz_tk_o hk173).symm | skip
          all_goals repeat first | rw [if_pos (by omega)] | rw [if_neg (by omega)]
          all_goals first | rfl | (exfalso; omega)
        · skip
          refine ⟨rfl, ?_⟩
          refine Or.inr ⟨_, _, rfl, fun R hR => ?_, cQf_of gSq168 (by omega) (by omega) (cQn_of hSq168) hz175⟩
          try dsimp only
          refine pz_cFI hR ?_
          unfold pz_FI
          repeat first | rw [if_pos (by omega)] | rw [if_neg (by omega)]
          refine pz_qi ?_
          unfold pz_cd
          repeat first | rw [if_pos (by omega)] | rw [if_neg (by omega)]
          first | refine pz_fo dSq150 ?_ | exact dSq150.symm | skip
          repeat first | rw [if_pos (by omega)] | rw [if_neg (by omega)]
          first | refine pz_qo (hd156 R hR) ?_ | exact hd156 R hR
          repeat first | rw [if_pos (by omega)] | rw [if_neg (by omega)]
          first | exact pz_fi (pz_tk_f hk176) | exact (pz_tk_f hk176).symm | (exfalso; omega)
          all_goals repeat first | rw [if_pos (by omega)] | rw [if_neg (by omega)]
          all_goals first | rfl | (exfalso; omega)
      · skip
        refine ⟨rfl, ?_⟩
        refine Or.inr ⟨_, _, rfl, fun R hR => ?_, cQf_tr gSq150 (by omega) (by omega) hz167⟩
        try dsimp only
        refine pz_cFI hR ?_
        unfold pz_FI
        repeat first | rw [if_pos (by omega)] | rw [if_neg (by omega)]
        refine pz_qi ?_
        unfold pz_cd
        repeat first | rw [if_pos (by omega)] | rw [if_neg (by omega)]
        first | refine pz_fo dSq150 ?_ | exact dSq150.symm | skip
        repeat first | rw [if_pos (by omega)] | rw [if_neg (by omega)]
        first | exact pz_qi (hd166 R hR) | exact hd166 R hR
        all_goals repeat first | rw [if_pos (by omega)] | rw [if_neg (by omega)]
        all_goals first | rfl | (exfalso; omega)
    · skip
      refine ⟨rfl, ?_⟩
      refine Or.inr ⟨_, _, rfl, fun R hR => ?_, cQf_of (cQg_tr g0 (cQg_up (by omega) (by decide) (by omega))) (by omega) (by omega) (cQn_of (cQ_63 (k := 16) (x := 0) h (Or.inl rfl))) hz145⟩
      try dsimp only
      refine pz_cFI hR ?_
      unfold pz_FI
      repeat first | rw [if_pos (by omega)] | rw [if_neg (by omega)]
      (exfalso; omega)
      all_goals repeat first | rw [if_pos (by omega)] | rw [if_neg (by omega)]
      all_goals first | rfl | (exfalso; omega)
    · skip
      refine ⟨rfl, ?_⟩
      refine Or.inr ⟨_, _, rfl, fun R hR => ?_, cQf_of (cQg_tr g0 (cQg_up (by omega) (by decide) (by omega))) (by omega) (by omega) (cQn_of (cQ_63 (k := 16) (x := 0) h (Or.inl rfl))) hz148⟩
      try dsimp only
      refine pz_cFI hR ?_
      unfold pz_FI
      repeat first | rw [if_pos (by omega)] | rw [if_neg (by omega)]
      refine pz_qi ?_
      unfold pz_cd
      repeat first | rw [if_pos (by omega)] | rw [if_neg (by omega)]
      first | exact pz_fi (pz_op_4 hk149) | exact (pz_op_4 hk149).symm | rfl
      all_goals repeat first | rw [if_pos (by omega)] | rw [if_neg (by omega)]
      all_goals first | rfl | (exfalso; omega)
  by_cases c179 : (kq T n N X i) = 12
  · refine wa_lw (tb := 0) (w_rg0 (by omega) (by omega)) (q := (158, 5)) (by rw [c179]; first | rfl | decide) ⟨_, rfl⟩ ?_
    refine wa_aload_n (n := 0) rfl ?_
    refine wa_iload_n (n := 1) rfl ?_
    refine wa_cv 63 rfl (wy_pr rfl) wt_63 (M2 := mS [64, 65, 66, 67, 69, 70]) rfl at_XP_readObject ⟨_, rfl⟩ rfl rfl ⟨trivial, (Or.inr ⟨wy_pr rfl, mS_no rfl⟩), trivial, trivial⟩ trivial (fun _ _ q => q) (ob_q hX hS (cQ_63 (k := 16) (x := 0) h (Or.inl rfl)) (by omega) ⟨by omega, by omega, by omega⟩ (by omega) (by omega) (w_up_same _ _ _ _)) (fun oq196 Sq196 hp197 q196 => ?_)
    rcases q196 with ⟨i180, I181, F182, t183, rfl, hd184, hc185, hg186, ⟨p187, p188, p189, p190⟩, e191⟩ | ⟨v192, x193, rfl, hd194, hz195⟩
    · skip
      show wJ _ _ _ _ _ _ _ _ _ _
      have hSq196 : cQ T n N X c f u w i180 I181 F182 Sq196 := hc185
      have gSq196 : cQg f (I.length : Int) w S Sq196 := cQg_tr (cQg_tr g0 (cQg_up (by omega) (by decide) (by omega))) (cQg_mo hg186 (by omega) (by omega))
      have krSq196 := kq_rg T n N X i180
      have icSq196 := cQ_ic hSq196
      have tSq196 : Sq196 63 16 = 0 := e191.2
      have flSq196 := p189.1
      have hzSq196 : t183 = 0 := e191.1
      subst hzSq196
      refine wa_goto ⟨_, rfl⟩ ?_
      refine wa_return rfl ?_
      refine Or.inl ⟨_, _, _, 0, rfl, fun R hR => ?_, hSq196, gSq196, ⟨by omega, by omega, (pz_le_tr pz_le_rfl p189), by omega⟩, ⟨⟨by omega, by omega⟩, tSq196⟩, Or.inl rfl⟩
      try dsimp only
      refine pz_cFI hR ?_
      unfold pz_FI
      repeat first | rw [if_pos (by omega)] | rw [if_neg (by omega)]
      first | refine pz_qo (hd184 R hR) ?_ | exact hd184 R hR
      all_goals repeat first | rw [if_pos (by omega)] | rw [if_neg (by omega)]
      all_goals first | rfl | (exfalso; omega)
    · skip
      refine ⟨rfl, ?_⟩
      refine Or.inr ⟨_, _, rfl, fun R hR => ?_, cQf_tr (cQg_tr g0 (cQg_up (by omega) (by decide) (by omega))) (by omega) (by omega) hz195⟩
      try dsimp only
      refine pz_cFI hR ?_
      unfold pz_FI
      repeat first | rw [if_pos (by omega)] | rw [if_neg (by omega)]
      first | exact pz_qi (hd194 R hR) | exact hd194 R hR
      all_goals repeat first | rw [if_pos (by omega)] | rw [if_neg (by omega)]
      all_goals first | rfl | (exfalso; omega)
  by_cases c198 : (kq T n N X i) = 14
  · refine wa_lw (tb := 0) (w_rg0 (by omega) (by omega)) (q := (150, 4)) (by rw [c198]; first | rfl | decide) ⟨_, rfl⟩ ?_
    refine wa_aload_n (n := 0) rfl ?_
    refine wa_iload_n (n := 1) rfl ?_
    refine wa_cv 63 rfl (wy_pr rfl) wt_63 (M2 := mS [64, 65, 66, 67, 69, 70]) rfl at_XP_readList ⟨_, rfl⟩ rfl rfl ⟨trivial, (Or.inr ⟨wy_pr rfl, mS_no rfl⟩), trivial, trivial⟩ trivial (fun _ _ q => q) (li_q hX hS (cQ_63 (k := 16) (x := 0) h (Or.inl rfl)) (by omega) ⟨by omega, by omega, by omega⟩ (by omega) (by omega) (w_up_same _ _ _ _)) (fun oq215 Sq215 hp216 q215 => ?_)
    rcases q215 with ⟨i199, I200, F201, t202, rfl, hd203, hc204, hg205, ⟨p206, p207, p208, p209⟩, e210⟩ | ⟨v211, x212, rfl, hd213, hz214⟩
    · skip
      show wJ _ _ _ _ _ _ _ _ _ _
      have hSq215 : cQ T n N X c f u w i199 I200 F201 Sq215 := hc204
      have gSq215 : cQg f (I.length : Int) w S Sq215 := cQg_tr (cQg_tr g0 (cQg_up (by omega) (by decide) (by omega))) (cQg_mo hg205 (by omega) (by omega))
      have krSq215 := kq_rg T n N X i199
      have icSq215 := cQ_ic hSq215
      have tSq215 : Sq215 63 16 = 0 := e210.2
      have flSq215 := p208.1
      have hzSq215 : t202 = 0 := e210.1
      subst hzSq215
      refine wa_goto ⟨_, rfl⟩ ?_
      refine wa_return rfl ?_
      refine Or.inl ⟨_, _, _, 0, rfl, fun R hR => ?_, hSq215, gSq215, ⟨by omega, by omega, (pz_le_tr pz_le_rfl p208), by omega⟩, ⟨⟨by omega, by omega⟩, tSq215⟩, Or.inl rfl⟩
      try dsimp only
      refine pz_cFI hR ?_
      unfold pz_FI
      repeat first | rw [if_pos (by omega)] | rw [if_neg (by omega)]
      first | refine pz_qo (hd203 R hR) ?_ | exact hd203 R hR
      all_goals repeat first | rw [if_pos (by omega)] | rw [if_neg (by omega)]
      all_goals first | rfl | (exfalso; omega)
    · skip
      refine ⟨rfl, ?_⟩
      refine Or.inr ⟨_, _, rfl, fun R hR => ?_, cQf_tr (cQg_tr g0 (cQg_up (by omega) (by decide) (by omega))) (by omega) (by omega) hz214⟩
      try dsimp only
      refine pz_cFI hR ?_
      unfold pz_FI
      repeat first | rw [if_pos (by omega)] | rw [if_neg (by omega)]
      first | exact pz_qi (hd213 R hR) | exact hd213 R hR
      all_goals repeat first | rw [if_pos (by omega)] | rw [if_neg (by omega)]
      all_goals first | rfl | (exfalso; omega)
  by_cases c217 : (kq T n N X i) = 41
  · refine wa_lw (tb := 0) (w_rg0 (by omega) (by omega)) (q := (100, 3)) (by rw [c217]; first | rfl | decide) ⟨_, rfl⟩ ?_
    refine wa_aload_n (n := 0) rfl ?_
    refine wa_aload_n (n := 0) rfl ?_
    refine wb_gfi 63 rfl (wy_pr rfl) wt_63 wf_1_11 (v := u) ((w_up_at (by decide)).trans ((cQ_11 h))) (fun r218 => ?_)
    refine wa_cv 63 rfl (wy_pr rfl) wt_63 (M2 := fun _ => False) rfl at_XP_addFunction ⟨_, rfl⟩ rfl rfl ⟨trivial, (Or.inr ⟨wy_pr rfl, fun q => q⟩), trivial, trivial⟩ trivial (fun _ _ q => False.elim q) (af_q (S := (w_up S 63 16 0)) (ar := u) (cQ_63 (k := 16) (x := 0) h (Or.inl rfl)) ⟨by omega, by omega⟩) (fun oq226 Sq226 hp227 q226 => ?_)
    rcases q226 with ⟨rfl, hk222, hc219, hg220, ht221⟩ | ⟨v223, rfl, hk225, hz224⟩
    · skip
      show wJ _ _ _ _ _ _ _ _ _ _
      have hSq226 : cQ T n N X c f u w i I (F ++ [(u, 0, [])]) Sq226 := hc219
      have gSq226 : cQg f (I.length : Int) w S Sq226 := cQg_tr (cQg_tr g0 (cQg_up (by omega) (by decide) (by omega))) (hg220 _ _)
      have tSq226 : Sq226 63 16 = 0 := (ht221).trans (w_up_same _ _ _ _)
      have flSq226 : (F ++ [(u, 0, [])]).length = F.length + 1 := List.length_append
      refine wa_istore_n (n := 3) rfl ?_
      refine wa_aload_n (n := 0) rfl ?_
      refine wb_gf4 63 rfl (wy_pr rfl) wt_63 wf_1_0 (v := 14) wl_63_0 ?_
      refine wa_cv 14 rfl (wy_pr rfl) wt_14 (M2 := fun _ => False) rfl at_XR_next ⟨_, rfl⟩ rfl rfl ⟨trivial, trivial, (Or.inr ⟨wy_pr rfl, fun q => q⟩), trivial, trivial⟩ trivial (fun _ _ q => False.elim q) (nx_q (S := Sq226) hSq226 ⟨by omega, by omega⟩) (fun oq231 Sq231 hp232 q231 => ?_)
      rcases q231 with ⟨rfl, hc228, hg229, ht230⟩
      show wJ _ _ _ _ _ _ _ _ _ _
      have hSq231 : cQ T n N X c f u w (i + 1) I (F ++ [(u, 0, [])]) Sq231 := hc228
      have gSq231 : cQg f (I.length : Int) w S Sq231 := cQg_tr gSq226 (hg229 _ _)
      have krSq231 := kq_rg T n N X (i + 1)
      have icSq231 := cQ_ic hSq231
      have tSq231 : Sq231 63 16 = 0 := (ht230.1).trans tSq226
      refine wa_aload_n (n := 0) rfl ?_
      refine wa_iload_n (n := 3) rfl ?_
      refine wa_iload_n (n := 1) rfl ?_
      refine wa_cv 63 rfl (wy_pr rfl) wt_63 (M2 := mS [69, 70]) rfl at_XP_enterFunction ⟨_, rfl⟩ rfl rfl ⟨trivial, trivial, (Or.inr ⟨wy_pr rfl, mS_no rfl⟩), trivial, trivial⟩ trivial (fun _ _ q => mS_sub (by decide) q) (en_q (S := Sq231) (g := (f + (F.length : Int))) (dp := dp) hSq231 ⟨by omega, by omega⟩ ⟨by omega, by omega⟩) (fun oq245 Sq245 hp246 q245 => ?_)
      rcases q245 with ⟨i233, F234, rfl, hd235, hc236, hg237, ⟨p238, le239⟩, e240⟩ | ⟨v241, x242, rfl, hd243, hz244⟩
      · skip
        show wJ _ _ _ _ _ _ _ _ _ _
        have hSq245 : cQ T n N X c f (f + (F.length : Int)) w i233 I F234 Sq245 := hc236
        have gSq245 : cQg f (I.length : Int) w S Sq245 := cQg_tr gSq231 (cQg_mo hg237 (by omega) (by omega))
        have krSq245 := kq_rg T n N X i233
        have icSq245 := cQ_ic hSq245
        have flSq245 := le239.1
        have leSq245 := le239
        have e3 : (pz_f f (F ++ [(u, 0, [])]) (f + (F.length : Int))).1 = u := by rw [pz_f_r]
        refine wa_aload_n (n := 0) rfl ?_
        refine wa_iload_n (n := 1) rfl ?_
        refine wa_iconst ?_
        refine wa_iadd ?_
        refine wa_cv 63 rfl (wy_pr rfl) wt_63 (M2 := mS [64, 65, 66, 67, 69, 70]) rfl at_XP_readStatements ⟨_, rfl⟩ rfl rfl ⟨trivial, trivial, (Or.inr ⟨wy_pr rfl, mS_no rfl⟩), trivial, trivial⟩ trivial (fun _ _ q => q) (hS _ (dp + 1) (f + (F.length : Int)) w i233 I F234 Sq245 (by omega) ⟨by omega, by omega, by omega⟩ ⟨by omega, by omega⟩ hSq245) (fun oq263 Sq263 hp264 q263 => ?_)
        rcases q263 with ⟨i247, I248, F249, t250, rfl, hd251, hc252, hg253, ⟨p254, p255, p256, p257⟩, e258⟩ | ⟨v259, x260, rfl, hd261, hz262⟩
        · skip
          show wJ _ _ _ _ _ _ _ _ _ _
          have hSq263 : cQ T n N X c f (f + (F.length : Int)) w i247 I248 F249 Sq263 := hc252
          have gSq263 : cQg f (I.length : Int) w S Sq263 := cQg_tr gSq245 (cQg_mo hg253 (by omega) (by omega))
          have krSq263 := kq_rg T n N X i247
          have icSq263 := cQ_ic hSq263
          have flSq263 := p256.1
          refine wa_aload_n (n := 0) rfl ?_
          refine wa_cv 63 rfl (wy_pr rfl) wt_63 (M2 := mS [64, 65, 66, 67, 69, 70]) rfl at_XP_leaveFunction ⟨_, rfl⟩ rfl rfl ⟨trivial, trivial, (Or.inr ⟨wy_pr rfl, mS_no rfl⟩), trivial, trivial⟩ trivial (fun _ _ q => q) ?_ (fun _ _ _ q => q)
          refine wa_aload_n (n := 0) rfl ?_
          refine wa_bipush (w_rg2 (by omega) (by omega)) ?_
          refine wa_cv 63 rfl (wy_pr rfl) wt_63 (M2 := fun _ => False) rfl at_XP_take ⟨_, rfl⟩ rfl rfl ⟨(Or.inr ⟨wy_pr rfl, fun q => q⟩), trivial⟩ trivial (fun _ _ q => False.elim q) (tk_q (S := Sq263) (k := 13) hSq263 ⟨by omega, by omega⟩) (fun oq272 Sq272 hp273 q272 => ?_)
          rcases q272 with ⟨rfl, hk268, hc265, hg266, ht267⟩ | ⟨v269, rfl, hk271, hz270⟩
          · skip
            show wJ _ _ _ _ _ _ _ _ _ _
            have hSq272 : cQ T n N X c f (f + (F.length : Int)) w (i247 + 1) I248 F249 Sq272 := hc265
            have gSq272 : cQg f (I.length : Int) w S Sq272 := cQg_tr gSq263 (hg266 _ _)
            have krSq272 := kq_rg T n N X (i247 + 1)
            have icSq272 := cQ_ic hSq272
            have dSq272 : pz_tk (kq T n N X) (tp T n 0) 13 i247 I248 F249 = .inr ((i247 + 1), I248, F249, 0) := pz_tk_o hk268
            refine wa_aload_n (n := 0) rfl ?_
            refine wa_cv 63 rfl (wy_pr rfl) wt_63 (M2 := mS [64, 65, 66, 67]) rfl at_XP_endFunction ⟨_, rfl⟩ rfl rfl ⟨(Or.inr ⟨wy_pr rfl, mS_no rfl⟩), trivial⟩ trivial (fun _ _ q => mS_sub (by decide) q) (ef_q (S := Sq272) (u2 := u) hSq272 ((pz_le_f (F := F ++ [(u, 0, [])]) (pz_le_tr leSq245 p256) ⟨by omega, by omega⟩).trans e3) (by omega) (by omega)) (fun oq276 Sq276 hp277 q276 => ?_)
            rcases q276 with ⟨rfl, hc274, hg275⟩
            show wJ _ _ _ _ _ _ _ _ _ _
            have hSq276 : cQ T n N X c f u w (i247 + 1) (I248 ++ [(0, 0, 0, (f + (F.length : Int)))] ++ [(29, 0, 0, (f + (F.length : Int)))]) F249 Sq276 := hc274
            have gSq276 : cQg f (I.length : Int) w S Sq276 := cQg_tr gSq272 (hg275 _ _ (by omega))
            have hlSq276 : (I248 ++ [(0, 0, 0, (f + (F.length : Int)))] ++ [(29, 0, 0, (f + (F.length : Int)))]).length = I248.length + 2 := by rw [List.length_append, List.length_append]; rfl
            refine wa_return rfl ?_
            show wJ _ _ _ _ _ _ _ _ _ _
            refine wa_aload_n (n := 0) rfl ?_
            refine wa_bipush (w_rg2 (by omega) (by omega)) ?_
            refine wa_iload_n (n := 3) rfl ?_
            refine wa_iconst ?_
            refine wa_cv 63 rfl (wy_pr rfl) wt_63 (M2 := mS [64, 65, 66, 67]) rfl at_XP_note ⟨_, rfl⟩ rfl rfl ⟨trivial, trivial, (Or.inr ⟨wy_pr rfl, mS_no rfl⟩), trivial, trivial⟩ trivial (fun _ _ q => mS_sub (by decide) q) (nt_q (S := Sq276) (op := 24) (a := (f + (F.length : Int))) (b := 0) (l := (I248.length + 2)) hSq276 ⟨by omega, by omega⟩ ⟨by omega, by omega⟩ ⟨by omega, by omega⟩ (by omega) (by omega) (by omega)) (fun oq281 Sq281 hp282 q281 => ?_)
            rcases q281 with ⟨rfl, hc278, hg279, ht280⟩
            show wJ _ _ _ _ _ _ _ _ _ _
            have hSq281 : cQ T n N X c f u w (i247 + 1) ((I248 ++ [(0, 0, 0, (f + (F.length : Int)))] ++ [(29, 0, 0, (f + (F.length : Int)))]) ++ [(24, (f + (F.length : Int)), 0, u)]) F249 Sq281 := hc278
            have gSq281 : cQg f (I.length : Int) w S Sq281 := cQg_tr gSq276 (hg279 _ _ (by omega))
            have hlSq281 : ((I248 ++ [(0, 0, 0, (f + (F.length : Int)))] ++ [(29, 0, 0, (f + (F.length : Int)))]) ++ [(24, (f + (F.length : Int)), 0, u)]).length = (I248 ++ [(0, 0, 0, (f + (F.length : Int)))] ++ [(29, 0, 0, (f + (F.length : Int)))]).length + 1 := List.length_append
            refine wa_pop (by decide) ?_
            refine wa_aload_n (n := 0) rfl ?_
            refine wa_iconst ?_
            refine wb_pfi 63 rfl (wy_pr rfl) wt_63 wf_1_16 (n := 16) rfl ⟨(by omega), (by omega)⟩ ?_
            refine wa_goto ⟨_, rfl⟩ ?_
            refine wa_return rfl ?_
            refine Or.inl ⟨_, _, _, 0, rfl, fun R hR => ?_, (cQ_63 (k := 16) (x := 0) hSq281 (Or.inl rfl)), (cQg_tr gSq281 (cQg_up (by omega) (by decide) (by omega))), ⟨by omega, by omega, (pz_le_tr (pz_le_tr (pz_le_tr pz_le_rfl (pz_le_ap _ _)) le239) p256), by omega⟩, ⟨⟨by omega, by omega⟩, (w_up_same _ _ _ _)⟩, Or.inl rfl⟩
            try dsimp only
            refine pz_cFI hR ?_
            unfold pz_FI
            repeat first | rw [if_pos (by omega)] | rw [if_neg (by omega)]
            refine pz_qo ?_ rfl
            unfold pz_fn
            repeat first | rw [if_pos (by omega)] | rw [if_neg (by omega)]
            refine hd235 R hR _ _ ?_
            repeat first | rw [if_pos (by omega)] | rw [if_neg (by omega)]
            first | refine pz_qo (hd251 R hR) ?_ | exact hd251 R hR
            repeat first | rw [if_pos (by omega)] | rw [if_neg (by omega)]
            first | refine pz_fo dSq272 ?_ | exact dSq272.symm | exact (pz_tk_o hk268).symm | skip
            all_goals repeat first | rw [if_pos (by omega)] | rw [if_neg (by omega)]
            all_goals first | rfl | (exfalso; omega)
          · skip
            refine ⟨rfl, ?_⟩
            refine ⟨rfl, ?_⟩
            refine Or.inr ⟨_, _, rfl, fun R hR => ?_, cQf_of gSq263 (by omega) (by omega) (cQn_of hSq263) hz270⟩
            try dsimp only
            refine pz_cFI hR ?_
            unfold pz_FI
            repeat first | rw [if_pos (by omega)] | rw [if_neg (by omega)]
            refine pz_qi ?_
            unfold pz_fn
            repeat first | rw [if_pos (by omega)] | rw [if_neg (by omega)]
            refine hd235 R hR _ _ ?_
            repeat first | rw [if_pos (by omega)] | rw [if_neg (by omega)]
            first | refine pz_qo (hd251 R hR) ?_ | exact hd251 R hR
            repeat first | rw [if_pos (by omega)] | rw [if_neg (by omega)]
            first | exact pz_fi (pz_tk_f hk271) | exact (pz_tk_f hk271).symm | (exfalso; omega)
            all_goals repeat first | rw [if_pos (by omega)] | rw [if_neg (by omega)]
            all_goals first | rfl | (exfalso; omega)
        · skip
          refine ⟨rfl, ?_⟩
          refine Or.inr ⟨_, _, rfl, fun R hR => ?_, cQf_tr gSq245 (by omega) (by omega) hz262⟩
          try dsimp only
          refine pz_cFI hR ?_
          unfold pz_FI
          repeat first | rw [if_pos (by omega)] | rw [if_neg (by omega)]
          refine pz_qi ?_
          unfold pz_fn
          repeat first | rw [if_pos (by omega)] | rw [if_neg (by omega)]
          refine hd235 R hR _ _ ?_
          repeat first | rw [if_pos (by omega)] | rw [if_neg (by omega)]
          first | exact pz_qi (hd261 R hR) | exact hd261 R hR
          all_goals repeat first | rw [if_pos (by omega)] | rw [if_neg (by omega)]
          all_goals first | rfl | (exfalso; omega)
      · skip
        refine ⟨rfl, ?_⟩
        refine Or.inr ⟨_, _, rfl, fun R hR => ?_, cQf_tr gSq231 (by omega) (by omega) hz244⟩
        try dsimp only
        refine pz_cFI hR ?_
        unfold pz_FI
        repeat first | rw [if_pos (by omega)] | rw [if_neg (by omega)]
        refine pz_qi ?_
        unfold pz_fn
        repeat first | rw [if_pos (by omega)] | rw [if_neg (by omega)]
        exact hd243 R hR _
        all_goals repeat first | rw [if_pos (by omega)] | rw [if_neg (by omega)]
        all_goals first | rfl | (exfalso; omega)
    · skip
      refine ⟨rfl, ?_⟩
      refine Or.inr ⟨_, _, rfl, fun R hR => ?_, cQf_of (cQg_tr g0 (cQg_up (by omega) (by decide) (by omega))) (by omega) (by omega) (cQn_of (cQ_63 (k := 16) (x := 0) h (Or.inl rfl))) hz224⟩
      try dsimp only
      refine pz_cFI hR ?_
      unfold pz_FI
      repeat first | rw [if_pos (by omega)] | rw [if_neg (by omega)]
      rfl
      all_goals repeat first | rw [if_pos (by omega)] | rw [if_neg (by omega)]
      all_goals first | rfl | (exfalso; omega)
  refine wa_lw (tb := 0) (w_rg0 (by omega) (by omega)) (q := (166, 6)) (lw_df [5, 6, 10, 12, 14, 41] rfl (by simp only [List.mem_cons, List.not_mem_nil, or_false, not_or]; omega) (by first | rfl | decide)) ⟨_, rfl⟩ ?_
  refine wa_iload_n (n := 2) rfl ?_
  refine wa_bipush (w_rg2 (by omega) (by omega)) ?_
  refine wa_icmplt (w_rg0 (by omega) (by omega)) (w_rg0 (by omega) (by omega)) ⟨_, rfl⟩ (fun c283 => ?_) (fun c283 => ?_)
  · skip
    refine wa_aload_n (n := 0) rfl ?_
    refine wa_iload_n (n := 2) rfl ?_
    refine wa_cv 63 rfl (wy_pr rfl) wt_63 (M2 := mS [64, 65, 66, 67, 69, 70]) rfl at_XP_readConstant ⟨_, rfl⟩ rfl rfl ⟨trivial, (Or.inr ⟨wy_pr rfl, mS_no rfl⟩), trivial, trivial⟩ trivial (fun _ _ q => q) ?_ (fun _ _ _ q => q)
    refine wa_iload_n (n := 1) rfl ?_
    by_cases c284 : (kq T n N X i) = 2
    · refine wa_lw (tb := 0) (w_rg0 (by omega) (by omega)) (q := (67, 1)) (by rw [c284]; first | rfl | decide) ⟨_, rfl⟩ ?_
      refine wa_aload_n (n := 0) rfl ?_
      refine wa_iconst ?_
      refine wa_iconst ?_
      refine wa_aload_n (n := 0) rfl ?_
      refine wb_gf4 63 rfl (wy_pr rfl) wt_63 wf_1_0 (v := 14) wl_63_0 ?_
      refine wa_cv 14 rfl (wy_pr rfl) wt_14 (M2 := fun _ => False) rfl at_XR_value ⟨_, rfl⟩ rfl rfl ⟨(Or.inr ⟨wy_pr rfl, fun q => q⟩), trivial, trivial⟩ ⟨trivial, trivial, (Or.inr ⟨wy_pr rfl, fun q => q⟩), trivial⟩ (fun _ _ q => False.elim q) (vl_q (S := (w_up S 63 16 0)) (cQ_63 (k := 16) (x := 0) h (Or.inl rfl)) ⟨by omega, by omega⟩) (fun oq286 Sq286 hp287 q286 => ?_)
      rcases q286 with ⟨⟨rfl, vr285⟩, rfl⟩
      show wJ _ _ _ _ _ _ _ _ _ _
      refine wa_cv 63 rfl (wy_pr rfl) wt_63 (M2 := mS [64, 65, 66, 67]) rfl at_XP_note ⟨_, rfl⟩ rfl rfl ⟨(Or.inr ⟨wy_pr rfl, mS_no rfl⟩), trivial, trivial⟩ trivial (fun _ _ q => mS_sub (by decide) q) (nt_q (S := (w_up S 63 16 0)) (op := 0) (a := 3) (b := (vq T n N X i)) (l := I.length) (cQ_63 (k := 16) (x := 0) h (Or.inl rfl)) ⟨by omega, by omega⟩ ⟨by omega, by omega⟩ ⟨by omega, by omega⟩ (by omega) (by omega) (by omega)) (fun oq291 Sq291 hp292 q291 => ?_)
      rcases q291 with ⟨rfl, hc288, hg289, ht290⟩
      show wJ _ _ _ _ _ _ _ _ _ _
      have hSq291 : cQ T n N X c f u w i (I ++ [(0, 3, (vq T n N X i), u)]) F Sq291 := hc288
      have gSq291 : cQg f (I.length : Int) w S Sq291 := cQg_tr (cQg_tr g0 (cQg_up (by omega) (by decide) (by omega))) (hg289 _ _ (by omega))
      have tSq291 : Sq291 63 16 = 0 := (ht290).trans (w_up_same _ _ _ _)
      have hlSq291 : (I ++ [(0, 3, (vq T n N X i), u)]).length = I.length + 1 := List.length_append
      refine wa_pop (by decide) ?_
      refine wa_goto ⟨_, rfl⟩ ?_
      refine wa_aload_n (n := 0) rfl ?_
      refine wb_gf4 63 rfl (wy_pr rfl) wt_63 wf_1_0 (v := 14) wl_63_0 ?_
      refine wa_cv 14 rfl (wy_pr rfl) wt_14 (M2 := fun _ => False) rfl at_XR_next ⟨_, rfl⟩ rfl rfl ⟨(Or.inr ⟨wy_pr rfl, fun q => q⟩), trivial, trivial⟩ trivial (fun _ _ q => False.elim q) (nx_q (S := Sq291) hSq291 ⟨by omega, by omega⟩) (fun oq296 Sq296 hp297 q296 => ?_)
      rcases q296 with ⟨rfl, hc293, hg294, ht295⟩
      show wJ _ _ _ _ _ _ _ _ _ _
      have hSq296 : cQ T n N X c f u w (i + 1) (I ++ [(0, 3, (vq T n N X i), u)]) F Sq296 := hc293
      have gSq296 : cQg f (I.length : Int) w S Sq296 := cQg_tr gSq291 (hg294 _ _)
      have krSq296 := kq_rg T n N X (i + 1)
      have icSq296 := cQ_ic hSq296
      have tSq296 : Sq296 63 16 = 0 := (ht295.1).trans tSq291
      refine wa_return rfl ?_
      show wJ _ _ _ _ _ _ _ _ _ _
      refine wa_fall ⟨_, rfl⟩ ?_
      refine wa_return rfl ?_
      refine Or.inl ⟨_, _, _, 0, rfl, fun R hR => ?_, hSq296, gSq296, ⟨by omega, by omega, pz_le_rfl, by omega⟩, ⟨⟨by omega, by omega⟩, tSq296⟩, Or.inl rfl⟩
      try dsimp only
      refine pz_cFI hR ?_
      unfold pz_FI
      all_goals repeat first | rw [if_pos (by omega)] | rw [if_neg (by omega)]
      all_goals first | rfl | (exfalso; omega)
    by_cases c298 : (kq T n N X i) = 3
    · refine wa_lw (tb := 0) (w_rg0 (by omega) (by omega)) (q := (84, 2)) (by rw [c298]; first | rfl | decide) ⟨_, rfl⟩ ?_
      refine wa_aload_n (n := 0) rfl ?_
      refine wa_iconst ?_
      refine wa_iconst ?_
      refine wa_aload_n (n := 0) rfl ?_
      refine wb_gf4 63 rfl (wy_pr rfl) wt_63 wf_1_0 (v := 14) wl_63_0 ?_
      refine wa_cv 14 rfl (wy_pr rfl) wt_14 (M2 := fun _ => False) rfl at_XR_value ⟨_, rfl⟩ rfl rfl ⟨(Or.inr ⟨wy_pr rfl, fun q => q⟩), trivial, trivial⟩ ⟨trivial, trivial, (Or.inr ⟨wy_pr rfl, fun q => q⟩), trivial⟩ (fun _ _ q => False.elim q) (vl_q (S := (w_up S 63 16 0)) (cQ_63 (k := 16) (x := 0) h (Or.inl rfl)) ⟨by omega, by omega⟩) (fun oq300 Sq300 hp301 q300 => ?_)
      rcases q300 with ⟨⟨rfl, vr299⟩, rfl⟩
      show wJ _ _ _ _ _ _ _ _ _ _
      refine wa_cv 63 rfl (wy_pr rfl) wt_63 (M2 := mS [64, 65, 66, 67]) rfl at_XP_note ⟨_, rfl⟩ rfl rfl ⟨(Or.inr ⟨wy_pr rfl, mS_no rfl⟩), trivial, trivial⟩ trivial (fun _ _ q => mS_sub (by decide) q) (nt_q (S := (w_up S 63 16 0)) (op := 0) (a := 4) (b := (vq T n N X i)) (l := I.length) (cQ_63 (k := 16) (x := 0) h (Or.inl rfl)) ⟨by omega, by omega⟩ ⟨by omega, by omega⟩ ⟨by omega, by omega⟩ (by omega) (by omega) (by omega)) (fun oq305 Sq305 hp306 q305 => ?_)
      rcases q305 with ⟨rfl, hc302, hg303, ht304⟩
      show wJ _ _ _ _ _ _ _ _ _ _
      have hSq305 : cQ T n N X c f u w i (I ++ [(0, 4, (vq T n N X i), u)]) F Sq305 := hc302
      have gSq305 : cQg f (I.length : Int) w S Sq305 := cQg_tr (cQg_tr g0 (cQg_up (by omega) (by decide) (by omega))) (hg303 _ _ (by omega))
      have tSq305 : Sq305 63 16 = 0 := (ht304).trans (w_up_same _ _ _ _)
      have hlSq305 : (I ++ [(0, 4, (vq T n N X i), u)]).length = I.length + 1 := List.length_append
      refine wa_pop (by decide) ?_
      refine wa_goto ⟨_, rfl⟩ ?_
      refine wa_aload_n (n := 0) rfl ?_
      refine wb_gf4 63 rfl (wy_pr rfl) wt_63 wf_1_0 (v := 14) wl_63_0 ?_
      refine wa_cv 14 rfl (wy_pr rfl) wt_14 (M2 := fun _ => False) rfl at_XR_next ⟨_, rfl⟩ rfl rfl ⟨(Or.inr ⟨wy_pr rfl, fun q => q⟩), trivial, trivial⟩ trivial (fun _ _ q => False.elim q) (nx_q (S := Sq305) hSq305 ⟨by omega, by omega⟩) (fun oq310 Sq310 hp311 q310 => ?_)
      rcases q310 with ⟨rfl, hc307, hg308, ht309⟩
      show wJ _ _ _ _ _ _ _ _ _ _
      have hSq310 : cQ T n N X c f u w (i + 1) (I ++ [(0, 4, (vq T n N X i), u)]) F Sq310 := hc307
      have gSq310 : cQg f (I.length : Int) w S Sq310 := cQg_tr gSq305 (hg308 _ _)
      have krSq310 := kq_rg T n N X (i + 1)
      have icSq310 := cQ_ic hSq310
      have tSq310 : Sq310 63 16 = 0 := (ht309.1).trans tSq305
      refine wa_return rfl ?_
      show wJ _ _ _ _ _ _ _ _ _ _
      refine wa_fall ⟨_, rfl⟩ ?_
      refine wa_return rfl ?_
      refine Or.inl ⟨_, _, _, 0, rfl, fun R hR => ?_, hSq310, gSq310, ⟨by omega, by omega, pz_le_rfl, by omega⟩, ⟨⟨by omega, by omega⟩, tSq310⟩, Or.inl rfl⟩
      try dsimp only
      refine pz_cFI hR ?_
      unfold pz_FI
      all_goals repeat first | rw [if_pos (by omega)] | rw [if_neg (by omega)]
      all_goals first | rfl | (exfalso; omega)
    by_cases c312 : (kq T n N X i) = 4
    · refine wa_lw (tb := 0) (w_rg0 (by omega) (by omega)) (q := (101, 3)) (by rw [c312]; first | rfl | decide) ⟨_, rfl⟩ ?_
      refine wa_aload_n (n := 0) rfl ?_
      refine wa_bipush (w_rg2 (by omega) (by omega)) ?_
      refine wa_cv 63 rfl (wy_pr rfl) wt_63 (M2 := fun _ => False) rfl at_XP_refuse ⟨_, rfl⟩ rfl rfl ⟨(Or.inr ⟨wy_pr rfl, fun q => q⟩), trivial, trivial⟩ trivial (fun _ _ q => False.elim q) (rf_q (S := (w_up S 63 16 0)) (k := 7) (cQ_63 (k := 16) (x := 0) h (Or.inl rfl)) ⟨by omega, by omega⟩) (fun oq315 Sq315 hp316 q315 => ?_)
      rcases q315 with ⟨v313, rfl, hz314⟩
      refine ⟨rfl, ?_⟩
      refine ⟨rfl, ?_⟩
      refine Or.inr ⟨_, _, rfl, fun R hR => ?_, cQf_of (cQg_tr g0 (cQg_up (by omega) (by decide) (by omega))) (by omega) (by omega) (cQn_of (cQ_63 (k := 16) (x := 0) h (Or.inl rfl))) hz314⟩
      try dsimp only
      refine pz_cFI hR ?_
      unfold pz_FI
      repeat first | rw [if_pos (by omega)] | rw [if_neg (by omega)]
      first | rfl | (exfalso; omega) | (by_cases h49 : kq T n N X i = 49 <;> (repeat first | rw [if_pos (by omega)] | rw [if_neg (by omega)]) <;> rfl)
      all_goals repeat first | rw [if_pos (by omega)] | rw [if_neg (by omega)]
      all_goals first | rfl | (exfalso; omega)
    by_cases c317 : (kq T n N X i) = 50
    · refine wa_lw (tb := 0) (w_rg0 (by omega) (by omega)) (q := (110, 4)) (by rw [c317]; first | rfl | decide) ⟨_, rfl⟩ ?_
      refine wa_aload_n (n := 0) rfl ?_
      refine wa_bipush (w_rg2 (by omega) (by omega)) ?_
      refine wa_iconst ?_
      refine wa_iconst ?_
      refine wa_cv 63 rfl (wy_pr rfl) wt_63 (M2 := mS [64, 65, 66, 67]) rfl at_XP_note ⟨_, rfl⟩ rfl rfl ⟨(Or.inr ⟨wy_pr rfl, mS_no rfl⟩), trivial, trivial⟩ trivial (fun _ _ q => mS_sub (by decide) q) (nt_q (S := (w_up S 63 16 0)) (op := 33) (a := 0) (b := 0) (l := I.length) (cQ_63 (k := 16) (x := 0) h (Or.inl rfl)) ⟨by omega, by omega⟩ ⟨by omega, by omega⟩ ⟨by omega, by omega⟩ (by omega) (by omega) (by omega)) (fun oq321 Sq321 hp322 q321 => ?_)
      rcases q321 with ⟨rfl, hc318, hg319, ht320⟩
      show wJ _ _ _ _ _ _ _ _ _ _
      have hSq321 : cQ T n N X c f u w i (I ++ [(33, 0, 0, u)]) F Sq321 := hc318
      have gSq321 : cQg f (I.length : Int) w S Sq321 := cQg_tr (cQg_tr g0 (cQg_up (by omega) (by decide) (by omega))) (hg319 _ _ (by omega))
      have tSq321 : Sq321 63 16 = 0 := (ht320).trans (w_up_same _ _ _ _)
      have hlSq321 : (I ++ [(33, 0, 0, u)]).length = I.length + 1 := List.length_append
      refine wa_pop (by decide) ?_
      refine wa_goto ⟨_, rfl⟩ ?_
      refine wa_aload_n (n := 0) rfl ?_
      refine wb_gf4 63 rfl (wy_pr rfl) wt_63 wf_1_0 (v := 14) wl_63_0 ?_
      refine wa_cv 14 rfl (wy_pr rfl) wt_14 (M2 := fun _ => False) rfl at_XR_next ⟨_, rfl⟩ rfl rfl ⟨(Or.inr ⟨wy_pr rfl, fun q => q⟩), trivial, trivial⟩ trivial (fun _ _ q => False.elim q) (nx_q (S := Sq321) hSq321 ⟨by omega, by omega⟩) (fun oq326 Sq326 hp327 q326 => ?_)
      rcases q326 with ⟨rfl, hc323, hg324, ht325⟩
      show wJ _ _ _ _ _ _ _ _ _ _
      have hSq326 : cQ T n N X c f u w (i + 1) (I ++ [(33, 0, 0, u)]) F Sq326 := hc323
      have gSq326 : cQg f (I.length : Int) w S Sq326 := cQg_tr gSq321 (hg324 _ _)
      have krSq326 := kq_rg T n N X (i + 1)
      have icSq326 := cQ_ic hSq326
      have tSq326 : Sq326 63 16 = 0 := (ht325.1).trans tSq321
      refine wa_return rfl ?_
      show wJ _ _ _ _ _ _ _ _ _ _
      refine wa_fall ⟨_, rfl⟩ ?_
      refine wa_return rfl ?_
      refine Or.inl ⟨_, _, _, 0, rfl, fun R hR => ?_, hSq326, gSq326, ⟨by omega, by omega, pz_le_rfl, by omega⟩, ⟨⟨by omega, by omega⟩, tSq326⟩, Or.inl rfl⟩
      try dsimp only
      refine pz_cFI hR ?_
      unfold pz_FI
      all_goals repeat first | rw [if_pos (by omega)] | rw [if_neg (by omega)]
      all_goals first | rfl | (exfalso; omega)
    by_cases c328 : (kq T n N X i) = 51
    · refine wa_lw (tb := 0) (w_rg0 (by omega) (by omega)) (q := (122, 5)) (by rw [c328]; first | rfl | decide) ⟨_, rfl⟩ ?_
      refine wa_aload_n (n := 0) rfl ?_
      refine wa_iconst ?_
      refine wa_iconst ?_
      refine wa_iconst ?_
      refine wa_cv 63 rfl (wy_pr rfl) wt_63 (M2 := mS [64, 65, 66, 67]) rfl at_XP_note ⟨_, rfl⟩ rfl rfl ⟨(Or.inr ⟨wy_pr rfl, mS_no rfl⟩), trivial, trivial⟩ trivial (fun _ _ q => mS_sub (by decide) q) (nt_q (S := (w_up S 63 16 0)) (op := 0) (a := 0) (b := 0) (l := I.length) (cQ_63 (k := 16) (x := 0) h (Or.inl rfl)) ⟨by omega, by omega⟩ ⟨by omega, by omega⟩ ⟨by omega, by omega⟩ (by omega) (by omega) (by omega)) (fun oq332 Sq332 hp333 q332 => ?_)
      rcases q332 with ⟨rfl, hc329, hg330, ht331⟩
      show wJ _ _ _ _ _ _ _ _ _ _
      have hSq332 : cQ T n N X c f u w i (I ++ [(0, 0, 0, u)]) F Sq332 := hc329
      have gSq332 : cQg f (I.length : Int) w S Sq332 := cQg_tr (cQg_tr g0 (cQg_up (by omega) (by decide) (by omega))) (hg330 _ _ (by omega))
      have tSq332 : Sq332 63 16 = 0 := (ht331).trans (w_up_same _ _ _ _)
      have hlSq332 : (I ++ [(0, 0, 0, u)]).length = I.length + 1 := List.length_append
      refine wa_pop (by decide) ?_
      refine wa_goto ⟨_, rfl⟩ ?_
      refine wa_aload_n (n := 0) rfl ?_
      refine wb_gf4 63 rfl (wy_pr rfl) wt_63 wf_1_0 (v := 14) wl_63_0 ?_
      refine wa_cv 14 rfl (wy_pr rfl) wt_14 (M2 := fun _ => False) rfl at_XR_next ⟨_, rfl⟩ rfl rfl ⟨(Or.inr ⟨wy_pr rfl, fun q => q⟩), trivial, trivial⟩ trivial (fun _ _ q => False.elim q) (nx_q (S := Sq332) hSq332 ⟨by omega, by omega⟩) (fun oq337 Sq337 hp338 q337 => ?_)
      rcases q337 with ⟨rfl, hc334, hg335, ht336⟩
      show wJ _ _ _ _ _ _ _ _ _ _
      have hSq337 : cQ T n N X c f u w (i + 1) (I ++ [(0, 0, 0, u)]) F Sq337 := hc334
      have gSq337 : cQg f (I.length : Int) w S Sq337 := cQg_tr gSq332 (hg335 _ _)
      have krSq337 := kq_rg T n N X (i + 1)
      have icSq337 := cQ_ic hSq337
      have tSq337 : Sq337 63 16 = 0 := (ht336.1).trans tSq332
      refine wa_return rfl ?_
      show wJ _ _ _ _ _ _ _ _ _ _
      refine wa_fall ⟨_, rfl⟩ ?_
      refine wa_return rfl ?_
      refine Or.inl ⟨_, _, _, 0, rfl, fun R hR => ?_, hSq337, gSq337, ⟨by omega, by omega, pz_le_rfl, by omega⟩, ⟨⟨by omega, by omega⟩, tSq337⟩, Or.inl rfl⟩
      try dsimp only
      refine pz_cFI hR ?_
      unfold pz_FI
      all_goals repeat first | rw [if_pos (by omega)] | rw [if_neg (by omega)]
      all_goals first | rfl | (exfalso; omega)
    by_cases c339 : (kq T n N X i) = 52
    · refine wa_lw (tb := 0) (w_rg0 (by omega) (by omega)) (q := (133, 6)) (by rw [c339]; first | rfl | decide) ⟨_, rfl⟩ ?_
      refine wa_aload_n (n := 0) rfl ?_
      refine wa_iconst ?_
      refine wa_iconst ?_
      refine wa_iconst ?_
      refine wa_cv 63 rfl (wy_pr rfl) wt_63 (M2 := mS [64, 65, 66, 67]) rfl at_XP_note ⟨_, rfl⟩ rfl rfl ⟨(Or.inr ⟨wy_pr rfl, mS_no rfl⟩), trivial, trivial⟩ trivial (fun _ _ q => mS_sub (by decide) q) (nt_q (S := (w_up S 63 16 0)) (op := 0) (a := 2) (b := 0) (l := I.length) (cQ_63 (k := 16) (x := 0) h (Or.inl rfl)) ⟨by omega, by omega⟩ ⟨by omega, by omega⟩ ⟨by omega, by omega⟩ (by omega) (by omega) (by omega)) (fun oq343 Sq343 hp344 q343 => ?_)
      rcases q343 with ⟨rfl, hc340, hg341, ht342⟩
      show wJ _ _ _ _ _ _ _ _ _ _
      have hSq343 : cQ T n N X c f u w i (I ++ [(0, 2, 0, u)]) F Sq343 := hc340
      have gSq343 : cQg f (I.length : Int) w S Sq343 := cQg_tr (cQg_tr g0 (cQg_up (by omega) (by decide) (by omega))) (hg341 _ _ (by omega))
      have tSq343 : Sq343 63 16 = 0 := (ht342).trans (w_up_same _ _ _ _)
      have hlSq343 : (I ++ [(0, 2, 0, u)]).length = I.length + 1 := List.length_append
      refine wa_pop (by decide) ?_
      refine wa_goto ⟨_, rfl⟩ ?_
      refine wa_aload_n (n := 0) rfl ?_
      refine wb_gf4 63 rfl (wy_pr rfl) wt_63 wf_1_0 (v := 14) wl_63_0 ?_
      refine wa_cv 14 rfl (wy_pr rfl) wt_14 (M2 := fun _ => False) rfl at_XR_next ⟨_, rfl⟩ rfl rfl ⟨(Or.inr ⟨wy_pr rfl, fun q => q⟩), trivial, trivial⟩ trivial (fun _ _ q => False.elim q) (nx_q (S := Sq343) hSq343 ⟨by omega, by omega⟩) (fun oq348 Sq348 hp349 q348 => ?_)
      rcases q348 with ⟨rfl, hc345, hg346, ht347⟩
      show wJ _ _ _ _ _ _ _ _ _ _
      have hSq348 : cQ T n N X c f u w (i + 1) (I ++ [(0, 2, 0, u)]) F Sq348 := hc345
      have gSq348 : cQg f (I.length : Int) w S Sq348 := cQg_tr gSq343 (hg346 _ _)
      have krSq348 := kq_rg T n N X (i + 1)
      have icSq348 := cQ_ic hSq348
      have tSq348 : Sq348 63 16 = 0 := (ht347.1).trans tSq343
      refine wa_return rfl ?_
      show wJ _ _ _ _ _ _ _ _ _ _
      refine wa_fall ⟨_, rfl⟩ ?_
      refine wa_return rfl ?_
      refine Or.inl ⟨_, _, _, 0, rfl, fun R hR => ?_, hSq348, gSq348, ⟨by omega, by omega, pz_le_rfl, by omega⟩, ⟨⟨by omega, by omega⟩, tSq348⟩, Or.inl rfl⟩
      try dsimp only
      refine pz_cFI hR ?_
      unfold pz_FI
      all_goals repeat first | rw [if_pos (by omega)] | rw [if_neg (by omega)]
      all_goals first | rfl | (exfalso; omega)
    by_cases c350 : (kq T n N X i) = 53
    · refine wa_lw (tb := 0) (w_rg0 (by omega) (by omega)) (q := (144, 7)) (by rw [c350]; first | rfl | decide) ⟨_, rfl⟩ ?_
      refine wa_aload_n (n := 0) rfl ?_
      refine wa_iconst ?_
      refine wa_iconst ?_
      refine wa_iconst ?_
      refine wa_cv 63 rfl (wy_pr rfl) wt_63 (M2 := mS [64, 65, 66, 67]) rfl at_XP_note ⟨_, rfl⟩ rfl rfl ⟨(Or.inr ⟨wy_pr rfl, mS_no rfl⟩), trivial, trivial⟩ trivial (fun _ _ q => mS_sub (by decide) q) (nt_q (S := (w_up S 63 16 0)) (op := 0) (a := 1) (b := 0) (l := I.length) (cQ_63 (k := 16) (x := 0) h (Or.inl rfl)) ⟨by omega, by omega⟩ ⟨by omega, by omega⟩ ⟨by omega, by omega⟩ (by omega) (by omega) (by omega)) (fun oq354 Sq354 hp355 q354 => ?_)
      rcases q354 with ⟨rfl, hc351, hg352, ht353⟩
      show wJ _ _ _ _ _ _ _ _ _ _
      have hSq354 : cQ T n N X c f u w i (I ++ [(0, 1, 0, u)]) F Sq354 := hc351
      have gSq354 : cQg f (I.length : Int) w S Sq354 := cQg_tr (cQg_tr g0 (cQg_up (by omega) (by decide) (by omega))) (hg352 _ _ (by omega))
      have tSq354 : Sq354 63 16 = 0 := (ht353).trans (w_up_same _ _ _ _)
      have hlSq354 : (I ++ [(0, 1, 0, u)]).length = I.length + 1 := List.length_append
      refine wa_pop (by decide) ?_
      refine wa_goto ⟨_, rfl⟩ ?_
      refine wa_aload_n (n := 0) rfl ?_
      refine wb_gf4 63 rfl (wy_pr rfl) wt_63 wf_1_0 (v := 14) wl_63_0 ?_
      refine wa_cv 14 rfl (wy_pr rfl) wt_14 (M2 := fun _ => False) rfl at_XR_next ⟨_, rfl⟩ rfl rfl ⟨(Or.inr ⟨wy_pr rfl, fun q => q⟩), trivial, trivial⟩ trivial (fun _ _ q => False.elim q) (nx_q (S := Sq354) hSq354 ⟨by omega, by omega⟩) (fun oq359 Sq359 hp360 q359 => ?_)
      rcases q359 with ⟨rfl, hc356, hg357, ht358⟩
      show wJ _ _ _ _ _ _ _ _ _ _
      have hSq359 : cQ T n N X c f u w (i + 1) (I ++ [(0, 1, 0, u)]) F Sq359 := hc356
      have gSq359 : cQg f (I.length : Int) w S Sq359 := cQg_tr gSq354 (hg357 _ _)
      have krSq359 := kq_rg T n N X (i + 1)
      have icSq359 := cQ_ic hSq359
      have tSq359 : Sq359 63 16 = 0 := (ht358.1).trans tSq354
      refine wa_return rfl ?_
      show wJ _ _ _ _ _ _ _ _ _ _
      refine wa_fall ⟨_, rfl⟩ ?_
      refine wa_return rfl ?_
      refine Or.inl ⟨_, _, _, 0, rfl, fun R hR => ?_, hSq359, gSq359, ⟨by omega, by omega, pz_le_rfl, by omega⟩, ⟨⟨by omega, by omega⟩, tSq359⟩, Or.inl rfl⟩
      try dsimp only
      refine pz_cFI hR ?_
      unfold pz_FI
      all_goals repeat first | rw [if_pos (by omega)] | rw [if_neg (by omega)]
      all_goals first | rfl | (exfalso; omega)
    refine wa_lw (tb := 0) (w_rg0 (by omega) (by omega)) (q := (155, 8)) (lw_df [2, 3, 4, 50, 51, 52, 53] rfl (by simp only [List.mem_cons, List.not_mem_nil, or_false, not_or]; omega) (by first | rfl | decide)) ⟨_, rfl⟩ ?_
    refine wa_aload_n (n := 0) rfl ?_
    refine wa_iconst ?_
    refine wa_cv 63 rfl (wy_pr rfl) wt_63 (M2 := fun _ => False) rfl at_XP_refuse ⟨_, rfl⟩ rfl rfl ⟨(Or.inr ⟨wy_pr rfl, fun q => q⟩), trivial, trivial⟩ trivial (fun _ _ q => False.elim q) (rf_q (S := (w_up S 63 16 0)) (k := 1) (cQ_63 (k := 16) (x := 0) h (Or.inl rfl)) ⟨by omega, by omega⟩) (fun oq363 Sq363 hp364 q363 => ?_)
    rcases q363 with ⟨v361, rfl, hz362⟩
    refine ⟨rfl, ?_⟩
    refine ⟨rfl, ?_⟩
    refine Or.inr ⟨_, _, rfl, fun R hR => ?_, cQf_of (cQg_tr g0 (cQg_up (by omega) (by decide) (by omega))) (by omega) (by omega) (cQn_of (cQ_63 (k := 16) (x := 0) h (Or.inl rfl))) hz362⟩
    try dsimp only
    refine pz_cFI hR ?_
    unfold pz_FI
    repeat first | rw [if_pos (by omega)] | rw [if_neg (by omega)]
    first | rfl | (exfalso; omega) | (by_cases h49 : kq T n N X i = 49 <;> (repeat first | rw [if_pos (by omega)] | rw [if_neg (by omega)]) <;> rfl)
    all_goals repeat first | rw [if_pos (by omega)] | rw [if_neg (by omega)]
    all_goals first | rfl | (exfalso; omega)
  · skip
    refine wa_iload_n (n := 2) rfl ?_
    refine wa_bipush (w_rg2 (by omega) (by omega)) ?_
    refine wa_icmpge (w_rg0 (by omega) (by omega)) (w_rg0 (by omega) (by omega)) ⟨_, rfl⟩ (fun c365 => ?_) (fun c365 => ?_)
    · skip
      refine wa_aload_n (n := 0) rfl ?_
      refine wa_iload_n (n := 2) rfl ?_
      refine wa_cv 63 rfl (wy_pr rfl) wt_63 (M2 := mS [64, 65, 66, 67, 69, 70]) rfl at_XP_readConstant ⟨_, rfl⟩ rfl rfl ⟨trivial, (Or.inr ⟨wy_pr rfl, mS_no rfl⟩), trivial, trivial⟩ trivial (fun _ _ q => q) ?_ (fun _ _ _ q => q)
      refine wa_iload_n (n := 1) rfl ?_
      by_cases c366 : (kq T n N X i) = 2
      · exact absurd c366 (by omega)
      by_cases c367 : (kq T n N X i) = 3
      · exact absurd c367 (by omega)
      by_cases c368 : (kq T n N X i) = 4
      · exact absurd c368 (by omega)
      by_cases c369 : (kq T n N X i) = 50
      · exact absurd c369 (by omega)
      by_cases c370 : (kq T n N X i) = 51
      · exact absurd c370 (by omega)
      by_cases c371 : (kq T n N X i) = 52
      · exact absurd c371 (by omega)
      by_cases c372 : (kq T n N X i) = 53
      · exact absurd c372 (by omega)
      refine wa_lw (tb := 0) (w_rg0 (by omega) (by omega)) (q := (155, 8)) (lw_df [2, 3, 4, 50, 51, 52, 53] rfl (by simp only [List.mem_cons, List.not_mem_nil, or_false, not_or]; omega) (by first | rfl | decide)) ⟨_, rfl⟩ ?_
      refine wa_aload_n (n := 0) rfl ?_
      refine wa_iconst ?_
      refine wa_cv 63 rfl (wy_pr rfl) wt_63 (M2 := fun _ => False) rfl at_XP_refuse ⟨_, rfl⟩ rfl rfl ⟨(Or.inr ⟨wy_pr rfl, fun q => q⟩), trivial, trivial⟩ trivial (fun _ _ q => False.elim q) (rf_q (S := (w_up S 63 16 0)) (k := 1) (cQ_63 (k := 16) (x := 0) h (Or.inl rfl)) ⟨by omega, by omega⟩) (fun oq375 Sq375 hp376 q375 => ?_)
      rcases q375 with ⟨v373, rfl, hz374⟩
      refine ⟨rfl, ?_⟩
      refine ⟨rfl, ?_⟩
      refine Or.inr ⟨_, _, rfl, fun R hR => ?_, cQf_of (cQg_tr g0 (cQg_up (by omega) (by decide) (by omega))) (by omega) (by omega) (cQn_of (cQ_63 (k := 16) (x := 0) h (Or.inl rfl))) hz374⟩
      try dsimp only
      refine pz_cFI hR ?_
      unfold pz_FI
      repeat first | rw [if_pos (by omega)] | rw [if_neg (by omega)]
      first | rfl | (exfalso; omega) | (by_cases h49 : kq T n N X i = 49 <;> (repeat first | rw [if_pos (by omega)] | rw [if_neg (by omega)]) <;> rfl)
      all_goals repeat first | rw [if_pos (by omega)] | rw [if_neg (by omega)]
      all_goals first | rfl | (exfalso; omega)
    · skip
      refine wa_aload_n (n := 0) rfl ?_
      refine wa_iload_n (n := 1) rfl ?_
      refine wa_cv 63 rfl (wy_pr rfl) wt_63 (M2 := mS [64, 65, 66, 67, 69, 70]) rfl at_XP_readBuiltin ⟨_, rfl⟩ rfl rfl ⟨trivial, (Or.inr ⟨wy_pr rfl, mS_no rfl⟩), trivial, trivial⟩ trivial (fun _ _ q => q) (bu_q hX hS (cQ_63 (k := 16) (x := 0) h (Or.inl rfl)) (by omega) ⟨by omega, by omega, by omega⟩ (by omega) (by omega) hx101 (w_up_same _ _ _ _) ⟨by omega, by omega⟩) (fun oq393 Sq393 hp394 q393 => ?_)
      rcases q393 with ⟨i377, I378, F379, t380, rfl, hd381, hc382, hg383, ⟨p384, p385, p386, p387⟩, e388⟩ | ⟨v389, x390, rfl, hd391, hz392⟩
      · skip
        show wJ _ _ _ _ _ _ _ _ _ _
        have hSq393 : cQ T n N X c f u w i377 I378 F379 Sq393 := hc382
        have gSq393 : cQg f (I.length : Int) w S Sq393 := cQg_tr (cQg_tr g0 (cQg_up (by omega) (by decide) (by omega))) (cQg_mo hg383 (by omega) (by omega))
        have krSq393 := kq_rg T n N X i377
        have icSq393 := cQ_ic hSq393
        have tSq393 : Sq393 63 16 = 0 := e388.2
        have flSq393 := p386.1
        have hzSq393 : t380 = 0 := e388.1
        subst hzSq393
        refine wa_goto ⟨_, rfl⟩ ?_
        refine wa_return rfl ?_
        refine Or.inl ⟨_, _, _, 0, rfl, fun R hR => ?_, hSq393, gSq393, ⟨by omega, by omega, (pz_le_tr pz_le_rfl p386), by omega⟩, ⟨⟨by omega, by omega⟩, tSq393⟩, Or.inl rfl⟩
        try dsimp only
        refine pz_cFI hR ?_
        unfold pz_FI
        repeat first | rw [if_pos (by omega)] | rw [if_neg (by omega)]
        first | refine pz_qo (hd381 R hR) ?_ | exact hd381 R hR
        all_goals repeat first | rw [if_pos (by omega)] | rw [if_neg (by omega)]
        all_goals first | rfl | (exfalso; omega)
      · skip
        refine ⟨rfl, ?_⟩
        refine Or.inr ⟨_, _, rfl, fun R hR => ?_, cQf_tr (cQg_tr g0 (cQg_up (by omega) (by decide) (by omega))) (by omega) (by omega) hz392⟩
        try dsimp only
        refine pz_cFI hR ?_
        unfold pz_FI
        repeat first | rw [if_pos (by omega)] | rw [if_neg (by omega)]
        first | exact pz_qi (hd391 R hR) | exact hd391 R hR
        all_goals repeat first | rw [if_pos (by omega)] | rw [if_neg (by omega)]
        all_goals first | rfl | (exfalso; omega)
end Wbc
