/-! PART cr: the reference reads a unit. -/
section Wcr
variable {xs : List (Nat × List Int32)} {M : Nat → Prop} {d : Nat} {A B C S Z S0 : wS} {Q : wO → wS → Prop} {T : Int → Int} {n f0 u dp b0 b1 : Int} {N X : List (List Int)} {c i k pm : Nat} {I : List pz_I} {F : List pz_F} {o : pz_O}
variable {PA : Nat → Int} {K V P : Nat → Int} {v cur : Int} {D pm2 : Nat} {i2 : Nat} {I2 : List pz_I} {F2 : List pz_F} {c : Int}
/-- the reference's parts and sites, between two units -/
def rZ (pm : Nat) (S : wS) : Prop := S 237 25 = (pm : Int) ∧ pm ≤ 400 ∧ (∀ k : Nat, k < pm → rSh k S) ∧ (∀ k : Nat, pm ≤ k → k < 400 → ∀ c : Nat, c < 64 → ¬ w_pr wY0 S (nP k + c)) ∧ ((∀ k : Nat, k < pm → S 286 (k : Int) = (nP k : Int)) ∧ S 286 (-1) = 400) ∧ ∃ l1 l2 l3 : List Int, iI 287 (fs 0) 4000 l1 S ∧ iI 289 (fs 1) 4000 l2 S ∧ iI 291 (fs 2) 4000 l3 S
/-- what holds when a unit is refused -/
def rFx (T : Int → Int) (n : Int) (N X : List (List Int)) (b0 b1 : Int) (S0 : wS) (v : Int) (Z : wS) : Prop := ∃ (S1 : wS) (i pm : Nat) (k p : Int), (rL T n i S1 ∧ mN (NL T n N i) S1 ∧ mX (XL T n X i) S1) ∧ rFr (xTb T n X) S0 S1 ∧ rZ pm S1 ∧ (S1 wG 0 + phA pm S1 ≤ b0 + 24 * n + 240 ∧ 8 * S1 wG 1 - S1 wG 0 ≤ b1) ∧ w_hl S1 k p = Z ∧ v = k + 16 * p
theorem rQ_rZ (h : rQ T n N X f0 b0 b1 S0 u dp i I F PA S) : ∃ pm : Nat, rZ pm S ∧ S wG 0 + phA pm S ≤ b0 + 24 * (i : Int) + 200 ∧ 8 * S wG 1 - S wG 0 ≤ b1 := by
  obtain ⟨h1, h2, h4, h5, pm, hc, ⟨b1', b2, b3, b4, b5, b7, b8, b9⟩, r1, r2, r3⟩ := h
  have := h4.1
  refine ⟨pm, ⟨hc.2.2.2.1, b4.2, fun k hk => ?_, b3, b5, _, _, _, b7, b8, b9⟩, by omega, r2⟩
  by_cases e : k < F.length
  · exact rPt_pO (b1' k e)
  · exact b2 k (by omega) hk
theorem rFr_g {bX : Prop} {Sx : wS} (h : rFr bX Sx S) (e : ∀ (j : Nat) (x : Int), (j < 2000000 ∨ 4000000 ≤ j) → Sx j x = S0 j x) : rFr bX S0 S := fun j x j1 j2 j3 j4 j5 => (h j x j1 j2 j3 j4 j5).trans (e j x j2)
theorem rFu_x (h : rFu T n N X f0 b0 b1 S0 v Z) : rFx T n N X b0 b1 S0 v Z := by
  obtain ⟨Sx, S1, u, dp, i, I, F, PA, k, p, hx, ⟨h, ip⟩, e1, e2⟩ := h
  obtain ⟨pm, hz, hr⟩ := rQ_rZ h
  have nn := rQ_n h
  exact ⟨S1, i, pm, k, p, ⟨h.1, h.2.1.1, h.2.1.2⟩, rFr_g h.2.2.2.1 hx, hz, ⟨by omega, hr.2⟩, e1, e2⟩
theorem isw0 {c k : Int} (h : rL T n i S) (hk : ∀ a : Int, sk a = k ↔ a = c) (hr : 10 ≤ k ∧ k ≤ 34) (hc : -2147483648 ≤ c ∧ c ≤ 2147483647) : wJ (pe_GA xs) wY0 M d t_M_isSign ((pe_at t_M_isSign.bl 0).getD (0, [])).2 [(0, (2, 237)), (1, (0, c))] [] S (fun o Z => S = Z ∧ ((o = .inl (some (0, 1)) ∧ kq T n N X i = k) ∨ (o = .inl (some (0, 0)) ∧ kq T n N X i ≠ k))) :=
  wJ_mono (isSign_ok hc) (fun o Z q => ⟨q.1, q.2.imp (fun a => ⟨a.1, (rL_is h hk hr).1 a.2⟩) (fun a => ⟨a.1, (rL_is0 h hk hr).1 a.2⟩)⟩)
theorem wdw0 {j : Nat} {tx : List Int32} {k : Nat} (h : rL T n i S) (hx : pe_at (pe_GA xs).xs j = some (0, tx)) (ht : tx = kwl k) (hk : k < 22) : wJ (pe_GA xs) wY0 M (d + 4) t_M_isWord ((pe_at t_M_isWord.bl 0).getD (0, [])).2 [(0, (2, 237)), (1, (2, -10 - (j : Int)))] [] S (fun o Z => S = Z ∧ ((o = .inl (some (0, 1)) ∧ kq T n N X i = 40 + (k : Int)) ∨ (o = .inl (some (0, 0)) ∧ kq T n N X i ≠ 40 + (k : Int)))) := by
  subst ht
  have hl : (kwl k).length ≤ 200 := by
    have : ∀ k : Nat, k < 22 → (kwl k).length ≤ 200 := by decide +kernel
    exact this k hk
  have h7 := rL_7 h
  refine wJ_mono (isWord_ok h.2.2.2.1 hx hl ⟨h7.1.1, h7.1.2, h7.2.1, h7.2.2⟩) (fun o Z q => ⟨q.1, q.2.imp (fun a => ⟨a.1, (rL_wd h hk).1 a.2⟩) (fun a => ⟨a.1, fun e => ?_⟩)⟩)
  have := (rL_wd (N := N) (X := X) h hk).2 e
  rw [a.2] at this
  exact absurd this (by decide)
theorem cbw0 (hX : w_X xs) (h : rL T n i S) : wJ (pe_GA xs) wY0 M (d + 6) t_M_canBeginValue ((pe_at t_M_canBeginValue.bl 0).getD (0, [])).2 [(0, (2, 237))] [] S (fun o Z => S = Z ∧ ((o = .inl (some (0, 1)) ∧ pz_bx (kq T n N X i)) ∨ (o = .inl (some (0, 0)) ∧ ¬ pz_bx (kq T n N X i)))) := by
  obtain ⟨t6, t7, t8, t9⟩ := rL_tk h
  have hq := kq_cs T n N X i
  have hs := sk_rx (lx_si T n 0 (tp T n 0 i))
  have h7 := rL_7 h
  unfold pz_bx
  refine wa_aload_n (n := 0) rfl ?_
  refine wb_gfi 237 rfl (wy_pr rfl) wt_237 wf_15_6 (v := (S 237 6)) rfl (fun r101 => ?_)
  refine wa_iconst ?_
  refine wa_icmpeq (w_rg0 (by omega) (by omega)) (w_rg0 (by omega) (by omega)) ⟨_, rfl⟩ (fun c102 => ?_) (fun c102 => ?_)
  · skip
    refine wa_iconst ?_
    refine wa_zreturn rfl (Or.inr rfl) ?_
    first
      | (exfalso; omega)
      | exact ⟨rfl, Or.inl ⟨rfl, by omega⟩⟩
  · skip
    refine wa_aload_n (n := 0) rfl ?_
    refine wb_gfi 237 rfl (wy_pr rfl) wt_237 wf_15_6 (v := (S 237 6)) rfl (fun r103 => ?_)
    refine wa_iconst ?_
    refine wa_icmpne (w_rg0 (by omega) (by omega)) (w_rg0 (by omega) (by omega)) ⟨_, rfl⟩ (fun c104 => ?_) (fun c104 => ?_)
    · skip
      refine wa_aload_n (n := 0) rfl ?_
      refine wb_gfi 237 rfl (wy_pr rfl) wt_237 wf_15_6 (v := (S 237 6)) rfl (fun r105 => ?_)
      refine wa_iconst ?_
      refine wa_icmpne (w_rg0 (by omega) (by omega)) (w_rg0 (by omega) (by omega)) ⟨_, rfl⟩ (fun c106 => ?_) (fun c106 => ?_)
      · skip
        refine wa_aload_n (n := 0) rfl ?_
        refine wa_bipush (w_rg2 (by omega) (by omega)) ?_
        refine wa_cv 237 rfl (wy_pr rfl) wt_237 (M2 := fun _ => False) rfl at_M_isSign ⟨_, rfl⟩ rfl rfl ⟨(Or.inr ⟨wy_pr rfl, fun q => q⟩), trivial⟩ trivial (fun _ _ q => False.elim q) (isw0 (N := N) (X := X) (S := S) h (fun _ => sk_40) ⟨by decide, by decide⟩ ⟨by decide, by decide⟩) (fun oq108 Sq108 hp109 q108 => ?_)
        rcases q108 with ⟨rfl, ⟨rfl, ks107⟩ | ⟨rfl, ks107⟩⟩
        · skip
          show wJ _ _ _ _ _ _ _ _ _ _
          refine wa_ifne (w_rg0 (by omega) (by omega)) ⟨_, rfl⟩ (fun c110 => ?_) (fun c110 => ?_)
          · skip
            refine wa_iconst ?_
            refine wa_goto ⟨_, rfl⟩ ?_
            refine wa_zreturn rfl (Or.inr rfl) ?_
            first
              | (exfalso; omega)
              | exact ⟨rfl, Or.inl ⟨rfl, by omega⟩⟩
          · skip
            exact absurd c110 (by omega)
        · skip
          show wJ _ _ _ _ _ _ _ _ _ _
          refine wa_ifne (w_rg0 (by omega) (by omega)) ⟨_, rfl⟩ (fun c111 => ?_) (fun c111 => ?_)
          · skip
            exact absurd c111 (by omega)
          · skip
            refine wa_aload_n (n := 0) rfl ?_
            refine wa_bipush (w_rg2 (by omega) (by omega)) ?_
            refine wa_cv 237 rfl (wy_pr rfl) wt_237 (M2 := fun _ => False) rfl at_M_isSign ⟨_, rfl⟩ rfl rfl ⟨(Or.inr ⟨wy_pr rfl, fun q => q⟩), trivial⟩ trivial (fun _ _ q => False.elim q) (isw0 (N := N) (X := X) (S := S) h (fun _ => sk_91) ⟨by decide, by decide⟩ ⟨by decide, by decide⟩) (fun oq113 Sq113 hp114 q113 => ?_)
            rcases q113 with ⟨rfl, ⟨rfl, ks112⟩ | ⟨rfl, ks112⟩⟩
            · skip
              show wJ _ _ _ _ _ _ _ _ _ _
              refine wa_ifne (w_rg0 (by omega) (by omega)) ⟨_, rfl⟩ (fun c115 => ?_) (fun c115 => ?_)
              · skip
                refine wa_iconst ?_
                refine wa_goto ⟨_, rfl⟩ ?_
                refine wa_zreturn rfl (Or.inr rfl) ?_
                first
                  | (exfalso; omega)
                  | exact ⟨rfl, Or.inl ⟨rfl, by omega⟩⟩
              · skip
                exact absurd c115 (by omega)
            · skip
              show wJ _ _ _ _ _ _ _ _ _ _
              refine wa_ifne (w_rg0 (by omega) (by omega)) ⟨_, rfl⟩ (fun c116 => ?_) (fun c116 => ?_)
              · skip
                exact absurd c116 (by omega)
              · skip
                refine wa_aload_n (n := 0) rfl ?_
                refine wa_bipush (w_rg2 (by omega) (by omega)) ?_
                refine wa_cv 237 rfl (wy_pr rfl) wt_237 (M2 := fun _ => False) rfl at_M_isSign ⟨_, rfl⟩ rfl rfl ⟨(Or.inr ⟨wy_pr rfl, fun q => q⟩), trivial⟩ trivial (fun _ _ q => False.elim q) (isw0 (N := N) (X := X) (S := S) h (fun _ => sk_123) ⟨by decide, by decide⟩ ⟨by decide, by decide⟩) (fun oq118 Sq118 hp119 q118 => ?_)
                rcases q118 with ⟨rfl, ⟨rfl, ks117⟩ | ⟨rfl, ks117⟩⟩
                · skip
                  show wJ _ _ _ _ _ _ _ _ _ _
                  refine wa_ifne (w_rg0 (by omega) (by omega)) ⟨_, rfl⟩ (fun c120 => ?_) (fun c120 => ?_)
                  · skip
                    refine wa_iconst ?_
                    refine wa_goto ⟨_, rfl⟩ ?_
                    refine wa_zreturn rfl (Or.inr rfl) ?_
                    first
                      | (exfalso; omega)
                      | exact ⟨rfl, Or.inl ⟨rfl, by omega⟩⟩
                  · skip
                    exact absurd c120 (by omega)
                · skip
                  show wJ _ _ _ _ _ _ _ _ _ _
                  refine wa_ifne (w_rg0 (by omega) (by omega)) ⟨_, rfl⟩ (fun c121 => ?_) (fun c121 => ?_)
                  · skip
                    exact absurd c121 (by omega)
                  · skip
                    refine wa_aload_n (n := 0) rfl ?_
                    refine wa_bipush (w_rg2 (by omega) (by omega)) ?_
                    refine wa_cv 237 rfl (wy_pr rfl) wt_237 (M2 := fun _ => False) rfl at_M_isSign ⟨_, rfl⟩ rfl rfl ⟨(Or.inr ⟨wy_pr rfl, fun q => q⟩), trivial⟩ trivial (fun _ _ q => False.elim q) (isw0 (N := N) (X := X) (S := S) h (fun _ => sk_45) ⟨by decide, by decide⟩ ⟨by decide, by decide⟩) (fun oq123 Sq123 hp124 q123 => ?_)
                    rcases q123 with ⟨rfl, ⟨rfl, ks122⟩ | ⟨rfl, ks122⟩⟩
                    · skip
                      show wJ _ _ _ _ _ _ _ _ _ _
                      refine wa_ifne (w_rg0 (by omega) (by omega)) ⟨_, rfl⟩ (fun c125 => ?_) (fun c125 => ?_)
                      · skip
                        refine wa_iconst ?_
                        refine wa_goto ⟨_, rfl⟩ ?_
                        refine wa_zreturn rfl (Or.inr rfl) ?_
                        first
                          | (exfalso; omega)
                          | exact ⟨rfl, Or.inl ⟨rfl, by omega⟩⟩
                      · skip
                        exact absurd c125 (by omega)
                    · skip
                      show wJ _ _ _ _ _ _ _ _ _ _
                      refine wa_ifne (w_rg0 (by omega) (by omega)) ⟨_, rfl⟩ (fun c126 => ?_) (fun c126 => ?_)
                      · skip
                        exact absurd c126 (by omega)
                      · skip
                        refine wa_aload_n (n := 0) rfl ?_
                        refine wa_bipush (w_rg2 (by omega) (by omega)) ?_
                        refine wa_cv 237 rfl (wy_pr rfl) wt_237 (M2 := fun _ => False) rfl at_M_isSign ⟨_, rfl⟩ rfl rfl ⟨(Or.inr ⟨wy_pr rfl, fun q => q⟩), trivial⟩ trivial (fun _ _ q => False.elim q) (isw0 (N := N) (X := X) (S := S) h (fun _ => sk_33) ⟨by decide, by decide⟩ ⟨by decide, by decide⟩) (fun oq128 Sq128 hp129 q128 => ?_)
                        rcases q128 with ⟨rfl, ⟨rfl, ks127⟩ | ⟨rfl, ks127⟩⟩
                        · skip
                          show wJ _ _ _ _ _ _ _ _ _ _
                          refine wa_ifeq (w_rg0 (by omega) (by omega)) ⟨_, rfl⟩ (fun c130 => ?_) (fun c130 => ?_)
                          · skip
                            exact absurd c130 (by omega)
                          · skip
                            refine wa_fall ⟨_, rfl⟩ ?_
                            refine wa_iconst ?_
                            refine wa_goto ⟨_, rfl⟩ ?_
                            refine wa_zreturn rfl (Or.inr rfl) ?_
                            first
                              | (exfalso; omega)
                              | exact ⟨rfl, Or.inl ⟨rfl, by omega⟩⟩
                        · skip
                          show wJ _ _ _ _ _ _ _ _ _ _
                          refine wa_ifeq (w_rg0 (by omega) (by omega)) ⟨_, rfl⟩ (fun c131 => ?_) (fun c131 => ?_)
                          · skip
                            refine wa_iconst ?_
                            refine wa_fall ⟨_, rfl⟩ ?_
                            refine wa_zreturn rfl (Or.inl rfl) ?_
                            first
                              | (exfalso; omega)
                              | exact ⟨rfl, Or.inr ⟨rfl, by omega⟩⟩
                          · skip
                            exact absurd c131 (by omega)
      · skip
        refine wa_aload_n (n := 0) rfl ?_
        refine wa_ks ?_
        refine wa_cv 237 rfl (wy_pr rfl) wt_237 (M2 := fun _ => False) rfl at_M_isOneOf ⟨_, rfl⟩ rfl rfl ⟨(Or.inr ⟨wy_pr rfl, fun q => q⟩), trivial⟩ trivial (fun _ _ q => False.elim q) (isOneOf_ok (S := S) h.2.2.2.1 (wx_47 hX) (by decide) (by decide) ⟨h7.1.1, h7.1.2, h7.2.1, h7.2.2⟩ (by decide)) (fun oq133 Sq133 hp134 q133 => ?_)
        rcases q133 with ⟨rfl, ⟨rfl, ho132⟩ | ⟨rfl, ho132⟩⟩
        · skip
          show wJ _ _ _ _ _ _ _ _ _ _
          have kho132 := (oo_47 (N := N) (X := X) h (by omega)).1 ho132
          refine wa_ifne (w_rg0 (by omega) (by omega)) ⟨_, rfl⟩ (fun c135 => ?_) (fun c135 => ?_)
          · skip
            refine wa_iconst ?_
            refine wa_fall ⟨_, rfl⟩ ?_
            refine wa_zreturn rfl (Or.inl rfl) ?_
            first
              | (exfalso; omega)
              | exact ⟨rfl, Or.inr ⟨rfl, by omega⟩⟩
          · skip
            exact absurd c135 (by omega)
        · skip
          show wJ _ _ _ _ _ _ _ _ _ _
          have kho132 : ¬ (kq T n N X i = 40 ∨ (42 ≤ kq T n N X i ∧ kq T n N X i ≤ 48)) := fun z => by rw [(oo_47 (N := N) (X := X) h (by omega)).2 z] at ho132; cases ho132
          refine wa_ifne (w_rg0 (by omega) (by omega)) ⟨_, rfl⟩ (fun c136 => ?_) (fun c136 => ?_)
          · skip
            exact absurd c136 (by omega)
          · skip
            refine wa_iconst ?_
            refine wa_goto ⟨_, rfl⟩ ?_
            refine wa_zreturn rfl (Or.inr rfl) ?_
            first
              | (exfalso; omega)
              | exact ⟨rfl, Or.inl ⟨rfl, by omega⟩⟩
    · skip
      refine wa_fall ⟨_, rfl⟩ ?_
      refine wa_iconst ?_
      refine wa_zreturn rfl (Or.inr rfl) ?_
      first
        | (exfalso; omega)
        | exact ⟨rfl, Or.inl ⟨rfl, by omega⟩⟩
theorem csw (hX : w_X xs) (h : rL T n i S) : wJ (pe_GA xs) wY0 M (d + 7) t_M_canBeginStatement ((pe_at t_M_canBeginStatement.bl 0).getD (0, [])).2 [(0, (2, 237))] [] S (fun o Z => S = Z ∧ ((o = .inl (some (0, 1)) ∧ pz_bs (kq T n N X i)) ∨ (o = .inl (some (0, 0)) ∧ ¬ pz_bs (kq T n N X i)))) := by
  obtain ⟨t6, t7, t8, t9⟩ := rL_tk h
  have hq := kq_cs T n N X i
  have hs := sk_rx (lx_si T n 0 (tp T n 0 i))
  have h7 := rL_7 h
  unfold pz_bs
  refine wa_aload_n (n := 0) rfl ?_
  refine wb_gfi 237 rfl (wy_pr rfl) wt_237 wf_15_6 (v := (S 237 6)) rfl (fun r101 => ?_)
  refine wa_iconst ?_
  refine wa_icmpne (w_rg0 (by omega) (by omega)) (w_rg0 (by omega) (by omega)) ⟨_, rfl⟩ (fun c102 => ?_) (fun c102 => ?_)
  · skip
    refine wa_aload_n (n := 0) rfl ?_
    refine wa_cv 237 rfl (wy_pr rfl) wt_237 (M2 := fun _ => False) rfl at_M_canBeginValue ⟨_, rfl⟩ rfl rfl ⟨(Or.inr ⟨wy_pr rfl, fun q => q⟩), trivial⟩ trivial (fun _ _ q => False.elim q) (cbw0 (N := N) (X := X) (S := S) hX h) (fun oq104 Sq104 hp105 q104 => ?_)
    rcases q104 with ⟨rfl, ⟨rfl, kb103⟩ | ⟨rfl, kb103⟩⟩
    · skip
      show wJ _ _ _ _ _ _ _ _ _ _
      unfold pz_bx at kb103 ⊢
      refine wa_ifeq (w_rg0 (by omega) (by omega)) ⟨_, rfl⟩ (fun c106 => ?_) (fun c106 => ?_)
      · skip
        exact absurd c106 (by omega)
      · skip
        refine wa_aload_n (n := 0) rfl ?_
        refine wa_bipush (w_rg2 (by omega) (by omega)) ?_
        refine wa_cv 237 rfl (wy_pr rfl) wt_237 (M2 := fun _ => False) rfl at_M_isSign ⟨_, rfl⟩ rfl rfl ⟨(Or.inr ⟨wy_pr rfl, fun q => q⟩), trivial⟩ trivial (fun _ _ q => False.elim q) (isw0 (N := N) (X := X) (S := S) h (fun _ => sk_123) ⟨by decide, by decide⟩ ⟨by decide, by decide⟩) (fun oq108 Sq108 hp109 q108 => ?_)
        rcases q108 with ⟨rfl, ⟨rfl, ks107⟩ | ⟨rfl, ks107⟩⟩
        · skip
          show wJ _ _ _ _ _ _ _ _ _ _
          refine wa_ifne (w_rg0 (by omega) (by omega)) ⟨_, rfl⟩ (fun c110 => ?_) (fun c110 => ?_)
          · skip
            refine wa_iconst ?_
            refine wa_fall ⟨_, rfl⟩ ?_
            refine wa_zreturn rfl (Or.inl rfl) ?_
            try unfold pz_bx
            first
              | (exfalso; omega)
              | exact ⟨rfl, Or.inr ⟨rfl, by omega⟩⟩
          · skip
            exact absurd c110 (by omega)
        · skip
          show wJ _ _ _ _ _ _ _ _ _ _
          refine wa_ifne (w_rg0 (by omega) (by omega)) ⟨_, rfl⟩ (fun c111 => ?_) (fun c111 => ?_)
          · skip
            exact absurd c111 (by omega)
          · skip
            refine wa_fall ⟨_, rfl⟩ ?_
            refine wa_iconst ?_
            refine wa_goto ⟨_, rfl⟩ ?_
            refine wa_zreturn rfl (Or.inr rfl) ?_
            try unfold pz_bx
            first
              | (exfalso; omega)
              | exact ⟨rfl, Or.inl ⟨rfl, by omega⟩⟩
    · skip
      show wJ _ _ _ _ _ _ _ _ _ _
      unfold pz_bx at kb103 ⊢
      refine wa_ifeq (w_rg0 (by omega) (by omega)) ⟨_, rfl⟩ (fun c112 => ?_) (fun c112 => ?_)
      · skip
        refine wa_iconst ?_
        refine wa_fall ⟨_, rfl⟩ ?_
        refine wa_zreturn rfl (Or.inl rfl) ?_
        try unfold pz_bx
        first
          | (exfalso; omega)
          | exact ⟨rfl, Or.inr ⟨rfl, by omega⟩⟩
      · skip
        exact absurd c112 (by omega)
  · skip
    refine wa_aload_n (n := 0) rfl ?_
    refine wa_ks ?_
    refine wa_cv 237 rfl (wy_pr rfl) wt_237 (M2 := fun _ => False) rfl at_M_isWord ⟨_, rfl⟩ rfl rfl ⟨(Or.inr ⟨wy_pr rfl, fun q => q⟩), trivial⟩ trivial (fun _ _ q => False.elim q) (wdw0 (N := N) (X := X) (S := S) (k := 3) h (wx_29 hX) (by decide) (by decide)) (fun oq114 Sq114 hp115 q114 => ?_)
    rcases q114 with ⟨rfl, ⟨rfl, kw113⟩ | ⟨rfl, kw113⟩⟩
    · skip
      show wJ _ _ _ _ _ _ _ _ _ _
      refine wa_ifne (w_rg0 (by omega) (by omega)) ⟨_, rfl⟩ (fun c116 => ?_) (fun c116 => ?_)
      · skip
        refine wa_aload_n (n := 0) rfl ?_
        refine wa_cv 237 rfl (wy_pr rfl) wt_237 (M2 := fun _ => False) rfl at_M_canBeginValue ⟨_, rfl⟩ rfl rfl ⟨(Or.inr ⟨wy_pr rfl, fun q => q⟩), trivial⟩ trivial (fun _ _ q => False.elim q) (cbw0 (N := N) (X := X) (S := S) hX h) (fun oq118 Sq118 hp119 q118 => ?_)
        rcases q118 with ⟨rfl, ⟨rfl, kb117⟩ | ⟨rfl, kb117⟩⟩
        · skip
          show wJ _ _ _ _ _ _ _ _ _ _
          unfold pz_bx at kb117 ⊢
          refine wa_ifeq (w_rg0 (by omega) (by omega)) ⟨_, rfl⟩ (fun c120 => ?_) (fun c120 => ?_)
          · skip
            exact absurd c120 (by omega)
          · skip
            refine wa_aload_n (n := 0) rfl ?_
            refine wa_bipush (w_rg2 (by omega) (by omega)) ?_
            refine wa_cv 237 rfl (wy_pr rfl) wt_237 (M2 := fun _ => False) rfl at_M_isSign ⟨_, rfl⟩ rfl rfl ⟨(Or.inr ⟨wy_pr rfl, fun q => q⟩), trivial⟩ trivial (fun _ _ q => False.elim q) (isw0 (N := N) (X := X) (S := S) h (fun _ => sk_123) ⟨by decide, by decide⟩ ⟨by decide, by decide⟩) (fun oq122 Sq122 hp123 q122 => ?_)
            rcases q122 with ⟨rfl, ⟨rfl, ks121⟩ | ⟨rfl, ks121⟩⟩
            · skip
              show wJ _ _ _ _ _ _ _ _ _ _
              refine wa_ifne (w_rg0 (by omega) (by omega)) ⟨_, rfl⟩ (fun c124 => ?_) (fun c124 => ?_)
              · skip
                refine wa_iconst ?_
                refine wa_fall ⟨_, rfl⟩ ?_
                refine wa_zreturn rfl (Or.inl rfl) ?_
                try unfold pz_bx
                first
                  | (exfalso; omega)
                  | exact ⟨rfl, Or.inr ⟨rfl, by omega⟩⟩
              · skip
                exact absurd c124 (by omega)
            · skip
              show wJ _ _ _ _ _ _ _ _ _ _
              refine wa_ifne (w_rg0 (by omega) (by omega)) ⟨_, rfl⟩ (fun c125 => ?_) (fun c125 => ?_)
              · skip
                exact absurd c125 (by omega)
              · skip
                refine wa_fall ⟨_, rfl⟩ ?_
                refine wa_iconst ?_
                refine wa_goto ⟨_, rfl⟩ ?_
                refine wa_zreturn rfl (Or.inr rfl) ?_
                try unfold pz_bx
                first
                  | (exfalso; omega)
                  | exact ⟨rfl, Or.inl ⟨rfl, by omega⟩⟩
        · skip
          show wJ _ _ _ _ _ _ _ _ _ _
          unfold pz_bx at kb117 ⊢
          refine wa_ifeq (w_rg0 (by omega) (by omega)) ⟨_, rfl⟩ (fun c126 => ?_) (fun c126 => ?_)
          · skip
            refine wa_iconst ?_
            refine wa_fall ⟨_, rfl⟩ ?_
            refine wa_zreturn rfl (Or.inl rfl) ?_
            try unfold pz_bx
            first
              | (exfalso; omega)
              | exact ⟨rfl, Or.inr ⟨rfl, by omega⟩⟩
          · skip
            exact absurd c126 (by omega)
      · skip
        exact absurd c116 (by omega)
    · skip
      show wJ _ _ _ _ _ _ _ _ _ _
      refine wa_ifne (w_rg0 (by omega) (by omega)) ⟨_, rfl⟩ (fun c127 => ?_) (fun c127 => ?_)
      · skip
        exact absurd c127 (by omega)
      · skip
        refine wa_aload_n (n := 0) rfl ?_
        refine wa_ks ?_
        refine wa_cv 237 rfl (wy_pr rfl) wt_237 (M2 := fun _ => False) rfl at_M_isWord ⟨_, rfl⟩ rfl rfl ⟨(Or.inr ⟨wy_pr rfl, fun q => q⟩), trivial⟩ trivial (fun _ _ q => False.elim q) (wdw0 (N := N) (X := X) (S := S) (k := 8) h (wx_31 hX) (by decide) (by decide)) (fun oq129 Sq129 hp130 q129 => ?_)
        rcases q129 with ⟨rfl, ⟨rfl, kw128⟩ | ⟨rfl, kw128⟩⟩
        · skip
          show wJ _ _ _ _ _ _ _ _ _ _
          refine wa_ifeq (w_rg0 (by omega) (by omega)) ⟨_, rfl⟩ (fun c131 => ?_) (fun c131 => ?_)
          · skip
            exact absurd c131 (by omega)
          · skip
            refine wa_fall ⟨_, rfl⟩ ?_
            refine wa_aload_n (n := 0) rfl ?_
            refine wa_cv 237 rfl (wy_pr rfl) wt_237 (M2 := fun _ => False) rfl at_M_canBeginValue ⟨_, rfl⟩ rfl rfl ⟨(Or.inr ⟨wy_pr rfl, fun q => q⟩), trivial⟩ trivial (fun _ _ q => False.elim q) (cbw0 (N := N) (X := X) (S := S) hX h) (fun oq133 Sq133 hp134 q133 => ?_)
            rcases q133 with ⟨rfl, ⟨rfl, kb132⟩ | ⟨rfl, kb132⟩⟩
            · skip
              show wJ _ _ _ _ _ _ _ _ _ _
              unfold pz_bx at kb132 ⊢
              refine wa_ifeq (w_rg0 (by omega) (by omega)) ⟨_, rfl⟩ (fun c135 => ?_) (fun c135 => ?_)
              · skip
                exact absurd c135 (by omega)
              · skip
                refine wa_aload_n (n := 0) rfl ?_
                refine wa_bipush (w_rg2 (by omega) (by omega)) ?_
                refine wa_cv 237 rfl (wy_pr rfl) wt_237 (M2 := fun _ => False) rfl at_M_isSign ⟨_, rfl⟩ rfl rfl ⟨(Or.inr ⟨wy_pr rfl, fun q => q⟩), trivial⟩ trivial (fun _ _ q => False.elim q) (isw0 (N := N) (X := X) (S := S) h (fun _ => sk_123) ⟨by decide, by decide⟩ ⟨by decide, by decide⟩) (fun oq137 Sq137 hp138 q137 => ?_)
                rcases q137 with ⟨rfl, ⟨rfl, ks136⟩ | ⟨rfl, ks136⟩⟩
                · skip
                  show wJ _ _ _ _ _ _ _ _ _ _
                  refine wa_ifne (w_rg0 (by omega) (by omega)) ⟨_, rfl⟩ (fun c139 => ?_) (fun c139 => ?_)
                  · skip
                    refine wa_iconst ?_
                    refine wa_fall ⟨_, rfl⟩ ?_
                    refine wa_zreturn rfl (Or.inl rfl) ?_
                    try unfold pz_bx
                    first
                      | (exfalso; omega)
                      | exact ⟨rfl, Or.inr ⟨rfl, by omega⟩⟩
                  · skip
                    exact absurd c139 (by omega)
                · skip
                  show wJ _ _ _ _ _ _ _ _ _ _
                  refine wa_ifne (w_rg0 (by omega) (by omega)) ⟨_, rfl⟩ (fun c140 => ?_) (fun c140 => ?_)
                  · skip
                    exact absurd c140 (by omega)
                  · skip
                    refine wa_fall ⟨_, rfl⟩ ?_
                    refine wa_iconst ?_
                    refine wa_goto ⟨_, rfl⟩ ?_
                    refine wa_zreturn rfl (Or.inr rfl) ?_
                    try unfold pz_bx
                    first
                      | (exfalso; omega)
                      | exact ⟨rfl, Or.inl ⟨rfl, by omega⟩⟩
            · skip
              show wJ _ _ _ _ _ _ _ _ _ _
              unfold pz_bx at kb132 ⊢
              refine wa_ifeq (w_rg0 (by omega) (by omega)) ⟨_, rfl⟩ (fun c141 => ?_) (fun c141 => ?_)
              · skip
                refine wa_iconst ?_
                refine wa_fall ⟨_, rfl⟩ ?_
                refine wa_zreturn rfl (Or.inl rfl) ?_
                try unfold pz_bx
                first
                  | (exfalso; omega)
                  | exact ⟨rfl, Or.inr ⟨rfl, by omega⟩⟩
              · skip
                exact absurd c141 (by omega)
        · skip
          show wJ _ _ _ _ _ _ _ _ _ _
          refine wa_ifeq (w_rg0 (by omega) (by omega)) ⟨_, rfl⟩ (fun c142 => ?_) (fun c142 => ?_)
          · skip
            refine wa_iconst ?_
            refine wa_goto ⟨_, rfl⟩ ?_
            refine wa_zreturn rfl (Or.inr rfl) ?_
            try unfold pz_bx
            first
              | (exfalso; omega)
              | exact ⟨rfl, Or.inl ⟨rfl, by omega⟩⟩
          · skip
            exact absurd c142 (by omega)
theorem bp0 (hB : rB S0 f0 [] [] PA pm S) (h26 : S 237 26 = 0) (h25 : S 237 25 = (pm : Int)) (hPA : PA 0 = 0) : wJ (pe_GA xs) wY0 M (d + 3) t_M_beginsPart ((pe_at t_M_beginsPart.bl 0).getD (0, [])).2 [(0, (2, 237))] [] S (fun q Z => q = .inl (some (0, 0)) ∧ ∃ pm2 : Nat, rB S0 f0 [] [(-1, 0, [])] PA pm2 Z ∧ Z 237 26 = 1 ∧ Z 237 25 = (pm2 : Int) ∧ (∀ (j : Nat) (x : Int), j ≠ wG → (j < 2000000 ∨ 4000000 ≤ j) → j ≠ 286 → (j ≠ 237 ∨ (x ≠ 25 ∧ x ≠ 26)) → Z j x = S j x) ∧ Z 286 (-1) = S 286 (-1) ∧ (Z wG 0 + phA pm2 Z ≤ S wG 0 + phA pm S ∧ 8 * Z wG 1 - Z wG 0 ≤ 8 * S wG 1 - S wG 0)) :=
  wJ_mono (bp_r (F := []) (a := -1) (cur := S 237 27) hB h26 h25 rfl (by decide) (fun x hx => absurd hx (by simp)) hPA rfl) (fun q Z hz => by
    obtain ⟨q1, pm2, a1, a2, a3⟩ := hz
    exact ⟨q1, pm2, a1, a2, a3⟩)
theorem rut_q (hL : rL T n 0 S) (hN : mN N S) (hX2 : mX X S) (hf : 0 ≤ f0 ∧ f0 < 400) (hF : rFr (xTb T n X) S0 S) (h29 : S 237 29 = 0) (h34 : S 237 34 = f0) (h59 : S 237 59 = 0) (h25 : S 237 25 = (pm2 : Int)) (h26 : S 237 26 = 1) (hB : rB S0 f0 [] [(-1, 0, [])] (pA [(-1, 0, [])]) pm2 S) (hR : S wG 0 + phA pm2 S ≤ b0 ∧ 8 * S wG 1 - S wG 0 ≤ b1) : rQ T n N X f0 b0 b1 S0 f0 0 0 [] [(-1, 0, [])] (pA [(-1, 0, [])]) (w_up (w_up S 237 27 0) 237 28 ((nP 0 : Nat) : Int)) := by
  have hz : ∀ (j : Nat) (y : Int), (j ≠ 237 ∨ (y ≠ 27 ∧ y ≠ 28)) → (w_up (w_up S 237 27 0) 237 28 ((nP 0 : Nat) : Int)) j y = S j y := fun j y hj => (w_up_no (by omega)).trans (w_up_no (by omega))
  obtain ⟨q1, q2⟩ := rB_ag (Z := w_up (w_up S 237 27 0) 237 28 ((nP 0 : Nat) : Int)) hB (fun j y hj => hz j y (by omega))
  have e0 : (f0 - f0).toNat = 0 := by omega
  refine ⟨rL_ag hL (fun j y hj => hz j y (by omega)), ⟨mN_ag hN (fun j y hj => hz j y (by omega)), mX_ag hX2 (fun j y hj => hz j y (by omega))⟩, ⟨⟨hf.1, by show f0 + 1 ≤ 400; omega⟩, ⟨Int.le_refl _, by show f0 < f0 + 1; omega⟩, fun x hx => absurd hx (by simp), fun k hk => ?_⟩, fun j y j1 j2 j3 j4 j5 => (hz j y (by omega)).trans (hF j y j1 j2 j3 j4 j5), pm2, ⟨⟨(w_up_at (by decide)).trans ((w_up_same _ _ _ _).trans (by omega)), by rw [e0]; exact w_up_same _ _ _ _⟩, (hz 237 29 (by omega)).trans h29, (hz 237 26 (by omega)).trans h26, (hz 237 25 (by omega)).trans h25, (hz 237 34 (by omega)).trans h34, (hz 237 59 (by omega)).trans h59⟩, q1, ?_, ?_, ?_⟩
  · have hk2 : k < 1 := hk
    obtain rfl : k = 0 := by omega
    exact ⟨Or.inl ⟨rfl, rfl, rfl⟩, List.nodup_nil, Nat.zero_le _, fun y hy => absurd hy (by simp)⟩
  · rw [q2, hz wG 0 (Or.inl (by decide))]
    show _ ≤ b0 + 12 * (((0 : Nat) : Int) + ((0 : Nat) : Int))
    have := hR.1
    omega
  · rw [hz wG 0 (Or.inl (by decide)), hz wG 1 (Or.inl (by decide))]; exact hR.2
  · exact Nat.zero_le _
theorem ru_w (hX : w_X xs) (hL : rL T n 0 S) (hN : mN N S) (hX2 : mX X S) (hf : 0 ≤ f0 ∧ f0 ≤ 400) (h34 : S 237 34 = f0) (hZ : rZ pm S) (hb0 : b0 = S wG 0 + phA pm S) (hb1 : b1 = 8 * S wG 1 - S wG 0) (hder : f0 < 400 → (rRA xs T n N X f0 b0 b1) 0 0 [] 0 0 f0 [] [(-1, 0, [])] o) : wJ (pe_GA xs) wY0 M (D + 1060) t_M_readsUnit ((pe_at t_M_readsUnit.bl 0).getD (0, [])).2 [(0, (2, 237))] [] S (fun q Z => (400 ≤ f0 ∧ q = .inr 238 ∧ (((kq T n N X 0 = 0 ∨ pz_bs (kq T n N X 0)) ∧ rFx T n N X b0 b1 S (7 + 16 * tp T n 0 0) Z) ∨ ((kq T n N X 0 ≠ 0 ∧ ¬ pz_bs (kq T n N X 0)) ∧ rFx T n N X b0 b1 S (1 + 16 * tp T n 0 0) Z))) ∨ (f0 < 400 ∧ match o with | .inl v => q = .inr 238 ∧ rFx T n N X b0 b1 S v Z | .inr (i2, I2, F2, _) => (kq T n N X i2 = 0 ∧ q = .inl none ∧ rQ T n N X f0 b0 b1 S f0 0 i2 (I2 ++ [(0, 0, 0, f0)] ++ [(29, 0, 0, f0)]) F2 (pA F2) Z ∧ ((i2 : Nat) : Int) ≤ tp T n 0 i2) ∨ (kq T n N X i2 ≠ 0 ∧ q = .inr 238 ∧ rFx T n N X b0 b1 S (1 + 16 * tp T n 0 i2) Z))) := by
  obtain ⟨z25, zpm, zsh, zab, ⟨z5, z6⟩, l1, l2, l3, z7, z8, z9⟩ := hZ
  have hn4 : nP 400 = 2025600 := rfl
  have hwg : wG = 1000000 := rfl
  have hz : ∀ (j : Nat) (y : Int), (j ≠ 237 ∨ (y ≠ 26 ∧ y ≠ 29 ∧ y ≠ 59)) → (j ≠ 287 ∨ y ≠ 2) → (j ≠ 289 ∨ y ≠ 2) → (j ≠ 291 ∨ y ≠ 2) → (w_up (w_up (w_up (w_up (w_up (w_up S 237 26 0) 237 29 0) 237 59 0) 287 2 0) 289 2 0) 291 2 0) j y = S j y := fun j y q1 q2 q3 q4 => (w_up_no (by omega)).trans ((w_up_no (by omega)).trans ((w_up_no (by omega)).trans ((w_up_no (by omega)).trans ((w_up_no (by omega)).trans (w_up_no (by omega))))))
  obtain ⟨y7, w7⟩ := iI_0 (hfam_s (r := 0) (by decide)) z7
  obtain ⟨y8, w8⟩ := iI_0 (hfam_s (r := 1) (by decide)) z8
  obtain ⟨y9, w9⟩ := iI_0 (hfam_s (r := 2) (by decide)) z9
  obtain ⟨x7, v7⟩ := iI_ag (Z := (w_up (w_up (w_up (w_up (w_up (w_up S 237 26 0) 237 29 0) 237 59 0) 287 2 0) 289 2 0) 291 2 0)) y7 (fun j y hj => by
    have := fs_rg (r := 0) (by decide) hj
    unfold w_up
    repeat' split
    all_goals first | rfl | (exfalso; omega))
  obtain ⟨x8, v8⟩ := iI_ag (Z := (w_up (w_up (w_up (w_up (w_up (w_up S 237 26 0) 237 29 0) 237 59 0) 287 2 0) 289 2 0) 291 2 0)) y8 (fun j y hj => by
    have := fs_rg (r := 1) (by decide) hj
    unfold w_up
    repeat' split
    all_goals first | rfl | (exfalso; omega))
  obtain ⟨x9, v9⟩ := iI_ag (Z := (w_up (w_up (w_up (w_up (w_up (w_up S 237 26 0) 237 29 0) 237 59 0) 287 2 0) 289 2 0) 291 2 0)) y9 (fun j y hj => by
    have := fs_rg (r := 2) (by decide) hj
    unfold w_up
    repeat' split
    all_goals first | rfl | (exfalso; omega))
  have eP : ∀ k : Nat, k ≤ 400 → ∀ (j : Nat) (y : Int), nP k ≤ j → j < nP k + 64 → (w_up (w_up (w_up (w_up (w_up (w_up S 237 26 0) 237 29 0) 237 59 0) 287 2 0) 289 2 0) 291 2 0) j y = S j y := fun k hk j y q1 q2 => hz j y (by unfold nP at q1; omega) (by unfold nP at q1; omega) (by unfold nP at q1; omega) (by unfold nP at q1; omega)
  have hB1 : rB S f0 [] [] (pA []) pm (w_up (w_up (w_up (w_up (w_up (w_up S 237 26 0) 237 29 0) 237 59 0) 287 2 0) 289 2 0) 291 2 0) := ⟨fun k hk => absurd hk (Nat.not_lt_zero _), fun k _ hk => (rSh_ag (zsh k hk) (eP k (by omega))).1, fun k k1 k2 c hc q => zab k k1 k2 c hc ⟨by rw [← eP k (by omega) (nP k + c) (-1) (by omega) (by omega)]; exact q.1, q.2⟩, ⟨Nat.zero_le _, zpm⟩, ⟨fun k hk => (hz 286 _ (by omega) (by omega) (by omega) (by omega)).trans (z5 k hk), (hz 286 _ (by omega) (by omega) (by omega) (by omega)).trans z6⟩, x7, x8, x9⟩
  have hph : phA pm (w_up (w_up (w_up (w_up (w_up (w_up S 237 26 0) 237 29 0) 237 59 0) 287 2 0) 289 2 0) 291 2 0) ≤ phA pm S := by
    unfold phA
    have e1 : phs (w_up (w_up (w_up (w_up (w_up (w_up S 237 26 0) 237 29 0) 237 59 0) 287 2 0) 289 2 0) 291 2 0) pm = phs S pm := phs_ag pm (fun q hq => (rSh_ag (zsh q hq) (eP q (by omega))).2)
    have v7b : phi 287 (w_up (w_up (w_up (w_up (w_up (w_up S 237 26 0) 237 29 0) 237 59 0) 287 2 0) 289 2 0) 291 2 0) = phi 287 (w_up S 287 2 0) := v7
    have v8b : phi 289 (w_up (w_up (w_up (w_up (w_up (w_up S 237 26 0) 237 29 0) 237 59 0) 287 2 0) 289 2 0) 291 2 0) = phi 289 (w_up S 289 2 0) := v8
    have v9b : phi 291 (w_up (w_up (w_up (w_up (w_up (w_up S 237 26 0) 237 29 0) 237 59 0) 287 2 0) 289 2 0) 291 2 0) = phi 291 (w_up S 291 2 0) := v9
    have w7b : phi 287 (w_up S 287 2 0) ≤ phi 287 S := w7
    have w8b : phi 289 (w_up S 289 2 0) ≤ phi 289 S := w8
    have w9b : phi 291 (w_up S 291 2 0) ≤ phi 291 S := w9
    omega
  have hG : ∀ y : Int, (w_up (w_up (w_up (w_up (w_up (w_up S 237 26 0) 237 29 0) 237 59 0) 287 2 0) 289 2 0) 291 2 0) wG y = S wG y := fun y => hz wG y (by omega) (by omega) (by omega) (by omega)
  have el : ∀ (j : Nat) (y : Int), ((y = -1 ∧ j < 400) ∨ j = 239 ∨ j = 240 ∨ (281 ≤ j ∧ j ≤ 285) ∨ (j = 237 ∧ y ≤ 20)) → (w_up (w_up (w_up (w_up (w_up (w_up S 237 26 0) 237 29 0) 237 59 0) 287 2 0) 289 2 0) 291 2 0) j y = S j y := fun j y hj => hz j y (by omega) (by omega) (by omega) (by omega)
  have hL6 := rL_ag hL el
  have hN6 := mN_ag hN el
  have hX6 := mX_ag hX2 el
  have hF6 : rFr (xTb T n X) S (w_up (w_up (w_up (w_up (w_up (w_up S 237 26 0) 237 29 0) 237 59 0) 287 2 0) 289 2 0) 291 2 0) := fun j y j1 j2 j3 j4 j5 => hz j y (by omega) (by omega) (by omega) (by omega)
  have hZ6 : rZ pm (w_up (w_up (w_up (w_up (w_up (w_up S 237 26 0) 237 29 0) 237 59 0) 287 2 0) 289 2 0) 291 2 0) := ⟨(hz 237 25 (by omega) (by omega) (by omega) (by omega)).trans z25, zpm, fun k hk => (rSh_ag (zsh k hk) (eP k (by omega))).1, hB1.2.2.1, hB1.2.2.2.2.1, _, _, _, x7, x8, x9⟩
  have hn0 : 0 ≤ n := by have a := hL.2.2.2.2.1.1; rw [hL.2.1] at a; exact a
  have hR6 : (w_up (w_up (w_up (w_up (w_up (w_up S 237 26 0) 237 29 0) 237 59 0) 287 2 0) 289 2 0) 291 2 0) wG 0 + phA pm (w_up (w_up (w_up (w_up (w_up (w_up S 237 26 0) 237 29 0) 237 59 0) 287 2 0) 289 2 0) 291 2 0) ≤ b0 + 24 * n + 240 ∧ 8 * (w_up (w_up (w_up (w_up (w_up (w_up S 237 26 0) 237 29 0) 237 59 0) 287 2 0) 289 2 0) 291 2 0) wG 1 - (w_up (w_up (w_up (w_up (w_up (w_up S 237 26 0) 237 29 0) 237 59 0) 287 2 0) 289 2 0) 291 2 0) wG 0 ≤ b1 := by rw [hG, hG]; omega
  have h34b : (w_up (w_up (w_up (w_up (w_up (w_up S 237 26 0) 237 29 0) 237 59 0) 287 2 0) 289 2 0) 291 2 0) 237 34 = f0 := (hz 237 34 (by omega) (by omega) (by omega) (by omega)).trans h34
  obtain ⟨t6, t7, t8, t9⟩ := rL_tk hL6
  have t6b := (rL_tk hL).1
  have hq := kq_cs T n N X 0
  have hsr := sk_rx (lx_si T n 0 (tp T n 0 0))
  have hfx : ∀ k : Int, rFx T n N X b0 b1 S (k + 16 * tp T n 0 0) (w_hl (w_up (w_up (w_up (w_up (w_up (w_up S 237 26 0) 237 29 0) 237 59 0) 287 2 0) 289 2 0) 291 2 0) k ((w_up (w_up (w_up (w_up (w_up (w_up S 237 26 0) 237 29 0) 237 59 0) 287 2 0) 289 2 0) 291 2 0) 237 7)) := fun k => ⟨(w_up (w_up (w_up (w_up (w_up (w_up S 237 26 0) 237 29 0) 237 59 0) 287 2 0) 289 2 0) 291 2 0), 0, pm, k, tp T n 0 0, ⟨hL6, hN6, hX6⟩, hF6, hZ6, hR6, by rw [t7], rfl⟩
  refine wa_aload_n (n := 0) rfl ?_
  refine wa_iconst ?_
  refine wb_pfi 237 rfl (wy_pr rfl) wt_237 wf_15_26 (n := 26) rfl ⟨(by omega), (by omega)⟩ ?_
  refine wa_aload_n (n := 0) rfl ?_
  refine wa_iconst ?_
  refine wb_pfi 237 rfl (wy_pr rfl) wt_237 wf_15_29 (n := 29) rfl ⟨(by omega), (by omega)⟩ ?_
  refine wa_aload_n (n := 0) rfl ?_
  refine wa_iconst ?_
  refine wb_pfi 237 rfl (wy_pr rfl) wt_237 wf_15_59 (n := 59) rfl ⟨(by omega), (by omega)⟩ ?_
  refine wa_aload_n (n := 0) rfl ?_
  refine wb_gf4 237 rfl (wy_pr rfl) wt_237 wf_15_30 (v := 287) wl_237_30 ?_
  refine wa_iconst ?_
  refine wb_pfi 287 rfl (wy_pr rfl) wt_287 wf_13_2 (n := 2) rfl ⟨(by omega), (by omega)⟩ ?_
  refine wa_aload_n (n := 0) rfl ?_
  refine wb_gf4 237 rfl (wy_pr rfl) wt_237 wf_15_31 (v := 289) wl_237_31 ?_
  refine wa_iconst ?_
  refine wb_pfi 289 rfl (wy_pr rfl) wt_289 wf_13_2 (n := 2) rfl ⟨(by omega), (by omega)⟩ ?_
  refine wa_aload_n (n := 0) rfl ?_
  refine wb_gf4 237 rfl (wy_pr rfl) wt_237 wf_15_32 (v := 291) wl_237_32 ?_
  refine wa_iconst ?_
  refine wb_pfi 291 rfl (wy_pr rfl) wt_291 wf_13_2 (n := 2) rfl ⟨(by omega), (by omega)⟩ ?_
  refine wa_aload_n (n := 0) rfl ?_
  refine wb_gfi 237 rfl (wy_pr rfl) wt_237 wf_15_34 (v := f0) ((w_up_slot (by decide)).trans ((w_up_slot (by decide)).trans ((w_up_slot (by decide)).trans ((w_up_at (by decide)).trans ((w_up_at (by decide)).trans ((w_up_at (by decide)).trans (h34))))))) (fun r101 => ?_)
  refine wa_sipush (by omega) ?_
  refine wa_icmpne (w_rg0 (by omega) (by omega)) (w_rg0 (by omega) (by omega)) ⟨_, rfl⟩ (fun c102 => ?_) (fun c102 => ?_)
  · skip
    refine wa_aload_n (n := 0) rfl ?_
    refine wa_aload_n (n := 0) rfl ?_
    refine wa_cv 237 rfl (wy_pr rfl) wt_237 (M2 := fun _ => False) rfl at_M_beginsPart ⟨_, rfl⟩ rfl rfl ⟨(Or.inr ⟨wy_pr rfl, fun q => q⟩), trivial⟩ ⟨(Or.inr ⟨wy_pr rfl, fun q => q⟩), trivial⟩ (fun _ _ q => False.elim q) (bp0 (d := D + 1056) (S := (w_up (w_up (w_up (w_up (w_up (w_up S 237 26 0) 237 29 0) 237 59 0) 287 2 0) 289 2 0) 291 2 0)) (PA := pA []) hB1 (w_up_no (by omega) |>.trans ((w_up_no (by omega)).trans ((w_up_no (by omega)).trans ((w_up_no (by omega)).trans ((w_up_no (by omega)).trans (w_up_same _ _ _ _)))))) hZ6.1 rfl) (fun oq103 Sq103 hp104 q103 => ?_)
    rcases q103 with ⟨rfl, pm2, hB2, e26, e25, fr, e286, rm1, rm2⟩
    show wJ _ _ _ _ _ _ _ _ _ _
    have hx0 : Sq103 286 0 = ((nP 0 : Nat) : Int) := hB2.2.2.2.2.1.1 0 (by have := hB2.2.2.2.1.1; exact this)
    have hx1 : Sq103 286 (-1) = 400 := hB2.2.2.2.2.1.2
    have hpr0 : w_pr wY0 Sq103 (nP 0) := by
      obtain ⟨la, q1, q2, q3⟩ := hB2.1 0 (Nat.lt_succ_self _)
      exact q3.2.1.1
    refine wa_cv 237 rfl (wy_pr rfl) wt_237 (M2 := fun _ => False) rfl at_M_into ⟨_, rfl⟩ rfl rfl ⟨(Or.inr ⟨wy_pr rfl, fun q => q⟩), trivial⟩ trivial (fun _ _ q => False.elim q) ?_ (fun _ _ _ q => q)
    refine wa_aload_n (n := 0) rfl ?_
    refine wa_iload_n (n := 1) rfl ?_
    refine wb_pfi 237 rfl (wy_pr rfl) wt_237 wf_15_27 (n := 27) rfl ⟨(by omega), (by omega)⟩ ?_
    refine wa_aload_n (n := 0) rfl ?_
    refine wa_aload_n (n := 0) rfl ?_
    refine wb_gf4 237 rfl (wy_pr rfl) wt_237 wf_15_24 (v := 286) wl_237_24 ?_
    refine wa_iload_n (n := 1) rfl ?_
    refine wb_aaldO 286 rfl (wy_pr rfl) wt_286 (by omega) (n := 400) ((w_up_slot (by decide)).trans (hx1)) (by omega) (v := ((nP 0 : Nat) : Int)) ((w_up_slot (by decide)).trans (hx0)) ?_
    refine wb_pfr 237 rfl (wy_pr rfl) wt_237 wf_15_28 (n := 28) rfl (Or.inr ⟨by rw [Int.toNat_natCast]; exact ((w_up_pr (by omega)).mpr hpr0), by rw [Int.toNat_natCast, wt_P0 (by decide)]; decide⟩) ?_
    refine wa_return rfl ?_
    show wJ _ _ _ _ _ _ _ _ _ _
    refine wa_fall ⟨_, rfl⟩ ?_
    have el2 : ∀ (j : Nat) (y : Int), ((y = -1 ∧ j < 400) ∨ j = 239 ∨ j = 240 ∨ (281 ≤ j ∧ j ≤ 285) ∨ (j = 237 ∧ y ≤ 20)) → Sq103 j y = (w_up (w_up (w_up (w_up (w_up (w_up S 237 26 0) 237 29 0) 237 59 0) 287 2 0) 289 2 0) 291 2 0) j y := fun j y hj => by
      by_cases e : j = 286
      · subst e
        obtain rfl : y = -1 := by omega
        exact e286
      · exact fr j y (by omega) (by omega) e (by omega)
    have e237 : ∀ y : Int, y ≠ 25 → y ≠ 26 → Sq103 237 y = (w_up (w_up (w_up (w_up (w_up (w_up S 237 26 0) 237 29 0) 237 59 0) 287 2 0) 289 2 0) 291 2 0) 237 y := fun y y1 y2 => fr 237 y (by decide) (by decide) (by decide) (Or.inr ⟨y1, y2⟩)
    have hQ := rut_q (b0 := b0) (b1 := b1) (S0 := S) (rL_ag hL6 el2) (mN_ag hN6 el2) (mX_ag hX6 el2) ⟨hf.1, by omega⟩ (fun j y j1 j2 j3 j4 j5 => (fr j y j1 j2 (by omega) (by omega)).trans (hF6 j y j1 j2 j3 j4 j5)) ((e237 29 (by decide) (by decide)).trans (by rfl)) ((e237 34 (by decide) (by decide)).trans h34b) ((e237 59 (by decide) (by decide)).trans (by rfl)) e25 e26 (by have z := hB2; rw [← pA_ap [] (-1)] at z; exact z) ⟨by have g0 := hG 0; omega, by have g0 := hG 0; have g1 := hG 1; omega⟩
    have hf4 : f0 < 400 := by omega
    have hder1 := hder hf4 S
    have htp : (0 : Int) ≤ tp T n 0 0 := (rQ_n hQ).1.1
    rcases o with v | ⟨i2, I2, F2, t2⟩
    · exact wJ_S (r0_v (r0 hder1).2 ⟨⟨by decide, by decide⟩, Nat.zero_le _, htp⟩ (by omega) hQ (fun Zb hzb => Or.inr ⟨hf4, rfl, rFu_x hzb⟩)) ⟨rfl, trivial⟩
    refine wJ_S (r0_i (r0 hder1).2 ⟨⟨by decide, by decide⟩, Nat.zero_le _, htp⟩ (by omega) hQ (fun Zb hzb pb kb => ?_) (fun kb Zb hzb => Or.inr ⟨hf4, Or.inr ⟨kb, rfl, rFu_x hzb⟩⟩)) ⟨rfl, trivial⟩
    have h9 := pb.2.1
    have p3 := pb.2.2.1
    have nn := rQ_n hzb
    have hl0 : ([] : List pz_I).length = 0 := rfl
    refine wa_aload_n (n := 0) rfl ?_
    refine wa_cv 237 rfl (wy_pr rfl) wt_237 (M2 := fun _ => False) rfl at_M_ends ⟨_, rfl⟩ rfl rfl ⟨(Or.inr ⟨wy_pr rfl, fun q => q⟩), trivial⟩ trivial (fun _ _ q => False.elim q) ?_ (fun _ _ _ q => q)
    refine wa_aload_n (n := 0) rfl ?_
    refine wa_iconst ?_
    refine wa_iconst ?_
    refine wa_iconst ?_
    refine wa_cv 237 rfl (wy_pr rfl) wt_237 (M2 := fun _ => False) rfl at_M_emits ⟨_, rfl⟩ rfl rfl ⟨(Or.inr ⟨wy_pr rfl, fun q => q⟩), trivial⟩ trivial (fun _ _ q => False.elim q) (emw (S := Zb) (x := (0, 0, 0, f0)) hzb (by omega) rfl (by show (0 : Int) ≠ 27; decide) rfl ⟨by omega, by omega⟩ ⟨by omega, by omega⟩ ⟨by omega, by omega⟩) (fun oq408 Sq408 hp409 q408 => ?_)
    rcases q408 with ⟨rfl, hz405, l61406, l60407⟩
    show wJ _ _ _ _ _ _ _ _ _ _
    have hSq408 : rQ T n N X f0 b0 b1 S f0 0 i2 (I2 ++ [(0, 0, 0, f0)]) F2 (pA F2) Sq408 := hz405
    have hlSq408 : (I2 ++ [(0, 0, 0, f0)]).length = I2.length + 1 := List.length_append
    refine wa_aload_n (n := 0) rfl ?_
    refine wa_bipush (w_rg2 (by omega) (by omega)) ?_
    refine wa_iconst ?_
    refine wa_iconst ?_
    refine wa_cv 237 rfl (wy_pr rfl) wt_237 (M2 := fun _ => False) rfl at_M_emits ⟨_, rfl⟩ rfl rfl ⟨(Or.inr ⟨wy_pr rfl, fun q => q⟩), trivial⟩ trivial (fun _ _ q => False.elim q) (emw (S := Sq408) (x := (29, 0, 0, f0)) hSq408 (by omega) rfl (by show (29 : Int) ≠ 27; decide) rfl ⟨by omega, by omega⟩ ⟨by omega, by omega⟩ ⟨by omega, by omega⟩) (fun oq413 Sq413 hp414 q413 => ?_)
    rcases q413 with ⟨rfl, hz410, l61411, l60412⟩
    show wJ _ _ _ _ _ _ _ _ _ _
    have hSq413 : rQ T n N X f0 b0 b1 S f0 0 i2 ((I2 ++ [(0, 0, 0, f0)]) ++ [(29, 0, 0, f0)]) F2 (pA F2) Sq413 := hz410
    have hlSq413 : ((I2 ++ [(0, 0, 0, f0)]) ++ [(29, 0, 0, f0)]).length = (I2 ++ [(0, 0, 0, f0)]).length + 1 := List.length_append
    refine wa_return rfl ?_
    show wJ _ _ _ _ _ _ _ _ _ _
    refine wa_return rfl ?_
    exact Or.inr ⟨hf4, Or.inl ⟨kb, rfl, hSq413, p3⟩⟩
  · skip
    refine wa_aload_n (n := 0) rfl ?_
    refine wa_aload_n (n := 0) rfl ?_
    refine wb_gfi 237 rfl (wy_pr rfl) wt_237 wf_15_6 (v := (S 237 6)) ((w_up_slot (by decide)).trans ((w_up_slot (by decide)).trans ((w_up_slot (by decide)).trans ((w_up_at (by decide)).trans ((w_up_at (by decide)).trans (w_up_at (by decide))))))) (fun r105 => ?_)
    refine wa_ifeq (w_rg0 (by omega) (by omega)) ⟨_, rfl⟩ (fun c106 => ?_) (fun c106 => ?_)
    · skip
      refine wa_iconst ?_
      refine wa_goto ⟨_, rfl⟩ ?_
      refine wa_iconst ?_
      refine wa_cv 237 rfl (wy_pr rfl) wt_237 (M2 := fun _ => False) rfl at_M_must ⟨_, rfl⟩ rfl rfl ⟨(Or.inr ⟨wy_pr rfl, fun q => q⟩), trivial⟩ trivial (fun _ _ q => False.elim q) (must_ok (S := (w_up (w_up (w_up (w_up (w_up (w_up S 237 26 0) 237 29 0) 237 59 0) 287 2 0) 289 2 0) 291 2 0)) (g := 1) (n := 1) (by omega) ⟨by omega, by omega⟩) (fun oq108 Sq108 hp109 q108 => ?_)
      rcases q108 with ⟨hg107, rfl, rfl⟩ | ⟨hg107, rfl, rfl⟩
      · skip
        show wJ _ _ _ _ _ _ _ _ _ _
        refine wa_aload_n (n := 0) rfl ?_
        refine wa_bipush (w_rg2 (by omega) (by omega)) ?_
        refine wa_cv 237 rfl (wy_pr rfl) wt_237 (M2 := fun _ => False) rfl at_M_fault ⟨_, rfl⟩ rfl rfl ⟨(Or.inr ⟨wy_pr rfl, fun q => q⟩), trivial⟩ trivial (fun _ _ q => False.elim q) (fault_ok (S := (w_up (w_up (w_up (w_up (w_up (w_up S 237 26 0) 237 29 0) 237 59 0) 287 2 0) 289 2 0) 291 2 0)) (n := 7) ⟨by omega, by omega⟩) (fun oq110 Sq110 hp111 q110 => ?_)
        rcases q110 with ⟨rfl, rfl⟩
        exact ⟨rfl, Or.inl ⟨by omega, rfl, Or.inl ⟨by first | exact Or.inl (by omega), hfx 7⟩⟩⟩
      · skip
        exact absurd hg107 (by decide)
    · skip
      refine wa_aload_n (n := 0) rfl ?_
      refine wa_cv 237 rfl (wy_pr rfl) wt_237 (M2 := fun _ => False) rfl at_M_canBeginStatement ⟨_, rfl⟩ rfl rfl ⟨(Or.inr ⟨wy_pr rfl, fun q => q⟩), trivial⟩ ⟨(Or.inr ⟨wy_pr rfl, fun q => q⟩), trivial⟩ (fun _ _ q => False.elim q) (csw (N := N) (X := X) (S := (w_up (w_up (w_up (w_up (w_up (w_up S 237 26 0) 237 29 0) 237 59 0) 287 2 0) 289 2 0) 291 2 0)) hX hL6) (fun oq113 Sq113 hp114 q113 => ?_)
      rcases q113 with ⟨rfl, ⟨rfl, kb112⟩ | ⟨rfl, kb112⟩⟩
      · skip
        show wJ _ _ _ _ _ _ _ _ _ _
        refine wa_ifeq (w_rg0 (by omega) (by omega)) ⟨_, rfl⟩ (fun c115 => ?_) (fun c115 => ?_)
        · skip
          exact absurd c115 (by omega)
        · skip
          refine wa_fall ⟨_, rfl⟩ ?_
          refine wa_iconst ?_
          refine wa_goto ⟨_, rfl⟩ ?_
          refine wa_iconst ?_
          refine wa_cv 237 rfl (wy_pr rfl) wt_237 (M2 := fun _ => False) rfl at_M_must ⟨_, rfl⟩ rfl rfl ⟨(Or.inr ⟨wy_pr rfl, fun q => q⟩), trivial⟩ trivial (fun _ _ q => False.elim q) (must_ok (S := (w_up (w_up (w_up (w_up (w_up (w_up S 237 26 0) 237 29 0) 237 59 0) 287 2 0) 289 2 0) 291 2 0)) (g := 1) (n := 1) (by omega) ⟨by omega, by omega⟩) (fun oq117 Sq117 hp118 q117 => ?_)
          rcases q117 with ⟨hg116, rfl, rfl⟩ | ⟨hg116, rfl, rfl⟩
          · skip
            show wJ _ _ _ _ _ _ _ _ _ _
            refine wa_aload_n (n := 0) rfl ?_
            refine wa_bipush (w_rg2 (by omega) (by omega)) ?_
            refine wa_cv 237 rfl (wy_pr rfl) wt_237 (M2 := fun _ => False) rfl at_M_fault ⟨_, rfl⟩ rfl rfl ⟨(Or.inr ⟨wy_pr rfl, fun q => q⟩), trivial⟩ trivial (fun _ _ q => False.elim q) (fault_ok (S := (w_up (w_up (w_up (w_up (w_up (w_up S 237 26 0) 237 29 0) 237 59 0) 287 2 0) 289 2 0) 291 2 0)) (n := 7) ⟨by omega, by omega⟩) (fun oq119 Sq119 hp120 q119 => ?_)
            rcases q119 with ⟨rfl, rfl⟩
            exact ⟨rfl, Or.inl ⟨by omega, rfl, Or.inl ⟨by first | exact Or.inl (by omega) | exact Or.inr kb112, hfx 7⟩⟩⟩
          · skip
            exact absurd hg116 (by decide)
      · skip
        show wJ _ _ _ _ _ _ _ _ _ _
        refine wa_ifeq (w_rg0 (by omega) (by omega)) ⟨_, rfl⟩ (fun c121 => ?_) (fun c121 => ?_)
        · skip
          refine wa_iconst ?_
          refine wa_fall ⟨_, rfl⟩ ?_
          refine wa_iconst ?_
          refine wa_cv 237 rfl (wy_pr rfl) wt_237 (M2 := fun _ => False) rfl at_M_must ⟨_, rfl⟩ rfl rfl ⟨(Or.inr ⟨wy_pr rfl, fun q => q⟩), trivial⟩ trivial (fun _ _ q => False.elim q) (must_ok (S := (w_up (w_up (w_up (w_up (w_up (w_up S 237 26 0) 237 29 0) 237 59 0) 287 2 0) 289 2 0) 291 2 0)) (g := 0) (n := 1) (by omega) ⟨by omega, by omega⟩) (fun oq123 Sq123 hp124 q123 => ?_)
          rcases q123 with ⟨hg122, rfl, rfl⟩ | ⟨hg122, rfl, rfl⟩
          · skip
            exact absurd hg122 (by decide)
          · skip
            exact ⟨rfl, Or.inl ⟨by omega, rfl, Or.inr ⟨⟨by omega, kb112⟩, hfx 1⟩⟩⟩
        · skip
          exact absurd c121 (by omega)
end Wcr
