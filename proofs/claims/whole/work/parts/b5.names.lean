/-! PART b5: the reference's takesName. -/
section Wb5
variable {xs : List (Nat × List Int32)} {M : Nat → Prop} {d : Nat} {A B C S Z : wS} {Q : wO → wS → Prop} {L : List (List Int)}
/-- a name may have come, the lexer may stand elsewhere -/
def tn_ag (c : Int) (S Z : wS) : Prop := ∀ (j : Nat) (i : Int), (j ≠ 240 ∨ i < 0) → (j ≠ 237 ∨ (i ≠ 6 ∧ i ≠ 7 ∧ i ≠ 8 ∧ i ≠ 9 ∧ i ≠ 10 ∧ i ≠ 12 ∧ i ≠ 16)) → (j ≠ 281 ∨ i < 60 * c ∨ 60 * c + 60 ≤ i) → (j ≠ 282 ∨ i ≠ c) → Z j i = S j i
theorem mN_lx (h : mN L S) (g : lx_ag S Z) : mN L Z := by
  obtain ⟨h1, h2, h3⟩ := h
  have e : ∀ (j : Nat) (i : Int), j = 281 ∨ j = 282 → Z j i = S j i := fun j i hj => g j i (by omega) (by omega)
  refine ⟨(g 237 16 (by decide) (by decide)).trans h1, h2, fun k hk => ?_⟩
  obtain ⟨a, b, c⟩ := h3 k hk
  exact ⟨(e 282 _ (Or.inr rfl)).trans a, b, fun x hx => (e 281 _ (Or.inl rfl)).trans (c x hx)⟩
theorem lx_I_na {x : List Int} {p : Int} (h : lx_I S p) (h1 : S 237 6 = 1) (g : na_ag L x S Z) : lx_I Z p ∧ Z 239 = S 239 ∧ Z 237 4 = S 237 4 ∧ Z 237 5 = S 237 5 ∧ Z 237 6 = 1 := by
  obtain ⟨hM, hn, hp, s1, s2, s3, s4, s5, s6⟩ := h
  have e : ∀ i : Int, i ≠ 16 → Z 237 i = S 237 i := fun i hi => g.2 237 i (Or.inl (by decide)) (Or.inl (by decide)) (Or.inr hi)
  have e9 : Z 239 = S 239 := funext fun i => g.2 239 i (Or.inl (by decide)) (Or.inl (by decide)) (Or.inl (by decide))
  have e6 : Z 237 6 = 1 := (e 6 (by decide)).trans h1
  refine ⟨⟨fun y hy => (g.2 y.1 (-1) (by omega) (by omega) (by omega)).trans (hM y hy), by rw [e 4 (by decide)]; exact hn, by rw [e 4 (by decide)]; exact hp, (e 7 (by decide)).trans s1, ?_, ?_, fun q => by omega, fun q => by omega, fun q => by omega⟩, e9, e 4 (by decide), e 5 (by decide), e6⟩
  · rw [e 6 (by decide), e9, e 4 (by decide), e 5 (by decide)]; exact s2
  · rw [e 8 (by decide), e9, e 4 (by decide), e 5 (by decide)]; exact s3
theorem lx_nm30 {T : Int → Int} {n h p : Int} (q : lx_tk T n h p = 1) : lx_en T n h p - p ≤ 30 := by
  unfold lx_tk at q
  unfold lx_en
  by_cases h0 : n ≤ p
  · rw [if_pos h0] at q; omega
  · rw [if_neg h0] at q ⊢
    by_cases h1 : lx_le (T p) = true
    · rw [if_pos h1] at q ⊢
      by_cases h2 : lx_nm T n ((n - p).toNat + 1) p - p ≤ 30
      · exact h2
      · rw [if_neg h2] at q; omega
    · rw [if_neg h1] at q
      exfalso
      by_cases h2 : lx_di (T p) = true
      · rw [if_pos h2] at q
        split at q <;> omega
      · rw [if_neg h2] at q
        by_cases h3 : T p = 34
        · rw [if_pos h3] at q
          rcases lx_tx_tk T n ((n - p).toNat + 1) (p + 1) [] with z | z <;> omega
        · rw [if_neg h3] at q
          unfold lx_sf at q
          repeat' split at q
          all_goals first | omega | (simp at q)
theorem tnr {p : Int} (hX : w_X xs) (hI : lx_I S p) (h5 : S 237 5 = 0) (hN : mN L S) : wJ (pe_GA xs) wY0 M (d + 8) t_M_takesName ((pe_at t_M_takesName.bl 0).getD (0, [])).2 [(0, (2, 237))] [] S (fun o Z => (o = .inl (some (0, ixL (adL L (nmx (S 239) (S 237 4) p)) (nmx (S 239) (S 237 4) p))) ∧ (lx_tk (S 239) (S 237 4) 0 p = 1 ∧ kwL (nmx (S 239) (S 237 4) p) = -1) ∧ ixL (adL L (nmx (S 239) (S 237 4) p)) (nmx (S 239) (S 237 4) p) ≠ -1 ∧ mN (adL L (nmx (S 239) (S 237 4) p)) Z ∧ tn_ag (L.length : Int) S Z ∧ lx_I Z (lx_ne S p)) ∨ (o = .inr 238 ∧ w_hl S 7 p = Z ∧ (lx_tk (S 239) (S 237 4) 0 p = 1 ∧ kwL (nmx (S 239) (S 237 4) p) = -1) ∧ ixL (adL L (nmx (S 239) (S 237 4) p)) (nmx (S 239) (S 237 4) p) = -1) ∨ (o = .inr 238 ∧ w_hl S 1 p = Z ∧ ¬ (lx_tk (S 239) (S 237 4) 0 p = 1 ∧ kwL (nmx (S 239) (S 237 4) p) = -1))) := by
  have hI0 := hI
  obtain ⟨hM, hn, hp, s1, s2, s3, s4, s5, s6⟩ := hI
  rw [h5] at s2 s3
  have hle := lx_en_le (T := S 239) (n := S 237 4) (h := 0) (p := p) hp.2
  have hnl := hN.2.1
  have hn16 : S 237 16 = (L.length : Int) := hN.1
  have hx : S 237 6 = 1 → (nmx (S 239) (S 237 4) p) = sl_ (S 239) (S 237 7) (S 237 8 - S 237 7) := fun q => by unfold nmx; rw [s1, s3]
  have hlen : S 237 6 = 1 → 0 ≤ S 237 8 - S 237 7 ∧ S 237 8 - S 237 7 ≤ 30 ∧ S 237 8 ≤ S 237 4 := fun q => by
    have e1 : lx_tk (S 239) (S 237 4) 0 p = 1 := by rw [← s2]; exact q
    have e2 := lx_nm30 e1
    rw [s1, s3]
    exact ⟨by omega, e2, hle.2.1 (by omega)⟩
  have hpo : 0 ≤ S 237 7 ∧ S 237 7 ≤ 65540 ∧ 0 ≤ S 237 8 ∧ S 237 8 ≤ 65540 := lx_I_hp hI0
  refine wa_aload_n (n := 0) rfl ?_
  refine wa_aload_n (n := 0) rfl ?_
  refine wa_cv 237 rfl (wy_pr rfl) wt_237 (M2 := fun _ => False) rfl at_M_isName ⟨_, rfl⟩ rfl rfl ⟨(Or.inr ⟨wy_pr rfl, fun q => q⟩), trivial⟩ ⟨(Or.inr ⟨wy_pr rfl, fun q => q⟩), trivial⟩ (fun _ _ q => False.elim q) ?_ (fun _ _ _ q => q)
  refine wa_aload_n (n := 0) rfl ?_
  refine wb_gfi 237 rfl (wy_pr rfl) wt_237 wf_15_6 (v := (S 237 6)) rfl (fun r101 => ?_)
  refine wa_iconst ?_
  refine wa_icmpne (w_rg0 (by omega) (by omega)) (w_rg0 (by omega) (by omega)) ⟨_, rfl⟩ (fun c102 => ?_) (fun c102 => ?_)
  · skip
    refine wa_iconst ?_
    refine wa_fall ⟨_, rfl⟩ ?_
    refine wa_zreturn rfl (Or.inl rfl) ?_
    show wJ _ _ _ _ _ _ _ _ _ _
    refine wa_iconst ?_
    refine wa_cv 237 rfl (wy_pr rfl) wt_237 (M2 := fun _ => False) rfl at_M_must ⟨_, rfl⟩ rfl rfl ⟨(Or.inr ⟨wy_pr rfl, fun q => q⟩), trivial⟩ trivial (fun _ _ q => False.elim q) (must_ok (S := S) (g := 0) (n := 1) (by omega) ⟨by omega, by omega⟩) (fun oq103 Sq103 hp104 q103 => ?_)
    rcases q103 with ⟨hg, rfl, rfl⟩ | ⟨hg, rfl, rfl⟩
    · skip
      omega
    · skip
      have hw := 1
      refine ⟨rfl, ?_⟩
      first | (refine Or.inr (Or.inl ⟨rfl, by rw [s1], hok, ?_⟩); have hni : (nmx (S 239) (S 237 4) p) ∉ L := ixL_no.mp (by omega); rw [adL_full (by omega)]; exact ixL_no.mpr hni) | (refine Or.inr (Or.inr ⟨rfl, by rw [s1], fun z => ?_⟩); first | exact hkw z.2 | (have := z.1; omega))
  · skip
    refine wa_aload_n (n := 0) rfl ?_
    refine wa_cv 237 rfl (wy_pr rfl) wt_237 (M2 := fun _ => False) rfl at_M_isKeyword ⟨_, rfl⟩ rfl rfl ⟨(Or.inr ⟨wy_pr rfl, fun q => q⟩), trivial⟩ trivial (fun _ _ q => False.elim q) ?_ (fun _ _ _ q => q)
    refine wa_aload_n (n := 0) rfl ?_
    refine wa_ks ?_
    refine wa_cv 237 rfl (wy_pr rfl) wt_237 (M2 := fun _ => False) rfl at_M_isOneOf ⟨_, rfl⟩ rfl rfl ⟨(Or.inr ⟨wy_pr rfl, fun q => q⟩), trivial⟩ trivial (fun _ _ q => False.elim q) (isOneOf_ok (S := S) hM (wx_85 hX) (by decide) (by decide) hpo (by decide)) (fun oq106 Sq106 hp107 q106 => ?_)
    rcases q106 with ⟨rfl, ⟨rfl, hoo105⟩ | ⟨rfl, hoo105⟩⟩
    · skip
      show wJ _ _ _ _ _ _ _ _ _ _
      have hkw := (oo_85 (by omega) (by omega)).mp hoo105
      have h1 : S 237 6 = 1 := by omega
      rw [← hx h1] at hkw
      refine wa_zreturn rfl (Or.inr rfl) ?_
      show wJ _ _ _ _ _ _ _ _ _ _
      refine wa_ifne (w_rg0 (by omega) (by omega)) ⟨_, rfl⟩ (fun c108 => ?_) (fun c108 => ?_)
      · skip
        refine wa_iconst ?_
        refine wa_fall ⟨_, rfl⟩ ?_
        refine wa_zreturn rfl (Or.inl rfl) ?_
        show wJ _ _ _ _ _ _ _ _ _ _
        refine wa_iconst ?_
        refine wa_cv 237 rfl (wy_pr rfl) wt_237 (M2 := fun _ => False) rfl at_M_must ⟨_, rfl⟩ rfl rfl ⟨(Or.inr ⟨wy_pr rfl, fun q => q⟩), trivial⟩ trivial (fun _ _ q => False.elim q) (must_ok (S := S) (g := 0) (n := 1) (by omega) ⟨by omega, by omega⟩) (fun oq109 Sq109 hp110 q109 => ?_)
        rcases q109 with ⟨hg, rfl, rfl⟩ | ⟨hg, rfl, rfl⟩
        · skip
          omega
        · skip
          have hw := 1
          refine ⟨rfl, ?_⟩
          first | (refine Or.inr (Or.inl ⟨rfl, by rw [s1], hok, ?_⟩); have hni : (nmx (S 239) (S 237 4) p) ∉ L := ixL_no.mp (by omega); rw [adL_full (by omega)]; exact ixL_no.mpr hni) | (refine Or.inr (Or.inr ⟨rfl, by rw [s1], fun z => ?_⟩); first | exact hkw z.2 | (have := z.1; omega))
      · skip
        exact absurd c108 (by omega)
    · skip
      show wJ _ _ _ _ _ _ _ _ _ _
      have h1 : S 237 6 = 1 := by omega
      have hle1 := hlen h1
      have hkw : kwL (nmx (S 239) (S 237 4) p) = -1 := Decidable.byContradiction (fun z => by rw [hx h1] at z; have := (oo_85 (by omega) (by omega)).mpr z; rw [this] at hoo105; cases hoo105)
      have hok : (lx_tk (S 239) (S 237 4) 0 p = 1 ∧ kwL (nmx (S 239) (S 237 4) p) = -1) := ⟨by rw [← s2]; exact h1, hkw⟩
      refine wa_zreturn rfl (Or.inl rfl) ?_
      show wJ _ _ _ _ _ _ _ _ _ _
      refine wa_ifne (w_rg0 (by omega) (by omega)) ⟨_, rfl⟩ (fun c111 => ?_) (fun c111 => ?_)
      · skip
        exact absurd c111 (by omega)
      · skip
        refine wa_iconst ?_
        refine wa_goto ⟨_, rfl⟩ ?_
        refine wa_zreturn rfl (Or.inr rfl) ?_
        show wJ _ _ _ _ _ _ _ _ _ _
        refine wa_iconst ?_
        refine wa_cv 237 rfl (wy_pr rfl) wt_237 (M2 := fun _ => False) rfl at_M_must ⟨_, rfl⟩ rfl rfl ⟨(Or.inr ⟨wy_pr rfl, fun q => q⟩), trivial⟩ trivial (fun _ _ q => False.elim q) (must_ok (S := S) (g := 1) (n := 1) (by omega) ⟨by omega, by omega⟩) (fun oq112 Sq112 hp113 q112 => ?_)
        rcases q112 with ⟨hg, rfl, rfl⟩ | ⟨hg, rfl, rfl⟩
        · skip
          show wJ _ _ _ _ _ _ _ _ _ _
          refine wa_aload_n (n := 0) rfl ?_
          refine wa_aload_n (n := 0) rfl ?_
          refine wb_gf4 237 rfl (wy_pr rfl) wt_237 wf_15_2 (v := 239) wl_237_2 ?_
          refine wa_aload_n (n := 0) rfl ?_
          refine wb_gfi 237 rfl (wy_pr rfl) wt_237 wf_15_7 (v := (S 237 7)) rfl (fun r114 => ?_)
          refine wa_aload_n (n := 0) rfl ?_
          refine wb_gfi 237 rfl (wy_pr rfl) wt_237 wf_15_8 (v := (S 237 8)) rfl (fun r115 => ?_)
          refine wa_aload_n (n := 0) rfl ?_
          refine wb_gfi 237 rfl (wy_pr rfl) wt_237 wf_15_7 (v := (S 237 7)) rfl (fun r116 => ?_)
          refine wa_isub ?_
          refine wa_cv 237 rfl (wy_pr rfl) wt_237 (M2 := fun _ => False) rfl at_M_findName ⟨_, rfl⟩ rfl rfl ⟨(Or.inr ⟨wy_pr rfl, fun q => q⟩), trivial⟩ trivial (fun _ _ q => False.elim q) (fnm (S := S) (L := L) (p := S 237 7) (m := S 237 8 - S 237 7) hM hN ⟨by omega, by omega⟩ ⟨by omega, by omega, by omega⟩) (fun oq117 Sq117 hp118 q117 => ?_)
          rcases q117 with ⟨rfl, rfl⟩
          show wJ _ _ _ _ _ _ _ _ _ _
          rw [← hx h1]
          have hir := ixL_rg L (nmx (S 239) (S 237 4) p)
          refine wa_istore_n (n := 1) rfl ?_
          refine wa_iload_n (n := 1) rfl ?_
          refine wa_ifge (w_rg0 (by omega) (by omega)) ⟨_, rfl⟩ (fun c119 => ?_) (fun c119 => ?_)
          · skip
            refine wa_aload_n (n := 0) rfl ?_
            refine wa_cv 237 rfl (wy_pr rfl) wt_237 (M2 := fun _ => False) rfl at_M_next ⟨_, rfl⟩ rfl rfl ⟨trivial, (Or.inr ⟨wy_pr rfl, fun q => q⟩), trivial⟩ trivial (fun _ _ q => False.elim q) (nx_I (S := S) hI0 (by omega)) (fun oq120 Sq120 hp121 q120 => ?_)
            rcases q120 with ⟨rfl, hla, hnI⟩
            show wJ _ _ _ _ _ _ _ _ _ _
            have hlast := hla
            refine wa_iload_n (n := 1) rfl ?_
            refine wa_ireturn rfl ?_
            have hin : (nmx (S 239) (S 237 4) p) ∈ L := Decidable.byContradiction (fun z => by have := ixL_no.mpr z; omega)
            have hadd : adL L (nmx (S 239) (S 237 4) p) = L := adL_in hin
            exact Or.inl ⟨by rw [hadd], hok, by rw [hadd]; omega, by rw [hadd]; exact mN_lx hN hla, fun j i e1 e2 e3 e4 => hla j i e1 (by omega), hnI⟩
          · skip
            refine wa_aload_n (n := 0) rfl ?_
            refine wa_aload_n (n := 0) rfl ?_
            refine wb_gfi 237 rfl (wy_pr rfl) wt_237 wf_15_16 (v := (S 237 16)) rfl (fun r122 => ?_)
            refine wa_sipush (by omega) ?_
            refine wa_icmpge (w_rg0 (by omega) (by omega)) (w_rg0 (by omega) (by omega)) ⟨_, rfl⟩ (fun c123 => ?_) (fun c123 => ?_)
            · skip
              refine wa_iconst ?_
              refine wa_fall ⟨_, rfl⟩ ?_
              refine wa_bipush (w_rg2 (by omega) (by omega)) ?_
              refine wa_cv 237 rfl (wy_pr rfl) wt_237 (M2 := fun _ => False) rfl at_M_must ⟨_, rfl⟩ rfl rfl ⟨trivial, (Or.inr ⟨wy_pr rfl, fun q => q⟩), trivial⟩ trivial (fun _ _ q => False.elim q) (must_ok (S := S) (g := 0) (n := 7) (by omega) ⟨by omega, by omega⟩) (fun oq124 Sq124 hp125 q124 => ?_)
              rcases q124 with ⟨hg, rfl, rfl⟩ | ⟨hg, rfl, rfl⟩
              · skip
                omega
              · skip
                have hw := 7
                refine ⟨rfl, ?_⟩
                first | (refine Or.inr (Or.inl ⟨rfl, by rw [s1], hok, ?_⟩); have hni : (nmx (S 239) (S 237 4) p) ∉ L := ixL_no.mp (by omega); rw [adL_full (by omega)]; exact ixL_no.mpr hni) | (refine Or.inr (Or.inr ⟨rfl, by rw [s1], fun z => ?_⟩); first | exact hkw z.2 | (have := z.1; omega))
            · skip
              refine wa_iconst ?_
              refine wa_goto ⟨_, rfl⟩ ?_
              refine wa_bipush (w_rg2 (by omega) (by omega)) ?_
              refine wa_cv 237 rfl (wy_pr rfl) wt_237 (M2 := fun _ => False) rfl at_M_must ⟨_, rfl⟩ rfl rfl ⟨trivial, (Or.inr ⟨wy_pr rfl, fun q => q⟩), trivial⟩ trivial (fun _ _ q => False.elim q) (must_ok (S := S) (g := 1) (n := 7) (by omega) ⟨by omega, by omega⟩) (fun oq126 Sq126 hp127 q126 => ?_)
              rcases q126 with ⟨hg, rfl, rfl⟩ | ⟨hg, rfl, rfl⟩
              · skip
                show wJ _ _ _ _ _ _ _ _ _ _
                refine wa_aload_n (n := 0) rfl ?_
                refine wa_aload_n (n := 0) rfl ?_
                refine wb_gf4 237 rfl (wy_pr rfl) wt_237 wf_15_2 (v := 239) wl_237_2 ?_
                refine wa_aload_n (n := 0) rfl ?_
                refine wb_gfi 237 rfl (wy_pr rfl) wt_237 wf_15_7 (v := (S 237 7)) rfl (fun r128 => ?_)
                refine wa_aload_n (n := 0) rfl ?_
                refine wb_gfi 237 rfl (wy_pr rfl) wt_237 wf_15_8 (v := (S 237 8)) rfl (fun r129 => ?_)
                refine wa_aload_n (n := 0) rfl ?_
                refine wb_gfi 237 rfl (wy_pr rfl) wt_237 wf_15_7 (v := (S 237 7)) rfl (fun r130 => ?_)
                refine wa_isub ?_
                refine wa_cv 237 rfl (wy_pr rfl) wt_237 (M2 := fun _ => False) rfl at_M_addName ⟨_, rfl⟩ rfl rfl ⟨trivial, (Or.inr ⟨wy_pr rfl, fun q => q⟩), trivial⟩ trivial (fun _ _ q => False.elim q) (nad (S := S) (L := L) (p := S 237 7) (m := S 237 8 - S 237 7) hM hN (by omega) ⟨by omega, by omega⟩ ⟨by omega, by omega, by omega⟩) (fun oq131 Sq131 hp132 q131 => ?_)
                rcases q131 with ⟨rfl, hna⟩
                show wJ _ _ _ _ _ _ _ _ _ _
                rw [← hx h1] at hna
                obtain ⟨hI1, e9, e4, e5, e6⟩ := lx_I_na hI0 h1 hna
                refine wa_istore_n (n := 1) rfl ?_
                refine wa_fall ⟨_, rfl⟩ ?_
                refine wa_aload_n (n := 0) rfl ?_
                refine wa_cv 237 rfl (wy_pr rfl) wt_237 (M2 := fun _ => False) rfl at_M_next ⟨_, rfl⟩ rfl rfl ⟨trivial, (Or.inr ⟨wy_pr rfl, fun q => q⟩), trivial⟩ trivial (fun _ _ q => False.elim q) (nx_I (S := Sq131) hI1 (by omega)) (fun oq133 Sq133 hp134 q133 => ?_)
                rcases q133 with ⟨rfl, hla, hnI⟩
                show wJ _ _ _ _ _ _ _ _ _ _
                have hlast := hla
                refine wa_iload_n (n := 1) rfl ?_
                refine wa_ireturn rfl ?_
                have hni : (nmx (S 239) (S 237 4) p) ∉ L := ixL_no.mp (by omega)
                have hadd : adL L (nmx (S 239) (S 237 4) p) = L ++ [(nmx (S 239) (S 237 4) p)] := adL_new hni (by omega)
                have hnew : ixL (L ++ [(nmx (S 239) (S 237 4) p)]) (nmx (S 239) (S 237 4) p) = (L.length : Int) := ixL_new hni
                refine Or.inl ⟨by rw [hadd, hnew], hok, by rw [hadd, hnew]; omega, by rw [hadd]; exact mN_lx hna.1 hla, fun j i e1 e2 e3 e4 => (hla j i e1 (by omega)).trans (hna.2 j i e3 e4 (by omega)), ?_⟩
                have hne : lx_ne S p = lx_ne _ p := (show lx_ne S p = lx_ne _ p from by unfold lx_ne; rw [← e9, ← e4, ← e5])
                rw [hne]; exact hnI
              · skip
                omega
        · skip
          omega
end Wb5
