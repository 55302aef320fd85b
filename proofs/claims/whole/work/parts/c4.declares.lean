/-! PART c4: the reference's declares. -/
section Wc4
variable {xs : List (Nat × List Int32)} {M : Nat → Prop} {d : Nat} {A B C S Z S0 : wS} {Q : wO → wS → Prop} {T : Int → Int} {n f0 u dp b0 b1 : Int} {N X : List (List Int)} {c i k pm : Nat} {I : List pz_I} {F : List pz_F} {PA : Nat → Int}
variable {y v : Int}
theorem rQ_pv (h : rQ T n N X f0 b0 b1 S0 u dp i I F PA S) : S (nP (u - f0).toNat) 2 = ((pz_f f0 F u).2.2.length : Int) ∧ S (nP (u - f0).toNat) 3 = ((nP (u - f0).toNat + 1 : Nat) : Int) ∧ w_pr wY0 S (nP (u - f0).toNat + 1) ∧ S (nP (u - f0).toNat + 1) (-1) = 60 := by
  obtain ⟨k, la, pm, ⟨hu, hk4, hkF⟩, ⟨l1, l2⟩, hp, ⟨h28, h59⟩, hc, hB, hR⟩ := rQ_pt h
  have hk : (u - f0).toNat = k := by omega
  unfold pz_f
  rw [hk]
  have hl : ((F.getD k (-1, 0, [])).2.2.reverse.length : Int) = ((F.getD k (-1, 0, [])).2.2.length : Int) := by rw [List.length_reverse]
  exact ⟨hp.1.2.2.1.trans hl, hp.1.2.2.2.1, hp.2.1.2.1, hp.2.1.2.2⟩
theorem fdw {y : Int} (h : rQ T n N X f0 b0 b1 S0 u dp i I F PA S) (hy : -2147483648 ≤ y ∧ y ≤ 2147483647) : wJ (pe_GA xs) wY0 M d t_MP_find ((pe_at t_MP_find.bl 0).getD (0, [])).2 [(0, (2, (nP (u - f0).toNat : Int))), (1, (0, y))] [] S (fun q Z => S = Z ∧ q = .inl (some (0, vix (pz_f f0 F u).2.2 y))) := by
  obtain ⟨k, la, pm, ⟨hu, hk4, hkF⟩, ⟨l1, l2⟩, hp, ⟨h28, h59⟩, hc, hB, hR⟩ := rQ_pt h
  have hk : (u - f0).toNat = k := by omega
  have hnd := (h.2.2.1.2.2.2 k hkF).2.1
  unfold pz_f
  rw [hk]
  refine wJ_mono (fd_r (f := k) (by omega) hp hy) (fun q Z hz => ⟨hz.1, hz.2.trans (congrArg (fun z => Sum.inl (some (0, z))) (vix_ix hnd))⟩)
/-- the outermost function has none around -/
theorem rQ_top (h : rQ T n N X f0 b0 b1 S0 u dp i I F PA S) : (u = f0 ∧ (pz_f f0 F u).1 = -1) ∨ (f0 < u ∧ (pz_f f0 F u).1 ≠ -1) := by
  obtain ⟨v1, v2, v3, v4⟩ := h.2.2.1
  obtain ⟨w1, -⟩ := v4 (u - f0).toNat (by omega)
  unfold pz_f
  rcases w1 with ⟨a, b, -⟩ | ⟨a, b⟩
  · exact Or.inl ⟨by omega, b⟩
  · exact Or.inr ⟨by omega, by omega⟩
theorem rQ_vl (h : rQ T n N X f0 b0 b1 S0 u dp i I F PA S) : (pz_f f0 F u).2.2.length ≤ 60 ∧ ∀ y ∈ (pz_f f0 F u).2.2, 0 ≤ y ∧ y < ((NL T n N i).length : Int) := by
  obtain ⟨v1, v2, v3, v4⟩ := h.2.2.1
  obtain ⟨w1, w2, w3, w4⟩ := v4 (u - f0).toNat (by omega)
  exact ⟨w3, w4⟩
theorem vq_lt (h : kq T n N X i = 5) : vq T n N X i < ((NL T n N (i + 1)).length : Int) := by
  obtain ⟨k1, k2, k3⟩ := k56 (Or.inl h)
  have hN : NL T n N (i + 1) = adL (NL T n N i) (nmx T n (tp T n 0 i)) := by
    show Nn T n (tp T n 0 i) (NL T n N i) = _
    unfold Nn; rw [if_pos ⟨k1, k2⟩]
  have hle := NL_le T n N i
  rcases k3 with ⟨a, b, c, d⟩ | ⟨a, b, c, d⟩ | ⟨a, b, c⟩
  · have hg := (getD_idx a).1
    have hi : ixL (NL T n N i) (nmx T n (tp T n 0 i)) = ((NL T n N i).idxOf (nmx T n (tp T n 0 i)) : Int) := if_pos a
    rw [c, hi]; omega
  · rw [d, hN, adL_new (ixL_no.mp a) b, List.length_append]
    have : [nmx T n (tp T n 0 i)].length = 1 := rfl
    omega
  · omega
theorem dcw (hX : w_X xs) (h : rQ T n N X f0 b0 b1 S0 u dp i I F PA S) (ip : ((i : Nat) : Int) ≤ tp T n 0 i) : wJ (pe_GA xs) wY0 M (d + 9) t_M_declares ((pe_at t_M_declares.bl 0).getD (0, [])).2 [(0, (2, 237))] [] S (fun o Z => (∃ F2 : List pz_F, o = .inl (some (0, vq T n N X i)) ∧ kq T n N X i = 5 ∧ pz_dc (kq T n N X) (vq T n N X) (tp T n 0) f0 i u I F = .inr (i + 1, I, F2, vq T n N X i) ∧ rQ T n N X f0 b0 b1 S0 u dp (i + 1) I F2 PA Z ∧ Z 237 60 = S 237 60 ∧ Z 237 61 = S 237 61) ∨ (∃ v : Int, o = .inr 238 ∧ pz_dc (kq T n N X) (vq T n N X) (tp T n 0) f0 i u I F = .inl v ∧ rFu T n N X f0 b0 b1 S0 v Z)) := by
  obtain ⟨t6, t7, t8, t9⟩ := rL_tk h.1
  have h7 := rL_7 h.1
  obtain ⟨m1, m2, m3⟩ := h.2.1.1
  have hpp := (rQ_pp h).2.1
  have htop := rQ_top h
  obtain ⟨hvl, hvb⟩ := rQ_vl h
  have hir := ixL_rg (NL T n N i) (nmx T n (tp T n 0 i))
  have hrg := vix_rg (pz_f f0 F u).2.2 (ixL (NL T n N i) (nmx T n (tp T n 0 i)))
  have hle : (tp T n 0 i) ≤ (lx_en T n 0 (tp T n 0 i)) := by
    obtain ⟨a1, a2, a3, a4, a5, a6, a7, -⟩ := h.1
    exact (lx_en_le (by rw [a2] at a6; exact a6.2)).1
  have ex : sl_ (S 239) (tp T n 0 i) ((lx_en T n 0 (tp T n 0 i)) - (tp T n 0 i)) = (nmx T n (tp T n 0 i)) := by unfold nmx; rw [h.1.1]
  have hnv : vq T n N X i = ((NL T n N i).length : Int) → vix (pz_f f0 F u).2.2 (vq T n N X i) = -1 := fun e => by
    rw [e]
    exact vix_no.mpr (fun q => by have := hvb _ q; omega)
  have hgn : nP (u - f0).toNat = 2000000 + 64 * (u - f0).toNat := rfl
  refine wa_aload_n (n := 0) rfl ?_
  refine wa_aload_n (n := 0) rfl ?_
  refine wa_cv 237 rfl (wy_pr rfl) wt_237 (M2 := fun _ => False) rfl at_M_isName ⟨_, rfl⟩ rfl rfl ⟨(Or.inr ⟨wy_pr rfl, fun q => q⟩), trivial⟩ ⟨(Or.inr ⟨wy_pr rfl, fun q => q⟩), trivial⟩ (fun _ _ q => False.elim q) (inw hX h) (fun oq101 Sq101 hp102 q101 => ?_)
  rcases q101 with ⟨rfl, ⟨rfl, hs⟩ | ⟨rfl, hs⟩⟩
  · skip
    show wJ _ _ _ _ _ _ _ _ _ _
    obtain ⟨k1, k2, k3⟩ := k56 hs
    have h30 := lx_nm30 k1
    refine wa_iconst ?_
    refine wa_cv 237 rfl (wy_pr rfl) wt_237 (M2 := fun _ => False) rfl at_M_must ⟨_, rfl⟩ rfl rfl ⟨(Or.inr ⟨wy_pr rfl, fun q => q⟩), trivial⟩ trivial (fun _ _ q => False.elim q) (must_ok (S := S) (g := 1) (n := 1) (by omega) ⟨by omega, by omega⟩) (fun oq103 Sq103 hp104 q103 => ?_)
    rcases q103 with ⟨hg, rfl, rfl⟩ | ⟨hg, rfl, rfl⟩
    · skip
      show wJ _ _ _ _ _ _ _ _ _ _
      refine wa_aload_n (n := 0) rfl ?_
      refine wa_aload_n (n := 0) rfl ?_
      refine wb_gf4 237 rfl (wy_pr rfl) wt_237 wf_15_2 (v := 239) wl_237_2 ?_
      refine wa_aload_n (n := 0) rfl ?_
      refine wb_gfi 237 rfl (wy_pr rfl) wt_237 wf_15_7 (v := (tp T n 0 i)) (t7) (fun r105 => ?_)
      refine wa_aload_n (n := 0) rfl ?_
      refine wb_gfi 237 rfl (wy_pr rfl) wt_237 wf_15_8 (v := (lx_en T n 0 (tp T n 0 i))) (t8) (fun r106 => ?_)
      refine wa_aload_n (n := 0) rfl ?_
      refine wb_gfi 237 rfl (wy_pr rfl) wt_237 wf_15_7 (v := (tp T n 0 i)) (t7) (fun r107 => ?_)
      refine wa_isub ?_
      refine wa_cv 237 rfl (wy_pr rfl) wt_237 (M2 := fun _ => False) rfl at_M_findName ⟨_, rfl⟩ rfl rfl ⟨(Or.inr ⟨wy_pr rfl, fun q => q⟩), trivial⟩ trivial (fun _ _ q => False.elim q) ((by have q := fnm (xs := xs) (M := fun _ => False) (d := d + 8) (p := (tp T n 0 i)) (m := (lx_en T n 0 (tp T n 0 i)) - (tp T n 0 i)) h.1.2.2.2.1 h.2.1.1 ⟨by omega, by omega⟩ ⟨by omega, by omega, by omega⟩; rw [ex] at q; exact q)) (fun oq108 Sq108 hp109 q108 => ?_)
      rcases q108 with ⟨rfl, rfl⟩
      show wJ _ _ _ _ _ _ _ _ _ _
      refine wa_istore_n (n := 1) rfl ?_
      refine wa_aload_n (n := 0) rfl ?_
      refine wa_iload_n (n := 1) rfl ?_
      refine wa_ifge (w_rg0 (by omega) (by omega)) ⟨_, rfl⟩ (fun c110 => ?_) (fun c110 => ?_)
      · skip
        refine wa_iconst ?_
        refine wa_goto ⟨_, rfl⟩ ?_
        refine wa_bipush (w_rg2 (by omega) (by omega)) ?_
        refine wa_cv 237 rfl (wy_pr rfl) wt_237 (M2 := fun _ => False) rfl at_M_must ⟨_, rfl⟩ rfl rfl ⟨trivial, (Or.inr ⟨wy_pr rfl, fun q => q⟩), trivial⟩ trivial (fun _ _ q => False.elim q) (must_ok (S := S) (g := 1) (n := 7) (by omega) ⟨by omega, by omega⟩) (fun oq111 Sq111 hp112 q111 => ?_)
        rcases q111 with ⟨hg, rfl, rfl⟩ | ⟨hg, rfl, rfl⟩
        · skip
          show wJ _ _ _ _ _ _ _ _ _ _
          refine wa_aload_n (n := 0) rfl ?_
          refine wb_gfi 237 rfl (wy_pr rfl) wt_237 wf_15_27 (v := (u - f0)) ((rQ_pp h).2.2.2.2.1) (fun r113 => ?_)
          refine wa_ifle (w_rg0 (by omega) (by omega)) ⟨_, rfl⟩ (fun c114 => ?_) (fun c114 => ?_)
          · skip
            refine wa_iconst ?_
            refine wa_fall ⟨_, rfl⟩ ?_
            refine wa_istore_n (n := 2) rfl ?_
            refine wa_aload_n (n := 0) rfl ?_
            refine wa_iload_n (n := 2) rfl ?_
            refine wa_ifeq (w_rg0 (by omega) (by omega)) ⟨_, rfl⟩ (fun c115 => ?_) (fun c115 => ?_)
            · skip
              refine wa_iconst ?_
              refine wa_goto ⟨_, rfl⟩ ?_
              refine wa_bipush (w_rg2 (by omega) (by omega)) ?_
              refine wa_cv 237 rfl (wy_pr rfl) wt_237 (M2 := fun _ => False) rfl at_M_must ⟨_, rfl⟩ rfl rfl ⟨trivial, trivial, (Or.inr ⟨wy_pr rfl, fun q => q⟩), trivial⟩ trivial (fun _ _ q => False.elim q) (must_ok (S := S) (g := 1) (n := 7) (by omega) ⟨by omega, by omega⟩) (fun oq116 Sq116 hp117 q116 => ?_)
              rcases q116 with ⟨hg, rfl, rfl⟩ | ⟨hg, rfl, rfl⟩
              · skip
                show wJ _ _ _ _ _ _ _ _ _ _
                refine wa_aload_n (n := 0) rfl ?_
                refine wa_cv 237 rfl (wy_pr rfl) wt_237 (M2 := fun _ => False) rfl at_M_takesName ⟨_, rfl⟩ rfl rfl ⟨trivial, trivial, (Or.inr ⟨wy_pr rfl, fun q => q⟩), trivial⟩ trivial (fun _ _ q => False.elim q) (tnw hX h ip) (fun oq118 Sq118 hp119 q118 => ?_)
                rcases q118 with ⟨rfl, hk5, hz, z60, z61⟩ | ⟨rfl, hk5, hz⟩ | ⟨rfl, hk5, hz⟩
                · skip
                  show wJ _ _ _ _ _ _ _ _ _ _
                  have hvr := vq_nn hk5
                  refine wa_istore_n (n := 1) rfl ?_
                  refine wa_iload_n (n := 2) rfl ?_
                  refine wa_ifeq (w_rg0 (by omega) (by omega)) ⟨_, rfl⟩ (fun c120 => ?_) (fun c120 => ?_)
                  · skip
                    refine wa_iload_n (n := 1) rfl ?_
                    refine wa_ireturn rfl ?_
                    refine Or.inl ⟨F, rfl, hk5, ?_, hz, z60, z61⟩
                    unfold pz_dc pz_fa
                    repeat first | rw [if_pos (by omega)] | rw [if_neg (by omega)]
                  · skip
                    exact absurd c120 (by omega)
                · skip
                  exfalso; omega
                · skip
                  exfalso; omega
              · skip
                exact absurd hg (by decide)
            · skip
              exact absurd c115 (by omega)
          · skip
            refine wa_iload_n (n := 1) rfl ?_
            refine wa_iflt (w_rg0 (by omega) (by omega)) ⟨_, rfl⟩ (fun c121 => ?_) (fun c121 => ?_)
            · skip
              exact absurd c121 (by omega)
            · skip
              refine wa_aload_n (n := 0) rfl ?_
              refine wb_gf5 237 rfl (wy_pr rfl) wt_237 wf_15_28 (v := (nP (u - f0).toNat : Int)) ((rQ_pp h).2.2.1) (fun r122 => ?_)
              refine wa_iload_n (n := 1) rfl ?_
              refine wa_cv (nP (u - f0).toNat) rfl (rQ_pp h).1 (wt_P0 (by omega)) (M2 := fun _ => False) rfl at_MP_find ⟨_, rfl⟩ rfl rfl ⟨trivial, (Or.inr ⟨wy_pr rfl, fun q => q⟩), trivial⟩ trivial (fun _ _ q => False.elim q) (fdw h ⟨by omega, by omega⟩) (fun oq123 Sq123 hp124 q123 => ?_)
              rcases q123 with ⟨rfl, rfl⟩
              show wJ _ _ _ _ _ _ _ _ _ _
              have hvq : vq T n N X i = (ixL (NL T n N i) (nmx T n (tp T n 0 i))) := by omega
              have hvx : vix (pz_f f0 F u).2.2 (vq T n N X i) = vix (pz_f f0 F u).2.2 (ixL (NL T n N i) (nmx T n (tp T n 0 i))) := by rw [hvq]
              refine wa_ifge (w_rg0 (by omega) (by omega)) ⟨_, rfl⟩ (fun c125 => ?_) (fun c125 => ?_)
              · skip
                refine wa_iconst ?_
                refine wa_fall ⟨_, rfl⟩ ?_
                refine wa_istore_n (n := 2) rfl ?_
                refine wa_aload_n (n := 0) rfl ?_
                refine wa_iload_n (n := 2) rfl ?_
                refine wa_ifeq (w_rg0 (by omega) (by omega)) ⟨_, rfl⟩ (fun c126 => ?_) (fun c126 => ?_)
                · skip
                  refine wa_iconst ?_
                  refine wa_goto ⟨_, rfl⟩ ?_
                  refine wa_bipush (w_rg2 (by omega) (by omega)) ?_
                  refine wa_cv 237 rfl (wy_pr rfl) wt_237 (M2 := fun _ => False) rfl at_M_must ⟨_, rfl⟩ rfl rfl ⟨trivial, trivial, (Or.inr ⟨wy_pr rfl, fun q => q⟩), trivial⟩ trivial (fun _ _ q => False.elim q) (must_ok (S := S) (g := 1) (n := 7) (by omega) ⟨by omega, by omega⟩) (fun oq127 Sq127 hp128 q127 => ?_)
                  rcases q127 with ⟨hg, rfl, rfl⟩ | ⟨hg, rfl, rfl⟩
                  · skip
                    show wJ _ _ _ _ _ _ _ _ _ _
                    refine wa_aload_n (n := 0) rfl ?_
                    refine wa_cv 237 rfl (wy_pr rfl) wt_237 (M2 := fun _ => False) rfl at_M_takesName ⟨_, rfl⟩ rfl rfl ⟨trivial, trivial, (Or.inr ⟨wy_pr rfl, fun q => q⟩), trivial⟩ trivial (fun _ _ q => False.elim q) (tnw hX h ip) (fun oq129 Sq129 hp130 q129 => ?_)
                    rcases q129 with ⟨rfl, hk5, hz, z60, z61⟩ | ⟨rfl, hk5, hz⟩ | ⟨rfl, hk5, hz⟩
                    · skip
                      show wJ _ _ _ _ _ _ _ _ _ _
                      have hvr := vq_nn hk5
                      refine wa_istore_n (n := 1) rfl ?_
                      refine wa_iload_n (n := 2) rfl ?_
                      refine wa_ifeq (w_rg0 (by omega) (by omega)) ⟨_, rfl⟩ (fun c131 => ?_) (fun c131 => ?_)
                      · skip
                        refine wa_iload_n (n := 1) rfl ?_
                        refine wa_ireturn rfl ?_
                        refine Or.inl ⟨F, rfl, hk5, ?_, hz, z60, z61⟩
                        unfold pz_dc pz_fa
                        repeat first | rw [if_pos (by omega)] | rw [if_neg (by omega)]
                      · skip
                        exact absurd c131 (by omega)
                    · skip
                      exfalso; omega
                    · skip
                      exfalso; omega
                  · skip
                    exact absurd hg (by decide)
                · skip
                  exact absurd c126 (by omega)
              · skip
                refine wa_fall ⟨_, rfl⟩ ?_
                refine wa_iconst ?_
                refine wa_goto ⟨_, rfl⟩ ?_
                refine wa_istore_n (n := 2) rfl ?_
                refine wa_aload_n (n := 0) rfl ?_
                refine wa_iload_n (n := 2) rfl ?_
                refine wa_ifeq (w_rg0 (by omega) (by omega)) ⟨_, rfl⟩ (fun c132 => ?_) (fun c132 => ?_)
                · skip
                  exact absurd c132 (by omega)
                · skip
                  refine wa_aload_n (n := 0) rfl ?_
                  refine wb_gf5 237 rfl (wy_pr rfl) wt_237 wf_15_28 (v := (nP (u - f0).toNat : Int)) ((rQ_pp h).2.2.1) (fun r133 => ?_)
                  refine wb_gfi (nP (u - f0).toNat) rfl (rQ_pp h).1 (wt_P0 (by omega)) wf_14_2 (v := ((pz_f f0 F u).2.2.length : Int)) ((rQ_pv h).1) (fun r134 => ?_)
                  refine wa_bipush (w_rg2 (by omega) (by omega)) ?_
                  refine wa_icmpge (w_rg0 (by omega) (by omega)) (w_rg0 (by omega) (by omega)) ⟨_, rfl⟩ (fun c135 => ?_) (fun c135 => ?_)
                  · skip
                    refine wa_iconst ?_
                    refine wa_fall ⟨_, rfl⟩ ?_
                    refine wa_bipush (w_rg2 (by omega) (by omega)) ?_
                    refine wa_cv 237 rfl (wy_pr rfl) wt_237 (M2 := fun _ => False) rfl at_M_must ⟨_, rfl⟩ rfl rfl ⟨trivial, trivial, (Or.inr ⟨wy_pr rfl, fun q => q⟩), trivial⟩ trivial (fun _ _ q => False.elim q) (must_ok (S := S) (g := 0) (n := 7) (by omega) ⟨by omega, by omega⟩) (fun oq136 Sq136 hp137 q136 => ?_)
                    rcases q136 with ⟨hg, rfl, rfl⟩ | ⟨hg, rfl, rfl⟩
                    · skip
                      exact absurd hg (by decide)
                    · skip
                      refine ⟨rfl, ?_⟩
                      refine Or.inr ⟨_, rfl, ?_, rFu_mk h ip⟩
                      unfold pz_dc pz_fa
                      first | (exfalso; omega) | skip
                      repeat first | rw [if_pos (by omega)] | rw [if_neg (by omega)]
                  · skip
                    refine wa_fall ⟨_, rfl⟩ ?_
                    refine wa_iconst ?_
                    refine wa_goto ⟨_, rfl⟩ ?_
                    refine wa_bipush (w_rg2 (by omega) (by omega)) ?_
                    refine wa_cv 237 rfl (wy_pr rfl) wt_237 (M2 := fun _ => False) rfl at_M_must ⟨_, rfl⟩ rfl rfl ⟨trivial, trivial, (Or.inr ⟨wy_pr rfl, fun q => q⟩), trivial⟩ trivial (fun _ _ q => False.elim q) (must_ok (S := S) (g := 1) (n := 7) (by omega) ⟨by omega, by omega⟩) (fun oq138 Sq138 hp139 q138 => ?_)
                    rcases q138 with ⟨hg, rfl, rfl⟩ | ⟨hg, rfl, rfl⟩
                    · skip
                      show wJ _ _ _ _ _ _ _ _ _ _
                      refine wa_aload_n (n := 0) rfl ?_
                      refine wa_cv 237 rfl (wy_pr rfl) wt_237 (M2 := fun _ => False) rfl at_M_takesName ⟨_, rfl⟩ rfl rfl ⟨trivial, trivial, (Or.inr ⟨wy_pr rfl, fun q => q⟩), trivial⟩ trivial (fun _ _ q => False.elim q) (tnw hX h ip) (fun oq140 Sq140 hp141 q140 => ?_)
                      rcases q140 with ⟨rfl, hk5, hz, z60, z61⟩ | ⟨rfl, hk5, hz⟩ | ⟨rfl, hk5, hz⟩
                      · skip
                        show wJ _ _ _ _ _ _ _ _ _ _
                        have hvr := vq_nn hk5
                        refine wa_istore_n (n := 1) rfl ?_
                        refine wa_iload_n (n := 2) rfl ?_
                        refine wa_ifeq (w_rg0 (by omega) (by omega)) ⟨_, rfl⟩ (fun c142 => ?_) (fun c142 => ?_)
                        · skip
                          exact absurd c142 (by omega)
                        · skip
                          refine wa_aload_n (n := 0) rfl ?_
                          refine wb_gf5 237 rfl (wy_pr rfl) wt_237 wf_15_28 (v := (nP (u - f0).toNat : Int)) ((rQ_pp hz).2.2.1) (fun r143 => ?_)
                          refine wb_gf7 (nP (u - f0).toNat) rfl (rQ_pp hz).1 (wt_P0 (by omega)) wf_14_3 (v := ((nP (u - f0).toNat + 1 : Nat) : Int)) ((rQ_pv hz).2.1) ?_
                          refine wa_aload_n (n := 0) rfl ?_
                          refine wb_gf5 237 rfl (wy_pr rfl) wt_237 wf_15_28 (v := (nP (u - f0).toNat : Int)) ((rQ_pp hz).2.2.1) (fun r144 => ?_)
                          refine wb_gfi (nP (u - f0).toNat) rfl (rQ_pp hz).1 (wt_P0 (by omega)) wf_14_2 (v := ((pz_f f0 F u).2.2.length : Int)) ((rQ_pv hz).1) (fun r145 => ?_)
                          refine wa_iload_n (n := 1) rfl ?_
                          refine wb_iast (nP (u - f0).toNat + 1) rfl (rQ_pv hz).2.2.1 (wt_P1 (by omega) (Or.inl rfl)) (n := 60) ((rQ_pv hz).2.2.2) (by omega) (by omega) ⟨(by omega), (by omega)⟩ ?_
                          refine wa_aload_n (n := 0) rfl ?_
                          refine wb_gf5 237 rfl (wy_pr rfl) wt_237 wf_15_28 (v := (nP (u - f0).toNat : Int)) ((w_up_slot (by omega)).trans ((rQ_pp hz).2.2.1)) (fun r146 => ?_)
                          refine wa_dup (by decide) ?_
                          refine wb_gfi (nP (u - f0).toNat) rfl ((w_up_pr (by omega)).mpr (rQ_pp hz).1) (wt_P0 (by omega)) wf_14_2 (v := ((pz_f f0 F u).2.2.length : Int)) ((w_up_slot (by omega)).trans ((rQ_pv hz).1)) (fun r147 => ?_)
                          refine wa_iconst ?_
                          refine wa_iadd ?_
                          refine wb_pfi (nP (u - f0).toNat) rfl ((w_up_pr (by omega)).mpr (rQ_pp hz).1) (wt_P0 (by omega)) wf_14_2 (n := 2) rfl ⟨(by omega), (by omega)⟩ ?_
                          refine wa_fall ⟨_, rfl⟩ ?_
                          refine wa_iload_n (n := 1) rfl ?_
                          refine wa_ireturn rfl ?_
                          have hq := rQ_v (k := (u - f0).toNat) (y := vq T n N X i) hz (by omega) (by omega) (show (pz_f f0 F u).2.2.length < 60 by omega) (show vix (pz_f f0 F u).2.2 (vq T n N X i) = -1 by omega) ⟨by omega, vq_lt hk5⟩
                          refine Or.inl ⟨_, rfl, hk5, ?_, hq, (w_up_slot (by omega)).trans ((w_up_slot (by omega)).trans z60), (w_up_slot (by omega)).trans ((w_up_slot (by omega)).trans z61)⟩
                          unfold pz_dc pz_fa
                          repeat first | rw [if_pos (by omega)] | rw [if_neg (by omega)]
                      · skip
                        exfalso; omega
                      · skip
                        exfalso; omega
                    · skip
                      exact absurd hg (by decide)
        · skip
          exact absurd hg (by decide)
      · skip
        refine wa_aload_n (n := 0) rfl ?_
        refine wb_gfi 237 rfl (wy_pr rfl) wt_237 wf_15_16 (v := ((NL T n N i).length : Int)) (m1) (fun r148 => ?_)
        refine wa_sipush (by omega) ?_
        refine wa_icmpge (w_rg0 (by omega) (by omega)) (w_rg0 (by omega) (by omega)) ⟨_, rfl⟩ (fun c149 => ?_) (fun c149 => ?_)
        · skip
          refine wa_iconst ?_
          refine wa_fall ⟨_, rfl⟩ ?_
          refine wa_bipush (w_rg2 (by omega) (by omega)) ?_
          refine wa_cv 237 rfl (wy_pr rfl) wt_237 (M2 := fun _ => False) rfl at_M_must ⟨_, rfl⟩ rfl rfl ⟨trivial, (Or.inr ⟨wy_pr rfl, fun q => q⟩), trivial⟩ trivial (fun _ _ q => False.elim q) (must_ok (S := S) (g := 0) (n := 7) (by omega) ⟨by omega, by omega⟩) (fun oq150 Sq150 hp151 q150 => ?_)
          rcases q150 with ⟨hg, rfl, rfl⟩ | ⟨hg, rfl, rfl⟩
          · skip
            exact absurd hg (by decide)
          · skip
            refine ⟨rfl, ?_⟩
            refine Or.inr ⟨_, rfl, ?_, rFu_mk h ip⟩
            unfold pz_dc pz_fa
            first | (exfalso; omega) | skip
            repeat first | rw [if_pos (by omega)] | rw [if_neg (by omega)]
        · skip
          refine wa_fall ⟨_, rfl⟩ ?_
          refine wa_iconst ?_
          refine wa_goto ⟨_, rfl⟩ ?_
          refine wa_bipush (w_rg2 (by omega) (by omega)) ?_
          refine wa_cv 237 rfl (wy_pr rfl) wt_237 (M2 := fun _ => False) rfl at_M_must ⟨_, rfl⟩ rfl rfl ⟨trivial, (Or.inr ⟨wy_pr rfl, fun q => q⟩), trivial⟩ trivial (fun _ _ q => False.elim q) (must_ok (S := S) (g := 1) (n := 7) (by omega) ⟨by omega, by omega⟩) (fun oq152 Sq152 hp153 q152 => ?_)
          rcases q152 with ⟨hg, rfl, rfl⟩ | ⟨hg, rfl, rfl⟩
          · skip
            show wJ _ _ _ _ _ _ _ _ _ _
            refine wa_aload_n (n := 0) rfl ?_
            refine wb_gfi 237 rfl (wy_pr rfl) wt_237 wf_15_27 (v := (u - f0)) ((rQ_pp h).2.2.2.2.1) (fun r154 => ?_)
            refine wa_ifle (w_rg0 (by omega) (by omega)) ⟨_, rfl⟩ (fun c155 => ?_) (fun c155 => ?_)
            · skip
              refine wa_iconst ?_
              refine wa_fall ⟨_, rfl⟩ ?_
              refine wa_istore_n (n := 2) rfl ?_
              refine wa_aload_n (n := 0) rfl ?_
              refine wa_iload_n (n := 2) rfl ?_
              refine wa_ifeq (w_rg0 (by omega) (by omega)) ⟨_, rfl⟩ (fun c156 => ?_) (fun c156 => ?_)
              · skip
                refine wa_iconst ?_
                refine wa_goto ⟨_, rfl⟩ ?_
                refine wa_bipush (w_rg2 (by omega) (by omega)) ?_
                refine wa_cv 237 rfl (wy_pr rfl) wt_237 (M2 := fun _ => False) rfl at_M_must ⟨_, rfl⟩ rfl rfl ⟨trivial, trivial, (Or.inr ⟨wy_pr rfl, fun q => q⟩), trivial⟩ trivial (fun _ _ q => False.elim q) (must_ok (S := S) (g := 1) (n := 7) (by omega) ⟨by omega, by omega⟩) (fun oq157 Sq157 hp158 q157 => ?_)
                rcases q157 with ⟨hg, rfl, rfl⟩ | ⟨hg, rfl, rfl⟩
                · skip
                  show wJ _ _ _ _ _ _ _ _ _ _
                  refine wa_aload_n (n := 0) rfl ?_
                  refine wa_cv 237 rfl (wy_pr rfl) wt_237 (M2 := fun _ => False) rfl at_M_takesName ⟨_, rfl⟩ rfl rfl ⟨trivial, trivial, (Or.inr ⟨wy_pr rfl, fun q => q⟩), trivial⟩ trivial (fun _ _ q => False.elim q) (tnw hX h ip) (fun oq159 Sq159 hp160 q159 => ?_)
                  rcases q159 with ⟨rfl, hk5, hz, z60, z61⟩ | ⟨rfl, hk5, hz⟩ | ⟨rfl, hk5, hz⟩
                  · skip
                    show wJ _ _ _ _ _ _ _ _ _ _
                    have hvr := vq_nn hk5
                    refine wa_istore_n (n := 1) rfl ?_
                    refine wa_iload_n (n := 2) rfl ?_
                    refine wa_ifeq (w_rg0 (by omega) (by omega)) ⟨_, rfl⟩ (fun c161 => ?_) (fun c161 => ?_)
                    · skip
                      refine wa_iload_n (n := 1) rfl ?_
                      refine wa_ireturn rfl ?_
                      refine Or.inl ⟨F, rfl, hk5, ?_, hz, z60, z61⟩
                      unfold pz_dc pz_fa
                      repeat first | rw [if_pos (by omega)] | rw [if_neg (by omega)]
                    · skip
                      exact absurd c161 (by omega)
                  · skip
                    exfalso; omega
                  · skip
                    exfalso; omega
                · skip
                  exact absurd hg (by decide)
              · skip
                exact absurd c156 (by omega)
            · skip
              refine wa_iload_n (n := 1) rfl ?_
              refine wa_iflt (w_rg0 (by omega) (by omega)) ⟨_, rfl⟩ (fun c162 => ?_) (fun c162 => ?_)
              · skip
                refine wa_iconst ?_
                refine wa_goto ⟨_, rfl⟩ ?_
                refine wa_istore_n (n := 2) rfl ?_
                refine wa_aload_n (n := 0) rfl ?_
                refine wa_iload_n (n := 2) rfl ?_
                refine wa_ifeq (w_rg0 (by omega) (by omega)) ⟨_, rfl⟩ (fun c163 => ?_) (fun c163 => ?_)
                · skip
                  exact absurd c163 (by omega)
                · skip
                  refine wa_aload_n (n := 0) rfl ?_
                  refine wb_gf5 237 rfl (wy_pr rfl) wt_237 wf_15_28 (v := (nP (u - f0).toNat : Int)) ((rQ_pp h).2.2.1) (fun r164 => ?_)
                  refine wb_gfi (nP (u - f0).toNat) rfl (rQ_pp h).1 (wt_P0 (by omega)) wf_14_2 (v := ((pz_f f0 F u).2.2.length : Int)) ((rQ_pv h).1) (fun r165 => ?_)
                  refine wa_bipush (w_rg2 (by omega) (by omega)) ?_
                  refine wa_icmpge (w_rg0 (by omega) (by omega)) (w_rg0 (by omega) (by omega)) ⟨_, rfl⟩ (fun c166 => ?_) (fun c166 => ?_)
                  · skip
                    refine wa_iconst ?_
                    refine wa_fall ⟨_, rfl⟩ ?_
                    refine wa_bipush (w_rg2 (by omega) (by omega)) ?_
                    refine wa_cv 237 rfl (wy_pr rfl) wt_237 (M2 := fun _ => False) rfl at_M_must ⟨_, rfl⟩ rfl rfl ⟨trivial, trivial, (Or.inr ⟨wy_pr rfl, fun q => q⟩), trivial⟩ trivial (fun _ _ q => False.elim q) (must_ok (S := S) (g := 0) (n := 7) (by omega) ⟨by omega, by omega⟩) (fun oq167 Sq167 hp168 q167 => ?_)
                    rcases q167 with ⟨hg, rfl, rfl⟩ | ⟨hg, rfl, rfl⟩
                    · skip
                      exact absurd hg (by decide)
                    · skip
                      refine ⟨rfl, ?_⟩
                      refine Or.inr ⟨_, rfl, ?_, rFu_mk h ip⟩
                      unfold pz_dc pz_fa
                      first | (exfalso; omega) | skip
                      repeat first | rw [if_pos (by omega)] | rw [if_neg (by omega)]
                  · skip
                    refine wa_fall ⟨_, rfl⟩ ?_
                    refine wa_iconst ?_
                    refine wa_goto ⟨_, rfl⟩ ?_
                    refine wa_bipush (w_rg2 (by omega) (by omega)) ?_
                    refine wa_cv 237 rfl (wy_pr rfl) wt_237 (M2 := fun _ => False) rfl at_M_must ⟨_, rfl⟩ rfl rfl ⟨trivial, trivial, (Or.inr ⟨wy_pr rfl, fun q => q⟩), trivial⟩ trivial (fun _ _ q => False.elim q) (must_ok (S := S) (g := 1) (n := 7) (by omega) ⟨by omega, by omega⟩) (fun oq169 Sq169 hp170 q169 => ?_)
                    rcases q169 with ⟨hg, rfl, rfl⟩ | ⟨hg, rfl, rfl⟩
                    · skip
                      show wJ _ _ _ _ _ _ _ _ _ _
                      refine wa_aload_n (n := 0) rfl ?_
                      refine wa_cv 237 rfl (wy_pr rfl) wt_237 (M2 := fun _ => False) rfl at_M_takesName ⟨_, rfl⟩ rfl rfl ⟨trivial, trivial, (Or.inr ⟨wy_pr rfl, fun q => q⟩), trivial⟩ trivial (fun _ _ q => False.elim q) (tnw hX h ip) (fun oq171 Sq171 hp172 q171 => ?_)
                      rcases q171 with ⟨rfl, hk5, hz, z60, z61⟩ | ⟨rfl, hk5, hz⟩ | ⟨rfl, hk5, hz⟩
                      · skip
                        show wJ _ _ _ _ _ _ _ _ _ _
                        have hvr := vq_nn hk5
                        refine wa_istore_n (n := 1) rfl ?_
                        refine wa_iload_n (n := 2) rfl ?_
                        refine wa_ifeq (w_rg0 (by omega) (by omega)) ⟨_, rfl⟩ (fun c173 => ?_) (fun c173 => ?_)
                        · skip
                          exact absurd c173 (by omega)
                        · skip
                          refine wa_aload_n (n := 0) rfl ?_
                          refine wb_gf5 237 rfl (wy_pr rfl) wt_237 wf_15_28 (v := (nP (u - f0).toNat : Int)) ((rQ_pp hz).2.2.1) (fun r174 => ?_)
                          refine wb_gf7 (nP (u - f0).toNat) rfl (rQ_pp hz).1 (wt_P0 (by omega)) wf_14_3 (v := ((nP (u - f0).toNat + 1 : Nat) : Int)) ((rQ_pv hz).2.1) ?_
                          refine wa_aload_n (n := 0) rfl ?_
                          refine wb_gf5 237 rfl (wy_pr rfl) wt_237 wf_15_28 (v := (nP (u - f0).toNat : Int)) ((rQ_pp hz).2.2.1) (fun r175 => ?_)
                          refine wb_gfi (nP (u - f0).toNat) rfl (rQ_pp hz).1 (wt_P0 (by omega)) wf_14_2 (v := ((pz_f f0 F u).2.2.length : Int)) ((rQ_pv hz).1) (fun r176 => ?_)
                          refine wa_iload_n (n := 1) rfl ?_
                          refine wb_iast (nP (u - f0).toNat + 1) rfl (rQ_pv hz).2.2.1 (wt_P1 (by omega) (Or.inl rfl)) (n := 60) ((rQ_pv hz).2.2.2) (by omega) (by omega) ⟨(by omega), (by omega)⟩ ?_
                          refine wa_aload_n (n := 0) rfl ?_
                          refine wb_gf5 237 rfl (wy_pr rfl) wt_237 wf_15_28 (v := (nP (u - f0).toNat : Int)) ((w_up_slot (by omega)).trans ((rQ_pp hz).2.2.1)) (fun r177 => ?_)
                          refine wa_dup (by decide) ?_
                          refine wb_gfi (nP (u - f0).toNat) rfl ((w_up_pr (by omega)).mpr (rQ_pp hz).1) (wt_P0 (by omega)) wf_14_2 (v := ((pz_f f0 F u).2.2.length : Int)) ((w_up_slot (by omega)).trans ((rQ_pv hz).1)) (fun r178 => ?_)
                          refine wa_iconst ?_
                          refine wa_iadd ?_
                          refine wb_pfi (nP (u - f0).toNat) rfl ((w_up_pr (by omega)).mpr (rQ_pp hz).1) (wt_P0 (by omega)) wf_14_2 (n := 2) rfl ⟨(by omega), (by omega)⟩ ?_
                          refine wa_fall ⟨_, rfl⟩ ?_
                          refine wa_iload_n (n := 1) rfl ?_
                          refine wa_ireturn rfl ?_
                          have hq := rQ_v (k := (u - f0).toNat) (y := vq T n N X i) hz (by omega) (by omega) (show (pz_f f0 F u).2.2.length < 60 by omega) (show vix (pz_f f0 F u).2.2 (vq T n N X i) = -1 by omega) ⟨by omega, vq_lt hk5⟩
                          refine Or.inl ⟨_, rfl, hk5, ?_, hq, (w_up_slot (by omega)).trans ((w_up_slot (by omega)).trans z60), (w_up_slot (by omega)).trans ((w_up_slot (by omega)).trans z61)⟩
                          unfold pz_dc pz_fa
                          repeat first | rw [if_pos (by omega)] | rw [if_neg (by omega)]
                      · skip
                        exfalso; omega
                      · skip
                        exfalso; omega
                    · skip
                      exact absurd hg (by decide)
              · skip
                exact absurd c162 (by omega)
          · skip
            exact absurd hg (by decide)
    · skip
      exact absurd hg (by decide)
  · skip
    show wJ _ _ _ _ _ _ _ _ _ _
    refine wa_iconst ?_
    refine wa_cv 237 rfl (wy_pr rfl) wt_237 (M2 := fun _ => False) rfl at_M_must ⟨_, rfl⟩ rfl rfl ⟨(Or.inr ⟨wy_pr rfl, fun q => q⟩), trivial⟩ trivial (fun _ _ q => False.elim q) (must_ok (S := S) (g := 0) (n := 1) (by omega) ⟨by omega, by omega⟩) (fun oq179 Sq179 hp180 q179 => ?_)
    rcases q179 with ⟨hg, rfl, rfl⟩ | ⟨hg, rfl, rfl⟩
    · skip
      exact absurd hg (by decide)
    · skip
      refine ⟨rfl, ?_⟩
      refine Or.inr ⟨_, rfl, ?_, rFu_mk h ip⟩
      unfold pz_dc pz_fa
      first | (exfalso; omega) | skip
      repeat first | rw [if_pos (by omega)] | rw [if_neg (by omega)]
end Wc4
