/-! PART ht: the class: callMember for constructors. -/
section Wht
variable {xs : List (Nat × List Int32)} {M : Nat → Prop} {d : Nat} {S Z A B C : wS} {T : Int → Int} {cs : List hCR} {ms : List hMR} {os : Int → List Int}
theorem co_fr {g st k : Int} {nf : Nat} {ty pt : Nat → Int} {es : List (Int × Int)} (h : coR g st k nf ty pt es S Z) (hg : 0 ≤ g) (hst : 0 ≤ st) : (Z 158 16 = 7 ∧ Z 158 17 = g) ∧ (∀ (j : Nat) (i : Int), j < 4000000 → j ≠ wG → (j < 127 ∨ 136 < j) → j ≠ 141 → j ≠ 142 → j ≠ 72 → j ≠ 140 → j ≠ 150 → (j ≠ 158 ∨ (i ≠ 16 ∧ i ≠ 17)) → Z j i = S j i) ∧ (w_CL S → w_CL Z) ∧ gI Z ∧ rmR S Z := by
  have hwg : wG = 1000000 := rfl
  obtain ⟨B, C, D, E, b1, c1, d1, e1, rfl⟩ := h
  have f0 : ∀ (j : Nat) (i : Int), ((j ≠ 141 ∧ j ≠ 142) ∨ i < st ∨ st + (nf : Int) ≤ i) → (j ≠ 158 ∨ (i ≠ 16 ∧ i ≠ 17)) → (w_up (w_up E 158 16 7) 158 17 g) j i = C j i := fun j i a b => (w_up_no (by omega)).trans ((w_up_no (by omega)).trans ((e1.2 j i a).trans (d1.2 j i a)))
  have f1 : ∀ (j : Nat) (i : Int), j < 4000000 → j ≠ wG → (j < 127 ∨ 136 < j) → j ≠ 141 → j ≠ 142 → j ≠ 72 → j ≠ 140 → j ≠ 150 → C j i = S j i := fun j i a1 a2 a3 a4 a5 a6 a7 a8 => (c1.2.2.2.2.2.1 j i a1 a2 a4 a5 (Or.inl (by omega)) (Or.inl a8)).trans (b1.2.2.2.2.2.2.2.1 j i a1 a2 a3 a4 a5 (Or.inl a6) (Or.inl a7) (Or.inl a8))
  refine ⟨⟨(w_up_no (by omega)).trans (w_up_same _ _ _ _), w_up_same _ _ _ _⟩, fun j i a1 a2 a3 a4 a5 a6 a7 a8 a9 => (f0 j i (Or.inl ⟨a4, a5⟩) a9).trans (f1 j i a1 a2 a3 a4 a5 a6 a7 a8), fun hC => ?_, gI_ag c1.2.2.2.2.2.2.1 (fun j hj => funext fun i => f0 j i (by omega) (by omega)), rmR_ag (rmR_tr b1.2.2.2.2.2.2.2.2.2 c1.2.2.2.2.2.2.2) (fun j _ => f0 j (-1) (by omega) (by omega)) (f0 wG 0 (by omega) (by omega)) (f0 wG 1 (by omega) (by omega))⟩
  exact fun q hq => (f0 q.1 (-1) (by omega) (by omega)).trans (CL_cv (CL_at hC b1) hg c1 q hq)
set_option maxHeartbeats 4000000 in
theorem cmk_73_215 {c p h kd ba m en tn ky vy k g st u0 v0 : Int} (hP : xP 215 c p h S) (l4 : S 158 4 = 215) (l5 : S 158 5 = 216) (l7 : S 158 7 = kd) (l8 : S 158 8 = ba) (l12 : S 158 12 = en) (hen : 0 ≤ en ∧ en ≤ 1000) (hba : 0 ≤ ba ∧ ba < h) (h72 : S 72 1 = 73) (hm : 0 ≤ m ∧ m < 400) (hso : S 98 m = 2) (ht15 : S 72 15 = tn) (ht0 : 0 ≤ tn ∧ tn ≤ S 152 (-1) ∧ tn ≤ 100000) (ht9 : 16 ≤ S 152 (-1) ∧ S 152 (-1) ≤ 131072 ∨ (16 ≤ S 152 (-1) ∧ S 152 (-1) ≤ 262143 ∧ tn + 2 ≤ S 152 (-1))) (hky : S 217 (h - 1) = ky) (hvy : S 218 (h - 1) = vy) (hkr : -128 ≤ ky ∧ ky ≤ 127) (hvr : -9223372036854775808 ≤ vy ∧ vy ≤ 9223372036854775807) {nf : Nat} {fd ty : Nat → Int} {es : List (Int × Int)} (hx1 : pe_at (pe_GA xs).xs 1 = some (1, tx_1)) (hK : KC 87 97 93 114 115 74 73 T cs ms os S) (hw : wHo cs ms os) (hel : en = (es.length : Int)) (heb : ba + 1 + en ≤ h) (hm2 : m < (ms.length : Int)) (hpn : 0 < es.length → 1 ≤ (hmR ms m).2.2.2.2.1.length) (hes : ∀ i : Nat, i < es.length → S 217 (ba + 1 + (i : Int)) = (es.getD i (0, 0)).1 ∧ S 218 (ba + 1 + (i : Int)) = (es.getD i (0, 0)).2) (hev : ∀ i : Nat, i < es.length → (-128 ≤ (es.getD i (0, 0)).1 ∧ (es.getD i (0, 0)).1 ≤ 127) ∧ (-9223372036854775808 ≤ (es.getD i (0, 0)).2 ∧ (es.getD i (0, 0)).2 ≤ 9223372036854775807)) (hl : S 142 (-1) = S 141 (-1)) (hz : 16 ≤ S 141 (-1) ∧ S 141 (-1) ≤ 480400) (h2 : S 140 2 = st) (hst : 0 ≤ st ∧ st ≤ S 141 (-1) ∧ st ≤ 4 * v0) (hfd : ∀ i : Nat, i < nf → 0 ≤ fd i ∧ fd i < 400) (hft : ∀ i : Nat, i < nf → S 100 (fd i) = ty i) (hfb : ∀ i : Nat, i + 1 < nf → S 113 (fd (i + 1)) = fd i) (hnf : nf ≤ 1000) (hth : ∀ x : Nat, x < 10 → S (127 + x) (-1) = S 127 (-1)) (hn : S 72 3 = g) (hn1 : 0 ≤ g ∧ g ≤ S 127 (-1) ∧ g ≤ 8000) (hn2 : 64 ≤ S 127 (-1) ∧ S 127 (-1) ≤ 16383) (hu0 : S 150 0 = u0) (hu1 : 0 ≤ u0 ∧ u0 ≤ 8000) (hv : S 150 1 = v0) (hv0 : 0 ≤ v0 ∧ v0 ≤ 60000) (hk : S 97 m = k) (hk1 : 0 ≤ k ∧ k < 60) (hkn : S 94 k = (nf : Int)) (hla : 0 < nf → S 95 k = fd (nf - 1)) : wJ (pe_GA xs) wY0 (mS [217, 218, 152, 127, 128, 129, 130, 131, 132, 133, 134, 135, 136, 141, 142]) (d + 7) t_XL_callMember ((pe_at t_XL_callMember.bl 0).getD (0, [])).2 [(0, (2, 158)), (1, (0, m))] [] S (fun o Z => o = .inl none ∧ (((100000 < tn + 2 ∨ 8000 < u0 + 1 ∨ 60000 < v0 + (nf : Int)) ∧ w_up S 215 16 99 = Z) ∨ (¬ ((100000 < tn + 2 ∨ 8000 < u0 + 1 ∨ 60000 < v0 + (nf : Int))) ∧ cmE 215 h c p (h - ba) kd ky vy 7 g m en (fun A B => ∃ X Y : wS, gvR A X ∧ coR g st k nf ty (fun i => prT (hmR ms m) i) es X Y ∧ gvR Y B) S Z))) := by
  obtain ⟨⟨hC, hI⟩, ⟨bc, bc0, bc1⟩, ⟨bp, bp0, bp1⟩, ⟨bh, bh0, bh1, bh2⟩, bl1, bl2, bl3⟩ := hP
  replace bp : S 220 (c - 1) = p := bp
  replace bh : S 216 2 = h := bh
  replace bh2 : h ≤ S 217 (-1) := bh2
  replace bl1 : S 218 (-1) = S 217 (-1) := bl1
  replace bl2 : 64 ≤ S 217 (-1) := bl2
  replace bl3 : S 217 (-1) ≤ 4095 := bl3
  refine wa_aload_n (n := 0) rfl ?_
  refine wb_gf4 158 rfl (wy_pr rfl) wt_158 wf_5_0 (v := 72) wl_158_0 ?_
  refine wb_gf5 72 rfl (wy_pr rfl) wt_72 wf_2_1 (v := 73) (h72) (fun r1 => ?_)
  refine wa_astore_n (n := 2) rfl ?_
  refine wa_aload_n (n := 2) rfl ?_
  refine wb_gf4 73 rfl (wy_pr rfl) wt_73 wf_3_3 (v := 96) wl_73_3 ?_
  refine wa_iconst ?_
  refine wb_aald5 96 1 rfl rfl (wy_pr rfl) wt_96 (by rw [show _ = _ from ((cl_96 hC))]; omega) wl_96_1 ?_
  refine wa_iload_n (n := 1) rfl ?_
  refine wb_iald 98 rfl (wy_pr rfl) wt_98 (n := 400) ((cl_98 hC)) (by omega) (by omega) (v := 2) (hso) (fun r2 => ?_)
  refine wa_iconst ?_
  refine wa_icmpne (w_rg0 (by omega) (by omega)) (w_rg0 (by omega) (by omega)) ⟨_, rfl⟩ (fun c3 => ?_) (fun c3 => ?_)
  · skip
    exact absurd c3 (by omega)
  · skip
    refine wa_iconst ?_
    refine wa_goto ⟨_, rfl⟩ ?_
    refine wa_istore_n (n := 3) rfl ?_
    refine wa_iload_n (n := 3) rfl ?_
    refine wa_ifne (w_rg0 (by omega) (by omega)) ⟨_, rfl⟩ (fun c4 => ?_) (fun c4 => ?_)
    · skip
      refine wa_iconst ?_
      refine wa_fall ⟨_, rfl⟩ ?_
      refine wa_istore (n := 4) rfl ?_
      refine wa_iload_n (n := 3) rfl ?_
      refine wa_ifeq (w_rg0 (by omega) (by omega)) ⟨_, rfl⟩ (fun c5 => ?_) (fun c5 => ?_)
      · skip
        exact absurd c5 (by omega)
      · skip
        refine wa_aload_n (n := 2) rfl ?_
        refine wb_gf4 73 rfl (wy_pr rfl) wt_73 wf_3_1 (v := 86) wl_73_1 ?_
        refine wa_bipush (w_rg2 (by omega) (by omega)) ?_
        refine wb_aald5 86 7 rfl rfl (wy_pr rfl) wt_86 (by rw [show _ = _ from ((cl_86 hC))]; omega) wl_86_7 ?_
        refine wa_aload_n (n := 2) rfl ?_
        refine wb_gf4 73 rfl (wy_pr rfl) wt_73 wf_3_3 (v := 96) wl_73_3 ?_
        refine wa_iconst ?_
        refine wb_aald5 96 0 rfl rfl (wy_pr rfl) wt_96 (by rw [show _ = _ from ((cl_96 hC))]; omega) wl_96_0 ?_
        refine wa_iload_n (n := 1) rfl ?_
        refine wb_iald 97 rfl (wy_pr rfl) wt_97 (n := 400) ((cl_97 hC)) (by omega) (by omega) (v := k) (hk) (fun r6 => ?_)
        refine wb_iald 94 rfl (wy_pr rfl) wt_94 (n := 60) ((cl_94 hC)) (by omega) (by omega) (v := (nf : Int)) (hkn) (fun r7 => ?_)
        refine wa_goto ⟨_, rfl⟩ ?_
        refine wa_istore (n := 5) rfl ?_
        refine wa_aload_n (n := 0) rfl ?_
        refine wb_gf4 158 rfl (wy_pr rfl) wt_158 wf_5_0 (v := 72) wl_158_0 ?_
        refine wb_gfi 72 rfl (wy_pr rfl) wt_72 wf_2_15 (v := tn) (ht15) (fun r8 => ?_)
        refine wa_iconst ?_
        refine wa_iadd ?_
        refine wb_ki (n := 100000) rfl ?_
        refine wa_icmpgt (w_rg0 (by omega) (by omega)) (w_rg0 (by omega) (by omega)) ⟨_, rfl⟩ (fun c9 => ?_) (fun c9 => ?_)
        · skip
          refine wa_aload_n (n := 0) rfl ?_
          refine wb_gf5 158 rfl (wy_pr rfl) wt_158 wf_5_4 (v := 215) (l4) (fun r10 => ?_)
          refine wa_bipush (w_rg2 (by omega) (by omega)) ?_
          refine wb_pfi 215 rfl (wy_pr rfl) wt_215 wf_8_16 (n := 16) rfl ⟨(by omega), (by omega)⟩ ?_
          refine wa_return rfl ?_
          exact ⟨rfl, Or.inl ⟨by omega, rfl⟩⟩
        · skip
          refine wa_iload_n (n := 3) rfl ?_
          refine wa_ifeq (w_rg0 (by omega) (by omega)) ⟨_, rfl⟩ (fun c11 => ?_) (fun c11 => ?_)
          · skip
            exact absurd c11 (by omega)
          · skip
            refine wa_aload_n (n := 0) rfl ?_
            refine wb_gf4 158 rfl (wy_pr rfl) wt_158 wf_5_0 (v := 72) wl_158_0 ?_
            refine wa_iconst ?_
            refine wa_iconst ?_
            refine wa_cv 72 rfl (wy_pr rfl) wt_72 (M2 := mS [217, 218, 152, 127, 128, 129, 130, 131, 132, 133, 134, 135, 136, 141, 142]) rfl at_XH_hasRoom ⟨_, rfl⟩ rfl rfl ⟨trivial, trivial, trivial, (Or.inr ⟨wy_pr rfl, mS_no rfl⟩), (Or.inr ⟨wy_pr rfl, mS_no rfl⟩), trivial, trivial⟩ trivial (fun _ _ q => q) ?_ (fun _ _ _ q => q)
            refine wa_aload_n (n := 0) rfl ?_
            refine wb_gf4 72 rfl (wy_pr rfl) wt_72 wf_2_10 (v := 150) wl_72_10 ?_
            refine wa_iload_n (n := 1) rfl ?_
            refine wb_iald 150 rfl (wy_pr rfl) wt_150 (n := 6) ((cl_150 hC)) (by omega) (by omega) (v := u0) (hu0) (fun r12 => ?_)
            refine wa_iload_n (n := 2) rfl ?_
            refine wa_iadd ?_
            refine wa_gs ?_
            refine wa_iload_n (n := 1) rfl ?_
            refine wb_xald 1 rfl hx1 (by decide) (by omega) (by decide) (v := 8000) (by decide) (fun r13 => ?_)
            refine wa_icmpgt (w_rg0 (by omega) (by omega)) (w_rg0 (by omega) (by omega)) ⟨_, rfl⟩ (fun c14 => ?_) (fun c14 => ?_)
            · skip
              refine wa_iconst ?_
              refine wa_fall ⟨_, rfl⟩ ?_
              refine wa_zreturn rfl (Or.inl rfl) ?_
              show wJ _ _ _ _ _ _ _ _ _ _
              refine wa_ifeq (w_rg0 (by omega) (by omega)) ⟨_, rfl⟩ (fun c15 => ?_) (fun c15 => ?_)
              · skip
                refine wa_aload_n (n := 0) rfl ?_
                refine wb_gf5 158 rfl (wy_pr rfl) wt_158 wf_5_4 (v := 215) (l4) (fun r16 => ?_)
                refine wa_bipush (w_rg2 (by omega) (by omega)) ?_
                refine wb_pfi 215 rfl (wy_pr rfl) wt_215 wf_8_16 (n := 16) rfl ⟨(by omega), (by omega)⟩ ?_
                refine wa_return rfl ?_
                exact ⟨rfl, Or.inl ⟨by omega, rfl⟩⟩
              · skip
                exact absurd c15 (by omega)
            · skip
              refine wa_iconst ?_
              refine wa_goto ⟨_, rfl⟩ ?_
              refine wa_zreturn rfl (Or.inr rfl) ?_
              show wJ _ _ _ _ _ _ _ _ _ _
              refine wa_ifeq (w_rg0 (by omega) (by omega)) ⟨_, rfl⟩ (fun c17 => ?_) (fun c17 => ?_)
              · skip
                exact absurd c17 (by omega)
              · skip
                refine wa_aload_n (n := 0) rfl ?_
                refine wb_gf4 158 rfl (wy_pr rfl) wt_158 wf_5_0 (v := 72) wl_158_0 ?_
                refine wa_iconst ?_
                refine wa_iload (n := 5) rfl ?_
                refine wa_cv 72 rfl (wy_pr rfl) wt_72 (M2 := mS [217, 218, 152, 127, 128, 129, 130, 131, 132, 133, 134, 135, 136, 141, 142]) rfl at_XH_hasRoom ⟨_, rfl⟩ rfl rfl ⟨trivial, trivial, trivial, (Or.inr ⟨wy_pr rfl, mS_no rfl⟩), (Or.inr ⟨wy_pr rfl, mS_no rfl⟩), trivial, trivial⟩ trivial (fun _ _ q => q) ?_ (fun _ _ _ q => q)
                refine wa_aload_n (n := 0) rfl ?_
                refine wb_gf4 72 rfl (wy_pr rfl) wt_72 wf_2_10 (v := 150) wl_72_10 ?_
                refine wa_iload_n (n := 1) rfl ?_
                refine wb_iald 150 rfl (wy_pr rfl) wt_150 (n := 6) ((cl_150 hC)) (by omega) (by omega) (v := v0) (hv) (fun r18 => ?_)
                refine wa_iload_n (n := 2) rfl ?_
                refine wa_iadd ?_
                refine wa_gs ?_
                refine wa_iload_n (n := 1) rfl ?_
                refine wb_xald 1 rfl hx1 (by decide) (by omega) (by decide) (v := 60000) (by decide) (fun r19 => ?_)
                refine wa_icmpgt (w_rg0 (by omega) (by omega)) (w_rg0 (by omega) (by omega)) ⟨_, rfl⟩ (fun c20 => ?_) (fun c20 => ?_)
                · skip
                  refine wa_iconst ?_
                  refine wa_fall ⟨_, rfl⟩ ?_
                  refine wa_zreturn rfl (Or.inl rfl) ?_
                  show wJ _ _ _ _ _ _ _ _ _ _
                  refine wa_ifeq (w_rg0 (by omega) (by omega)) ⟨_, rfl⟩ (fun c21 => ?_) (fun c21 => ?_)
                  · skip
                    refine wa_aload_n (n := 0) rfl ?_
                    refine wb_gf5 158 rfl (wy_pr rfl) wt_158 wf_5_4 (v := 215) (l4) (fun r22 => ?_)
                    refine wa_bipush (w_rg2 (by omega) (by omega)) ?_
                    refine wb_pfi 215 rfl (wy_pr rfl) wt_215 wf_8_16 (n := 16) rfl ⟨(by omega), (by omega)⟩ ?_
                    refine wa_return rfl ?_
                    exact ⟨rfl, Or.inl ⟨by omega, rfl⟩⟩
                  · skip
                    exact absurd c21 (by omega)
                · skip
                  refine wa_iconst ?_
                  refine wa_goto ⟨_, rfl⟩ ?_
                  refine wa_zreturn rfl (Or.inr rfl) ?_
                  show wJ _ _ _ _ _ _ _ _ _ _
                  refine wa_ifeq (w_rg0 (by omega) (by omega)) ⟨_, rfl⟩ (fun c23 => ?_) (fun c23 => ?_)
                  · skip
                    exact absurd c23 (by omega)
                  · skip
                    refine wa_fall ⟨_, rfl⟩ ?_
                    refine wa_iload (n := 4) rfl ?_
                    refine wa_ifeq (w_rg0 (by omega) (by omega)) ⟨_, rfl⟩ (fun c24 => ?_) (fun c24 => ?_)
                    · skip
                      refine wa_aload_n (n := 0) rfl ?_
                      refine wb_gf4 158 rfl (wy_pr rfl) wt_158 wf_5_0 (v := 72) wl_158_0 ?_
                      refine wa_iload_n (n := 1) rfl ?_
                      refine wa_aload_n (n := 0) rfl ?_
                      refine wb_gfi 158 rfl (wy_pr rfl) wt_158 wf_5_12 (v := en) (l12) (fun r25 => ?_)
                      refine wa_cv 72 rfl (wy_pr rfl) wt_72 (M2 := mS [152]) rfl at_XH_addTrace ⟨_, rfl⟩ rfl rfl ⟨trivial, trivial, trivial, (Or.inr ⟨wy_pr rfl, mS_no rfl⟩), (Or.inr ⟨wy_pr rfl, mS_no rfl⟩), trivial, trivial⟩ trivial (fun _ _ q => mS_sub (by decide) q) (tra (S := S) (m := m) (k := en) hI ⟨by omega, by omega⟩ ⟨by omega, by omega⟩ (by rw [ht15]; exact ht0) (by rw [ht15]; exact ht9)) (fun oq26 Sq26 hp27 q26 => ?_)
                      rcases q26 with ⟨rfl, tr26⟩
                      show wJ _ _ _ _ _ _ _ _ _ _
                      refine wa_aload_n (n := 0) rfl ?_
                      refine wa_iconst ?_
                      refine wb_pfi 158 rfl (wy_pr rfl) wt_158 wf_5_16 (n := 16) rfl ⟨(by omega), (by omega)⟩ ?_
                      refine wa_aload_n (n := 0) rfl ?_
                      refine wb_lconst (m := 0) rfl ?_
                      refine wb_pfl 158 rfl (wy_pr rfl) wt_158 wf_5_17 (n := 17) rfl ⟨(by omega), (by omega)⟩ ?_
                      refine wa_iload_n (n := 3) rfl ?_
                      refine wa_ifeq (w_rg0 (by omega) (by omega)) ⟨_, rfl⟩ (fun c28 => ?_) (fun c28 => ?_)
                      · skip
                        exact absurd c28 (by omega)
                      · skip
                        refine wa_aload_n (n := 0) rfl ?_
                        refine wa_iload_n (n := 1) rfl ?_
                        have hf2 : ∀ (j : Nat) (i : Int), j < 4000000 → j ≠ wG → j ≠ 152 → j ≠ 72 → j ≠ 158 → (w_up (w_up Sq26 158 16 0) 158 17 0) j i = S j i := fun j i a b c d e => (w_up_no (fun z => e z.1)).trans ((w_up_no (fun z => e z.1)).trans (tr26.2.2.2.1 j i a b c (Or.inl d)))
                        have hwg : wG = 1000000 := rfl
                        have hK2 : KC 87 97 93 114 115 74 73 T cs ms os (w_up (w_up Sq26 158 16 0) 158 17 0) := KC_ag hK (hf2 73 _ (by first | decide | omega) (by first | decide | omega) (by first | decide | omega) (by first | decide | omega) (by first | decide | omega)) (hf2 73 _ (by first | decide | omega) (by first | decide | omega) (by first | decide | omega) (by first | decide | omega) (by first | decide | omega)) (fun j hj => funext fun i => hf2 j i (by omega) (by omega) (by omega) (by omega) (by omega))
                        have e1 : (w_up (w_up Sq26 158 16 0) 158 17 0) 217 (-1) = S 217 (-1) := (hf2 217 _ (by first | decide | omega) (by first | decide | omega) (by first | decide | omega) (by first | decide | omega) (by first | decide | omega))
                        have e2 : (w_up (w_up Sq26 158 16 0) 158 17 0) 218 (-1) = S 218 (-1) := (hf2 218 _ (by first | decide | omega) (by first | decide | omega) (by first | decide | omega) (by first | decide | omega) (by first | decide | omega))
                        have e3 : (w_up (w_up Sq26 158 16 0) 158 17 0) 141 (-1) = S 141 (-1) := (hf2 141 _ (by first | decide | omega) (by first | decide | omega) (by first | decide | omega) (by first | decide | omega) (by first | decide | omega))
                        have e4 : (w_up (w_up Sq26 158 16 0) 158 17 0) 142 (-1) = S 142 (-1) := (hf2 142 _ (by first | decide | omega) (by first | decide | omega) (by first | decide | omega) (by first | decide | omega) (by first | decide | omega))
                        have e5 : (w_up (w_up Sq26 158 16 0) 158 17 0) 127 (-1) = S 127 (-1) := (hf2 127 _ (by first | decide | omega) (by first | decide | omega) (by first | decide | omega) (by first | decide | omega) (by first | decide | omega))
                        have hth2 : ∀ x : Nat, x < 10 → (w_up (w_up Sq26 158 16 0) 158 17 0) (127 + x) (-1) = (w_up (w_up Sq26 158 16 0) 158 17 0) 127 (-1) := fun x hx => by rw [hf2 (127 + x) (-1) (by omega) (by omega) (by omega) (by omega) (by omega), e5]; exact hth x hx
                        refine wa_cv 158 rfl (wy_pr rfl) wt_158 (M2 := mS [127, 128, 129, 130, 131, 132, 133, 134, 135, 136, 141, 142]) rfl at_XL_construct ⟨_, rfl⟩ rfl rfl ⟨trivial, trivial, trivial, (Or.inr ⟨wy_pr rfl, mS_no rfl⟩), (Or.inr ⟨wy_pr rfl, mS_no rfl⟩), trivial, trivial⟩ trivial (fun _ _ q => mS_sub (by decide) q) (con_73_215 (S := (w_up (w_up Sq26 158 16 0) 158 17 0)) (m := m) (k := k) (g := g) (st := st) (ba := ba) (u0 := u0) (v0 := v0) (nf := nf) (fd := fd) (ty := ty) (es := es) (w_CL_up (w_CL_up (CL_tr hC tr26) (by omega)) (by omega)) (gI_up (gI_up tr26.2.2.2.2.2.1 (by omega) (by omega) (by omega)) (by omega) (by omega) (by omega)) hK2 hw ((w_up_slot (by decide)).trans ((w_up_slot (by decide)).trans (((tr26.2.2.2.1 72 1 (by decide) (by decide) (by decide) (Or.inr (by decide))).trans (h72))))) ((w_up_at (by decide)).trans ((w_up_at (by decide)).trans (((tr26.2.2.2.1 158 5 (by decide) (by decide) (by decide) (Or.inl (by decide))).trans (l5))))) ((w_up_at (by decide)).trans ((w_up_at (by decide)).trans (((tr26.2.2.2.1 158 8 (by decide) (by decide) (by decide) (Or.inl (by decide))).trans (l8))))) (((w_up_at (by decide)).trans ((w_up_at (by decide)).trans (((tr26.2.2.2.1 158 12 (by decide) (by decide) (by decide) (Or.inl (by decide))).trans (l12))))).trans hel) ⟨hm.1, hm2⟩ hpn (by omega) (by rw [e1, e2]; exact bl1) (by rw [e1]; exact ⟨by omega, by omega, bl3⟩) (fun i hi => ⟨(hf2 217 _ (by decide) (by decide) (by decide) (by decide) (by decide)).trans (hes i hi).1, (hf2 218 _ (by decide) (by decide) (by decide) (by decide) (by decide)).trans (hes i hi).2⟩) hev (by rw [e3, e4]; exact hl) (by rw [e3]; exact hz) ((hf2 140 _ (by decide) (by decide) (by decide) (by decide) (by decide)).trans h2) (by rw [e3]; exact ⟨hst.1, hst.2.1, by omega⟩) hfd (fun i hi => (hf2 100 _ (by decide) (by decide) (by decide) (by decide) (by decide)).trans (hft i hi)) (fun i hi => (hf2 113 _ (by decide) (by decide) (by decide) (by decide) (by decide)).trans (hfb i hi)) hnf hth2 ((w_up_slot (by decide)).trans ((w_up_slot (by decide)).trans (((tr26.2.2.2.1 72 3 (by decide) (by decide) (by decide) (Or.inr (by decide))).trans (hn))))) (by rw [e5]; exact hn1) (by rw [e5]; exact hn2) ((hf2 150 _ (by decide) (by decide) (by decide) (by decide) (by decide)).trans hu0) hu1 ((hf2 150 _ (by decide) (by decide) (by decide) (by decide) (by decide)).trans hv) ⟨by omega, by omega⟩ ((hf2 97 _ (by decide) (by decide) (by decide) (by decide) (by decide)).trans hk) hk1 ((hf2 94 _ (by decide) (by decide) (by decide) (by decide) (by decide)).trans hkn) (fun z => (hf2 95 _ (by decide) (by decide) (by decide) (by decide) (by decide)).trans (hla z))) (fun oq29 Sq29 hp30 q29 => ?_)
                        rcases q29 with ⟨rfl, co29⟩
                        show wJ _ _ _ _ _ _ _ _ _ _
                        have co29f := co_fr co29 hn1.1 hst.1
                        refine wa_goto ⟨_, rfl⟩ ?_
                        refine wa_aload_n (n := 0) rfl ?_
                        refine wb_gfi 158 rfl (wy_pr rfl) wt_158 wf_5_7 (v := kd) (((co29f.2.1 158 7 (by decide) (by decide) (by decide) (by decide) (by decide) (by decide) (by decide) (by decide) (Or.inr (by decide))).trans ((w_up_at (by decide)).trans ((w_up_at (by decide)).trans (((tr26.2.2.2.1 158 7 (by decide) (by decide) (by decide) (Or.inl (by decide))).trans (l7))))))) (fun r31 => ?_)
                        refine wa_iconst ?_
                        refine wa_icmpne (w_rg0 (by omega) (by omega)) (w_rg0 (by omega) (by omega)) ⟨_, rfl⟩ (fun c32 => ?_) (fun c32 => ?_)
                        · skip
                          refine wa_aload_n (n := 0) rfl ?_
                          refine wa_aload_n (n := 0) rfl ?_
                          refine wb_gfi 158 rfl (wy_pr rfl) wt_158 wf_5_16 (v := 7) (co29f.1.1) (fun r33 => ?_)
                          refine wa_aload_n (n := 0) rfl ?_
                          refine wb_gfl 158 rfl (wy_pr rfl) wt_158 wf_5_17 (v := g) (co29f.1.2) (fun r34 => ?_)
                          refine wa_cv 158 rfl (wy_pr rfl) wt_158 (M2 := mS [217, 218]) rfl at_XL_giveValue ⟨_, rfl⟩ rfl rfl ⟨trivial, trivial, trivial, (Or.inr ⟨wy_pr rfl, mS_no rfl⟩), (Or.inr ⟨wy_pr rfl, mS_no rfl⟩), trivial, trivial⟩ trivial (fun _ _ q => mS_sub (by decide) q) (glx_215 (S := Sq29) (k := 7) (v := g) (h := h) (c := c) (p := p) (ba := ba) (co29f.2.2.1 (w_CL_up (w_CL_up (CL_tr hC tr26) (by omega)) (by omega))) co29f.2.2.2.1 (((co29f.2.1 158 4 (by decide) (by decide) (by decide) (by decide) (by decide) (by decide) (by decide) (by decide) (Or.inr (by decide))).trans ((w_up_at (by decide)).trans ((w_up_at (by decide)).trans (((tr26.2.2.2.1 158 4 (by decide) (by decide) (by decide) (Or.inl (by decide))).trans (l4))))))) (((co29f.2.1 158 5 (by decide) (by decide) (by decide) (by decide) (by decide) (by decide) (by decide) (by decide) (Or.inr (by decide))).trans ((w_up_at (by decide)).trans ((w_up_at (by decide)).trans (((tr26.2.2.2.1 158 5 (by decide) (by decide) (by decide) (Or.inl (by decide))).trans (l5))))))) (((co29f.2.1 158 8 (by decide) (by decide) (by decide) (by decide) (by decide) (by decide) (by decide) (by decide) (Or.inr (by decide))).trans ((w_up_at (by decide)).trans ((w_up_at (by decide)).trans (((tr26.2.2.2.1 158 8 (by decide) (by decide) (by decide) (Or.inl (by decide))).trans (l8))))))) (((co29f.2.1 215 4 (by decide) (by decide) (by decide) (by decide) (by decide) (by decide) (by decide) (by decide) (Or.inl (by decide))).trans ((w_up_slot (by decide)).trans ((w_up_slot (by decide)).trans (((tr26.2.2.2.1 215 4 (by decide) (by decide) (by decide) (Or.inl (by decide))).trans (bc))))))) (((co29f.2.1 220 (c - 1) (by decide) (by decide) (by decide) (by decide) (by decide) (by decide) (by decide) (by decide) (Or.inl (by decide))).trans ((w_up_slot (by decide)).trans ((w_up_slot (by decide)).trans (((tr26.2.2.2.1 220 (c - 1) (by decide) (by decide) (by decide) (Or.inl (by decide))).trans (bp))))))) (((((co29f.2.1 218 (-1) (by decide) (by decide) (by decide) (by decide) (by decide) (by decide) (by decide) (by decide) (Or.inl (by decide))).trans ((w_up_slot (by decide)).trans ((w_up_slot (by decide)).trans (((tr26.2.2.2.1 218 (-1) (by decide) (by decide) (by decide) (Or.inl (by decide))).trans (bl1)))))))).trans ((((co29f.2.1 217 (-1) (by decide) (by decide) (by decide) (by decide) (by decide) (by decide) (by decide) (by decide) (Or.inl (by decide))).trans ((w_up_slot (by decide)).trans ((w_up_slot (by decide)).trans (((tr26.2.2.2.1 217 (-1) (by decide) (by decide) (by decide) (Or.inl (by decide))).trans (rfl)))))))).symm) (by have e : Sq29 217 (-1) = S 217 (-1) := (((co29f.2.1 217 (-1) (by decide) (by decide) (by decide) (by decide) (by decide) (by decide) (by decide) (by decide) (Or.inl (by decide))).trans ((w_up_slot (by decide)).trans ((w_up_slot (by decide)).trans (((tr26.2.2.2.1 217 (-1) (by decide) (by decide) (by decide) (Or.inl (by decide))).trans (rfl))))))); rw [e]; exact ⟨bl2, bl3⟩) (by have e : Sq29 217 (-1) = S 217 (-1) := (((co29f.2.1 217 (-1) (by decide) (by decide) (by decide) (by decide) (by decide) (by decide) (by decide) (by decide) (Or.inl (by decide))).trans ((w_up_slot (by decide)).trans ((w_up_slot (by decide)).trans (((tr26.2.2.2.1 217 (-1) (by decide) (by decide) (by decide) (Or.inl (by decide))).trans (rfl))))))); omega) ⟨by omega, by omega⟩ ⟨by omega, by omega⟩ ⟨by omega, by omega⟩ ⟨by omega, by omega⟩) (fun oq35 Sq35 hp36 q35 => ?_)
                          rcases q35 with ⟨rfl, hgv35⟩
                          show wJ _ _ _ _ _ _ _ _ _ _
                          refine wa_return rfl ?_
                          refine ⟨rfl, Or.inr ⟨by omega, Sq26, Sq29, tr26, ?_, ?_⟩⟩
                          · exact ⟨_, _, fun j i hji => (w_up_no (by omega)).trans ((w_up_no (by omega)).trans (rfl)), co29, fun j i hji => rfl⟩
                          · first | (rw [if_pos (show kd = 1 by omega), if_pos (show kd = 1 by omega)]; exact hgv35) | (rw [if_neg (show ¬ kd = 1 by omega), if_neg (show ¬ kd = 1 by omega)]; exact hgv35)
                        · skip
                          refine wa_aload_n (n := 0) rfl ?_
                          refine wa_aload_n (n := 0) rfl ?_
                          refine wb_gf5 158 rfl (wy_pr rfl) wt_158 wf_5_5 (v := 216) (((co29f.2.1 158 5 (by decide) (by decide) (by decide) (by decide) (by decide) (by decide) (by decide) (by decide) (Or.inr (by decide))).trans ((w_up_at (by decide)).trans ((w_up_at (by decide)).trans (((tr26.2.2.2.1 158 5 (by decide) (by decide) (by decide) (Or.inl (by decide))).trans (l5))))))) (fun r37 => ?_)
                          refine wb_gf4 216 rfl (wy_pr rfl) wt_216 wf_7_0 (v := 217) wl_216_0 ?_
                          refine wa_aload_n (n := 0) rfl ?_
                          refine wb_gf5 158 rfl (wy_pr rfl) wt_158 wf_5_5 (v := 216) (((co29f.2.1 158 5 (by decide) (by decide) (by decide) (by decide) (by decide) (by decide) (by decide) (by decide) (Or.inr (by decide))).trans ((w_up_at (by decide)).trans ((w_up_at (by decide)).trans (((tr26.2.2.2.1 158 5 (by decide) (by decide) (by decide) (Or.inl (by decide))).trans (l5))))))) (fun r38 => ?_)
                          refine wb_gfi 216 rfl (wy_pr rfl) wt_216 wf_7_2 (v := h) (((co29f.2.1 216 2 (by decide) (by decide) (by decide) (by decide) (by decide) (by decide) (by decide) (by decide) (Or.inl (by decide))).trans ((w_up_slot (by decide)).trans ((w_up_slot (by decide)).trans (((tr26.2.2.2.1 216 2 (by decide) (by decide) (by decide) (Or.inl (by decide))).trans (bh))))))) (fun r39 => ?_)
                          refine wa_iconst ?_
                          refine wa_isub ?_
                          refine wb_bald 217 rfl (wy_pr rfl) wt_217 (n := (S 217 (-1))) (((co29f.2.1 217 (-1) (by decide) (by decide) (by decide) (by decide) (by decide) (by decide) (by decide) (by decide) (Or.inl (by decide))).trans ((w_up_slot (by decide)).trans ((w_up_slot (by decide)).trans (((tr26.2.2.2.1 217 (-1) (by decide) (by decide) (by decide) (Or.inl (by decide))).trans (rfl))))))) (by omega) (by omega) (v := ky) (((co29f.2.1 217 (h - 1) (by decide) (by decide) (by decide) (by decide) (by decide) (by decide) (by decide) (by decide) (Or.inl (by decide))).trans ((w_up_slot (by decide)).trans ((w_up_slot (by decide)).trans (((tr26.2.2.2.1 217 (h - 1) (by decide) (by decide) (by decide) (Or.inl (by decide))).trans (hky))))))) (fun r40 => ?_)
                          refine wb_pfi 158 rfl (wy_pr rfl) wt_158 wf_5_16 (n := 16) rfl ⟨(by omega), (by omega)⟩ ?_
                          refine wa_aload_n (n := 0) rfl ?_
                          refine wa_aload_n (n := 0) rfl ?_
                          refine wb_gf5 158 rfl (wy_pr rfl) wt_158 wf_5_5 (v := 216) ((w_up_at (by decide)).trans (((co29f.2.1 158 5 (by decide) (by decide) (by decide) (by decide) (by decide) (by decide) (by decide) (by decide) (Or.inr (by decide))).trans ((w_up_at (by decide)).trans ((w_up_at (by decide)).trans (((tr26.2.2.2.1 158 5 (by decide) (by decide) (by decide) (Or.inl (by decide))).trans (l5)))))))) (fun r41 => ?_)
                          refine wb_gf4 216 rfl (wy_pr rfl) wt_216 wf_7_1 (v := 218) wl_216_1 ?_
                          refine wa_aload_n (n := 0) rfl ?_
                          refine wb_gf5 158 rfl (wy_pr rfl) wt_158 wf_5_5 (v := 216) ((w_up_at (by decide)).trans (((co29f.2.1 158 5 (by decide) (by decide) (by decide) (by decide) (by decide) (by decide) (by decide) (by decide) (Or.inr (by decide))).trans ((w_up_at (by decide)).trans ((w_up_at (by decide)).trans (((tr26.2.2.2.1 158 5 (by decide) (by decide) (by decide) (Or.inl (by decide))).trans (l5)))))))) (fun r42 => ?_)
                          refine wb_gfi 216 rfl (wy_pr rfl) wt_216 wf_7_2 (v := h) ((w_up_slot (by decide)).trans (((co29f.2.1 216 2 (by decide) (by decide) (by decide) (by decide) (by decide) (by decide) (by decide) (by decide) (Or.inl (by decide))).trans ((w_up_slot (by decide)).trans ((w_up_slot (by decide)).trans (((tr26.2.2.2.1 216 2 (by decide) (by decide) (by decide) (Or.inl (by decide))).trans (bh)))))))) (fun r43 => ?_)
                          refine wa_iconst ?_
                          refine wa_isub ?_
                          refine wb_lald 218 rfl (wy_pr rfl) wt_218 (n := (S 217 (-1))) ((w_up_slot (by decide)).trans (((co29f.2.1 218 (-1) (by decide) (by decide) (by decide) (by decide) (by decide) (by decide) (by decide) (by decide) (Or.inl (by decide))).trans ((w_up_slot (by decide)).trans ((w_up_slot (by decide)).trans (((tr26.2.2.2.1 218 (-1) (by decide) (by decide) (by decide) (Or.inl (by decide))).trans (bl1)))))))) (by omega) (by omega) (v := vy) ((w_up_slot (by decide)).trans (((co29f.2.1 218 (h - 1) (by decide) (by decide) (by decide) (by decide) (by decide) (by decide) (by decide) (by decide) (Or.inl (by decide))).trans ((w_up_slot (by decide)).trans ((w_up_slot (by decide)).trans (((tr26.2.2.2.1 218 (h - 1) (by decide) (by decide) (by decide) (Or.inl (by decide))).trans (hvy)))))))) (fun r44 => ?_)
                          refine wb_pfl 158 rfl (wy_pr rfl) wt_158 wf_5_17 (n := 17) rfl ⟨(by omega), (by omega)⟩ ?_
                          refine wa_fall ⟨_, rfl⟩ ?_
                          refine wa_aload_n (n := 0) rfl ?_
                          refine wa_aload_n (n := 0) rfl ?_
                          refine wb_gfi 158 rfl (wy_pr rfl) wt_158 wf_5_16 (v := ky) ((w_up_at (by decide)).trans (w_up_same _ _ _ _)) (fun r45 => ?_)
                          refine wa_aload_n (n := 0) rfl ?_
                          refine wb_gfl 158 rfl (wy_pr rfl) wt_158 wf_5_17 (v := vy) (w_up_same _ _ _ _) (fun r46 => ?_)
                          refine wa_cv 158 rfl (wy_pr rfl) wt_158 (M2 := mS [217, 218]) rfl at_XL_giveValue ⟨_, rfl⟩ rfl rfl ⟨trivial, trivial, trivial, (Or.inr ⟨wy_pr rfl, mS_no rfl⟩), (Or.inr ⟨wy_pr rfl, mS_no rfl⟩), trivial, trivial⟩ trivial (fun _ _ q => mS_sub (by decide) q) (glx_215 (S := (w_up (w_up Sq29 158 16 ky) 158 17 vy)) (k := ky) (v := vy) (h := h) (c := c) (p := p) (ba := ba) (w_CL_up (w_CL_up (co29f.2.2.1 (w_CL_up (w_CL_up (CL_tr hC tr26) (by omega)) (by omega))) (by omega)) (by omega)) (gI_up (gI_up co29f.2.2.2.1 (by omega) (by omega) (by omega)) (by omega) (by omega) (by omega)) ((w_up_at (by decide)).trans ((w_up_at (by decide)).trans (((co29f.2.1 158 4 (by decide) (by decide) (by decide) (by decide) (by decide) (by decide) (by decide) (by decide) (Or.inr (by decide))).trans ((w_up_at (by decide)).trans ((w_up_at (by decide)).trans (((tr26.2.2.2.1 158 4 (by decide) (by decide) (by decide) (Or.inl (by decide))).trans (l4))))))))) ((w_up_at (by decide)).trans ((w_up_at (by decide)).trans (((co29f.2.1 158 5 (by decide) (by decide) (by decide) (by decide) (by decide) (by decide) (by decide) (by decide) (Or.inr (by decide))).trans ((w_up_at (by decide)).trans ((w_up_at (by decide)).trans (((tr26.2.2.2.1 158 5 (by decide) (by decide) (by decide) (Or.inl (by decide))).trans (l5))))))))) ((w_up_at (by decide)).trans ((w_up_at (by decide)).trans (((co29f.2.1 158 8 (by decide) (by decide) (by decide) (by decide) (by decide) (by decide) (by decide) (by decide) (Or.inr (by decide))).trans ((w_up_at (by decide)).trans ((w_up_at (by decide)).trans (((tr26.2.2.2.1 158 8 (by decide) (by decide) (by decide) (Or.inl (by decide))).trans (l8))))))))) ((w_up_slot (by decide)).trans ((w_up_slot (by decide)).trans (((co29f.2.1 215 4 (by decide) (by decide) (by decide) (by decide) (by decide) (by decide) (by decide) (by decide) (Or.inl (by decide))).trans ((w_up_slot (by decide)).trans ((w_up_slot (by decide)).trans (((tr26.2.2.2.1 215 4 (by decide) (by decide) (by decide) (Or.inl (by decide))).trans (bc))))))))) ((w_up_slot (by decide)).trans ((w_up_slot (by decide)).trans (((co29f.2.1 220 (c - 1) (by decide) (by decide) (by decide) (by decide) (by decide) (by decide) (by decide) (by decide) (Or.inl (by decide))).trans ((w_up_slot (by decide)).trans ((w_up_slot (by decide)).trans (((tr26.2.2.2.1 220 (c - 1) (by decide) (by decide) (by decide) (Or.inl (by decide))).trans (bp))))))))) ((((w_up_slot (by decide)).trans ((w_up_slot (by decide)).trans (((co29f.2.1 218 (-1) (by decide) (by decide) (by decide) (by decide) (by decide) (by decide) (by decide) (by decide) (Or.inl (by decide))).trans ((w_up_slot (by decide)).trans ((w_up_slot (by decide)).trans (((tr26.2.2.2.1 218 (-1) (by decide) (by decide) (by decide) (Or.inl (by decide))).trans (bl1)))))))))).trans (((w_up_slot (by decide)).trans ((w_up_slot (by decide)).trans (((co29f.2.1 217 (-1) (by decide) (by decide) (by decide) (by decide) (by decide) (by decide) (by decide) (by decide) (Or.inl (by decide))).trans ((w_up_slot (by decide)).trans ((w_up_slot (by decide)).trans (((tr26.2.2.2.1 217 (-1) (by decide) (by decide) (by decide) (Or.inl (by decide))).trans (rfl)))))))))).symm) (by have e : (w_up (w_up Sq29 158 16 ky) 158 17 vy) 217 (-1) = S 217 (-1) := ((w_up_slot (by decide)).trans ((w_up_slot (by decide)).trans (((co29f.2.1 217 (-1) (by decide) (by decide) (by decide) (by decide) (by decide) (by decide) (by decide) (by decide) (Or.inl (by decide))).trans ((w_up_slot (by decide)).trans ((w_up_slot (by decide)).trans (((tr26.2.2.2.1 217 (-1) (by decide) (by decide) (by decide) (Or.inl (by decide))).trans (rfl))))))))); rw [e]; exact ⟨bl2, bl3⟩) (by have e : (w_up (w_up Sq29 158 16 ky) 158 17 vy) 217 (-1) = S 217 (-1) := ((w_up_slot (by decide)).trans ((w_up_slot (by decide)).trans (((co29f.2.1 217 (-1) (by decide) (by decide) (by decide) (by decide) (by decide) (by decide) (by decide) (by decide) (Or.inl (by decide))).trans ((w_up_slot (by decide)).trans ((w_up_slot (by decide)).trans (((tr26.2.2.2.1 217 (-1) (by decide) (by decide) (by decide) (Or.inl (by decide))).trans (rfl))))))))); omega) ⟨by omega, by omega⟩ ⟨by omega, by omega⟩ ⟨by omega, by omega⟩ ⟨by omega, by omega⟩) (fun oq47 Sq47 hp48 q47 => ?_)
                          rcases q47 with ⟨rfl, hgv47⟩
                          show wJ _ _ _ _ _ _ _ _ _ _
                          refine wa_return rfl ?_
                          refine ⟨rfl, Or.inr ⟨by omega, Sq26, (w_up (w_up Sq29 158 16 ky) 158 17 vy), tr26, ?_, ?_⟩⟩
                          · exact ⟨_, _, fun j i hji => (w_up_no (by omega)).trans ((w_up_no (by omega)).trans (rfl)), co29, fun j i hji => (w_up_no (by omega)).trans ((w_up_no (by omega)).trans (rfl))⟩
                          · first | (rw [if_pos (show kd = 1 by omega), if_pos (show kd = 1 by omega)]; exact hgv47) | (rw [if_neg (show ¬ kd = 1 by omega), if_neg (show ¬ kd = 1 by omega)]; exact hgv47)
                    · skip
                      exact absurd c24 (by omega)
    · skip
      exact absurd c4 (by omega)
set_option maxHeartbeats 4000000 in
theorem cmk_73_226 {c p h kd ba m en tn ky vy k g st u0 v0 : Int} (hP : xP 226 c p h S) (l4 : S 158 4 = 226) (l5 : S 158 5 = 227) (l7 : S 158 7 = kd) (l8 : S 158 8 = ba) (l12 : S 158 12 = en) (hen : 0 ≤ en ∧ en ≤ 1000) (hba : 0 ≤ ba ∧ ba < h) (h72 : S 72 1 = 73) (hm : 0 ≤ m ∧ m < 400) (hso : S 98 m = 2) (ht15 : S 72 15 = tn) (ht0 : 0 ≤ tn ∧ tn ≤ S 152 (-1) ∧ tn ≤ 100000) (ht9 : 16 ≤ S 152 (-1) ∧ S 152 (-1) ≤ 131072 ∨ (16 ≤ S 152 (-1) ∧ S 152 (-1) ≤ 262143 ∧ tn + 2 ≤ S 152 (-1))) (hky : S 228 (h - 1) = ky) (hvy : S 229 (h - 1) = vy) (hkr : -128 ≤ ky ∧ ky ≤ 127) (hvr : -9223372036854775808 ≤ vy ∧ vy ≤ 9223372036854775807) {nf : Nat} {fd ty : Nat → Int} {es : List (Int × Int)} (hx1 : pe_at (pe_GA xs).xs 1 = some (1, tx_1)) (hK : KC 87 97 93 114 115 74 73 T cs ms os S) (hw : wHo cs ms os) (hel : en = (es.length : Int)) (heb : ba + 1 + en ≤ h) (hm2 : m < (ms.length : Int)) (hpn : 0 < es.length → 1 ≤ (hmR ms m).2.2.2.2.1.length) (hes : ∀ i : Nat, i < es.length → S 228 (ba + 1 + (i : Int)) = (es.getD i (0, 0)).1 ∧ S 229 (ba + 1 + (i : Int)) = (es.getD i (0, 0)).2) (hev : ∀ i : Nat, i < es.length → (-128 ≤ (es.getD i (0, 0)).1 ∧ (es.getD i (0, 0)).1 ≤ 127) ∧ (-9223372036854775808 ≤ (es.getD i (0, 0)).2 ∧ (es.getD i (0, 0)).2 ≤ 9223372036854775807)) (hl : S 142 (-1) = S 141 (-1)) (hz : 16 ≤ S 141 (-1) ∧ S 141 (-1) ≤ 480400) (h2 : S 140 2 = st) (hst : 0 ≤ st ∧ st ≤ S 141 (-1) ∧ st ≤ 4 * v0) (hfd : ∀ i : Nat, i < nf → 0 ≤ fd i ∧ fd i < 400) (hft : ∀ i : Nat, i < nf → S 100 (fd i) = ty i) (hfb : ∀ i : Nat, i + 1 < nf → S 113 (fd (i + 1)) = fd i) (hnf : nf ≤ 1000) (hth : ∀ x : Nat, x < 10 → S (127 + x) (-1) = S 127 (-1)) (hn : S 72 3 = g) (hn1 : 0 ≤ g ∧ g ≤ S 127 (-1) ∧ g ≤ 8000) (hn2 : 64 ≤ S 127 (-1) ∧ S 127 (-1) ≤ 16383) (hu0 : S 150 0 = u0) (hu1 : 0 ≤ u0 ∧ u0 ≤ 8000) (hv : S 150 1 = v0) (hv0 : 0 ≤ v0 ∧ v0 ≤ 60000) (hk : S 97 m = k) (hk1 : 0 ≤ k ∧ k < 60) (hkn : S 94 k = (nf : Int)) (hla : 0 < nf → S 95 k = fd (nf - 1)) : wJ (pe_GA xs) wY0 (mS [228, 229, 152, 127, 128, 129, 130, 131, 132, 133, 134, 135, 136, 141, 142]) (d + 7) t_XL_callMember ((pe_at t_XL_callMember.bl 0).getD (0, [])).2 [(0, (2, 158)), (1, (0, m))] [] S (fun o Z => o = .inl none ∧ (((100000 < tn + 2 ∨ 8000 < u0 + 1 ∨ 60000 < v0 + (nf : Int)) ∧ w_up S 226 16 99 = Z) ∨ (¬ ((100000 < tn + 2 ∨ 8000 < u0 + 1 ∨ 60000 < v0 + (nf : Int))) ∧ cmE 226 h c p (h - ba) kd ky vy 7 g m en (fun A B => ∃ X Y : wS, gvR A X ∧ coR g st k nf ty (fun i => prT (hmR ms m) i) es X Y ∧ gvR Y B) S Z))) := by
  obtain ⟨⟨hC, hI⟩, ⟨bc, bc0, bc1⟩, ⟨bp, bp0, bp1⟩, ⟨bh, bh0, bh1, bh2⟩, bl1, bl2, bl3⟩ := hP
  replace bp : S 231 (c - 1) = p := bp
  replace bh : S 227 2 = h := bh
  replace bh2 : h ≤ S 228 (-1) := bh2
  replace bl1 : S 229 (-1) = S 228 (-1) := bl1
  replace bl2 : 64 ≤ S 228 (-1) := bl2
  replace bl3 : S 228 (-1) ≤ 4095 := bl3
  refine wa_aload_n (n := 0) rfl ?_
  refine wb_gf4 158 rfl (wy_pr rfl) wt_158 wf_5_0 (v := 72) wl_158_0 ?_
  refine wb_gf5 72 rfl (wy_pr rfl) wt_72 wf_2_1 (v := 73) (h72) (fun r1 => ?_)
  refine wa_astore_n (n := 2) rfl ?_
  refine wa_aload_n (n := 2) rfl ?_
  refine wb_gf4 73 rfl (wy_pr rfl) wt_73 wf_3_3 (v := 96) wl_73_3 ?_
  refine wa_iconst ?_
  refine wb_aald5 96 1 rfl rfl (wy_pr rfl) wt_96 (by rw [show _ = _ from ((cl_96 hC))]; omega) wl_96_1 ?_
  refine wa_iload_n (n := 1) rfl ?_
  refine wb_iald 98 rfl (wy_pr rfl) wt_98 (n := 400) ((cl_98 hC)) (by omega) (by omega) (v := 2) (hso) (fun r2 => ?_)
  refine wa_iconst ?_
  refine wa_icmpne (w_rg0 (by omega) (by omega)) (w_rg0 (by omega) (by omega)) ⟨_, rfl⟩ (fun c3 => ?_) (fun c3 => ?_)
  · skip
    exact absurd c3 (by omega)
  · skip
    refine wa_iconst ?_
    refine wa_goto ⟨_, rfl⟩ ?_
    refine wa_istore_n (n := 3) rfl ?_
    refine wa_iload_n (n := 3) rfl ?_
    refine wa_ifne (w_rg0 (by omega) (by omega)) ⟨_, rfl⟩ (fun c4 => ?_) (fun c4 => ?_)
    · skip
      refine wa_iconst ?_
      refine wa_fall ⟨_, rfl⟩ ?_
      refine wa_istore (n := 4) rfl ?_
      refine wa_iload_n (n := 3) rfl ?_
      refine wa_ifeq (w_rg0 (by omega) (by omega)) ⟨_, rfl⟩ (fun c5 => ?_) (fun c5 => ?_)
      · skip
        exact absurd c5 (by omega)
      · skip
        refine wa_aload_n (n := 2) rfl ?_
        refine wb_gf4 73 rfl (wy_pr rfl) wt_73 wf_3_1 (v := 86) wl_73_1 ?_
        refine wa_bipush (w_rg2 (by omega) (by omega)) ?_
        refine wb_aald5 86 7 rfl rfl (wy_pr rfl) wt_86 (by rw [show _ = _ from ((cl_86 hC))]; omega) wl_86_7 ?_
        refine wa_aload_n (n := 2) rfl ?_
        refine wb_gf4 73 rfl (wy_pr rfl) wt_73 wf_3_3 (v := 96) wl_73_3 ?_
        refine wa_iconst ?_
        refine wb_aald5 96 0 rfl rfl (wy_pr rfl) wt_96 (by rw [show _ = _ from ((cl_96 hC))]; omega) wl_96_0 ?_
        refine wa_iload_n (n := 1) rfl ?_
        refine wb_iald 97 rfl (wy_pr rfl) wt_97 (n := 400) ((cl_97 hC)) (by omega) (by omega) (v := k) (hk) (fun r6 => ?_)
        refine wb_iald 94 rfl (wy_pr rfl) wt_94 (n := 60) ((cl_94 hC)) (by omega) (by omega) (v := (nf : Int)) (hkn) (fun r7 => ?_)
        refine wa_goto ⟨_, rfl⟩ ?_
        refine wa_istore (n := 5) rfl ?_
        refine wa_aload_n (n := 0) rfl ?_
        refine wb_gf4 158 rfl (wy_pr rfl) wt_158 wf_5_0 (v := 72) wl_158_0 ?_
        refine wb_gfi 72 rfl (wy_pr rfl) wt_72 wf_2_15 (v := tn) (ht15) (fun r8 => ?_)
        refine wa_iconst ?_
        refine wa_iadd ?_
        refine wb_ki (n := 100000) rfl ?_
        refine wa_icmpgt (w_rg0 (by omega) (by omega)) (w_rg0 (by omega) (by omega)) ⟨_, rfl⟩ (fun c9 => ?_) (fun c9 => ?_)
        · skip
          refine wa_aload_n (n := 0) rfl ?_
          refine wb_gf5 158 rfl (wy_pr rfl) wt_158 wf_5_4 (v := 226) (l4) (fun r10 => ?_)
          refine wa_bipush (w_rg2 (by omega) (by omega)) ?_
          refine wb_pfi 226 rfl (wy_pr rfl) wt_226 wf_8_16 (n := 16) rfl ⟨(by omega), (by omega)⟩ ?_
          refine wa_return rfl ?_
          exact ⟨rfl, Or.inl ⟨by omega, rfl⟩⟩
        · skip
          refine wa_iload_n (n := 3) rfl ?_
          refine wa_ifeq (w_rg0 (by omega) (by omega)) ⟨_, rfl⟩ (fun c11 => ?_) (fun c11 => ?_)
          · skip
            exact absurd c11 (by omega)
          · skip
            refine wa_aload_n (n := 0) rfl ?_
            refine wb_gf4 158 rfl (wy_pr rfl) wt_158 wf_5_0 (v := 72) wl_158_0 ?_
            refine wa_iconst ?_
            refine wa_iconst ?_
            refine wa_cv 72 rfl (wy_pr rfl) wt_72 (M2 := mS [228, 229, 152, 127, 128, 129, 130, 131, 132, 133, 134, 135, 136, 141, 142]) rfl at_XH_hasRoom ⟨_, rfl⟩ rfl rfl ⟨trivial, trivial, trivial, (Or.inr ⟨wy_pr rfl, mS_no rfl⟩), (Or.inr ⟨wy_pr rfl, mS_no rfl⟩), trivial, trivial⟩ trivial (fun _ _ q => q) ?_ (fun _ _ _ q => q)
            refine wa_aload_n (n := 0) rfl ?_
            refine wb_gf4 72 rfl (wy_pr rfl) wt_72 wf_2_10 (v := 150) wl_72_10 ?_
            refine wa_iload_n (n := 1) rfl ?_
            refine wb_iald 150 rfl (wy_pr rfl) wt_150 (n := 6) ((cl_150 hC)) (by omega) (by omega) (v := u0) (hu0) (fun r12 => ?_)
            refine wa_iload_n (n := 2) rfl ?_
            refine wa_iadd ?_
            refine wa_gs ?_
            refine wa_iload_n (n := 1) rfl ?_
            refine wb_xald 1 rfl hx1 (by decide) (by omega) (by decide) (v := 8000) (by decide) (fun r13 => ?_)
            refine wa_icmpgt (w_rg0 (by omega) (by omega)) (w_rg0 (by omega) (by omega)) ⟨_, rfl⟩ (fun c14 => ?_) (fun c14 => ?_)
            · skip
              refine wa_iconst ?_
              refine wa_fall ⟨_, rfl⟩ ?_
              refine wa_zreturn rfl (Or.inl rfl) ?_
              show wJ _ _ _ _ _ _ _ _ _ _
              refine wa_ifeq (w_rg0 (by omega) (by omega)) ⟨_, rfl⟩ (fun c15 => ?_) (fun c15 => ?_)
              · skip
                refine wa_aload_n (n := 0) rfl ?_
                refine wb_gf5 158 rfl (wy_pr rfl) wt_158 wf_5_4 (v := 226) (l4) (fun r16 => ?_)
                refine wa_bipush (w_rg2 (by omega) (by omega)) ?_
                refine wb_pfi 226 rfl (wy_pr rfl) wt_226 wf_8_16 (n := 16) rfl ⟨(by omega), (by omega)⟩ ?_
                refine wa_return rfl ?_
                exact ⟨rfl, Or.inl ⟨by omega, rfl⟩⟩
              · skip
                exact absurd c15 (by omega)
            · skip
              refine wa_iconst ?_
              refine wa_goto ⟨_, rfl⟩ ?_
              refine wa_zreturn rfl (Or.inr rfl) ?_
              show wJ _ _ _ _ _ _ _ _ _ _
              refine wa_ifeq (w_rg0 (by omega) (by omega)) ⟨_, rfl⟩ (fun c17 => ?_) (fun c17 => ?_)
              · skip
                exact absurd c17 (by omega)
              · skip
                refine wa_aload_n (n := 0) rfl ?_
                refine wb_gf4 158 rfl (wy_pr rfl) wt_158 wf_5_0 (v := 72) wl_158_0 ?_
                refine wa_iconst ?_
                refine wa_iload (n := 5) rfl ?_
                refine wa_cv 72 rfl (wy_pr rfl) wt_72 (M2 := mS [228, 229, 152, 127, 128, 129, 130, 131, 132, 133, 134, 135, 136, 141, 142]) rfl at_XH_hasRoom ⟨_, rfl⟩ rfl rfl ⟨trivial, trivial, trivial, (Or.inr ⟨wy_pr rfl, mS_no rfl⟩), (Or.inr ⟨wy_pr rfl, mS_no rfl⟩), trivial, trivial⟩ trivial (fun _ _ q => q) ?_ (fun _ _ _ q => q)
                refine wa_aload_n (n := 0) rfl ?_
                refine wb_gf4 72 rfl (wy_pr rfl) wt_72 wf_2_10 (v := 150) wl_72_10 ?_
                refine wa_iload_n (n := 1) rfl ?_
                refine wb_iald 150 rfl (wy_pr rfl) wt_150 (n := 6) ((cl_150 hC)) (by omega) (by omega) (v := v0) (hv) (fun r18 => ?_)
                refine wa_iload_n (n := 2) rfl ?_
                refine wa_iadd ?_
                refine wa_gs ?_
                refine wa_iload_n (n := 1) rfl ?_
                refine wb_xald 1 rfl hx1 (by decide) (by omega) (by decide) (v := 60000) (by decide) (fun r19 => ?_)
                refine wa_icmpgt (w_rg0 (by omega) (by omega)) (w_rg0 (by omega) (by omega)) ⟨_, rfl⟩ (fun c20 => ?_) (fun c20 => ?_)
                · skip
                  refine wa_iconst ?_
                  refine wa_fall ⟨_, rfl⟩ ?_
                  refine wa_zreturn rfl (Or.inl rfl) ?_
                  show wJ _ _ _ _ _ _ _ _ _ _
                  refine wa_ifeq (w_rg0 (by omega) (by omega)) ⟨_, rfl⟩ (fun c21 => ?_) (fun c21 => ?_)
                  · skip
                    refine wa_aload_n (n := 0) rfl ?_
                    refine wb_gf5 158 rfl (wy_pr rfl) wt_158 wf_5_4 (v := 226) (l4) (fun r22 => ?_)
                    refine wa_bipush (w_rg2 (by omega) (by omega)) ?_
                    refine wb_pfi 226 rfl (wy_pr rfl) wt_226 wf_8_16 (n := 16) rfl ⟨(by omega), (by omega)⟩ ?_
                    refine wa_return rfl ?_
                    exact ⟨rfl, Or.inl ⟨by omega, rfl⟩⟩
                  · skip
                    exact absurd c21 (by omega)
                · skip
                  refine wa_iconst ?_
                  refine wa_goto ⟨_, rfl⟩ ?_
                  refine wa_zreturn rfl (Or.inr rfl) ?_
                  show wJ _ _ _ _ _ _ _ _ _ _
                  refine wa_ifeq (w_rg0 (by omega) (by omega)) ⟨_, rfl⟩ (fun c23 => ?_) (fun c23 => ?_)
                  · skip
                    exact absurd c23 (by omega)
                  · skip
                    refine wa_fall ⟨_, rfl⟩ ?_
                    refine wa_iload (n := 4) rfl ?_
                    refine wa_ifeq (w_rg0 (by omega) (by omega)) ⟨_, rfl⟩ (fun c24 => ?_) (fun c24 => ?_)
                    · skip
                      refine wa_aload_n (n := 0) rfl ?_
                      refine wb_gf4 158 rfl (wy_pr rfl) wt_158 wf_5_0 (v := 72) wl_158_0 ?_
                      refine wa_iload_n (n := 1) rfl ?_
                      refine wa_aload_n (n := 0) rfl ?_
                      refine wb_gfi 158 rfl (wy_pr rfl) wt_158 wf_5_12 (v := en) (l12) (fun r25 => ?_)
                      refine wa_cv 72 rfl (wy_pr rfl) wt_72 (M2 := mS [152]) rfl at_XH_addTrace ⟨_, rfl⟩ rfl rfl ⟨trivial, trivial, trivial, (Or.inr ⟨wy_pr rfl, mS_no rfl⟩), (Or.inr ⟨wy_pr rfl, mS_no rfl⟩), trivial, trivial⟩ trivial (fun _ _ q => mS_sub (by decide) q) (tra (S := S) (m := m) (k := en) hI ⟨by omega, by omega⟩ ⟨by omega, by omega⟩ (by rw [ht15]; exact ht0) (by rw [ht15]; exact ht9)) (fun oq26 Sq26 hp27 q26 => ?_)
                      rcases q26 with ⟨rfl, tr26⟩
                      show wJ _ _ _ _ _ _ _ _ _ _
                      refine wa_aload_n (n := 0) rfl ?_
                      refine wa_iconst ?_
                      refine wb_pfi 158 rfl (wy_pr rfl) wt_158 wf_5_16 (n := 16) rfl ⟨(by omega), (by omega)⟩ ?_
                      refine wa_aload_n (n := 0) rfl ?_
                      refine wb_lconst (m := 0) rfl ?_
                      refine wb_pfl 158 rfl (wy_pr rfl) wt_158 wf_5_17 (n := 17) rfl ⟨(by omega), (by omega)⟩ ?_
                      refine wa_iload_n (n := 3) rfl ?_
                      refine wa_ifeq (w_rg0 (by omega) (by omega)) ⟨_, rfl⟩ (fun c28 => ?_) (fun c28 => ?_)
                      · skip
                        exact absurd c28 (by omega)
                      · skip
                        refine wa_aload_n (n := 0) rfl ?_
                        refine wa_iload_n (n := 1) rfl ?_
                        have hf2 : ∀ (j : Nat) (i : Int), j < 4000000 → j ≠ wG → j ≠ 152 → j ≠ 72 → j ≠ 158 → (w_up (w_up Sq26 158 16 0) 158 17 0) j i = S j i := fun j i a b c d e => (w_up_no (fun z => e z.1)).trans ((w_up_no (fun z => e z.1)).trans (tr26.2.2.2.1 j i a b c (Or.inl d)))
                        have hwg : wG = 1000000 := rfl
                        have hK2 : KC 87 97 93 114 115 74 73 T cs ms os (w_up (w_up Sq26 158 16 0) 158 17 0) := KC_ag hK (hf2 73 _ (by first | decide | omega) (by first | decide | omega) (by first | decide | omega) (by first | decide | omega) (by first | decide | omega)) (hf2 73 _ (by first | decide | omega) (by first | decide | omega) (by first | decide | omega) (by first | decide | omega) (by first | decide | omega)) (fun j hj => funext fun i => hf2 j i (by omega) (by omega) (by omega) (by omega) (by omega))
                        have e1 : (w_up (w_up Sq26 158 16 0) 158 17 0) 228 (-1) = S 228 (-1) := (hf2 228 _ (by first | decide | omega) (by first | decide | omega) (by first | decide | omega) (by first | decide | omega) (by first | decide | omega))
                        have e2 : (w_up (w_up Sq26 158 16 0) 158 17 0) 229 (-1) = S 229 (-1) := (hf2 229 _ (by first | decide | omega) (by first | decide | omega) (by first | decide | omega) (by first | decide | omega) (by first | decide | omega))
                        have e3 : (w_up (w_up Sq26 158 16 0) 158 17 0) 141 (-1) = S 141 (-1) := (hf2 141 _ (by first | decide | omega) (by first | decide | omega) (by first | decide | omega) (by first | decide | omega) (by first | decide | omega))
                        have e4 : (w_up (w_up Sq26 158 16 0) 158 17 0) 142 (-1) = S 142 (-1) := (hf2 142 _ (by first | decide | omega) (by first | decide | omega) (by first | decide | omega) (by first | decide | omega) (by first | decide | omega))
                        have e5 : (w_up (w_up Sq26 158 16 0) 158 17 0) 127 (-1) = S 127 (-1) := (hf2 127 _ (by first | decide | omega) (by first | decide | omega) (by first | decide | omega) (by first | decide | omega) (by first | decide | omega))
                        have hth2 : ∀ x : Nat, x < 10 → (w_up (w_up Sq26 158 16 0) 158 17 0) (127 + x) (-1) = (w_up (w_up Sq26 158 16 0) 158 17 0) 127 (-1) := fun x hx => by rw [hf2 (127 + x) (-1) (by omega) (by omega) (by omega) (by omega) (by omega), e5]; exact hth x hx
                        refine wa_cv 158 rfl (wy_pr rfl) wt_158 (M2 := mS [127, 128, 129, 130, 131, 132, 133, 134, 135, 136, 141, 142]) rfl at_XL_construct ⟨_, rfl⟩ rfl rfl ⟨trivial, trivial, trivial, (Or.inr ⟨wy_pr rfl, mS_no rfl⟩), (Or.inr ⟨wy_pr rfl, mS_no rfl⟩), trivial, trivial⟩ trivial (fun _ _ q => mS_sub (by decide) q) (con_73_226 (S := (w_up (w_up Sq26 158 16 0) 158 17 0)) (m := m) (k := k) (g := g) (st := st) (ba := ba) (u0 := u0) (v0 := v0) (nf := nf) (fd := fd) (ty := ty) (es := es) (w_CL_up (w_CL_up (CL_tr hC tr26) (by omega)) (by omega)) (gI_up (gI_up tr26.2.2.2.2.2.1 (by omega) (by omega) (by omega)) (by omega) (by omega) (by omega)) hK2 hw ((w_up_slot (by decide)).trans ((w_up_slot (by decide)).trans (((tr26.2.2.2.1 72 1 (by decide) (by decide) (by decide) (Or.inr (by decide))).trans (h72))))) ((w_up_at (by decide)).trans ((w_up_at (by decide)).trans (((tr26.2.2.2.1 158 5 (by decide) (by decide) (by decide) (Or.inl (by decide))).trans (l5))))) ((w_up_at (by decide)).trans ((w_up_at (by decide)).trans (((tr26.2.2.2.1 158 8 (by decide) (by decide) (by decide) (Or.inl (by decide))).trans (l8))))) (((w_up_at (by decide)).trans ((w_up_at (by decide)).trans (((tr26.2.2.2.1 158 12 (by decide) (by decide) (by decide) (Or.inl (by decide))).trans (l12))))).trans hel) ⟨hm.1, hm2⟩ hpn (by omega) (by rw [e1, e2]; exact bl1) (by rw [e1]; exact ⟨by omega, by omega, bl3⟩) (fun i hi => ⟨(hf2 228 _ (by decide) (by decide) (by decide) (by decide) (by decide)).trans (hes i hi).1, (hf2 229 _ (by decide) (by decide) (by decide) (by decide) (by decide)).trans (hes i hi).2⟩) hev (by rw [e3, e4]; exact hl) (by rw [e3]; exact hz) ((hf2 140 _ (by decide) (by decide) (by decide) (by decide) (by decide)).trans h2) (by rw [e3]; exact ⟨hst.1, hst.2.1, by omega⟩) hfd (fun i hi => (hf2 100 _ (by decide) (by decide) (by decide) (by decide) (by decide)).trans (hft i hi)) (fun i hi => (hf2 113 _ (by decide) (by decide) (by decide) (by decide) (by decide)).trans (hfb i hi)) hnf hth2 ((w_up_slot (by decide)).trans ((w_up_slot (by decide)).trans (((tr26.2.2.2.1 72 3 (by decide) (by decide) (by decide) (Or.inr (by decide))).trans (hn))))) (by rw [e5]; exact hn1) (by rw [e5]; exact hn2) ((hf2 150 _ (by decide) (by decide) (by decide) (by decide) (by decide)).trans hu0) hu1 ((hf2 150 _ (by decide) (by decide) (by decide) (by decide) (by decide)).trans hv) ⟨by omega, by omega⟩ ((hf2 97 _ (by decide) (by decide) (by decide) (by decide) (by decide)).trans hk) hk1 ((hf2 94 _ (by decide) (by decide) (by decide) (by decide) (by decide)).trans hkn) (fun z => (hf2 95 _ (by decide) (by decide) (by decide) (by decide) (by decide)).trans (hla z))) (fun oq29 Sq29 hp30 q29 => ?_)
                        rcases q29 with ⟨rfl, co29⟩
                        show wJ _ _ _ _ _ _ _ _ _ _
                        have co29f := co_fr co29 hn1.1 hst.1
                        refine wa_goto ⟨_, rfl⟩ ?_
                        refine wa_aload_n (n := 0) rfl ?_
                        refine wb_gfi 158 rfl (wy_pr rfl) wt_158 wf_5_7 (v := kd) (((co29f.2.1 158 7 (by decide) (by decide) (by decide) (by decide) (by decide) (by decide) (by decide) (by decide) (Or.inr (by decide))).trans ((w_up_at (by decide)).trans ((w_up_at (by decide)).trans (((tr26.2.2.2.1 158 7 (by decide) (by decide) (by decide) (Or.inl (by decide))).trans (l7))))))) (fun r31 => ?_)
                        refine wa_iconst ?_
                        refine wa_icmpne (w_rg0 (by omega) (by omega)) (w_rg0 (by omega) (by omega)) ⟨_, rfl⟩ (fun c32 => ?_) (fun c32 => ?_)
                        · skip
                          refine wa_aload_n (n := 0) rfl ?_
                          refine wa_aload_n (n := 0) rfl ?_
                          refine wb_gfi 158 rfl (wy_pr rfl) wt_158 wf_5_16 (v := 7) (co29f.1.1) (fun r33 => ?_)
                          refine wa_aload_n (n := 0) rfl ?_
                          refine wb_gfl 158 rfl (wy_pr rfl) wt_158 wf_5_17 (v := g) (co29f.1.2) (fun r34 => ?_)
                          refine wa_cv 158 rfl (wy_pr rfl) wt_158 (M2 := mS [228, 229]) rfl at_XL_giveValue ⟨_, rfl⟩ rfl rfl ⟨trivial, trivial, trivial, (Or.inr ⟨wy_pr rfl, mS_no rfl⟩), (Or.inr ⟨wy_pr rfl, mS_no rfl⟩), trivial, trivial⟩ trivial (fun _ _ q => mS_sub (by decide) q) (glx_226 (S := Sq29) (k := 7) (v := g) (h := h) (c := c) (p := p) (ba := ba) (co29f.2.2.1 (w_CL_up (w_CL_up (CL_tr hC tr26) (by omega)) (by omega))) co29f.2.2.2.1 (((co29f.2.1 158 4 (by decide) (by decide) (by decide) (by decide) (by decide) (by decide) (by decide) (by decide) (Or.inr (by decide))).trans ((w_up_at (by decide)).trans ((w_up_at (by decide)).trans (((tr26.2.2.2.1 158 4 (by decide) (by decide) (by decide) (Or.inl (by decide))).trans (l4))))))) (((co29f.2.1 158 5 (by decide) (by decide) (by decide) (by decide) (by decide) (by decide) (by decide) (by decide) (Or.inr (by decide))).trans ((w_up_at (by decide)).trans ((w_up_at (by decide)).trans (((tr26.2.2.2.1 158 5 (by decide) (by decide) (by decide) (Or.inl (by decide))).trans (l5))))))) (((co29f.2.1 158 8 (by decide) (by decide) (by decide) (by decide) (by decide) (by decide) (by decide) (by decide) (Or.inr (by decide))).trans ((w_up_at (by decide)).trans ((w_up_at (by decide)).trans (((tr26.2.2.2.1 158 8 (by decide) (by decide) (by decide) (Or.inl (by decide))).trans (l8))))))) (((co29f.2.1 226 4 (by decide) (by decide) (by decide) (by decide) (by decide) (by decide) (by decide) (by decide) (Or.inl (by decide))).trans ((w_up_slot (by decide)).trans ((w_up_slot (by decide)).trans (((tr26.2.2.2.1 226 4 (by decide) (by decide) (by decide) (Or.inl (by decide))).trans (bc))))))) (((co29f.2.1 231 (c - 1) (by decide) (by decide) (by decide) (by decide) (by decide) (by decide) (by decide) (by decide) (Or.inl (by decide))).trans ((w_up_slot (by decide)).trans ((w_up_slot (by decide)).trans (((tr26.2.2.2.1 231 (c - 1) (by decide) (by decide) (by decide) (Or.inl (by decide))).trans (bp))))))) (((((co29f.2.1 229 (-1) (by decide) (by decide) (by decide) (by decide) (by decide) (by decide) (by decide) (by decide) (Or.inl (by decide))).trans ((w_up_slot (by decide)).trans ((w_up_slot (by decide)).trans (((tr26.2.2.2.1 229 (-1) (by decide) (by decide) (by decide) (Or.inl (by decide))).trans (bl1)))))))).trans ((((co29f.2.1 228 (-1) (by decide) (by decide) (by decide) (by decide) (by decide) (by decide) (by decide) (by decide) (Or.inl (by decide))).trans ((w_up_slot (by decide)).trans ((w_up_slot (by decide)).trans (((tr26.2.2.2.1 228 (-1) (by decide) (by decide) (by decide) (Or.inl (by decide))).trans (rfl)))))))).symm) (by have e : Sq29 228 (-1) = S 228 (-1) := (((co29f.2.1 228 (-1) (by decide) (by decide) (by decide) (by decide) (by decide) (by decide) (by decide) (by decide) (Or.inl (by decide))).trans ((w_up_slot (by decide)).trans ((w_up_slot (by decide)).trans (((tr26.2.2.2.1 228 (-1) (by decide) (by decide) (by decide) (Or.inl (by decide))).trans (rfl))))))); rw [e]; exact ⟨bl2, bl3⟩) (by have e : Sq29 228 (-1) = S 228 (-1) := (((co29f.2.1 228 (-1) (by decide) (by decide) (by decide) (by decide) (by decide) (by decide) (by decide) (by decide) (Or.inl (by decide))).trans ((w_up_slot (by decide)).trans ((w_up_slot (by decide)).trans (((tr26.2.2.2.1 228 (-1) (by decide) (by decide) (by decide) (Or.inl (by decide))).trans (rfl))))))); omega) ⟨by omega, by omega⟩ ⟨by omega, by omega⟩ ⟨by omega, by omega⟩ ⟨by omega, by omega⟩) (fun oq35 Sq35 hp36 q35 => ?_)
                          rcases q35 with ⟨rfl, hgv35⟩
                          show wJ _ _ _ _ _ _ _ _ _ _
                          refine wa_return rfl ?_
                          refine ⟨rfl, Or.inr ⟨by omega, Sq26, Sq29, tr26, ?_, ?_⟩⟩
                          · exact ⟨_, _, fun j i hji => (w_up_no (by omega)).trans ((w_up_no (by omega)).trans (rfl)), co29, fun j i hji => rfl⟩
                          · first | (rw [if_pos (show kd = 1 by omega), if_pos (show kd = 1 by omega)]; exact hgv35) | (rw [if_neg (show ¬ kd = 1 by omega), if_neg (show ¬ kd = 1 by omega)]; exact hgv35)
                        · skip
                          refine wa_aload_n (n := 0) rfl ?_
                          refine wa_aload_n (n := 0) rfl ?_
                          refine wb_gf5 158 rfl (wy_pr rfl) wt_158 wf_5_5 (v := 227) (((co29f.2.1 158 5 (by decide) (by decide) (by decide) (by decide) (by decide) (by decide) (by decide) (by decide) (Or.inr (by decide))).trans ((w_up_at (by decide)).trans ((w_up_at (by decide)).trans (((tr26.2.2.2.1 158 5 (by decide) (by decide) (by decide) (Or.inl (by decide))).trans (l5))))))) (fun r37 => ?_)
                          refine wb_gf4 227 rfl (wy_pr rfl) wt_227 wf_7_0 (v := 228) wl_227_0 ?_
                          refine wa_aload_n (n := 0) rfl ?_
                          refine wb_gf5 158 rfl (wy_pr rfl) wt_158 wf_5_5 (v := 227) (((co29f.2.1 158 5 (by decide) (by decide) (by decide) (by decide) (by decide) (by decide) (by decide) (by decide) (Or.inr (by decide))).trans ((w_up_at (by decide)).trans ((w_up_at (by decide)).trans (((tr26.2.2.2.1 158 5 (by decide) (by decide) (by decide) (Or.inl (by decide))).trans (l5))))))) (fun r38 => ?_)
                          refine wb_gfi 227 rfl (wy_pr rfl) wt_227 wf_7_2 (v := h) (((co29f.2.1 227 2 (by decide) (by decide) (by decide) (by decide) (by decide) (by decide) (by decide) (by decide) (Or.inl (by decide))).trans ((w_up_slot (by decide)).trans ((w_up_slot (by decide)).trans (((tr26.2.2.2.1 227 2 (by decide) (by decide) (by decide) (Or.inl (by decide))).trans (bh))))))) (fun r39 => ?_)
                          refine wa_iconst ?_
                          refine wa_isub ?_
                          refine wb_bald 228 rfl (wy_pr rfl) wt_228 (n := (S 228 (-1))) (((co29f.2.1 228 (-1) (by decide) (by decide) (by decide) (by decide) (by decide) (by decide) (by decide) (by decide) (Or.inl (by decide))).trans ((w_up_slot (by decide)).trans ((w_up_slot (by decide)).trans (((tr26.2.2.2.1 228 (-1) (by decide) (by decide) (by decide) (Or.inl (by decide))).trans (rfl))))))) (by omega) (by omega) (v := ky) (((co29f.2.1 228 (h - 1) (by decide) (by decide) (by decide) (by decide) (by decide) (by decide) (by decide) (by decide) (Or.inl (by decide))).trans ((w_up_slot (by decide)).trans ((w_up_slot (by decide)).trans (((tr26.2.2.2.1 228 (h - 1) (by decide) (by decide) (by decide) (Or.inl (by decide))).trans (hky))))))) (fun r40 => ?_)
                          refine wb_pfi 158 rfl (wy_pr rfl) wt_158 wf_5_16 (n := 16) rfl ⟨(by omega), (by omega)⟩ ?_
                          refine wa_aload_n (n := 0) rfl ?_
                          refine wa_aload_n (n := 0) rfl ?_
                          refine wb_gf5 158 rfl (wy_pr rfl) wt_158 wf_5_5 (v := 227) ((w_up_at (by decide)).trans (((co29f.2.1 158 5 (by decide) (by decide) (by decide) (by decide) (by decide) (by decide) (by decide) (by decide) (Or.inr (by decide))).trans ((w_up_at (by decide)).trans ((w_up_at (by decide)).trans (((tr26.2.2.2.1 158 5 (by decide) (by decide) (by decide) (Or.inl (by decide))).trans (l5)))))))) (fun r41 => ?_)
                          refine wb_gf4 227 rfl (wy_pr rfl) wt_227 wf_7_1 (v := 229) wl_227_1 ?_
                          refine wa_aload_n (n := 0) rfl ?_
                          refine wb_gf5 158 rfl (wy_pr rfl) wt_158 wf_5_5 (v := 227) ((w_up_at (by decide)).trans (((co29f.2.1 158 5 (by decide) (by decide) (by decide) (by decide) (by decide) (by decide) (by decide) (by decide) (Or.inr (by decide))).trans ((w_up_at (by decide)).trans ((w_up_at (by decide)).trans (((tr26.2.2.2.1 158 5 (by decide) (by decide) (by decide) (Or.inl (by decide))).trans (l5)))))))) (fun r42 => ?_)
                          refine wb_gfi 227 rfl (wy_pr rfl) wt_227 wf_7_2 (v := h) ((w_up_slot (by decide)).trans (((co29f.2.1 227 2 (by decide) (by decide) (by decide) (by decide) (by decide) (by decide) (by decide) (by decide) (Or.inl (by decide))).trans ((w_up_slot (by decide)).trans ((w_up_slot (by decide)).trans (((tr26.2.2.2.1 227 2 (by decide) (by decide) (by decide) (Or.inl (by decide))).trans (bh)))))))) (fun r43 => ?_)
                          refine wa_iconst ?_
                          refine wa_isub ?_
                          refine wb_lald 229 rfl (wy_pr rfl) wt_229 (n := (S 228 (-1))) ((w_up_slot (by decide)).trans (((co29f.2.1 229 (-1) (by decide) (by decide) (by decide) (by decide) (by decide) (by decide) (by decide) (by decide) (Or.inl (by decide))).trans ((w_up_slot (by decide)).trans ((w_up_slot (by decide)).trans (((tr26.2.2.2.1 229 (-1) (by decide) (by decide) (by decide) (Or.inl (by decide))).trans (bl1)))))))) (by omega) (by omega) (v := vy) ((w_up_slot (by decide)).trans (((co29f.2.1 229 (h - 1) (by decide) (by decide) (by decide) (by decide) (by decide) (by decide) (by decide) (by decide) (Or.inl (by decide))).trans ((w_up_slot (by decide)).trans ((w_up_slot (by decide)).trans (((tr26.2.2.2.1 229 (h - 1) (by decide) (by decide) (by decide) (Or.inl (by decide))).trans (hvy)))))))) (fun r44 => ?_)
                          refine wb_pfl 158 rfl (wy_pr rfl) wt_158 wf_5_17 (n := 17) rfl ⟨(by omega), (by omega)⟩ ?_
                          refine wa_fall ⟨_, rfl⟩ ?_
                          refine wa_aload_n (n := 0) rfl ?_
                          refine wa_aload_n (n := 0) rfl ?_
                          refine wb_gfi 158 rfl (wy_pr rfl) wt_158 wf_5_16 (v := ky) ((w_up_at (by decide)).trans (w_up_same _ _ _ _)) (fun r45 => ?_)
                          refine wa_aload_n (n := 0) rfl ?_
                          refine wb_gfl 158 rfl (wy_pr rfl) wt_158 wf_5_17 (v := vy) (w_up_same _ _ _ _) (fun r46 => ?_)
                          refine wa_cv 158 rfl (wy_pr rfl) wt_158 (M2 := mS [228, 229]) rfl at_XL_giveValue ⟨_, rfl⟩ rfl rfl ⟨trivial, trivial, trivial, (Or.inr ⟨wy_pr rfl, mS_no rfl⟩), (Or.inr ⟨wy_pr rfl, mS_no rfl⟩), trivial, trivial⟩ trivial (fun _ _ q => mS_sub (by decide) q) (glx_226 (S := (w_up (w_up Sq29 158 16 ky) 158 17 vy)) (k := ky) (v := vy) (h := h) (c := c) (p := p) (ba := ba) (w_CL_up (w_CL_up (co29f.2.2.1 (w_CL_up (w_CL_up (CL_tr hC tr26) (by omega)) (by omega))) (by omega)) (by omega)) (gI_up (gI_up co29f.2.2.2.1 (by omega) (by omega) (by omega)) (by omega) (by omega) (by omega)) ((w_up_at (by decide)).trans ((w_up_at (by decide)).trans (((co29f.2.1 158 4 (by decide) (by decide) (by decide) (by decide) (by decide) (by decide) (by decide) (by decide) (Or.inr (by decide))).trans ((w_up_at (by decide)).trans ((w_up_at (by decide)).trans (((tr26.2.2.2.1 158 4 (by decide) (by decide) (by decide) (Or.inl (by decide))).trans (l4))))))))) ((w_up_at (by decide)).trans ((w_up_at (by decide)).trans (((co29f.2.1 158 5 (by decide) (by decide) (by decide) (by decide) (by decide) (by decide) (by decide) (by decide) (Or.inr (by decide))).trans ((w_up_at (by decide)).trans ((w_up_at (by decide)).trans (((tr26.2.2.2.1 158 5 (by decide) (by decide) (by decide) (Or.inl (by decide))).trans (l5))))))))) ((w_up_at (by decide)).trans ((w_up_at (by decide)).trans (((co29f.2.1 158 8 (by decide) (by decide) (by decide) (by decide) (by decide) (by decide) (by decide) (by decide) (Or.inr (by decide))).trans ((w_up_at (by decide)).trans ((w_up_at (by decide)).trans (((tr26.2.2.2.1 158 8 (by decide) (by decide) (by decide) (Or.inl (by decide))).trans (l8))))))))) ((w_up_slot (by decide)).trans ((w_up_slot (by decide)).trans (((co29f.2.1 226 4 (by decide) (by decide) (by decide) (by decide) (by decide) (by decide) (by decide) (by decide) (Or.inl (by decide))).trans ((w_up_slot (by decide)).trans ((w_up_slot (by decide)).trans (((tr26.2.2.2.1 226 4 (by decide) (by decide) (by decide) (Or.inl (by decide))).trans (bc))))))))) ((w_up_slot (by decide)).trans ((w_up_slot (by decide)).trans (((co29f.2.1 231 (c - 1) (by decide) (by decide) (by decide) (by decide) (by decide) (by decide) (by decide) (by decide) (Or.inl (by decide))).trans ((w_up_slot (by decide)).trans ((w_up_slot (by decide)).trans (((tr26.2.2.2.1 231 (c - 1) (by decide) (by decide) (by decide) (Or.inl (by decide))).trans (bp))))))))) ((((w_up_slot (by decide)).trans ((w_up_slot (by decide)).trans (((co29f.2.1 229 (-1) (by decide) (by decide) (by decide) (by decide) (by decide) (by decide) (by decide) (by decide) (Or.inl (by decide))).trans ((w_up_slot (by decide)).trans ((w_up_slot (by decide)).trans (((tr26.2.2.2.1 229 (-1) (by decide) (by decide) (by decide) (Or.inl (by decide))).trans (bl1)))))))))).trans (((w_up_slot (by decide)).trans ((w_up_slot (by decide)).trans (((co29f.2.1 228 (-1) (by decide) (by decide) (by decide) (by decide) (by decide) (by decide) (by decide) (by decide) (Or.inl (by decide))).trans ((w_up_slot (by decide)).trans ((w_up_slot (by decide)).trans (((tr26.2.2.2.1 228 (-1) (by decide) (by decide) (by decide) (Or.inl (by decide))).trans (rfl)))))))))).symm) (by have e : (w_up (w_up Sq29 158 16 ky) 158 17 vy) 228 (-1) = S 228 (-1) := ((w_up_slot (by decide)).trans ((w_up_slot (by decide)).trans (((co29f.2.1 228 (-1) (by decide) (by decide) (by decide) (by decide) (by decide) (by decide) (by decide) (by decide) (Or.inl (by decide))).trans ((w_up_slot (by decide)).trans ((w_up_slot (by decide)).trans (((tr26.2.2.2.1 228 (-1) (by decide) (by decide) (by decide) (Or.inl (by decide))).trans (rfl))))))))); rw [e]; exact ⟨bl2, bl3⟩) (by have e : (w_up (w_up Sq29 158 16 ky) 158 17 vy) 228 (-1) = S 228 (-1) := ((w_up_slot (by decide)).trans ((w_up_slot (by decide)).trans (((co29f.2.1 228 (-1) (by decide) (by decide) (by decide) (by decide) (by decide) (by decide) (by decide) (by decide) (Or.inl (by decide))).trans ((w_up_slot (by decide)).trans ((w_up_slot (by decide)).trans (((tr26.2.2.2.1 228 (-1) (by decide) (by decide) (by decide) (Or.inl (by decide))).trans (rfl))))))))); omega) ⟨by omega, by omega⟩ ⟨by omega, by omega⟩ ⟨by omega, by omega⟩ ⟨by omega, by omega⟩) (fun oq47 Sq47 hp48 q47 => ?_)
                          rcases q47 with ⟨rfl, hgv47⟩
                          show wJ _ _ _ _ _ _ _ _ _ _
                          refine wa_return rfl ?_
                          refine ⟨rfl, Or.inr ⟨by omega, Sq26, (w_up (w_up Sq29 158 16 ky) 158 17 vy), tr26, ?_, ?_⟩⟩
                          · exact ⟨_, _, fun j i hji => (w_up_no (by omega)).trans ((w_up_no (by omega)).trans (rfl)), co29, fun j i hji => (w_up_no (by omega)).trans ((w_up_no (by omega)).trans (rfl))⟩
                          · first | (rw [if_pos (show kd = 1 by omega), if_pos (show kd = 1 by omega)]; exact hgv47) | (rw [if_neg (show ¬ kd = 1 by omega), if_neg (show ¬ kd = 1 by omega)]; exact hgv47)
                    · skip
                      exact absurd c24 (by omega)
    · skip
      exact absurd c4 (by omega)
set_option maxHeartbeats 4000000 in
theorem cmk_162_215 {c p h kd ba m en tn ky vy k g st u0 v0 : Int} (hP : xP 215 c p h S) (l4 : S 158 4 = 215) (l5 : S 158 5 = 216) (l7 : S 158 7 = kd) (l8 : S 158 8 = ba) (l12 : S 158 12 = en) (hen : 0 ≤ en ∧ en ≤ 1000) (hba : 0 ≤ ba ∧ ba < h) (h72 : S 72 1 = 162) (hm : 0 ≤ m ∧ m < 400) (hso : S 187 m = 2) (ht15 : S 72 15 = tn) (ht0 : 0 ≤ tn ∧ tn ≤ S 152 (-1) ∧ tn ≤ 100000) (ht9 : 16 ≤ S 152 (-1) ∧ S 152 (-1) ≤ 131072 ∨ (16 ≤ S 152 (-1) ∧ S 152 (-1) ≤ 262143 ∧ tn + 2 ≤ S 152 (-1))) (hky : S 217 (h - 1) = ky) (hvy : S 218 (h - 1) = vy) (hkr : -128 ≤ ky ∧ ky ≤ 127) (hvr : -9223372036854775808 ≤ vy ∧ vy ≤ 9223372036854775807) {nf : Nat} {fd ty : Nat → Int} {es : List (Int × Int)} (hx1 : pe_at (pe_GA xs).xs 1 = some (1, tx_1)) (hK : KC 176 186 182 203 204 163 162 T cs ms os S) (hw : wHo cs ms os) (hel : en = (es.length : Int)) (heb : ba + 1 + en ≤ h) (hm2 : m < (ms.length : Int)) (hpn : 0 < es.length → 1 ≤ (hmR ms m).2.2.2.2.1.length) (hes : ∀ i : Nat, i < es.length → S 217 (ba + 1 + (i : Int)) = (es.getD i (0, 0)).1 ∧ S 218 (ba + 1 + (i : Int)) = (es.getD i (0, 0)).2) (hev : ∀ i : Nat, i < es.length → (-128 ≤ (es.getD i (0, 0)).1 ∧ (es.getD i (0, 0)).1 ≤ 127) ∧ (-9223372036854775808 ≤ (es.getD i (0, 0)).2 ∧ (es.getD i (0, 0)).2 ≤ 9223372036854775807)) (hl : S 142 (-1) = S 141 (-1)) (hz : 16 ≤ S 141 (-1) ∧ S 141 (-1) ≤ 480400) (h2 : S 140 2 = st) (hst : 0 ≤ st ∧ st ≤ S 141 (-1) ∧ st ≤ 4 * v0) (hfd : ∀ i : Nat, i < nf → 0 ≤ fd i ∧ fd i < 400) (hft : ∀ i : Nat, i < nf → S 189 (fd i) = ty i) (hfb : ∀ i : Nat, i + 1 < nf → S 202 (fd (i + 1)) = fd i) (hnf : nf ≤ 1000) (hth : ∀ x : Nat, x < 10 → S (127 + x) (-1) = S 127 (-1)) (hn : S 72 3 = g) (hn1 : 0 ≤ g ∧ g ≤ S 127 (-1) ∧ g ≤ 8000) (hn2 : 64 ≤ S 127 (-1) ∧ S 127 (-1) ≤ 16383) (hu0 : S 150 0 = u0) (hu1 : 0 ≤ u0 ∧ u0 ≤ 8000) (hv : S 150 1 = v0) (hv0 : 0 ≤ v0 ∧ v0 ≤ 60000) (hk : S 186 m = k) (hk1 : 0 ≤ k ∧ k < 60) (hkn : S 183 k = (nf : Int)) (hla : 0 < nf → S 184 k = fd (nf - 1)) : wJ (pe_GA xs) wY0 (mS [217, 218, 152, 127, 128, 129, 130, 131, 132, 133, 134, 135, 136, 141, 142]) (d + 7) t_XL_callMember ((pe_at t_XL_callMember.bl 0).getD (0, [])).2 [(0, (2, 158)), (1, (0, m))] [] S (fun o Z => o = .inl none ∧ (((100000 < tn + 2 ∨ 8000 < u0 + 1 ∨ 60000 < v0 + (nf : Int)) ∧ w_up S 215 16 99 = Z) ∨ (¬ ((100000 < tn + 2 ∨ 8000 < u0 + 1 ∨ 60000 < v0 + (nf : Int))) ∧ cmE 215 h c p (h - ba) kd ky vy 7 g m en (fun A B => ∃ X Y : wS, gvR A X ∧ coR g st k nf ty (fun i => prT (hmR ms m) i) es X Y ∧ gvR Y B) S Z))) := by
  obtain ⟨⟨hC, hI⟩, ⟨bc, bc0, bc1⟩, ⟨bp, bp0, bp1⟩, ⟨bh, bh0, bh1, bh2⟩, bl1, bl2, bl3⟩ := hP
  replace bp : S 220 (c - 1) = p := bp
  replace bh : S 216 2 = h := bh
  replace bh2 : h ≤ S 217 (-1) := bh2
  replace bl1 : S 218 (-1) = S 217 (-1) := bl1
  replace bl2 : 64 ≤ S 217 (-1) := bl2
  replace bl3 : S 217 (-1) ≤ 4095 := bl3
  refine wa_aload_n (n := 0) rfl ?_
  refine wb_gf4 158 rfl (wy_pr rfl) wt_158 wf_5_0 (v := 72) wl_158_0 ?_
  refine wb_gf5 72 rfl (wy_pr rfl) wt_72 wf_2_1 (v := 162) (h72) (fun r1 => ?_)
  refine wa_astore_n (n := 2) rfl ?_
  refine wa_aload_n (n := 2) rfl ?_
  refine wb_gf4 162 rfl (wy_pr rfl) wt_162 wf_3_3 (v := 185) wl_162_3 ?_
  refine wa_iconst ?_
  refine wb_aald5 185 1 rfl rfl (wy_pr rfl) wt_185 (by rw [show _ = _ from ((cl_185 hC))]; omega) wl_185_1 ?_
  refine wa_iload_n (n := 1) rfl ?_
  refine wb_iald 187 rfl (wy_pr rfl) wt_187 (n := 400) ((cl_187 hC)) (by omega) (by omega) (v := 2) (hso) (fun r2 => ?_)
  refine wa_iconst ?_
  refine wa_icmpne (w_rg0 (by omega) (by omega)) (w_rg0 (by omega) (by omega)) ⟨_, rfl⟩ (fun c3 => ?_) (fun c3 => ?_)
  · skip
    exact absurd c3 (by omega)
  · skip
    refine wa_iconst ?_
    refine wa_goto ⟨_, rfl⟩ ?_
    refine wa_istore_n (n := 3) rfl ?_
    refine wa_iload_n (n := 3) rfl ?_
    refine wa_ifne (w_rg0 (by omega) (by omega)) ⟨_, rfl⟩ (fun c4 => ?_) (fun c4 => ?_)
    · skip
      refine wa_iconst ?_
      refine wa_fall ⟨_, rfl⟩ ?_
      refine wa_istore (n := 4) rfl ?_
      refine wa_iload_n (n := 3) rfl ?_
      refine wa_ifeq (w_rg0 (by omega) (by omega)) ⟨_, rfl⟩ (fun c5 => ?_) (fun c5 => ?_)
      · skip
        exact absurd c5 (by omega)
      · skip
        refine wa_aload_n (n := 2) rfl ?_
        refine wb_gf4 162 rfl (wy_pr rfl) wt_162 wf_3_1 (v := 175) wl_162_1 ?_
        refine wa_bipush (w_rg2 (by omega) (by omega)) ?_
        refine wb_aald5 175 7 rfl rfl (wy_pr rfl) wt_175 (by rw [show _ = _ from ((cl_175 hC))]; omega) wl_175_7 ?_
        refine wa_aload_n (n := 2) rfl ?_
        refine wb_gf4 162 rfl (wy_pr rfl) wt_162 wf_3_3 (v := 185) wl_162_3 ?_
        refine wa_iconst ?_
        refine wb_aald5 185 0 rfl rfl (wy_pr rfl) wt_185 (by rw [show _ = _ from ((cl_185 hC))]; omega) wl_185_0 ?_
        refine wa_iload_n (n := 1) rfl ?_
        refine wb_iald 186 rfl (wy_pr rfl) wt_186 (n := 400) ((cl_186 hC)) (by omega) (by omega) (v := k) (hk) (fun r6 => ?_)
        refine wb_iald 183 rfl (wy_pr rfl) wt_183 (n := 60) ((cl_183 hC)) (by omega) (by omega) (v := (nf : Int)) (hkn) (fun r7 => ?_)
        refine wa_goto ⟨_, rfl⟩ ?_
        refine wa_istore (n := 5) rfl ?_
        refine wa_aload_n (n := 0) rfl ?_
        refine wb_gf4 158 rfl (wy_pr rfl) wt_158 wf_5_0 (v := 72) wl_158_0 ?_
        refine wb_gfi 72 rfl (wy_pr rfl) wt_72 wf_2_15 (v := tn) (ht15) (fun r8 => ?_)
        refine wa_iconst ?_
        refine wa_iadd ?_
        refine wb_ki (n := 100000) rfl ?_
        refine wa_icmpgt (w_rg0 (by omega) (by omega)) (w_rg0 (by omega) (by omega)) ⟨_, rfl⟩ (fun c9 => ?_) (fun c9 => ?_)
        · skip
          refine wa_aload_n (n := 0) rfl ?_
          refine wb_gf5 158 rfl (wy_pr rfl) wt_158 wf_5_4 (v := 215) (l4) (fun r10 => ?_)
          refine wa_bipush (w_rg2 (by omega) (by omega)) ?_
          refine wb_pfi 215 rfl (wy_pr rfl) wt_215 wf_8_16 (n := 16) rfl ⟨(by omega), (by omega)⟩ ?_
          refine wa_return rfl ?_
          exact ⟨rfl, Or.inl ⟨by omega, rfl⟩⟩
        · skip
          refine wa_iload_n (n := 3) rfl ?_
          refine wa_ifeq (w_rg0 (by omega) (by omega)) ⟨_, rfl⟩ (fun c11 => ?_) (fun c11 => ?_)
          · skip
            exact absurd c11 (by omega)
          · skip
            refine wa_aload_n (n := 0) rfl ?_
            refine wb_gf4 158 rfl (wy_pr rfl) wt_158 wf_5_0 (v := 72) wl_158_0 ?_
            refine wa_iconst ?_
            refine wa_iconst ?_
            refine wa_cv 72 rfl (wy_pr rfl) wt_72 (M2 := mS [217, 218, 152, 127, 128, 129, 130, 131, 132, 133, 134, 135, 136, 141, 142]) rfl at_XH_hasRoom ⟨_, rfl⟩ rfl rfl ⟨trivial, trivial, trivial, (Or.inr ⟨wy_pr rfl, mS_no rfl⟩), (Or.inr ⟨wy_pr rfl, mS_no rfl⟩), trivial, trivial⟩ trivial (fun _ _ q => q) ?_ (fun _ _ _ q => q)
            refine wa_aload_n (n := 0) rfl ?_
            refine wb_gf4 72 rfl (wy_pr rfl) wt_72 wf_2_10 (v := 150) wl_72_10 ?_
            refine wa_iload_n (n := 1) rfl ?_
            refine wb_iald 150 rfl (wy_pr rfl) wt_150 (n := 6) ((cl_150 hC)) (by omega) (by omega) (v := u0) (hu0) (fun r12 => ?_)
            refine wa_iload_n (n := 2) rfl ?_
            refine wa_iadd ?_
            refine wa_gs ?_
            refine wa_iload_n (n := 1) rfl ?_
            refine wb_xald 1 rfl hx1 (by decide) (by omega) (by decide) (v := 8000) (by decide) (fun r13 => ?_)
            refine wa_icmpgt (w_rg0 (by omega) (by omega)) (w_rg0 (by omega) (by omega)) ⟨_, rfl⟩ (fun c14 => ?_) (fun c14 => ?_)
            · skip
              refine wa_iconst ?_
              refine wa_fall ⟨_, rfl⟩ ?_
              refine wa_zreturn rfl (Or.inl rfl) ?_
              show wJ _ _ _ _ _ _ _ _ _ _
              refine wa_ifeq (w_rg0 (by omega) (by omega)) ⟨_, rfl⟩ (fun c15 => ?_) (fun c15 => ?_)
              · skip
                refine wa_aload_n (n := 0) rfl ?_
                refine wb_gf5 158 rfl (wy_pr rfl) wt_158 wf_5_4 (v := 215) (l4) (fun r16 => ?_)
                refine wa_bipush (w_rg2 (by omega) (by omega)) ?_
                refine wb_pfi 215 rfl (wy_pr rfl) wt_215 wf_8_16 (n := 16) rfl ⟨(by omega), (by omega)⟩ ?_
                refine wa_return rfl ?_
                exact ⟨rfl, Or.inl ⟨by omega, rfl⟩⟩
              · skip
                exact absurd c15 (by omega)
            · skip
              refine wa_iconst ?_
              refine wa_goto ⟨_, rfl⟩ ?_
              refine wa_zreturn rfl (Or.inr rfl) ?_
              show wJ _ _ _ _ _ _ _ _ _ _
              refine wa_ifeq (w_rg0 (by omega) (by omega)) ⟨_, rfl⟩ (fun c17 => ?_) (fun c17 => ?_)
              · skip
                exact absurd c17 (by omega)
              · skip
                refine wa_aload_n (n := 0) rfl ?_
                refine wb_gf4 158 rfl (wy_pr rfl) wt_158 wf_5_0 (v := 72) wl_158_0 ?_
                refine wa_iconst ?_
                refine wa_iload (n := 5) rfl ?_
                refine wa_cv 72 rfl (wy_pr rfl) wt_72 (M2 := mS [217, 218, 152, 127, 128, 129, 130, 131, 132, 133, 134, 135, 136, 141, 142]) rfl at_XH_hasRoom ⟨_, rfl⟩ rfl rfl ⟨trivial, trivial, trivial, (Or.inr ⟨wy_pr rfl, mS_no rfl⟩), (Or.inr ⟨wy_pr rfl, mS_no rfl⟩), trivial, trivial⟩ trivial (fun _ _ q => q) ?_ (fun _ _ _ q => q)
                refine wa_aload_n (n := 0) rfl ?_
                refine wb_gf4 72 rfl (wy_pr rfl) wt_72 wf_2_10 (v := 150) wl_72_10 ?_
                refine wa_iload_n (n := 1) rfl ?_
                refine wb_iald 150 rfl (wy_pr rfl) wt_150 (n := 6) ((cl_150 hC)) (by omega) (by omega) (v := v0) (hv) (fun r18 => ?_)
                refine wa_iload_n (n := 2) rfl ?_
                refine wa_iadd ?_
                refine wa_gs ?_
                refine wa_iload_n (n := 1) rfl ?_
                refine wb_xald 1 rfl hx1 (by decide) (by omega) (by decide) (v := 60000) (by decide) (fun r19 => ?_)
                refine wa_icmpgt (w_rg0 (by omega) (by omega)) (w_rg0 (by omega) (by omega)) ⟨_, rfl⟩ (fun c20 => ?_) (fun c20 => ?_)
                · skip
                  refine wa_iconst ?_
                  refine wa_fall ⟨_, rfl⟩ ?_
                  refine wa_zreturn rfl (Or.inl rfl) ?_
                  show wJ _ _ _ _ _ _ _ _ _ _
                  refine wa_ifeq (w_rg0 (by omega) (by omega)) ⟨_, rfl⟩ (fun c21 => ?_) (fun c21 => ?_)
                  · skip
                    refine wa_aload_n (n := 0) rfl ?_
                    refine wb_gf5 158 rfl (wy_pr rfl) wt_158 wf_5_4 (v := 215) (l4) (fun r22 => ?_)
                    refine wa_bipush (w_rg2 (by omega) (by omega)) ?_
                    refine wb_pfi 215 rfl (wy_pr rfl) wt_215 wf_8_16 (n := 16) rfl ⟨(by omega), (by omega)⟩ ?_
                    refine wa_return rfl ?_
                    exact ⟨rfl, Or.inl ⟨by omega, rfl⟩⟩
                  · skip
                    exact absurd c21 (by omega)
                · skip
                  refine wa_iconst ?_
                  refine wa_goto ⟨_, rfl⟩ ?_
                  refine wa_zreturn rfl (Or.inr rfl) ?_
                  show wJ _ _ _ _ _ _ _ _ _ _
                  refine wa_ifeq (w_rg0 (by omega) (by omega)) ⟨_, rfl⟩ (fun c23 => ?_) (fun c23 => ?_)
                  · skip
                    exact absurd c23 (by omega)
                  · skip
                    refine wa_fall ⟨_, rfl⟩ ?_
                    refine wa_iload (n := 4) rfl ?_
                    refine wa_ifeq (w_rg0 (by omega) (by omega)) ⟨_, rfl⟩ (fun c24 => ?_) (fun c24 => ?_)
                    · skip
                      refine wa_aload_n (n := 0) rfl ?_
                      refine wb_gf4 158 rfl (wy_pr rfl) wt_158 wf_5_0 (v := 72) wl_158_0 ?_
                      refine wa_iload_n (n := 1) rfl ?_
                      refine wa_aload_n (n := 0) rfl ?_
                      refine wb_gfi 158 rfl (wy_pr rfl) wt_158 wf_5_12 (v := en) (l12) (fun r25 => ?_)
                      refine wa_cv 72 rfl (wy_pr rfl) wt_72 (M2 := mS [152]) rfl at_XH_addTrace ⟨_, rfl⟩ rfl rfl ⟨trivial, trivial, trivial, (Or.inr ⟨wy_pr rfl, mS_no rfl⟩), (Or.inr ⟨wy_pr rfl, mS_no rfl⟩), trivial, trivial⟩ trivial (fun _ _ q => mS_sub (by decide) q) (tra (S := S) (m := m) (k := en) hI ⟨by omega, by omega⟩ ⟨by omega, by omega⟩ (by rw [ht15]; exact ht0) (by rw [ht15]; exact ht9)) (fun oq26 Sq26 hp27 q26 => ?_)
                      rcases q26 with ⟨rfl, tr26⟩
                      show wJ _ _ _ _ _ _ _ _ _ _
                      refine wa_aload_n (n := 0) rfl ?_
                      refine wa_iconst ?_
                      refine wb_pfi 158 rfl (wy_pr rfl) wt_158 wf_5_16 (n := 16) rfl ⟨(by omega), (by omega)⟩ ?_
                      refine wa_aload_n (n := 0) rfl ?_
                      refine wb_lconst (m := 0) rfl ?_
                      refine wb_pfl 158 rfl (wy_pr rfl) wt_158 wf_5_17 (n := 17) rfl ⟨(by omega), (by omega)⟩ ?_
                      refine wa_iload_n (n := 3) rfl ?_
                      refine wa_ifeq (w_rg0 (by omega) (by omega)) ⟨_, rfl⟩ (fun c28 => ?_) (fun c28 => ?_)
                      · skip
                        exact absurd c28 (by omega)
                      · skip
                        refine wa_aload_n (n := 0) rfl ?_
                        refine wa_iload_n (n := 1) rfl ?_
                        have hf2 : ∀ (j : Nat) (i : Int), j < 4000000 → j ≠ wG → j ≠ 152 → j ≠ 72 → j ≠ 158 → (w_up (w_up Sq26 158 16 0) 158 17 0) j i = S j i := fun j i a b c d e => (w_up_no (fun z => e z.1)).trans ((w_up_no (fun z => e z.1)).trans (tr26.2.2.2.1 j i a b c (Or.inl d)))
                        have hwg : wG = 1000000 := rfl
                        have hK2 : KC 176 186 182 203 204 163 162 T cs ms os (w_up (w_up Sq26 158 16 0) 158 17 0) := KC_ag hK (hf2 162 _ (by first | decide | omega) (by first | decide | omega) (by first | decide | omega) (by first | decide | omega) (by first | decide | omega)) (hf2 162 _ (by first | decide | omega) (by first | decide | omega) (by first | decide | omega) (by first | decide | omega) (by first | decide | omega)) (fun j hj => funext fun i => hf2 j i (by omega) (by omega) (by omega) (by omega) (by omega))
                        have e1 : (w_up (w_up Sq26 158 16 0) 158 17 0) 217 (-1) = S 217 (-1) := (hf2 217 _ (by first | decide | omega) (by first | decide | omega) (by first | decide | omega) (by first | decide | omega) (by first | decide | omega))
                        have e2 : (w_up (w_up Sq26 158 16 0) 158 17 0) 218 (-1) = S 218 (-1) := (hf2 218 _ (by first | decide | omega) (by first | decide | omega) (by first | decide | omega) (by first | decide | omega) (by first | decide | omega))
                        have e3 : (w_up (w_up Sq26 158 16 0) 158 17 0) 141 (-1) = S 141 (-1) := (hf2 141 _ (by first | decide | omega) (by first | decide | omega) (by first | decide | omega) (by first | decide | omega) (by first | decide | omega))
                        have e4 : (w_up (w_up Sq26 158 16 0) 158 17 0) 142 (-1) = S 142 (-1) := (hf2 142 _ (by first | decide | omega) (by first | decide | omega) (by first | decide | omega) (by first | decide | omega) (by first | decide | omega))
                        have e5 : (w_up (w_up Sq26 158 16 0) 158 17 0) 127 (-1) = S 127 (-1) := (hf2 127 _ (by first | decide | omega) (by first | decide | omega) (by first | decide | omega) (by first | decide | omega) (by first | decide | omega))
                        have hth2 : ∀ x : Nat, x < 10 → (w_up (w_up Sq26 158 16 0) 158 17 0) (127 + x) (-1) = (w_up (w_up Sq26 158 16 0) 158 17 0) 127 (-1) := fun x hx => by rw [hf2 (127 + x) (-1) (by omega) (by omega) (by omega) (by omega) (by omega), e5]; exact hth x hx
                        refine wa_cv 158 rfl (wy_pr rfl) wt_158 (M2 := mS [127, 128, 129, 130, 131, 132, 133, 134, 135, 136, 141, 142]) rfl at_XL_construct ⟨_, rfl⟩ rfl rfl ⟨trivial, trivial, trivial, (Or.inr ⟨wy_pr rfl, mS_no rfl⟩), (Or.inr ⟨wy_pr rfl, mS_no rfl⟩), trivial, trivial⟩ trivial (fun _ _ q => mS_sub (by decide) q) (con_162_215 (S := (w_up (w_up Sq26 158 16 0) 158 17 0)) (m := m) (k := k) (g := g) (st := st) (ba := ba) (u0 := u0) (v0 := v0) (nf := nf) (fd := fd) (ty := ty) (es := es) (w_CL_up (w_CL_up (CL_tr hC tr26) (by omega)) (by omega)) (gI_up (gI_up tr26.2.2.2.2.2.1 (by omega) (by omega) (by omega)) (by omega) (by omega) (by omega)) hK2 hw ((w_up_slot (by decide)).trans ((w_up_slot (by decide)).trans (((tr26.2.2.2.1 72 1 (by decide) (by decide) (by decide) (Or.inr (by decide))).trans (h72))))) ((w_up_at (by decide)).trans ((w_up_at (by decide)).trans (((tr26.2.2.2.1 158 5 (by decide) (by decide) (by decide) (Or.inl (by decide))).trans (l5))))) ((w_up_at (by decide)).trans ((w_up_at (by decide)).trans (((tr26.2.2.2.1 158 8 (by decide) (by decide) (by decide) (Or.inl (by decide))).trans (l8))))) (((w_up_at (by decide)).trans ((w_up_at (by decide)).trans (((tr26.2.2.2.1 158 12 (by decide) (by decide) (by decide) (Or.inl (by decide))).trans (l12))))).trans hel) ⟨hm.1, hm2⟩ hpn (by omega) (by rw [e1, e2]; exact bl1) (by rw [e1]; exact ⟨by omega, by omega, bl3⟩) (fun i hi => ⟨(hf2 217 _ (by decide) (by decide) (by decide) (by decide) (by decide)).trans (hes i hi).1, (hf2 218 _ (by decide) (by decide) (by decide) (by decide) (by decide)).trans (hes i hi).2⟩) hev (by rw [e3, e4]; exact hl) (by rw [e3]; exact hz) ((hf2 140 _ (by decide) (by decide) (by decide) (by decide) (by decide)).trans h2) (by rw [e3]; exact ⟨hst.1, hst.2.1, by omega⟩) hfd (fun i hi => (hf2 189 _ (by decide) (by decide) (by decide) (by decide) (by decide)).trans (hft i hi)) (fun i hi => (hf2 202 _ (by decide) (by decide) (by decide) (by decide) (by decide)).trans (hfb i hi)) hnf hth2 ((w_up_slot (by decide)).trans ((w_up_slot (by decide)).trans (((tr26.2.2.2.1 72 3 (by decide) (by decide) (by decide) (Or.inr (by decide))).trans (hn))))) (by rw [e5]; exact hn1) (by rw [e5]; exact hn2) ((hf2 150 _ (by decide) (by decide) (by decide) (by decide) (by decide)).trans hu0) hu1 ((hf2 150 _ (by decide) (by decide) (by decide) (by decide) (by decide)).trans hv) ⟨by omega, by omega⟩ ((hf2 186 _ (by decide) (by decide) (by decide) (by decide) (by decide)).trans hk) hk1 ((hf2 183 _ (by decide) (by decide) (by decide) (by decide) (by decide)).trans hkn) (fun z => (hf2 184 _ (by decide) (by decide) (by decide) (by decide) (by decide)).trans (hla z))) (fun oq29 Sq29 hp30 q29 => ?_)
                        rcases q29 with ⟨rfl, co29⟩
                        show wJ _ _ _ _ _ _ _ _ _ _
                        have co29f := co_fr co29 hn1.1 hst.1
                        refine wa_goto ⟨_, rfl⟩ ?_
                        refine wa_aload_n (n := 0) rfl ?_
                        refine wb_gfi 158 rfl (wy_pr rfl) wt_158 wf_5_7 (v := kd) (((co29f.2.1 158 7 (by decide) (by decide) (by decide) (by decide) (by decide) (by decide) (by decide) (by decide) (Or.inr (by decide))).trans ((w_up_at (by decide)).trans ((w_up_at (by decide)).trans (((tr26.2.2.2.1 158 7 (by decide) (by decide) (by decide) (Or.inl (by decide))).trans (l7))))))) (fun r31 => ?_)
                        refine wa_iconst ?_
                        refine wa_icmpne (w_rg0 (by omega) (by omega)) (w_rg0 (by omega) (by omega)) ⟨_, rfl⟩ (fun c32 => ?_) (fun c32 => ?_)
                        · skip
                          refine wa_aload_n (n := 0) rfl ?_
                          refine wa_aload_n (n := 0) rfl ?_
                          refine wb_gfi 158 rfl (wy_pr rfl) wt_158 wf_5_16 (v := 7) (co29f.1.1) (fun r33 => ?_)
                          refine wa_aload_n (n := 0) rfl ?_
                          refine wb_gfl 158 rfl (wy_pr rfl) wt_158 wf_5_17 (v := g) (co29f.1.2) (fun r34 => ?_)
                          refine wa_cv 158 rfl (wy_pr rfl) wt_158 (M2 := mS [217, 218]) rfl at_XL_giveValue ⟨_, rfl⟩ rfl rfl ⟨trivial, trivial, trivial, (Or.inr ⟨wy_pr rfl, mS_no rfl⟩), (Or.inr ⟨wy_pr rfl, mS_no rfl⟩), trivial, trivial⟩ trivial (fun _ _ q => mS_sub (by decide) q) (glx_215 (S := Sq29) (k := 7) (v := g) (h := h) (c := c) (p := p) (ba := ba) (co29f.2.2.1 (w_CL_up (w_CL_up (CL_tr hC tr26) (by omega)) (by omega))) co29f.2.2.2.1 (((co29f.2.1 158 4 (by decide) (by decide) (by decide) (by decide) (by decide) (by decide) (by decide) (by decide) (Or.inr (by decide))).trans ((w_up_at (by decide)).trans ((w_up_at (by decide)).trans (((tr26.2.2.2.1 158 4 (by decide) (by decide) (by decide) (Or.inl (by decide))).trans (l4))))))) (((co29f.2.1 158 5 (by decide) (by decide) (by decide) (by decide) (by decide) (by decide) (by decide) (by decide) (Or.inr (by decide))).trans ((w_up_at (by decide)).trans ((w_up_at (by decide)).trans (((tr26.2.2.2.1 158 5 (by decide) (by decide) (by decide) (Or.inl (by decide))).trans (l5))))))) (((co29f.2.1 158 8 (by decide) (by decide) (by decide) (by decide) (by decide) (by decide) (by decide) (by decide) (Or.inr (by decide))).trans ((w_up_at (by decide)).trans ((w_up_at (by decide)).trans (((tr26.2.2.2.1 158 8 (by decide) (by decide) (by decide) (Or.inl (by decide))).trans (l8))))))) (((co29f.2.1 215 4 (by decide) (by decide) (by decide) (by decide) (by decide) (by decide) (by decide) (by decide) (Or.inl (by decide))).trans ((w_up_slot (by decide)).trans ((w_up_slot (by decide)).trans (((tr26.2.2.2.1 215 4 (by decide) (by decide) (by decide) (Or.inl (by decide))).trans (bc))))))) (((co29f.2.1 220 (c - 1) (by decide) (by decide) (by decide) (by decide) (by decide) (by decide) (by decide) (by decide) (Or.inl (by decide))).trans ((w_up_slot (by decide)).trans ((w_up_slot (by decide)).trans (((tr26.2.2.2.1 220 (c - 1) (by decide) (by decide) (by decide) (Or.inl (by decide))).trans (bp))))))) (((((co29f.2.1 218 (-1) (by decide) (by decide) (by decide) (by decide) (by decide) (by decide) (by decide) (by decide) (Or.inl (by decide))).trans ((w_up_slot (by decide)).trans ((w_up_slot (by decide)).trans (((tr26.2.2.2.1 218 (-1) (by decide) (by decide) (by decide) (Or.inl (by decide))).trans (bl1)))))))).trans ((((co29f.2.1 217 (-1) (by decide) (by decide) (by decide) (by decide) (by decide) (by decide) (by decide) (by decide) (Or.inl (by decide))).trans ((w_up_slot (by decide)).trans ((w_up_slot (by decide)).trans (((tr26.2.2.2.1 217 (-1) (by decide) (by decide) (by decide) (Or.inl (by decide))).trans (rfl)))))))).symm) (by have e : Sq29 217 (-1) = S 217 (-1) := (((co29f.2.1 217 (-1) (by decide) (by decide) (by decide) (by decide) (by decide) (by decide) (by decide) (by decide) (Or.inl (by decide))).trans ((w_up_slot (by decide)).trans ((w_up_slot (by decide)).trans (((tr26.2.2.2.1 217 (-1) (by decide) (by decide) (by decide) (Or.inl (by decide))).trans (rfl))))))); rw [e]; exact ⟨bl2, bl3⟩) (by have e : Sq29 217 (-1) = S 217 (-1) := (((co29f.2.1 217 (-1) (by decide) (by decide) (by decide) (by decide) (by decide) (by decide) (by decide) (by decide) (Or.inl (by decide))).trans ((w_up_slot (by decide)).trans ((w_up_slot (by decide)).trans (((tr26.2.2.2.1 217 (-1) (by decide) (by decide) (by decide) (Or.inl (by decide))).trans (rfl))))))); omega) ⟨by omega, by omega⟩ ⟨by omega, by omega⟩ ⟨by omega, by omega⟩ ⟨by omega, by omega⟩) (fun oq35 Sq35 hp36 q35 => ?_)
                          rcases q35 with ⟨rfl, hgv35⟩
                          show wJ _ _ _ _ _ _ _ _ _ _
                          refine wa_return rfl ?_
                          refine ⟨rfl, Or.inr ⟨by omega, Sq26, Sq29, tr26, ?_, ?_⟩⟩
                          · exact ⟨_, _, fun j i hji => (w_up_no (by omega)).trans ((w_up_no (by omega)).trans (rfl)), co29, fun j i hji => rfl⟩
                          · first | (rw [if_pos (show kd = 1 by omega), if_pos (show kd = 1 by omega)]; exact hgv35) | (rw [if_neg (show ¬ kd = 1 by omega), if_neg (show ¬ kd = 1 by omega)]; exact hgv35)
                        · skip
                          refine wa_aload_n (n := 0) rfl ?_
                          refine wa_aload_n (n := 0) rfl ?_
                          refine wb_gf5 158 rfl (wy_pr rfl) wt_158 wf_5_5 (v := 216) (((co29f.2.1 158 5 (by decide) (by decide) (by decide) (by decide) (by decide) (by decide) (by decide) (by decide) (Or.inr (by decide))).trans ((w_up_at (by decide)).trans ((w_up_at (by decide)).trans (((tr26.2.2.2.1 158 5 (by decide) (by decide) (by decide) (Or.inl (by decide))).trans (l5))))))) (fun r37 => ?_)
                          refine wb_gf4 216 rfl (wy_pr rfl) wt_216 wf_7_0 (v := 217) wl_216_0 ?_
                          refine wa_aload_n (n := 0) rfl ?_
                          refine wb_gf5 158 rfl (wy_pr rfl) wt_158 wf_5_5 (v := 216) (((co29f.2.1 158 5 (by decide) (by decide) (by decide) (by decide) (by decide) (by decide) (by decide) (by decide) (Or.inr (by decide))).trans ((w_up_at (by decide)).trans ((w_up_at (by decide)).trans (((tr26.2.2.2.1 158 5 (by decide) (by decide) (by decide) (Or.inl (by decide))).trans (l5))))))) (fun r38 => ?_)
                          refine wb_gfi 216 rfl (wy_pr rfl) wt_216 wf_7_2 (v := h) (((co29f.2.1 216 2 (by decide) (by decide) (by decide) (by decide) (by decide) (by decide) (by decide) (by decide) (Or.inl (by decide))).trans ((w_up_slot (by decide)).trans ((w_up_slot (by decide)).trans (((tr26.2.2.2.1 216 2 (by decide) (by decide) (by decide) (Or.inl (by decide))).trans (bh))))))) (fun r39 => ?_)
                          refine wa_iconst ?_
                          refine wa_isub ?_
                          refine wb_bald 217 rfl (wy_pr rfl) wt_217 (n := (S 217 (-1))) (((co29f.2.1 217 (-1) (by decide) (by decide) (by decide) (by decide) (by decide) (by decide) (by decide) (by decide) (Or.inl (by decide))).trans ((w_up_slot (by decide)).trans ((w_up_slot (by decide)).trans (((tr26.2.2.2.1 217 (-1) (by decide) (by decide) (by decide) (Or.inl (by decide))).trans (rfl))))))) (by omega) (by omega) (v := ky) (((co29f.2.1 217 (h - 1) (by decide) (by decide) (by decide) (by decide) (by decide) (by decide) (by decide) (by decide) (Or.inl (by decide))).trans ((w_up_slot (by decide)).trans ((w_up_slot (by decide)).trans (((tr26.2.2.2.1 217 (h - 1) (by decide) (by decide) (by decide) (Or.inl (by decide))).trans (hky))))))) (fun r40 => ?_)
                          refine wb_pfi 158 rfl (wy_pr rfl) wt_158 wf_5_16 (n := 16) rfl ⟨(by omega), (by omega)⟩ ?_
                          refine wa_aload_n (n := 0) rfl ?_
                          refine wa_aload_n (n := 0) rfl ?_
                          refine wb_gf5 158 rfl (wy_pr rfl) wt_158 wf_5_5 (v := 216) ((w_up_at (by decide)).trans (((co29f.2.1 158 5 (by decide) (by decide) (by decide) (by decide) (by decide) (by decide) (by decide) (by decide) (Or.inr (by decide))).trans ((w_up_at (by decide)).trans ((w_up_at (by decide)).trans (((tr26.2.2.2.1 158 5 (by decide) (by decide) (by decide) (Or.inl (by decide))).trans (l5)))))))) (fun r41 => ?_)
                          refine wb_gf4 216 rfl (wy_pr rfl) wt_216 wf_7_1 (v := 218) wl_216_1 ?_
                          refine wa_aload_n (n := 0) rfl ?_
                          refine wb_gf5 158 rfl (wy_pr rfl) wt_158 wf_5_5 (v := 216) ((w_up_at (by decide)).trans (((co29f.2.1 158 5 (by decide) (by decide) (by decide) (by decide) (by decide) (by decide) (by decide) (by decide) (Or.inr (by decide))).trans ((w_up_at (by decide)).trans ((w_up_at (by decide)).trans (((tr26.2.2.2.1 158 5 (by decide) (by decide) (by decide) (Or.inl (by decide))).trans (l5)))))))) (fun r42 => ?_)
                          refine wb_gfi 216 rfl (wy_pr rfl) wt_216 wf_7_2 (v := h) ((w_up_slot (by decide)).trans (((co29f.2.1 216 2 (by decide) (by decide) (by decide) (by decide) (by decide) (by decide) (by decide) (by decide) (Or.inl (by decide))).trans ((w_up_slot (by decide)).trans ((w_up_slot (by decide)).trans (((tr26.2.2.2.1 216 2 (by decide) (by decide) (by decide) (Or.inl (by decide))).trans (bh)))))))) (fun r43 => ?_)
                          refine wa_iconst ?_
                          refine wa_isub ?_
                          refine wb_lald 218 rfl (wy_pr rfl) wt_218 (n := (S 217 (-1))) ((w_up_slot (by decide)).trans (((co29f.2.1 218 (-1) (by decide) (by decide) (by decide) (by decide) (by decide) (by decide) (by decide) (by decide) (Or.inl (by decide))).trans ((w_up_slot (by decide)).trans ((w_up_slot (by decide)).trans (((tr26.2.2.2.1 218 (-1) (by decide) (by decide) (by decide) (Or.inl (by decide))).trans (bl1)))))))) (by omega) (by omega) (v := vy) ((w_up_slot (by decide)).trans (((co29f.2.1 218 (h - 1) (by decide) (by decide) (by decide) (by decide) (by decide) (by decide) (by decide) (by decide) (Or.inl (by decide))).trans ((w_up_slot (by decide)).trans ((w_up_slot (by decide)).trans (((tr26.2.2.2.1 218 (h - 1) (by decide) (by decide) (by decide) (Or.inl (by decide))).trans (hvy)))))))) (fun r44 => ?_)
                          refine wb_pfl 158 rfl (wy_pr rfl) wt_158 wf_5_17 (n := 17) rfl ⟨(by omega), (by omega)⟩ ?_
                          refine wa_fall ⟨_, rfl⟩ ?_
                          refine wa_aload_n (n := 0) rfl ?_
                          refine wa_aload_n (n := 0) rfl ?_
                          refine wb_gfi 158 rfl (wy_pr rfl) wt_158 wf_5_16 (v := ky) ((w_up_at (by decide)).trans (w_up_same _ _ _ _)) (fun r45 => ?_)
                          refine wa_aload_n (n := 0) rfl ?_
                          refine wb_gfl 158 rfl (wy_pr rfl) wt_158 wf_5_17 (v := vy) (w_up_same _ _ _ _) (fun r46 => ?_)
                          refine wa_cv 158 rfl (wy_pr rfl) wt_158 (M2 := mS [217, 218]) rfl at_XL_giveValue ⟨_, rfl⟩ rfl rfl ⟨trivial, trivial, trivial, (Or.inr ⟨wy_pr rfl, mS_no rfl⟩), (Or.inr ⟨wy_pr rfl, mS_no rfl⟩), trivial, trivial⟩ trivial (fun _ _ q => mS_sub (by decide) q) (glx_215 (S := (w_up (w_up Sq29 158 16 ky) 158 17 vy)) (k := ky) (v := vy) (h := h) (c := c) (p := p) (ba := ba) (w_CL_up (w_CL_up (co29f.2.2.1 (w_CL_up (w_CL_up (CL_tr hC tr26) (by omega)) (by omega))) (by omega)) (by omega)) (gI_up (gI_up co29f.2.2.2.1 (by omega) (by omega) (by omega)) (by omega) (by omega) (by omega)) ((w_up_at (by decide)).trans ((w_up_at (by decide)).trans (((co29f.2.1 158 4 (by decide) (by decide) (by decide) (by decide) (by decide) (by decide) (by decide) (by decide) (Or.inr (by decide))).trans ((w_up_at (by decide)).trans ((w_up_at (by decide)).trans (((tr26.2.2.2.1 158 4 (by decide) (by decide) (by decide) (Or.inl (by decide))).trans (l4))))))))) ((w_up_at (by decide)).trans ((w_up_at (by decide)).trans (((co29f.2.1 158 5 (by decide) (by decide) (by decide) (by decide) (by decide) (by decide) (by decide) (by decide) (Or.inr (by decide))).trans ((w_up_at (by decide)).trans ((w_up_at (by decide)).trans (((tr26.2.2.2.1 158 5 (by decide) (by decide) (by decide) (Or.inl (by decide))).trans (l5))))))))) ((w_up_at (by decide)).trans ((w_up_at (by decide)).trans (((co29f.2.1 158 8 (by decide) (by decide) (by decide) (by decide) (by decide) (by decide) (by decide) (by decide) (Or.inr (by decide))).trans ((w_up_at (by decide)).trans ((w_up_at (by decide)).trans (((tr26.2.2.2.1 158 8 (by decide) (by decide) (by decide) (Or.inl (by decide))).trans (l8))))))))) ((w_up_slot (by decide)).trans ((w_up_slot (by decide)).trans (((co29f.2.1 215 4 (by decide) (by decide) (by decide) (by decide) (by decide) (by decide) (by decide) (by decide) (Or.inl (by decide))).trans ((w_up_slot (by decide)).trans ((w_up_slot (by decide)).trans (((tr26.2.2.2.1 215 4 (by decide) (by decide) (by decide) (Or.inl (by decide))).trans (bc))))))))) ((w_up_slot (by decide)).trans ((w_up_slot (by decide)).trans (((co29f.2.1 220 (c - 1) (by decide) (by decide) (by decide) (by decide) (by decide) (by decide) (by decide) (by decide) (Or.inl (by decide))).trans ((w_up_slot (by decide)).trans ((w_up_slot (by decide)).trans (((tr26.2.2.2.1 220 (c - 1) (by decide) (by decide) (by decide) (Or.inl (by decide))).trans (bp))))))))) ((((w_up_slot (by decide)).trans ((w_up_slot (by decide)).trans (((co29f.2.1 218 (-1) (by decide) (by decide) (by decide) (by decide) (by decide) (by decide) (by decide) (by decide) (Or.inl (by decide))).trans ((w_up_slot (by decide)).trans ((w_up_slot (by decide)).trans (((tr26.2.2.2.1 218 (-1) (by decide) (by decide) (by decide) (Or.inl (by decide))).trans (bl1)))))))))).trans (((w_up_slot (by decide)).trans ((w_up_slot (by decide)).trans (((co29f.2.1 217 (-1) (by decide) (by decide) (by decide) (by decide) (by decide) (by decide) (by decide) (by decide) (Or.inl (by decide))).trans ((w_up_slot (by decide)).trans ((w_up_slot (by decide)).trans (((tr26.2.2.2.1 217 (-1) (by decide) (by decide) (by decide) (Or.inl (by decide))).trans (rfl)))))))))).symm) (by have e : (w_up (w_up Sq29 158 16 ky) 158 17 vy) 217 (-1) = S 217 (-1) := ((w_up_slot (by decide)).trans ((w_up_slot (by decide)).trans (((co29f.2.1 217 (-1) (by decide) (by decide) (by decide) (by decide) (by decide) (by decide) (by decide) (by decide) (Or.inl (by decide))).trans ((w_up_slot (by decide)).trans ((w_up_slot (by decide)).trans (((tr26.2.2.2.1 217 (-1) (by decide) (by decide) (by decide) (Or.inl (by decide))).trans (rfl))))))))); rw [e]; exact ⟨bl2, bl3⟩) (by have e : (w_up (w_up Sq29 158 16 ky) 158 17 vy) 217 (-1) = S 217 (-1) := ((w_up_slot (by decide)).trans ((w_up_slot (by decide)).trans (((co29f.2.1 217 (-1) (by decide) (by decide) (by decide) (by decide) (by decide) (by decide) (by decide) (by decide) (Or.inl (by decide))).trans ((w_up_slot (by decide)).trans ((w_up_slot (by decide)).trans (((tr26.2.2.2.1 217 (-1) (by decide) (by decide) (by decide) (Or.inl (by decide))).trans (rfl))))))))); omega) ⟨by omega, by omega⟩ ⟨by omega, by omega⟩ ⟨by omega, by omega⟩ ⟨by omega, by omega⟩) (fun oq47 Sq47 hp48 q47 => ?_)
                          rcases q47 with ⟨rfl, hgv47⟩
                          show wJ _ _ _ _ _ _ _ _ _ _
                          refine wa_return rfl ?_
                          refine ⟨rfl, Or.inr ⟨by omega, Sq26, (w_up (w_up Sq29 158 16 ky) 158 17 vy), tr26, ?_, ?_⟩⟩
                          · exact ⟨_, _, fun j i hji => (w_up_no (by omega)).trans ((w_up_no (by omega)).trans (rfl)), co29, fun j i hji => (w_up_no (by omega)).trans ((w_up_no (by omega)).trans (rfl))⟩
                          · first | (rw [if_pos (show kd = 1 by omega), if_pos (show kd = 1 by omega)]; exact hgv47) | (rw [if_neg (show ¬ kd = 1 by omega), if_neg (show ¬ kd = 1 by omega)]; exact hgv47)
                    · skip
                      exact absurd c24 (by omega)
    · skip
      exact absurd c4 (by omega)
set_option maxHeartbeats 4000000 in
theorem cmk_162_226 {c p h kd ba m en tn ky vy k g st u0 v0 : Int} (hP : xP 226 c p h S) (l4 : S 158 4 = 226) (l5 : S 158 5 = 227) (l7 : S 158 7 = kd) (l8 : S 158 8 = ba) (l12 : S 158 12 = en) (hen : 0 ≤ en ∧ en ≤ 1000) (hba : 0 ≤ ba ∧ ba < h) (h72 : S 72 1 = 162) (hm : 0 ≤ m ∧ m < 400) (hso : S 187 m = 2) (ht15 : S 72 15 = tn) (ht0 : 0 ≤ tn ∧ tn ≤ S 152 (-1) ∧ tn ≤ 100000) (ht9 : 16 ≤ S 152 (-1) ∧ S 152 (-1) ≤ 131072 ∨ (16 ≤ S 152 (-1) ∧ S 152 (-1) ≤ 262143 ∧ tn + 2 ≤ S 152 (-1))) (hky : S 228 (h - 1) = ky) (hvy : S 229 (h - 1) = vy) (hkr : -128 ≤ ky ∧ ky ≤ 127) (hvr : -9223372036854775808 ≤ vy ∧ vy ≤ 9223372036854775807) {nf : Nat} {fd ty : Nat → Int} {es : List (Int × Int)} (hx1 : pe_at (pe_GA xs).xs 1 = some (1, tx_1)) (hK : KC 176 186 182 203 204 163 162 T cs ms os S) (hw : wHo cs ms os) (hel : en = (es.length : Int)) (heb : ba + 1 + en ≤ h) (hm2 : m < (ms.length : Int)) (hpn : 0 < es.length → 1 ≤ (hmR ms m).2.2.2.2.1.length) (hes : ∀ i : Nat, i < es.length → S 228 (ba + 1 + (i : Int)) = (es.getD i (0, 0)).1 ∧ S 229 (ba + 1 + (i : Int)) = (es.getD i (0, 0)).2) (hev : ∀ i : Nat, i < es.length → (-128 ≤ (es.getD i (0, 0)).1 ∧ (es.getD i (0, 0)).1 ≤ 127) ∧ (-9223372036854775808 ≤ (es.getD i (0, 0)).2 ∧ (es.getD i (0, 0)).2 ≤ 9223372036854775807)) (hl : S 142 (-1) = S 141 (-1)) (hz : 16 ≤ S 141 (-1) ∧ S 141 (-1) ≤ 480400) (h2 : S 140 2 = st) (hst : 0 ≤ st ∧ st ≤ S 141 (-1) ∧ st ≤ 4 * v0) (hfd : ∀ i : Nat, i < nf → 0 ≤ fd i ∧ fd i < 400) (hft : ∀ i : Nat, i < nf → S 189 (fd i) = ty i) (hfb : ∀ i : Nat, i + 1 < nf → S 202 (fd (i + 1)) = fd i) (hnf : nf ≤ 1000) (hth : ∀ x : Nat, x < 10 → S (127 + x) (-1) = S 127 (-1)) (hn : S 72 3 = g) (hn1 : 0 ≤ g ∧ g ≤ S 127 (-1) ∧ g ≤ 8000) (hn2 : 64 ≤ S 127 (-1) ∧ S 127 (-1) ≤ 16383) (hu0 : S 150 0 = u0) (hu1 : 0 ≤ u0 ∧ u0 ≤ 8000) (hv : S 150 1 = v0) (hv0 : 0 ≤ v0 ∧ v0 ≤ 60000) (hk : S 186 m = k) (hk1 : 0 ≤ k ∧ k < 60) (hkn : S 183 k = (nf : Int)) (hla : 0 < nf → S 184 k = fd (nf - 1)) : wJ (pe_GA xs) wY0 (mS [228, 229, 152, 127, 128, 129, 130, 131, 132, 133, 134, 135, 136, 141, 142]) (d + 7) t_XL_callMember ((pe_at t_XL_callMember.bl 0).getD (0, [])).2 [(0, (2, 158)), (1, (0, m))] [] S (fun o Z => o = .inl none ∧ (((100000 < tn + 2 ∨ 8000 < u0 + 1 ∨ 60000 < v0 + (nf : Int)) ∧ w_up S 226 16 99 = Z) ∨ (¬ ((100000 < tn + 2 ∨ 8000 < u0 + 1 ∨ 60000 < v0 + (nf : Int))) ∧ cmE 226 h c p (h - ba) kd ky vy 7 g m en (fun A B => ∃ X Y : wS, gvR A X ∧ coR g st k nf ty (fun i => prT (hmR ms m) i) es X Y ∧ gvR Y B) S Z))) := by
  obtain ⟨⟨hC, hI⟩, ⟨bc, bc0, bc1⟩, ⟨bp, bp0, bp1⟩, ⟨bh, bh0, bh1, bh2⟩, bl1, bl2, bl3⟩ := hP
  replace bp : S 231 (c - 1) = p := bp
  replace bh : S 227 2 = h := bh
  replace bh2 : h ≤ S 228 (-1) := bh2
  replace bl1 : S 229 (-1) = S 228 (-1) := bl1
  replace bl2 : 64 ≤ S 228 (-1) := bl2
  replace bl3 : S 228 (-1) ≤ 4095 := bl3
  refine wa_aload_n (n := 0) rfl ?_
  refine wb_gf4 158 rfl (wy_pr rfl) wt_158 wf_5_0 (v := 72) wl_158_0 ?_
  refine wb_gf5 72 rfl (wy_pr rfl) wt_72 wf_2_1 (v := 162) (h72) (fun r1 => ?_)
  refine wa_astore_n (n := 2) rfl ?_
  refine wa_aload_n (n := 2) rfl ?_
  refine wb_gf4 162 rfl (wy_pr rfl) wt_162 wf_3_3 (v := 185) wl_162_3 ?_
  refine wa_iconst ?_
  refine wb_aald5 185 1 rfl rfl (wy_pr rfl) wt_185 (by rw [show _ = _ from ((cl_185 hC))]; omega) wl_185_1 ?_
  refine wa_iload_n (n := 1) rfl ?_
  refine wb_iald 187 rfl (wy_pr rfl) wt_187 (n := 400) ((cl_187 hC)) (by omega) (by omega) (v := 2) (hso) (fun r2 => ?_)
  refine wa_iconst ?_
  refine wa_icmpne (w_rg0 (by omega) (by omega)) (w_rg0 (by omega) (by omega)) ⟨_, rfl⟩ (fun c3 => ?_) (fun c3 => ?_)
  · skip
    exact absurd c3 (by omega)
  · skip
    refine wa_iconst ?_
    refine wa_goto ⟨_, rfl⟩ ?_
    refine wa_istore_n (n := 3) rfl ?_
    refine wa_iload_n (n := 3) rfl ?_
    refine wa_ifne (w_rg0 (by omega) (by omega)) ⟨_, rfl⟩ (fun c4 => ?_) (fun c4 => ?_)
    · skip
      refine wa_iconst ?_
      refine wa_fall ⟨_, rfl⟩ ?_
      refine wa_istore (n := 4) rfl ?_
      refine wa_iload_n (n := 3) rfl ?_
      refine wa_ifeq (w_rg0 (by omega) (by omega)) ⟨_, rfl⟩ (fun c5 => ?_) (fun c5 => ?_)
      · skip
        exact absurd c5 (by omega)
      · skip
        refine wa_aload_n (n := 2) rfl ?_
        refine wb_gf4 162 rfl (wy_pr rfl) wt_162 wf_3_1 (v := 175) wl_162_1 ?_
        refine wa_bipush (w_rg2 (by omega) (by omega)) ?_
        refine wb_aald5 175 7 rfl rfl (wy_pr rfl) wt_175 (by rw [show _ = _ from ((cl_175 hC))]; omega) wl_175_7 ?_
        refine wa_aload_n (n := 2) rfl ?_
        refine wb_gf4 162 rfl (wy_pr rfl) wt_162 wf_3_3 (v := 185) wl_162_3 ?_
        refine wa_iconst ?_
        refine wb_aald5 185 0 rfl rfl (wy_pr rfl) wt_185 (by rw [show _ = _ from ((cl_185 hC))]; omega) wl_185_0 ?_
        refine wa_iload_n (n := 1) rfl ?_
        refine wb_iald 186 rfl (wy_pr rfl) wt_186 (n := 400) ((cl_186 hC)) (by omega) (by omega) (v := k) (hk) (fun r6 => ?_)
        refine wb_iald 183 rfl (wy_pr rfl) wt_183 (n := 60) ((cl_183 hC)) (by omega) (by omega) (v := (nf : Int)) (hkn) (fun r7 => ?_)
        refine wa_goto ⟨_, rfl⟩ ?_
        refine wa_istore (n := 5) rfl ?_
        refine wa_aload_n (n := 0) rfl ?_
        refine wb_gf4 158 rfl (wy_pr rfl) wt_158 wf_5_0 (v := 72) wl_158_0 ?_
        refine wb_gfi 72 rfl (wy_pr rfl) wt_72 wf_2_15 (v := tn) (ht15) (fun r8 => ?_)
        refine wa_iconst ?_
        refine wa_iadd ?_
        refine wb_ki (n := 100000) rfl ?_
        refine wa_icmpgt (w_rg0 (by omega) (by omega)) (w_rg0 (by omega) (by omega)) ⟨_, rfl⟩ (fun c9 => ?_) (fun c9 => ?_)
        · skip
          refine wa_aload_n (n := 0) rfl ?_
          refine wb_gf5 158 rfl (wy_pr rfl) wt_158 wf_5_4 (v := 226) (l4) (fun r10 => ?_)
          refine wa_bipush (w_rg2 (by omega) (by omega)) ?_
          refine wb_pfi 226 rfl (wy_pr rfl) wt_226 wf_8_16 (n := 16) rfl ⟨(by omega), (by omega)⟩ ?_
          refine wa_return rfl ?_
          exact ⟨rfl, Or.inl ⟨by omega, rfl⟩⟩
        · skip
          refine wa_iload_n (n := 3) rfl ?_
          refine wa_ifeq (w_rg0 (by omega) (by omega)) ⟨_, rfl⟩ (fun c11 => ?_) (fun c11 => ?_)
          · skip
            exact absurd c11 (by omega)
          · skip
            refine wa_aload_n (n := 0) rfl ?_
            refine wb_gf4 158 rfl (wy_pr rfl) wt_158 wf_5_0 (v := 72) wl_158_0 ?_
            refine wa_iconst ?_
            refine wa_iconst ?_
            refine wa_cv 72 rfl (wy_pr rfl) wt_72 (M2 := mS [228, 229, 152, 127, 128, 129, 130, 131, 132, 133, 134, 135, 136, 141, 142]) rfl at_XH_hasRoom ⟨_, rfl⟩ rfl rfl ⟨trivial, trivial, trivial, (Or.inr ⟨wy_pr rfl, mS_no rfl⟩), (Or.inr ⟨wy_pr rfl, mS_no rfl⟩), trivial, trivial⟩ trivial (fun _ _ q => q) ?_ (fun _ _ _ q => q)
            refine wa_aload_n (n := 0) rfl ?_
            refine wb_gf4 72 rfl (wy_pr rfl) wt_72 wf_2_10 (v := 150) wl_72_10 ?_
            refine wa_iload_n (n := 1) rfl ?_
            refine wb_iald 150 rfl (wy_pr rfl) wt_150 (n := 6) ((cl_150 hC)) (by omega) (by omega) (v := u0) (hu0) (fun r12 => ?_)
            refine wa_iload_n (n := 2) rfl ?_
            refine wa_iadd ?_
            refine wa_gs ?_
            refine wa_iload_n (n := 1) rfl ?_
            refine wb_xald 1 rfl hx1 (by decide) (by omega) (by decide) (v := 8000) (by decide) (fun r13 => ?_)
            refine wa_icmpgt (w_rg0 (by omega) (by omega)) (w_rg0 (by omega) (by omega)) ⟨_, rfl⟩ (fun c14 => ?_) (fun c14 => ?_)
            · skip
              refine wa_iconst ?_
              refine wa_fall ⟨_, rfl⟩ ?_
              refine wa_zreturn rfl (Or.inl rfl) ?_
              show wJ _ _ _ _ _ _ _ _ _ _
              refine wa_ifeq (w_rg0 (by omega) (by omega)) ⟨_, rfl⟩ (fun c15 => ?_) (fun c15 => ?_)
              · skip
                refine wa_aload_n (n := 0) rfl ?_
                refine wb_gf5 158 rfl (wy_pr rfl) wt_158 wf_5_4 (v := 226) (l4) (fun r16 => ?_)
                refine wa_bipush (w_rg2 (by omega) (by omega)) ?_
                refine wb_pfi 226 rfl (wy_pr rfl) wt_226 wf_8_16 (n := 16) rfl ⟨(by omega), (by omega)⟩ ?_
                refine wa_return rfl ?_
                exact ⟨rfl, Or.inl ⟨by omega, rfl⟩⟩
              · skip
                exact absurd c15 (by omega)
            · skip
              refine wa_iconst ?_
              refine wa_goto ⟨_, rfl⟩ ?_
              refine wa_zreturn rfl (Or.inr rfl) ?_
              show wJ _ _ _ _ _ _ _ _ _ _
              refine wa_ifeq (w_rg0 (by omega) (by omega)) ⟨_, rfl⟩ (fun c17 => ?_) (fun c17 => ?_)
              · skip
                exact absurd c17 (by omega)
              · skip
                refine wa_aload_n (n := 0) rfl ?_
                refine wb_gf4 158 rfl (wy_pr rfl) wt_158 wf_5_0 (v := 72) wl_158_0 ?_
                refine wa_iconst ?_
                refine wa_iload (n := 5) rfl ?_
                refine wa_cv 72 rfl (wy_pr rfl) wt_72 (M2 := mS [228, 229, 152, 127, 128, 129, 130, 131, 132, 133, 134, 135, 136, 141, 142]) rfl at_XH_hasRoom ⟨_, rfl⟩ rfl rfl ⟨trivial, trivial, trivial, (Or.inr ⟨wy_pr rfl, mS_no rfl⟩), (Or.inr ⟨wy_pr rfl, mS_no rfl⟩), trivial, trivial⟩ trivial (fun _ _ q => q) ?_ (fun _ _ _ q => q)
                refine wa_aload_n (n := 0) rfl ?_
                refine wb_gf4 72 rfl (wy_pr rfl) wt_72 wf_2_10 (v := 150) wl_72_10 ?_
                refine wa_iload_n (n := 1) rfl ?_
                refine wb_iald 150 rfl (wy_pr rfl) wt_150 (n := 6) ((cl_150 hC)) (by omega) (by omega) (v := v0) (hv) (fun r18 => ?_)
                refine wa_iload_n (n := 2) rfl ?_
                refine wa_iadd ?_
                refine wa_gs ?_
                refine wa_iload_n (n := 1) rfl ?_
                refine wb_xald 1 rfl hx1 (by decide) (by omega) (by decide) (v := 60000) (by decide) (fun r19 => ?_)
                refine wa_icmpgt (w_rg0 (by omega) (by omega)) (w_rg0 (by omega) (by omega)) ⟨_, rfl⟩ (fun c20 => ?_) (fun c20 => ?_)
                · skip
                  refine wa_iconst ?_
                  refine wa_fall ⟨_, rfl⟩ ?_
                  refine wa_zreturn rfl (Or.inl rfl) ?_
                  show wJ _ _ _ _ _ _ _ _ _ _
                  refine wa_ifeq (w_rg0 (by omega) (by omega)) ⟨_, rfl⟩ (fun c21 => ?_) (fun c21 => ?_)
                  · skip
                    refine wa_aload_n (n := 0) rfl ?_
                    refine wb_gf5 158 rfl (wy_pr rfl) wt_158 wf_5_4 (v := 226) (l4) (fun r22 => ?_)
                    refine wa_bipush (w_rg2 (by omega) (by omega)) ?_
                    refine wb_pfi 226 rfl (wy_pr rfl) wt_226 wf_8_16 (n := 16) rfl ⟨(by omega), (by omega)⟩ ?_
                    refine wa_return rfl ?_
                    exact ⟨rfl, Or.inl ⟨by omega, rfl⟩⟩
                  · skip
                    exact absurd c21 (by omega)
                · skip
                  refine wa_iconst ?_
                  refine wa_goto ⟨_, rfl⟩ ?_
                  refine wa_zreturn rfl (Or.inr rfl) ?_
                  show wJ _ _ _ _ _ _ _ _ _ _
                  refine wa_ifeq (w_rg0 (by omega) (by omega)) ⟨_, rfl⟩ (fun c23 => ?_) (fun c23 => ?_)
                  · skip
                    exact absurd c23 (by omega)
                  · skip
                    refine wa_fall ⟨_, rfl⟩ ?_
                    refine wa_iload (n := 4) rfl ?_
                    refine wa_ifeq (w_rg0 (by omega) (by omega)) ⟨_, rfl⟩ (fun c24 => ?_) (fun c24 => ?_)
                    · skip
                      refine wa_aload_n (n := 0) rfl ?_
                      refine wb_gf4 158 rfl (wy_pr rfl) wt_158 wf_5_0 (v := 72) wl_158_0 ?_
                      refine wa_iload_n (n := 1) rfl ?_
                      refine wa_aload_n (n := 0) rfl ?_
                      refine wb_gfi 158 rfl (wy_pr rfl) wt_158 wf_5_12 (v := en) (l12) (fun r25 => ?_)
                      refine wa_cv 72 rfl (wy_pr rfl) wt_72 (M2 := mS [152]) rfl at_XH_addTrace ⟨_, rfl⟩ rfl rfl ⟨trivial, trivial, trivial, (Or.inr ⟨wy_pr rfl, mS_no rfl⟩), (Or.inr ⟨wy_pr rfl, mS_no rfl⟩), trivial, trivial⟩ trivial (fun _ _ q => mS_sub (by decide) q) (tra (S := S) (m := m) (k := en) hI ⟨by omega, by omega⟩ ⟨by omega, by omega⟩ (by rw [ht15]; exact ht0) (by rw [ht15]; exact ht9)) (fun oq26 Sq26 hp27 q26 => ?_)
                      rcases q26 with ⟨rfl, tr26⟩
                      show wJ _ _ _ _ _ _ _ _ _ _
                      refine wa_aload_n (n := 0) rfl ?_
                      refine wa_iconst ?_
                      refine wb_pfi 158 rfl (wy_pr rfl) wt_158 wf_5_16 (n := 16) rfl ⟨(by omega), (by omega)⟩ ?_
                      refine wa_aload_n (n := 0) rfl ?_
                      refine wb_lconst (m := 0) rfl ?_
                      refine wb_pfl 158 rfl (wy_pr rfl) wt_158 wf_5_17 (n := 17) rfl ⟨(by omega), (by omega)⟩ ?_
                      refine wa_iload_n (n := 3) rfl ?_
                      refine wa_ifeq (w_rg0 (by omega) (by omega)) ⟨_, rfl⟩ (fun c28 => ?_) (fun c28 => ?_)
                      · skip
                        exact absurd c28 (by omega)
                      · skip
                        refine wa_aload_n (n := 0) rfl ?_
                        refine wa_iload_n (n := 1) rfl ?_
                        have hf2 : ∀ (j : Nat) (i : Int), j < 4000000 → j ≠ wG → j ≠ 152 → j ≠ 72 → j ≠ 158 → (w_up (w_up Sq26 158 16 0) 158 17 0) j i = S j i := fun j i a b c d e => (w_up_no (fun z => e z.1)).trans ((w_up_no (fun z => e z.1)).trans (tr26.2.2.2.1 j i a b c (Or.inl d)))
                        have hwg : wG = 1000000 := rfl
                        have hK2 : KC 176 186 182 203 204 163 162 T cs ms os (w_up (w_up Sq26 158 16 0) 158 17 0) := KC_ag hK (hf2 162 _ (by first | decide | omega) (by first | decide | omega) (by first | decide | omega) (by first | decide | omega) (by first | decide | omega)) (hf2 162 _ (by first | decide | omega) (by first | decide | omega) (by first | decide | omega) (by first | decide | omega) (by first | decide | omega)) (fun j hj => funext fun i => hf2 j i (by omega) (by omega) (by omega) (by omega) (by omega))
                        have e1 : (w_up (w_up Sq26 158 16 0) 158 17 0) 228 (-1) = S 228 (-1) := (hf2 228 _ (by first | decide | omega) (by first | decide | omega) (by first | decide | omega) (by first | decide | omega) (by first | decide | omega))
                        have e2 : (w_up (w_up Sq26 158 16 0) 158 17 0) 229 (-1) = S 229 (-1) := (hf2 229 _ (by first | decide | omega) (by first | decide | omega) (by first | decide | omega) (by first | decide | omega) (by first | decide | omega))
                        have e3 : (w_up (w_up Sq26 158 16 0) 158 17 0) 141 (-1) = S 141 (-1) := (hf2 141 _ (by first | decide | omega) (by first | decide | omega) (by first | decide | omega) (by first | decide | omega) (by first | decide | omega))
                        have e4 : (w_up (w_up Sq26 158 16 0) 158 17 0) 142 (-1) = S 142 (-1) := (hf2 142 _ (by first | decide | omega) (by first | decide | omega) (by first | decide | omega) (by first | decide | omega) (by first | decide | omega))
                        have e5 : (w_up (w_up Sq26 158 16 0) 158 17 0) 127 (-1) = S 127 (-1) := (hf2 127 _ (by first | decide | omega) (by first | decide | omega) (by first | decide | omega) (by first | decide | omega) (by first | decide | omega))
                        have hth2 : ∀ x : Nat, x < 10 → (w_up (w_up Sq26 158 16 0) 158 17 0) (127 + x) (-1) = (w_up (w_up Sq26 158 16 0) 158 17 0) 127 (-1) := fun x hx => by rw [hf2 (127 + x) (-1) (by omega) (by omega) (by omega) (by omega) (by omega), e5]; exact hth x hx
                        refine wa_cv 158 rfl (wy_pr rfl) wt_158 (M2 := mS [127, 128, 129, 130, 131, 132, 133, 134, 135, 136, 141, 142]) rfl at_XL_construct ⟨_, rfl⟩ rfl rfl ⟨trivial, trivial, trivial, (Or.inr ⟨wy_pr rfl, mS_no rfl⟩), (Or.inr ⟨wy_pr rfl, mS_no rfl⟩), trivial, trivial⟩ trivial (fun _ _ q => mS_sub (by decide) q) (con_162_226 (S := (w_up (w_up Sq26 158 16 0) 158 17 0)) (m := m) (k := k) (g := g) (st := st) (ba := ba) (u0 := u0) (v0 := v0) (nf := nf) (fd := fd) (ty := ty) (es := es) (w_CL_up (w_CL_up (CL_tr hC tr26) (by omega)) (by omega)) (gI_up (gI_up tr26.2.2.2.2.2.1 (by omega) (by omega) (by omega)) (by omega) (by omega) (by omega)) hK2 hw ((w_up_slot (by decide)).trans ((w_up_slot (by decide)).trans (((tr26.2.2.2.1 72 1 (by decide) (by decide) (by decide) (Or.inr (by decide))).trans (h72))))) ((w_up_at (by decide)).trans ((w_up_at (by decide)).trans (((tr26.2.2.2.1 158 5 (by decide) (by decide) (by decide) (Or.inl (by decide))).trans (l5))))) ((w_up_at (by decide)).trans ((w_up_at (by decide)).trans (((tr26.2.2.2.1 158 8 (by decide) (by decide) (by decide) (Or.inl (by decide))).trans (l8))))) (((w_up_at (by decide)).trans ((w_up_at (by decide)).trans (((tr26.2.2.2.1 158 12 (by decide) (by decide) (by decide) (Or.inl (by decide))).trans (l12))))).trans hel) ⟨hm.1, hm2⟩ hpn (by omega) (by rw [e1, e2]; exact bl1) (by rw [e1]; exact ⟨by omega, by omega, bl3⟩) (fun i hi => ⟨(hf2 228 _ (by decide) (by decide) (by decide) (by decide) (by decide)).trans (hes i hi).1, (hf2 229 _ (by decide) (by decide) (by decide) (by decide) (by decide)).trans (hes i hi).2⟩) hev (by rw [e3, e4]; exact hl) (by rw [e3]; exact hz) ((hf2 140 _ (by decide) (by decide) (by decide) (by decide) (by decide)).trans h2) (by rw [e3]; exact ⟨hst.1, hst.2.1, by omega⟩) hfd (fun i hi => (hf2 189 _ (by decide) (by decide) (by decide) (by decide) (by decide)).trans (hft i hi)) (fun i hi => (hf2 202 _ (by decide) (by decide) (by decide) (by decide) (by decide)).trans (hfb i hi)) hnf hth2 ((w_up_slot (by decide)).trans ((w_up_slot (by decide)).trans (((tr26.2.2.2.1 72 3 (by decide) (by decide) (by decide) (Or.inr (by decide))).trans (hn))))) (by rw [e5]; exact hn1) (by rw [e5]; exact hn2) ((hf2 150 _ (by decide) (by decide) (by decide) (by decide) (by decide)).trans hu0) hu1 ((hf2 150 _ (by decide) (by decide) (by decide) (by decide) (by decide)).trans hv) ⟨by omega, by omega⟩ ((hf2 186 _ (by decide) (by decide) (by decide) (by decide) (by decide)).trans hk) hk1 ((hf2 183 _ (by decide) (by decide) (by decide) (by decide) (by decide)).trans hkn) (fun z => (hf2 184 _ (by decide) (by decide) (by decide) (by decide) (by decide)).trans (hla z))) (fun oq29 Sq29 hp30 q29 => ?_)
                        rcases q29 with ⟨rfl, co29⟩
                        show wJ _ _ _ _ _ _ _ _ _ _
                        have co29f := co_fr co29 hn1.1 hst.1
                        refine wa_goto ⟨_, rfl⟩ ?_
                        refine wa_aload_n (n := 0) rfl ?_
                        refine wb_gfi 158 rfl (wy_pr rfl) wt_158 wf_5_7 (v := kd) (((co29f.2.1 158 7 (by decide) (by decide) (by decide) (by decide) (by decide) (by decide) (by decide) (by decide) (Or.inr (by decide))).trans ((w_up_at (by decide)).trans ((w_up_at (by decide)).trans (((tr26.2.2.2.1 158 7 (by decide) (by decide) (by decide) (Or.inl (by decide))).trans (l7))))))) (fun r31 => ?_)
                        refine wa_iconst ?_
                        refine wa_icmpne (w_rg0 (by omega) (by omega)) (w_rg0 (by omega) (by omega)) ⟨_, rfl⟩ (fun c32 => ?_) (fun c32 => ?_)
                        · skip
                          refine wa_aload_n (n := 0) rfl ?_
                          refine wa_aload_n (n := 0) rfl ?_
                          refine wb_gfi 158 rfl (wy_pr rfl) wt_158 wf_5_16 (v := 7) (co29f.1.1) (fun r33 => ?_)
                          refine wa_aload_n (n := 0) rfl ?_
                          refine wb_gfl 158 rfl (wy_pr rfl) wt_158 wf_5_17 (v := g) (co29f.1.2) (fun r34 => ?_)
                          refine wa_cv 158 rfl (wy_pr rfl) wt_158 (M2 := mS [228, 229]) rfl at_XL_giveValue ⟨_, rfl⟩ rfl rfl ⟨trivial, trivial, trivial, (Or.inr ⟨wy_pr rfl, mS_no rfl⟩), (Or.inr ⟨wy_pr rfl, mS_no rfl⟩), trivial, trivial⟩ trivial (fun _ _ q => mS_sub (by decide) q) (glx_226 (S := Sq29) (k := 7) (v := g) (h := h) (c := c) (p := p) (ba := ba) (co29f.2.2.1 (w_CL_up (w_CL_up (CL_tr hC tr26) (by omega)) (by omega))) co29f.2.2.2.1 (((co29f.2.1 158 4 (by decide) (by decide) (by decide) (by decide) (by decide) (by decide) (by decide) (by decide) (Or.inr (by decide))).trans ((w_up_at (by decide)).trans ((w_up_at (by decide)).trans (((tr26.2.2.2.1 158 4 (by decide) (by decide) (by decide) (Or.inl (by decide))).trans (l4))))))) (((co29f.2.1 158 5 (by decide) (by decide) (by decide) (by decide) (by decide) (by decide) (by decide) (by decide) (Or.inr (by decide))).trans ((w_up_at (by decide)).trans ((w_up_at (by decide)).trans (((tr26.2.2.2.1 158 5 (by decide) (by decide) (by decide) (Or.inl (by decide))).trans (l5))))))) (((co29f.2.1 158 8 (by decide) (by decide) (by decide) (by decide) (by decide) (by decide) (by decide) (by decide) (Or.inr (by decide))).trans ((w_up_at (by decide)).trans ((w_up_at (by decide)).trans (((tr26.2.2.2.1 158 8 (by decide) (by decide) (by decide) (Or.inl (by decide))).trans (l8))))))) (((co29f.2.1 226 4 (by decide) (by decide) (by decide) (by decide) (by decide) (by decide) (by decide) (by decide) (Or.inl (by decide))).trans ((w_up_slot (by decide)).trans ((w_up_slot (by decide)).trans (((tr26.2.2.2.1 226 4 (by decide) (by decide) (by decide) (Or.inl (by decide))).trans (bc))))))) (((co29f.2.1 231 (c - 1) (by decide) (by decide) (by decide) (by decide) (by decide) (by decide) (by decide) (by decide) (Or.inl (by decide))).trans ((w_up_slot (by decide)).trans ((w_up_slot (by decide)).trans (((tr26.2.2.2.1 231 (c - 1) (by decide) (by decide) (by decide) (Or.inl (by decide))).trans (bp))))))) (((((co29f.2.1 229 (-1) (by decide) (by decide) (by decide) (by decide) (by decide) (by decide) (by decide) (by decide) (Or.inl (by decide))).trans ((w_up_slot (by decide)).trans ((w_up_slot (by decide)).trans (((tr26.2.2.2.1 229 (-1) (by decide) (by decide) (by decide) (Or.inl (by decide))).trans (bl1)))))))).trans ((((co29f.2.1 228 (-1) (by decide) (by decide) (by decide) (by decide) (by decide) (by decide) (by decide) (by decide) (Or.inl (by decide))).trans ((w_up_slot (by decide)).trans ((w_up_slot (by decide)).trans (((tr26.2.2.2.1 228 (-1) (by decide) (by decide) (by decide) (Or.inl (by decide))).trans (rfl)))))))).symm) (by have e : Sq29 228 (-1) = S 228 (-1) := (((co29f.2.1 228 (-1) (by decide) (by decide) (by decide) (by decide) (by decide) (by decide) (by decide) (by decide) (Or.inl (by decide))).trans ((w_up_slot (by decide)).trans ((w_up_slot (by decide)).trans (((tr26.2.2.2.1 228 (-1) (by decide) (by decide) (by decide) (Or.inl (by decide))).trans (rfl))))))); rw [e]; exact ⟨bl2, bl3⟩) (by have e : Sq29 228 (-1) = S 228 (-1) := (((co29f.2.1 228 (-1) (by decide) (by decide) (by decide) (by decide) (by decide) (by decide) (by decide) (by decide) (Or.inl (by decide))).trans ((w_up_slot (by decide)).trans ((w_up_slot (by decide)).trans (((tr26.2.2.2.1 228 (-1) (by decide) (by decide) (by decide) (Or.inl (by decide))).trans (rfl))))))); omega) ⟨by omega, by omega⟩ ⟨by omega, by omega⟩ ⟨by omega, by omega⟩ ⟨by omega, by omega⟩) (fun oq35 Sq35 hp36 q35 => ?_)
                          rcases q35 with ⟨rfl, hgv35⟩
                          show wJ _ _ _ _ _ _ _ _ _ _
                          refine wa_return rfl ?_
                          refine ⟨rfl, Or.inr ⟨by omega, Sq26, Sq29, tr26, ?_, ?_⟩⟩
                          · exact ⟨_, _, fun j i hji => (w_up_no (by omega)).trans ((w_up_no (by omega)).trans (rfl)), co29, fun j i hji => rfl⟩
                          · first | (rw [if_pos (show kd = 1 by omega), if_pos (show kd = 1 by omega)]; exact hgv35) | (rw [if_neg (show ¬ kd = 1 by omega), if_neg (show ¬ kd = 1 by omega)]; exact hgv35)
                        · skip
                          refine wa_aload_n (n := 0) rfl ?_
                          refine wa_aload_n (n := 0) rfl ?_
                          refine wb_gf5 158 rfl (wy_pr rfl) wt_158 wf_5_5 (v := 227) (((co29f.2.1 158 5 (by decide) (by decide) (by decide) (by decide) (by decide) (by decide) (by decide) (by decide) (Or.inr (by decide))).trans ((w_up_at (by decide)).trans ((w_up_at (by decide)).trans (((tr26.2.2.2.1 158 5 (by decide) (by decide) (by decide) (Or.inl (by decide))).trans (l5))))))) (fun r37 => ?_)
                          refine wb_gf4 227 rfl (wy_pr rfl) wt_227 wf_7_0 (v := 228) wl_227_0 ?_
                          refine wa_aload_n (n := 0) rfl ?_
                          refine wb_gf5 158 rfl (wy_pr rfl) wt_158 wf_5_5 (v := 227) (((co29f.2.1 158 5 (by decide) (by decide) (by decide) (by decide) (by decide) (by decide) (by decide) (by decide) (Or.inr (by decide))).trans ((w_up_at (by decide)).trans ((w_up_at (by decide)).trans (((tr26.2.2.2.1 158 5 (by decide) (by decide) (by decide) (Or.inl (by decide))).trans (l5))))))) (fun r38 => ?_)
                          refine wb_gfi 227 rfl (wy_pr rfl) wt_227 wf_7_2 (v := h) (((co29f.2.1 227 2 (by decide) (by decide) (by decide) (by decide) (by decide) (by decide) (by decide) (by decide) (Or.inl (by decide))).trans ((w_up_slot (by decide)).trans ((w_up_slot (by decide)).trans (((tr26.2.2.2.1 227 2 (by decide) (by decide) (by decide) (Or.inl (by decide))).trans (bh))))))) (fun r39 => ?_)
                          refine wa_iconst ?_
                          refine wa_isub ?_
                          refine wb_bald 228 rfl (wy_pr rfl) wt_228 (n := (S 228 (-1))) (((co29f.2.1 228 (-1) (by decide) (by decide) (by decide) (by decide) (by decide) (by decide) (by decide) (by decide) (Or.inl (by decide))).trans ((w_up_slot (by decide)).trans ((w_up_slot (by decide)).trans (((tr26.2.2.2.1 228 (-1) (by decide) (by decide) (by decide) (Or.inl (by decide))).trans (rfl))))))) (by omega) (by omega) (v := ky) (((co29f.2.1 228 (h - 1) (by decide) (by decide) (by decide) (by decide) (by decide) (by decide) (by decide) (by decide) (Or.inl (by decide))).trans ((w_up_slot (by decide)).trans ((w_up_slot (by decide)).trans (((tr26.2.2.2.1 228 (h - 1) (by decide) (by decide) (by decide) (Or.inl (by decide))).trans (hky))))))) (fun r40 => ?_)
                          refine wb_pfi 158 rfl (wy_pr rfl) wt_158 wf_5_16 (n := 16) rfl ⟨(by omega), (by omega)⟩ ?_
                          refine wa_aload_n (n := 0) rfl ?_
                          refine wa_aload_n (n := 0) rfl ?_
                          refine wb_gf5 158 rfl (wy_pr rfl) wt_158 wf_5_5 (v := 227) ((w_up_at (by decide)).trans (((co29f.2.1 158 5 (by decide) (by decide) (by decide) (by decide) (by decide) (by decide) (by decide) (by decide) (Or.inr (by decide))).trans ((w_up_at (by decide)).trans ((w_up_at (by decide)).trans (((tr26.2.2.2.1 158 5 (by decide) (by decide) (by decide) (Or.inl (by decide))).trans (l5)))))))) (fun r41 => ?_)
                          refine wb_gf4 227 rfl (wy_pr rfl) wt_227 wf_7_1 (v := 229) wl_227_1 ?_
                          refine wa_aload_n (n := 0) rfl ?_
                          refine wb_gf5 158 rfl (wy_pr rfl) wt_158 wf_5_5 (v := 227) ((w_up_at (by decide)).trans (((co29f.2.1 158 5 (by decide) (by decide) (by decide) (by decide) (by decide) (by decide) (by decide) (by decide) (Or.inr (by decide))).trans ((w_up_at (by decide)).trans ((w_up_at (by decide)).trans (((tr26.2.2.2.1 158 5 (by decide) (by decide) (by decide) (Or.inl (by decide))).trans (l5)))))))) (fun r42 => ?_)
                          refine wb_gfi 227 rfl (wy_pr rfl) wt_227 wf_7_2 (v := h) ((w_up_slot (by decide)).trans (((co29f.2.1 227 2 (by decide) (by decide) (by decide) (by decide) (by decide) (by decide) (by decide) (by decide) (Or.inl (by decide))).trans ((w_up_slot (by decide)).trans ((w_up_slot (by decide)).trans (((tr26.2.2.2.1 227 2 (by decide) (by decide) (by decide) (Or.inl (by decide))).trans (bh)))))))) (fun r43 => ?_)
                          refine wa_iconst ?_
                          refine wa_isub ?_
                          refine wb_lald 229 rfl (wy_pr rfl) wt_229 (n := (S 228 (-1))) ((w_up_slot (by decide)).trans (((co29f.2.1 229 (-1) (by decide) (by decide) (by decide) (by decide) (by decide) (by decide) (by decide) (by decide) (Or.inl (by decide))).trans ((w_up_slot (by decide)).trans ((w_up_slot (by decide)).trans (((tr26.2.2.2.1 229 (-1) (by decide) (by decide) (by decide) (Or.inl (by decide))).trans (bl1)))))))) (by omega) (by omega) (v := vy) ((w_up_slot (by decide)).trans (((co29f.2.1 229 (h - 1) (by decide) (by decide) (by decide) (by decide) (by decide) (by decide) (by decide) (by decide) (Or.inl (by decide))).trans ((w_up_slot (by decide)).trans ((w_up_slot (by decide)).trans (((tr26.2.2.2.1 229 (h - 1) (by decide) (by decide) (by decide) (Or.inl (by decide))).trans (hvy)))))))) (fun r44 => ?_)
                          refine wb_pfl 158 rfl (wy_pr rfl) wt_158 wf_5_17 (n := 17) rfl ⟨(by omega), (by omega)⟩ ?_
                          refine wa_fall ⟨_, rfl⟩ ?_
                          refine wa_aload_n (n := 0) rfl ?_
                          refine wa_aload_n (n := 0) rfl ?_
                          refine wb_gfi 158 rfl (wy_pr rfl) wt_158 wf_5_16 (v := ky) ((w_up_at (by decide)).trans (w_up_same _ _ _ _)) (fun r45 => ?_)
                          refine wa_aload_n (n := 0) rfl ?_
                          refine wb_gfl 158 rfl (wy_pr rfl) wt_158 wf_5_17 (v := vy) (w_up_same _ _ _ _) (fun r46 => ?_)
                          refine wa_cv 158 rfl (wy_pr rfl) wt_158 (M2 := mS [228, 229]) rfl at_XL_giveValue ⟨_, rfl⟩ rfl rfl ⟨trivial, trivial, trivial, (Or.inr ⟨wy_pr rfl, mS_no rfl⟩), (Or.inr ⟨wy_pr rfl, mS_no rfl⟩), trivial, trivial⟩ trivial (fun _ _ q => mS_sub (by decide) q) (glx_226 (S := (w_up (w_up Sq29 158 16 ky) 158 17 vy)) (k := ky) (v := vy) (h := h) (c := c) (p := p) (ba := ba) (w_CL_up (w_CL_up (co29f.2.2.1 (w_CL_up (w_CL_up (CL_tr hC tr26) (by omega)) (by omega))) (by omega)) (by omega)) (gI_up (gI_up co29f.2.2.2.1 (by omega) (by omega) (by omega)) (by omega) (by omega) (by omega)) ((w_up_at (by decide)).trans ((w_up_at (by decide)).trans (((co29f.2.1 158 4 (by decide) (by decide) (by decide) (by decide) (by decide) (by decide) (by decide) (by decide) (Or.inr (by decide))).trans ((w_up_at (by decide)).trans ((w_up_at (by decide)).trans (((tr26.2.2.2.1 158 4 (by decide) (by decide) (by decide) (Or.inl (by decide))).trans (l4))))))))) ((w_up_at (by decide)).trans ((w_up_at (by decide)).trans (((co29f.2.1 158 5 (by decide) (by decide) (by decide) (by decide) (by decide) (by decide) (by decide) (by decide) (Or.inr (by decide))).trans ((w_up_at (by decide)).trans ((w_up_at (by decide)).trans (((tr26.2.2.2.1 158 5 (by decide) (by decide) (by decide) (Or.inl (by decide))).trans (l5))))))))) ((w_up_at (by decide)).trans ((w_up_at (by decide)).trans (((co29f.2.1 158 8 (by decide) (by decide) (by decide) (by decide) (by decide) (by decide) (by decide) (by decide) (Or.inr (by decide))).trans ((w_up_at (by decide)).trans ((w_up_at (by decide)).trans (((tr26.2.2.2.1 158 8 (by decide) (by decide) (by decide) (Or.inl (by decide))).trans (l8))))))))) ((w_up_slot (by decide)).trans ((w_up_slot (by decide)).trans (((co29f.2.1 226 4 (by decide) (by decide) (by decide) (by decide) (by decide) (by decide) (by decide) (by decide) (Or.inl (by decide))).trans ((w_up_slot (by decide)).trans ((w_up_slot (by decide)).trans (((tr26.2.2.2.1 226 4 (by decide) (by decide) (by decide) (Or.inl (by decide))).trans (bc))))))))) ((w_up_slot (by decide)).trans ((w_up_slot (by decide)).trans (((co29f.2.1 231 (c - 1) (by decide) (by decide) (by decide) (by decide) (by decide) (by decide) (by decide) (by decide) (Or.inl (by decide))).trans ((w_up_slot (by decide)).trans ((w_up_slot (by decide)).trans (((tr26.2.2.2.1 231 (c - 1) (by decide) (by decide) (by decide) (Or.inl (by decide))).trans (bp))))))))) ((((w_up_slot (by decide)).trans ((w_up_slot (by decide)).trans (((co29f.2.1 229 (-1) (by decide) (by decide) (by decide) (by decide) (by decide) (by decide) (by decide) (by decide) (Or.inl (by decide))).trans ((w_up_slot (by decide)).trans ((w_up_slot (by decide)).trans (((tr26.2.2.2.1 229 (-1) (by decide) (by decide) (by decide) (Or.inl (by decide))).trans (bl1)))))))))).trans (((w_up_slot (by decide)).trans ((w_up_slot (by decide)).trans (((co29f.2.1 228 (-1) (by decide) (by decide) (by decide) (by decide) (by decide) (by decide) (by decide) (by decide) (Or.inl (by decide))).trans ((w_up_slot (by decide)).trans ((w_up_slot (by decide)).trans (((tr26.2.2.2.1 228 (-1) (by decide) (by decide) (by decide) (Or.inl (by decide))).trans (rfl)))))))))).symm) (by have e : (w_up (w_up Sq29 158 16 ky) 158 17 vy) 228 (-1) = S 228 (-1) := ((w_up_slot (by decide)).trans ((w_up_slot (by decide)).trans (((co29f.2.1 228 (-1) (by decide) (by decide) (by decide) (by decide) (by decide) (by decide) (by decide) (by decide) (Or.inl (by decide))).trans ((w_up_slot (by decide)).trans ((w_up_slot (by decide)).trans (((tr26.2.2.2.1 228 (-1) (by decide) (by decide) (by decide) (Or.inl (by decide))).trans (rfl))))))))); rw [e]; exact ⟨bl2, bl3⟩) (by have e : (w_up (w_up Sq29 158 16 ky) 158 17 vy) 228 (-1) = S 228 (-1) := ((w_up_slot (by decide)).trans ((w_up_slot (by decide)).trans (((co29f.2.1 228 (-1) (by decide) (by decide) (by decide) (by decide) (by decide) (by decide) (by decide) (by decide) (Or.inl (by decide))).trans ((w_up_slot (by decide)).trans ((w_up_slot (by decide)).trans (((tr26.2.2.2.1 228 (-1) (by decide) (by decide) (by decide) (Or.inl (by decide))).trans (rfl))))))))); omega) ⟨by omega, by omega⟩ ⟨by omega, by omega⟩ ⟨by omega, by omega⟩ ⟨by omega, by omega⟩) (fun oq47 Sq47 hp48 q47 => ?_)
                          rcases q47 with ⟨rfl, hgv47⟩
                          show wJ _ _ _ _ _ _ _ _ _ _
                          refine wa_return rfl ?_
                          refine ⟨rfl, Or.inr ⟨by omega, Sq26, (w_up (w_up Sq29 158 16 ky) 158 17 vy), tr26, ?_, ?_⟩⟩
                          · exact ⟨_, _, fun j i hji => (w_up_no (by omega)).trans ((w_up_no (by omega)).trans (rfl)), co29, fun j i hji => (w_up_no (by omega)).trans ((w_up_no (by omega)).trans (rfl))⟩
                          · first | (rw [if_pos (show kd = 1 by omega), if_pos (show kd = 1 by omega)]; exact hgv47) | (rw [if_neg (show ¬ kd = 1 by omega), if_neg (show ¬ kd = 1 by omega)]; exact hgv47)
                    · skip
                      exact absurd c24 (by omega)
    · skip
      exact absurd c4 (by omega)
end Wht
