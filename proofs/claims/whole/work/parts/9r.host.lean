/-! PART 9r: the members of a class, in the class's reader. -/
section W9r
variable {xs : List (Nat × List Int32)} {M : Nat → Prop} {d : Nat} {A B C S Z : wS} {Q : wO → wS → Prop} {T : Int → Int} {n : Int} {c i : Nat}
/-- the same but for the reader's place and members from the N-th on, of the class kc -/
def mz_ag (m0 ho t0 : Nat) (kc N : Int) (S Z : wS) : Prop := ∀ (j : Nat) (i : Int), (j ≠ 14 ∨ i ≠ 4) → (j < m0 ∨ m0 + 16 < j ∨ i < N) → (j ≠ ho ∨ i ≠ 4) → (j ≠ t0 + 3 ∨ i ≠ kc) → Z j i = S j i
theorem mz_tr {m0 ho t0 : Nat} {kc N N2 : Int} (h : mz_ag m0 ho t0 kc N A B) (k : mz_ag m0 ho t0 kc N2 B C) (hN : N ≤ N2) : mz_ag m0 ho t0 kc N A C := fun j i a b c d => (k j i a (by omega) c d).trans (h j i a b c d)
theorem mb6_73 {itf u : Int} (hx : hx_I 241 73 87 92 74 T n c B S) (hP : cx_P T n c i S) (hu : 0 ≤ u ∧ u ≤ 70000) (hk : kg T n (tp T n 1 i) = 17 → wJ (pe_GA xs) wY0 M (d + 11) t_XT_readClass ((pe_at t_XT_readClass.bl 5).getD (0, [])).2 [(0, (2, 61)), (1, (0, itf)), (4, (0, u + 1))] [] (w_up S 14 4 ((i + 1 : Nat) : Int)) Q) (hf : kg T n (tp T n 1 i) ≠ 17 → ∀ (v : Nat) (Z : wS), rz_ag S Z v (1 + 16 * tp T n 1 i) → Q (.inr v) Z) : wJ (pe_GA xs) wY0 M (d + 11) t_XT_readClass ((pe_at t_XT_readClass.bl 6).getD (0, [])).2 [(0, (2, 61)), (1, (0, itf)), (4, (0, u))] [] S Q := by
  have hB : zT B T n := hx.1
  have hT : cx_T 74 T n c S := hx.2.1
  have hI : gI S := hx.2.2.1
  have hW : wd_at S 74 64 := hx.2.2.2.1
  have hrw : rw_I S 74 := hx.2.2.2.2.1
  have hwc : 13 ≤ S 74 7 ∧ S 74 7 ≤ 400000 := hx.2.2.2.2.2.1
  have hR : cn_R 241 73 87 92 74 T B S := hx.2.2.2.2.2.2.1
  have hH : S 61 1 = 73 := hx.2.2.2.2.2.2.2
  have hC : w_CL S := hR.2.2.1
  have hN : S 73 2 = B 241 1 := hR.1
  have hN6 : 0 ≤ B 241 1 ∧ B 241 1 ≤ 60 := hR.2.1
  have hpos4 : S 14 4 = (i : Int) := hP.1
  have hg0 : pg T n c i := hP.2
  have hA0 := pg_at hT hg0
  have h16_0 := hA0.1
  have h15_0 := hA0.2.1
  have hpr0 := hA0.2.2
  have hkr0 := kg_rg T n (tp T n 1 i)
  have hcn : (c : Int) ≤ n ∧ n ≤ 65536 := ⟨hT.2.2.2.2.1, hT.2.2.2.2.2.1⟩
  have hRL := hT.2.2.2.2.2.2
  have hl15 : S 14 3 ≤ S 15 (-1) := hRL.1.2
  have hl16 : S 16 (-1) = S 15 (-1) := hRL.2.1
  have hl17 : S 17 (-1) = S 15 (-1) := hRL.2.2.1
  have hc3 : S 14 3 = (c : Int) + 1 := hT.1
  have hic0 : i ≤ c := hg0.1
  refine wa_aload_n (n := 0) rfl ?_
  refine wa_bipush (w_rg2 (by omega) (by omega)) ?_
  refine wa_cv 61 rfl (wy_pr rfl) wt_61 (M2 := fun _ => False) rfl at_XT_take ⟨_, rfl⟩ rfl rfl ⟨(Or.inr ⟨wy_pr rfl, fun q => q⟩), trivial, trivial, trivial⟩ trivial (fun _ _ q => False.elim q) (ta_c (S := S) (hx_T hx) (show cx_P T n c (i) S from ⟨(hpos4), hg0⟩) rfl hI (k := 17) ⟨by omega, by omega⟩) (fun oq2 Sq2 hp3 q2 => ?_)
  rcases q2 with ⟨ht1, rfl, rfl⟩ | ⟨ht1, v, rfl, hrz⟩
  · skip
    show wJ _ _ _ _ _ _ _ _ _ _
    have hg1 : pg T n c (i + 1) := pg_next hT hg0 (by omega) (by omega)
    have hA1 := pg_at hT hg1
    have h16_1 := hA1.1
    have h15_1 := hA1.2.1
    have hpr1 := hA1.2.2
    have hkr1 := kg_rg T n (tp T n 1 (i + 1))
    have hic1 := hg1.1
    have hlt1 := tp_lt hT hg0 (by omega) (by omega)
    refine wa_iinc rfl rfl ?_
    refine wa_goto ⟨_, rfl⟩ ?_
    exact wJ_S (hk (by omega)) ⟨rfl, rfl, rfl, trivial⟩
  · skip
    have hkg := ht1
    refine ⟨rfl, ?_⟩
    exact hf hkg v _ hrz
theorem mb_l_73 {kc itf : Int} {fi : Nat} (hkc : B 241 1 = kc + 1 ∧ 0 ≤ kc ∧ kc < 60) (hit : itf = 0 ∨ itf = 1) : ∀ (f i : Nat) (ms : List hMR) (u : Int) (S : wS), (n - tp T n 1 i).toNat < f → (hx : hx_I 241 73 87 92 74 T n c B S) → (hP : cx_P T n c i S) → (hms : mr_all 97 74 T S ms) → (hmc : S 73 4 = (ms.length : Int)) → (hfi : S 91 kc = (fi : Int) ∧ fi ≤ ms.length) → (ht3 : S 90 kc = (ms.length : Int) - (fi : Int)) → (hu : 0 ≤ u ∧ u ≤ (i : Int)) → (hk : ∀ (i' : Nat) (ms' : List hMR) (u' : Int) (Z : wS), mb_f B 241 kc itf fi f (tp T n 1 i) ms = .inr (tp T n 1 i', ms') → mz_ag 97 73 87 kc (ms.length : Int) S Z → hx_I 241 73 87 92 74 T n c B Z → cx_P T n c i' Z → mr_all 97 74 T Z ms' → Z 73 4 = (ms'.length : Int) → fi ≤ ms'.length → Z 90 kc = (ms'.length : Int) - (fi : Int) → kg T n (tp T n 1 i') = 13 → wJ (pe_GA xs) wY0 M (d + 11) t_XT_readClass ((pe_at t_XT_readClass.bl 7).getD (0, [])).2 [(0, (2, 61))] [] Z Q) → (hf : ∀ (e q : Int) (v : Nat) (Z0 Z : wS), mb_f B 241 kc itf fi f (tp T n 1 i) ms = .inl (e, q) → mz_ag 97 73 87 kc (ms.length : Int) S Z0 → rz_ag Z0 Z v (e + 16 * q) → Q (.inr v) Z) → wJ (pe_GA xs) wY0 M (d + 11) t_XT_readClass ((pe_at t_XT_readClass.bl 5).getD (0, [])).2 [(0, (2, 61)), (1, (0, itf)), (4, (0, u))] [] S Q := by
  intro f
  induction f with
  | zero => intro i ms u S h; exact absurd h (Nat.not_lt_zero _)
  | succ f ih =>
    intro i ms u S hf0 hx hP hms hmc hfi ht3 hu hk hf
    have hB : zT B T n := hx.1
    have hT : cx_T 74 T n c S := hx.2.1
    have hI : gI S := hx.2.2.1
    have hW : wd_at S 74 64 := hx.2.2.2.1
    have hrw : rw_I S 74 := hx.2.2.2.2.1
    have hwc : 13 ≤ S 74 7 ∧ S 74 7 ≤ 400000 := hx.2.2.2.2.2.1
    have hR : cn_R 241 73 87 92 74 T B S := hx.2.2.2.2.2.2.1
    have hH : S 61 1 = 73 := hx.2.2.2.2.2.2.2
    have hC : w_CL S := hR.2.2.1
    have hN : S 73 2 = B 241 1 := hR.1
    have hN6 : 0 ≤ B 241 1 ∧ B 241 1 ≤ 60 := hR.2.1
    have hpos4 : S 14 4 = (i : Int) := hP.1
    have hg0 : pg T n c i := hP.2
    have hA0 := pg_at hT hg0
    have h16_0 := hA0.1
    have h15_0 := hA0.2.1
    have hpr0 := hA0.2.2
    have hkr0 := kg_rg T n (tp T n 1 i)
    have hcn : (c : Int) ≤ n ∧ n ≤ 65536 := ⟨hT.2.2.2.2.1, hT.2.2.2.2.2.1⟩
    have hRL := hT.2.2.2.2.2.2
    have hl15 : S 14 3 ≤ S 15 (-1) := hRL.1.2
    have hl16 : S 16 (-1) = S 15 (-1) := hRL.2.1
    have hl17 : S 17 (-1) = S 15 (-1) := hRL.2.2.1
    have hc3 : S 14 3 = (c : Int) + 1 := hT.1
    have hic0 : i ≤ c := hg0.1
    have h400 := hms.1
    have hkc1 : S 73 2 = kc + 1 := hN.trans hkc.1
    have h125 := lx_is_kg (i := i) hB (k := 13) (ch := 125) (by decide) sk_13
    have hBT : B 239 = T := hB.1
    have hB4 : B 237 4 = n := hB.2.1
    have hgt := fun p2 so2 st2 ty2 v2 f2 e2 l2 => rm_L_gt (B := B) (b := 241) (p := tp T n 1 i) (c := kc) (itf := itf) (rs := ms.drop fi) (n := ms.length) (p2 := p2) (so2 := so2) (st2 := st2) (ty2 := ty2) (v2 := v2) (f2 := f2) (e2 := e2) (l2 := l2) (by omega) (by decide) ⟨by omega, by rw [hB4]; omega⟩
    refine wa_iload (n := 4) rfl ?_
    refine wa_aload_n (n := 0) rfl ?_
    refine wb_gf4 61 rfl (wy_pr rfl) wt_61 wf_4_0 (v := 14) wl_61_0 ?_
    refine wb_gfi 14 rfl (wy_pr rfl) wt_14 wf_6_3 (v := ((c : Int) + 1)) (hT.1) (fun r1 => ?_)
    refine wa_icmpge (w_rg0 (by omega) (by omega)) (w_rg0 (by omega) (by omega)) ⟨_, rfl⟩ (fun c2 => ?_) (fun c2 => ?_)
    · skip
      exact wJ_S (hk i ms u S (by rw [mb_f_s, if_pos (h125.2 (by omega))]) (fun _ _ _ _ _ _ => rfl) hx hP hms hmc hfi.2 ht3 (by omega)) ⟨rfl, trivial⟩
    · skip
      refine wa_aload_n (n := 0) rfl ?_
      refine wb_gf4 61 rfl (wy_pr rfl) wt_61 wf_4_0 (v := 14) wl_61_0 ?_
      refine wa_cv 14 rfl (wy_pr rfl) wt_14 (M2 := fun _ => False) rfl at_XR_kind ⟨_, rfl⟩ rfl rfl ⟨(Or.inr ⟨wy_pr rfl, fun q => q⟩), trivial, trivial, trivial⟩ trivial (fun _ _ q => False.elim q) ?_ (fun _ _ _ q => q)
      refine wa_aload_n (n := 0) rfl ?_
      refine wb_gf4 14 rfl (wy_pr rfl) wt_14 wf_6_0 (v := 15) wl_14_0 ?_
      refine wa_aload_n (n := 0) rfl ?_
      refine wb_gfi 14 rfl (wy_pr rfl) wt_14 wf_6_4 (v := (i : Int)) (hpos4) (fun r3 => ?_)
      refine wb_bald 15 rfl (wy_pr rfl) wt_15 (n := (S 15 (-1))) rfl (by omega) (by omega) (v := (kg T n (tp T n 1 i))) (h15_0) (fun r4 => ?_)
      refine wa_ireturn rfl ?_
      show wJ _ _ _ _ _ _ _ _ _ _
      refine wa_bipush (w_rg2 (by omega) (by omega)) ?_
      refine wa_icmpeq (w_rg0 (by omega) (by omega)) (w_rg0 (by omega) (by omega)) ⟨_, rfl⟩ (fun c5 => ?_) (fun c5 => ?_)
      · skip
        exact wJ_S (hk i ms u S (by rw [mb_f_s, if_pos (h125.2 (by omega))]) (fun _ _ _ _ _ _ => rfl) hx hP hms hmc hfi.2 ht3 (by omega)) ⟨rfl, trivial⟩
      · skip
        refine wa_aload_n (n := 0) rfl ?_
        refine wa_iload_n (n := 1) rfl ?_
        refine wa_cv 61 rfl (wy_pr rfl) wt_61 (M2 := fun _ => False) rfl at_XT_readHead ⟨_, rfl⟩ rfl rfl ⟨(Or.inr ⟨wy_pr rfl, fun q => q⟩), trivial, trivial, trivial⟩ trivial (fun _ _ q => False.elim q) ?_ (fun _ _ _ q => q)
        refine wa_aload_n (n := 0) rfl ?_
        refine wa_cv 61 rfl (wy_pr rfl) wt_61 (M2 := fun _ => False) rfl at_XT_wordHere ⟨_, rfl⟩ rfl rfl ⟨(Or.inr ⟨wy_pr rfl, fun q => q⟩), trivial, trivial⟩ trivial (fun _ _ q => False.elim q) (wh_c (S := S) (hx_T hx) (show cx_P T n c (i) S from ⟨(hpos4), hg0⟩) rfl hI) (fun oq8 Sq8 hp9 q8 => ?_)
        rcases q8 with ⟨hw6, rfl, rfl⟩ | ⟨hw6, v, rfl, hrz⟩
        · skip
          show wJ _ _ _ _ _ _ _ _ _ _
          show wJ _ _ _ _ _ _ _ ((0, S 17 (i : Int)) :: _) _ _
          have hnt0 : nt_I S 74 T n (tp T n 1 i) (S 17 (i : Int)) := pg_nt hT hg0 hw6
          have hnv0 := hnt0.2.1
          refine wa_bipush (w_rg2 (by omega) (by omega)) ?_
          refine wa_icmpne (w_rg0 (by omega) (by omega)) (w_rg0 (by omega) (by omega)) ⟨_, rfl⟩ (fun c10 => ?_) (fun c10 => ?_)
          · skip
            refine wa_iconst ?_
            refine wa_fall ⟨_, rfl⟩ ?_
            refine wa_istore_n (n := 2) rfl ?_
            refine wa_iload_n (n := 2) rfl ?_
            refine wa_ifeq (w_rg0 (by omega) (by omega)) ⟨_, rfl⟩ (fun c11 => ?_) (fun c11 => ?_)
            · skip
              refine wa_aload_n (n := 0) rfl ?_
              refine wa_cv 61 rfl (wy_pr rfl) wt_61 (M2 := fun _ => False) rfl at_XT_wordHere ⟨_, rfl⟩ rfl rfl ⟨trivial, (Or.inr ⟨wy_pr rfl, fun q => q⟩), trivial, trivial⟩ trivial (fun _ _ q => False.elim q) (wh_c (S := S) (hx_T hx) (show cx_P T n c (i) S from ⟨(hpos4), hg0⟩) rfl hI) (fun oq14 Sq14 hp15 q14 => ?_)
              rcases q14 with ⟨hw12, rfl, rfl⟩ | ⟨hw12, v, rfl, hrz⟩
              · skip
                show wJ _ _ _ _ _ _ _ _ _ _
                show wJ _ _ _ _ _ _ _ ((0, S 17 (i : Int)) :: _) _ _
                have hnt0 : nt_I S 74 T n (tp T n 1 i) (S 17 (i : Int)) := pg_nt hT hg0 hw12
                have hnv0 := hnt0.2.1
                refine wa_bipush (w_rg2 (by omega) (by omega)) ?_
                refine wa_icmpne (w_rg0 (by omega) (by omega)) (w_rg0 (by omega) (by omega)) ⟨_, rfl⟩ (fun c16 => ?_) (fun c16 => ?_)
                · skip
                  refine wa_iconst ?_
                  refine wa_fall ⟨_, rfl⟩ ?_
                  refine wa_istore_n (n := 3) rfl ?_
                  refine wa_iload_n (n := 3) rfl ?_
                  refine wa_ifeq (w_rg0 (by omega) (by omega)) ⟨_, rfl⟩ (fun c17 => ?_) (fun c17 => ?_)
                  · skip
                    refine wa_iload_n (n := 3) rfl ?_
                    refine wa_ifeq (w_rg0 (by omega) (by omega)) ⟨_, rfl⟩ (fun c18 => ?_) (fun c18 => ?_)
                    · skip
                      refine wa_aload_n (n := 0) rfl ?_
                      refine wa_cv 61 rfl (wy_pr rfl) wt_61 (M2 := fun _ => False) rfl at_XT_typeHere ⟨_, rfl⟩ rfl rfl ⟨trivial, trivial, (Or.inr ⟨wy_pr rfl, fun q => q⟩), trivial, trivial⟩ trivial (fun _ _ q => False.elim q) (th_73 (S := S) (B := B) hx (show cx_P T n c (i) S from ⟨(hpos4), hg0⟩)) (fun oq20 Sq20 hp21 q20 => ?_)
                      rcases q20 with ⟨y, hy19, rfl, hy2, rfl⟩ | ⟨e, hy19, v, rfl, hrz⟩
                      · skip
                        show wJ _ _ _ _ _ _ _ _ _ _
                        have hyy0 := hy19
                        have hkg5_0 := hy2
                        refine wa_fall ⟨_, rfl⟩ ?_
                        refine wa_istore (n := 4) rfl ?_
                        refine wa_aload_n (n := 0) rfl ?_
                        refine wb_gf5 61 rfl (wy_pr rfl) wt_61 wf_4_1 (v := 73) (hH) (fun r22 => ?_)
                        refine wb_gfi 73 rfl (wy_pr rfl) wt_73 wf_3_4 (v := (ms.length : Int)) (hmc) (fun r23 => ?_)
                        refine wa_sipush (by omega) ?_
                        refine wa_icmpne (w_rg0 (by omega) (by omega)) (w_rg0 (by omega) (by omega)) ⟨_, rfl⟩ (fun c24 => ?_) (fun c24 => ?_)
                        · skip
                          refine wa_iload_n (n := 3) rfl ?_
                          refine wa_ifeq (w_rg0 (by omega) (by omega)) ⟨_, rfl⟩ (fun c25 => ?_) (fun c25 => ?_)
                          · skip
                            refine wa_aload_n (n := 0) rfl ?_
                            refine wb_gf4 61 rfl (wy_pr rfl) wt_61 wf_4_0 (v := 14) wl_61_0 ?_
                            refine wa_cv 14 rfl (wy_pr rfl) wt_14 (M2 := fun _ => False) rfl at_XR_next ⟨_, rfl⟩ rfl rfl ⟨trivial, trivial, trivial, (Or.inr ⟨wy_pr rfl, fun q => q⟩), trivial, trivial⟩ trivial (fun _ _ q => False.elim q) (nx_c (S := S) (hx_T hx) (show cx_P T n c (i) S from ⟨(hpos4), hg0⟩) rfl hI (by omega)) (fun oq26 Sq26 hp27 q26 => ?_)
                            rcases q26 with ⟨rfl, rfl⟩
                            show wJ _ _ _ _ _ _ _ _ _ _
                            have hg1 : pg T n c (i + 1) := pg_next hT hg0 (by omega) (by omega)
                            have hA1 := pg_at hT hg1
                            have h16_1 := hA1.1
                            have h15_1 := hA1.2.1
                            have hpr1 := hA1.2.2
                            have hkr1 := kg_rg T n (tp T n 1 (i + 1))
                            have hic1 := hg1.1
                            have hlt1 := tp_lt hT hg0 (by omega) (by omega)
                            refine wa_iload_n (n := 3) rfl ?_
                            refine wa_ifeq (w_rg0 (by omega) (by omega)) ⟨_, rfl⟩ (fun c28 => ?_) (fun c28 => ?_)
                            · skip
                              refine wa_aload_n (n := 0) rfl ?_
                              refine wa_iload_n (n := 1) rfl ?_
                              refine wa_iload (n := 4) rfl ?_
                              refine wa_cv 61 rfl (wy_pr rfl) wt_61 (M2 := fun _ => False) rfl at_XT_readName ⟨_, rfl⟩ rfl rfl ⟨trivial, trivial, trivial, (Or.inr ⟨wy_pr rfl, fun q => q⟩), trivial, trivial⟩ trivial (fun _ _ q => False.elim q) ?_ (fun _ _ _ q => q)
                              refine wa_aload_n (n := 0) rfl ?_
                              refine wa_cv 61 rfl (wy_pr rfl) wt_61 (M2 := fun _ => False) rfl at_XT_wordHere ⟨_, rfl⟩ rfl rfl ⟨(Or.inr ⟨wy_pr rfl, fun q => q⟩), trivial, trivial, trivial⟩ trivial (fun _ _ q => False.elim q) (wh_c (S := (w_up S 14 4 ((i + 1 : Nat) : Int))) (hx_T (hx_up hx (by unfold hx_o; omega))) (show cx_P T n c (i + 1) (w_up S 14 4 ((i + 1 : Nat) : Int)) from ⟨(w_up_same _ _ _ _), hg1⟩) rfl (gI_up hI (by omega) (by omega) (by omega))) (fun oq31 Sq31 hp32 q31 => ?_)
                              rcases q31 with ⟨hw29, rfl, rfl⟩ | ⟨hw29, v, rfl, hrz⟩
                              · skip
                                show wJ _ _ _ _ _ _ _ _ _ _
                                show wJ _ _ _ _ _ _ _ ((0, S 17 ((i + 1 : Nat) : Int)) :: _) _ _
                                have hnt1 : nt_I S 74 T n (tp T n 1 (i + 1)) (S 17 ((i + 1 : Nat) : Int)) := pg_nt hT hg1 hw29
                                have hnv1 := hnt1.2.1
                                refine wa_istore_n (n := 3) rfl ?_
                                refine wa_iload_n (n := 3) rfl ?_
                                refine wa_bipush (w_rg2 (by omega) (by omega)) ?_
                                refine wa_icmpge (w_rg0 (by omega) (by omega)) (w_rg0 (by omega) (by omega)) ⟨_, rfl⟩ (fun c33 => ?_) (fun c33 => ?_)
                                · skip
                                  refine wa_aload_n (n := 0) rfl ?_
                                  refine wb_gf4 61 rfl (wy_pr rfl) wt_61 wf_4_0 (v := 14) wl_61_0 ?_
                                  refine wa_cv 14 rfl (wy_pr rfl) wt_14 (M2 := fun _ => False) rfl at_XR_kindBehind ⟨_, rfl⟩ rfl rfl ⟨trivial, (Or.inr ⟨wy_pr rfl, fun q => q⟩), trivial, trivial, trivial⟩ trivial (fun _ _ q => False.elim q) ?_ (fun _ _ _ q => q)
                                  refine wa_aload_n (n := 0) rfl ?_
                                  refine wb_gfi 14 rfl (wy_pr rfl) wt_14 wf_6_4 (v := ((i + 1 : Nat) : Int)) (w_up_same _ _ _ _) (fun r34 => ?_)
                                  refine wa_iconst ?_
                                  refine wa_iadd ?_
                                  refine wa_aload_n (n := 0) rfl ?_
                                  refine wb_gfi 14 rfl (wy_pr rfl) wt_14 wf_6_3 (v := ((c : Int) + 1)) ((w_up_at (by decide)).trans (hT.1)) (fun r35 => ?_)
                                  refine wa_icmpge (w_rg0 (by omega) (by omega)) (w_rg0 (by omega) (by omega)) ⟨_, rfl⟩ (fun c36 => ?_) (fun c36 => ?_)
                                  · skip
                                    refine wa_iconst ?_
                                    refine wa_fall ⟨_, rfl⟩ ?_
                                    refine wa_ireturn rfl ?_
                                    show wJ _ _ _ _ _ _ _ _ _ _
                                    refine wa_bipush (w_rg2 (by omega) (by omega)) ?_
                                    refine wa_icmpne (w_rg0 (by omega) (by omega)) (w_rg0 (by omega) (by omega)) ⟨_, rfl⟩ (fun c37 => ?_) (fun c37 => ?_)
                                    · skip
                                      refine wa_iconst ?_
                                      refine wa_fall ⟨_, rfl⟩ ?_
                                      refine wa_istore (n := 4) rfl ?_
                                      refine wa_iload (n := 4) rfl ?_
                                      refine wa_ifeq (w_rg0 (by omega) (by omega)) ⟨_, rfl⟩ (fun c38 => ?_) (fun c38 => ?_)
                                      · skip
                                        refine wa_iload (n := 4) rfl ?_
                                        refine wa_ifeq (w_rg0 (by omega) (by omega)) ⟨_, rfl⟩ (fun c39 => ?_) (fun c39 => ?_)
                                        · skip
                                          refine wa_aload_n (n := 0) rfl ?_
                                          refine wb_gf4 61 rfl (wy_pr rfl) wt_61 wf_4_0 (v := 14) wl_61_0 ?_
                                          refine wa_cv 14 rfl (wy_pr rfl) wt_14 (M2 := fun _ => False) rfl at_XR_next ⟨_, rfl⟩ rfl rfl ⟨trivial, trivial, (Or.inr ⟨wy_pr rfl, fun q => q⟩), trivial, trivial, trivial⟩ trivial (fun _ _ q => False.elim q) (nx_c (S := (w_up S 14 4 ((i + 1 : Nat) : Int))) (hx_T (hx_up hx (by unfold hx_o; omega))) (show cx_P T n c (i + 1) (w_up S 14 4 ((i + 1 : Nat) : Int)) from ⟨(w_up_same _ _ _ _), hg1⟩) rfl (gI_up hI (by omega) (by omega) (by omega)) (by omega)) (fun oq40 Sq40 hp41 q40 => ?_)
                                          rcases q40 with ⟨rfl, rfl⟩
                                          show wJ _ _ _ _ _ _ _ _ _ _
                                          have hg2 : pg T n c (i + 1 + 1) := pg_next hT hg1 (by omega) (by omega)
                                          have hA2 := pg_at hT hg2
                                          have h16_2 := hA2.1
                                          have h15_2 := hA2.2.1
                                          have hpr2 := hA2.2.2
                                          have hkr2 := kg_rg T n (tp T n 1 (i + 1 + 1))
                                          have hic2 := hg2.1
                                          have hlt2 := tp_lt hT hg1 (by omega) (by omega)
                                          refine wa_aload_n (n := 0) rfl ?_
                                          refine wb_gf5 61 rfl (wy_pr rfl) wt_61 wf_4_1 (v := 73) ((w_up_slot (by decide)).trans ((w_up_slot (by decide)).trans (hH))) (fun r42 => ?_)
                                          refine wa_iload (n := 4) rfl ?_
                                          refine wa_ifeq (w_rg0 (by omega) (by omega)) ⟨_, rfl⟩ (fun c43 => ?_) (fun c43 => ?_)
                                          · skip
                                            refine wa_iconst ?_
                                            refine wa_fall ⟨_, rfl⟩ ?_
                                            refine wa_iload_n (n := 2) rfl ?_
                                            refine wa_iload_n (n := 3) rfl ?_
                                            refine wa_cv 73 rfl (wy_pr rfl) wt_73 (M2 := fun _ => False) rfl at_XO_addMember ⟨_, rfl⟩ rfl rfl ⟨trivial, trivial, (Or.inr ⟨wy_pr rfl, fun q => q⟩), trivial, trivial, trivial⟩ trivial (fun _ _ q => False.elim q) ?_ (fun _ _ _ q => q)
                                            refine wa_aload_n (n := 0) rfl ?_
                                            refine wb_gfi 73 rfl (wy_pr rfl) wt_73 wf_3_4 (v := (ms.length : Int)) ((w_up_slot (by decide)).trans ((w_up_slot (by decide)).trans (hmc))) (fun r44 => ?_)
                                            refine wa_istore (n := 4) rfl ?_
                                            refine wa_aload_n (n := 0) rfl ?_
                                            refine wb_gf4 73 rfl (wy_pr rfl) wt_73 wf_3_3 (v := 96) wl_73_3 ?_
                                            refine wa_iconst ?_
                                            refine wb_aald5 96 0 rfl rfl (wy_pr rfl) wt_96 (by rw [show _ = _ from ((w_up_slot (by decide)).trans ((w_up_slot (by decide)).trans ((cl_96 hC))))]; omega) wl_96_0 ?_
                                            refine wa_iload (n := 4) rfl ?_
                                            refine wa_aload_n (n := 0) rfl ?_
                                            refine wb_gfi 73 rfl (wy_pr rfl) wt_73 wf_3_2 (v := (kc + 1)) ((w_up_slot (by decide)).trans ((w_up_slot (by decide)).trans (hkc1))) (fun r45 => ?_)
                                            refine wa_iconst ?_
                                            refine wa_isub ?_
                                            rw [show (((kc + 1) - 1) : Int) = kc by omega]
                                            refine wb_iast 97 rfl (wy_pr rfl) wt_97 (n := 400) ((w_up_slot (by decide)).trans ((w_up_slot (by decide)).trans ((cl_97 hC)))) (by omega) (by omega) ⟨(by omega), (by omega)⟩ ?_
                                            refine wa_aload_n (n := 0) rfl ?_
                                            refine wb_gf4 73 rfl (wy_pr rfl) wt_73 wf_3_3 (v := 96) wl_73_3 ?_
                                            refine wa_iconst ?_
                                            refine wb_aald5 96 1 rfl rfl (wy_pr rfl) wt_96 (by rw [show _ = _ from ((w_up_slot (by decide)).trans ((w_up_slot (by decide)).trans ((w_up_slot (by decide)).trans ((cl_96 hC)))))]; omega) wl_96_1 ?_
                                            refine wa_iload (n := 4) rfl ?_
                                            refine wa_iload_n (n := 1) rfl ?_
                                            refine wb_iast 98 rfl (wy_pr rfl) wt_98 (n := 400) ((w_up_slot (by decide)).trans ((w_up_slot (by decide)).trans ((w_up_slot (by decide)).trans ((cl_98 hC))))) (by omega) (by omega) ⟨(by omega), (by omega)⟩ ?_
                                            refine wa_aload_n (n := 0) rfl ?_
                                            refine wb_gf4 73 rfl (wy_pr rfl) wt_73 wf_3_3 (v := 96) wl_73_3 ?_
                                            refine wa_iconst ?_
                                            refine wb_aald5 96 3 rfl rfl (wy_pr rfl) wt_96 (by rw [show _ = _ from ((w_up_slot (by decide)).trans ((w_up_slot (by decide)).trans ((w_up_slot (by decide)).trans ((w_up_slot (by decide)).trans ((cl_96 hC))))))]; omega) wl_96_3 ?_
                                            refine wa_iload (n := 4) rfl ?_
                                            refine wa_iload_n (n := 2) rfl ?_
                                            refine wb_iast 100 rfl (wy_pr rfl) wt_100 (n := 400) ((w_up_slot (by decide)).trans ((w_up_slot (by decide)).trans ((w_up_slot (by decide)).trans ((w_up_slot (by decide)).trans ((cl_100 hC)))))) (by omega) (by omega) ⟨(by omega), (by omega)⟩ ?_
                                            refine wa_aload_n (n := 0) rfl ?_
                                            refine wb_gf4 73 rfl (wy_pr rfl) wt_73 wf_3_3 (v := 96) wl_73_3 ?_
                                            refine wa_iconst ?_
                                            refine wb_aald5 96 4 rfl rfl (wy_pr rfl) wt_96 (by rw [show _ = _ from ((w_up_slot (by decide)).trans ((w_up_slot (by decide)).trans ((w_up_slot (by decide)).trans ((w_up_slot (by decide)).trans ((w_up_slot (by decide)).trans ((cl_96 hC)))))))]; omega) wl_96_4 ?_
                                            refine wa_iload (n := 4) rfl ?_
                                            refine wa_iconst ?_
                                            refine wb_iast 101 rfl (wy_pr rfl) wt_101 (n := 400) ((w_up_slot (by decide)).trans ((w_up_slot (by decide)).trans ((w_up_slot (by decide)).trans ((w_up_slot (by decide)).trans ((w_up_slot (by decide)).trans ((cl_101 hC))))))) (by omega) (by omega) ⟨(by omega), (by omega)⟩ ?_
                                            refine wa_aload_n (n := 0) rfl ?_
                                            refine wb_gf4 73 rfl (wy_pr rfl) wt_73 wf_3_3 (v := 96) wl_73_3 ?_
                                            refine wa_iconst ?_
                                            refine wb_aald5 96 5 rfl rfl (wy_pr rfl) wt_96 (by rw [show _ = _ from ((w_up_slot (by decide)).trans ((w_up_slot (by decide)).trans ((w_up_slot (by decide)).trans ((w_up_slot (by decide)).trans ((w_up_slot (by decide)).trans ((w_up_slot (by decide)).trans ((cl_96 hC))))))))]; omega) wl_96_5 ?_
                                            refine wa_iload (n := 4) rfl ?_
                                            refine wa_iconst ?_
                                            refine wb_iast 102 rfl (wy_pr rfl) wt_102 (n := 400) ((w_up_slot (by decide)).trans ((w_up_slot (by decide)).trans ((w_up_slot (by decide)).trans ((w_up_slot (by decide)).trans ((w_up_slot (by decide)).trans ((w_up_slot (by decide)).trans ((cl_102 hC)))))))) (by omega) (by omega) ⟨(by omega), (by omega)⟩ ?_
                                            refine wa_aload_n (n := 0) rfl ?_
                                            refine wb_gf4 73 rfl (wy_pr rfl) wt_73 wf_3_3 (v := 96) wl_73_3 ?_
                                            refine wa_bipush (w_rg2 (by omega) (by omega)) ?_
                                            refine wb_aald5 96 14 rfl rfl (wy_pr rfl) wt_96 (by rw [show _ = _ from ((w_up_slot (by decide)).trans ((w_up_slot (by decide)).trans ((w_up_slot (by decide)).trans ((w_up_slot (by decide)).trans ((w_up_slot (by decide)).trans ((w_up_slot (by decide)).trans ((w_up_slot (by decide)).trans ((cl_96 hC)))))))))]; omega) wl_96_14 ?_
                                            refine wa_iload (n := 4) rfl ?_
                                            refine wa_iload_n (n := 3) rfl ?_
                                            refine wb_iast 111 rfl (wy_pr rfl) wt_111 (n := 400) ((w_up_slot (by decide)).trans ((w_up_slot (by decide)).trans ((w_up_slot (by decide)).trans ((w_up_slot (by decide)).trans ((w_up_slot (by decide)).trans ((w_up_slot (by decide)).trans ((w_up_slot (by decide)).trans ((cl_111 hC))))))))) (by omega) (by omega) ⟨(by omega), (by omega)⟩ ?_
                                            refine wa_aload_n (n := 0) rfl ?_
                                            refine wb_gf4 73 rfl (wy_pr rfl) wt_73 wf_3_3 (v := 96) wl_73_3 ?_
                                            refine wa_bipush (w_rg2 (by omega) (by omega)) ?_
                                            refine wb_aald5 96 15 rfl rfl (wy_pr rfl) wt_96 (by rw [show _ = _ from ((w_up_slot (by decide)).trans ((w_up_slot (by decide)).trans ((w_up_slot (by decide)).trans ((w_up_slot (by decide)).trans ((w_up_slot (by decide)).trans ((w_up_slot (by decide)).trans ((w_up_slot (by decide)).trans ((w_up_slot (by decide)).trans ((cl_96 hC))))))))))]; omega) wl_96_15 ?_
                                            refine wa_iload (n := 4) rfl ?_
                                            refine wa_iconst ?_
                                            refine wb_iast 112 rfl (wy_pr rfl) wt_112 (n := 400) ((w_up_slot (by decide)).trans ((w_up_slot (by decide)).trans ((w_up_slot (by decide)).trans ((w_up_slot (by decide)).trans ((w_up_slot (by decide)).trans ((w_up_slot (by decide)).trans ((w_up_slot (by decide)).trans ((w_up_slot (by decide)).trans ((cl_112 hC)))))))))) (by omega) (by omega) ⟨(by omega), (by omega)⟩ ?_
                                            refine wa_aload_n (n := 0) rfl ?_
                                            refine wa_dup (by decide) ?_
                                            refine wb_gfi 73 rfl (wy_pr rfl) wt_73 wf_3_4 (v := (ms.length : Int)) ((w_up_slot (by decide)).trans ((w_up_slot (by decide)).trans ((w_up_slot (by decide)).trans ((w_up_slot (by decide)).trans ((w_up_slot (by decide)).trans ((w_up_slot (by decide)).trans ((w_up_slot (by decide)).trans ((w_up_slot (by decide)).trans ((w_up_slot (by decide)).trans (hmc)))))))))) (fun r46 => ?_)
                                            refine wa_iconst ?_
                                            refine wa_iadd ?_
                                            refine wb_pfi 73 rfl (wy_pr rfl) wt_73 wf_3_4 (n := 4) rfl ⟨(by omega), (by omega)⟩ ?_
                                            refine wa_aload_n (n := 0) rfl ?_
                                            refine wb_gf4 73 rfl (wy_pr rfl) wt_73 wf_3_1 (v := 86) wl_73_1 ?_
                                            refine wa_iconst ?_
                                            refine wb_aald5 86 3 rfl rfl (wy_pr rfl) wt_86 (by rw [show _ = _ from ((w_up_slot (by decide)).trans ((w_up_slot (by decide)).trans ((w_up_slot (by decide)).trans ((w_up_slot (by decide)).trans ((w_up_slot (by decide)).trans ((w_up_slot (by decide)).trans ((w_up_slot (by decide)).trans ((w_up_slot (by decide)).trans ((w_up_slot (by decide)).trans ((w_up_slot (by decide)).trans ((cl_86 hC))))))))))))]; omega) wl_86_3 ?_
                                            refine wa_aload_n (n := 0) rfl ?_
                                            refine wb_gfi 73 rfl (wy_pr rfl) wt_73 wf_3_2 (v := (kc + 1)) ((w_up_at (by decide)).trans ((w_up_slot (by decide)).trans ((w_up_slot (by decide)).trans ((w_up_slot (by decide)).trans ((w_up_slot (by decide)).trans ((w_up_slot (by decide)).trans ((w_up_slot (by decide)).trans ((w_up_slot (by decide)).trans ((w_up_slot (by decide)).trans ((w_up_slot (by decide)).trans (hkc1))))))))))) (fun r47 => ?_)
                                            refine wa_iconst ?_
                                            refine wa_isub ?_
                                            rw [show (((kc + 1) - 1) : Int) = kc by omega]
                                            refine wa_dup2 (by decide) (by decide) ?_
                                            refine wb_iald 90 rfl (wy_pr rfl) wt_90 (n := 60) ((w_up_slot (by decide)).trans ((w_up_slot (by decide)).trans ((w_up_slot (by decide)).trans ((w_up_slot (by decide)).trans ((w_up_slot (by decide)).trans ((w_up_slot (by decide)).trans ((w_up_slot (by decide)).trans ((w_up_slot (by decide)).trans ((w_up_slot (by decide)).trans ((w_up_slot (by decide)).trans ((cl_90 hC)))))))))))) (by omega) (by omega) (v := ((ms.length : Int) - (fi : Int))) ((w_up_slot (by decide)).trans ((w_up_slot (by decide)).trans ((w_up_slot (by decide)).trans ((w_up_slot (by decide)).trans ((w_up_slot (by decide)).trans ((w_up_slot (by decide)).trans ((w_up_slot (by decide)).trans ((w_up_slot (by decide)).trans ((w_up_slot (by decide)).trans ((w_up_slot (by decide)).trans (ht3))))))))))) (fun r48 => ?_)
                                            refine wa_iconst ?_
                                            refine wa_iadd ?_
                                            refine wb_iast 90 rfl (wy_pr rfl) wt_90 (n := 60) ((w_up_slot (by decide)).trans ((w_up_slot (by decide)).trans ((w_up_slot (by decide)).trans ((w_up_slot (by decide)).trans ((w_up_slot (by decide)).trans ((w_up_slot (by decide)).trans ((w_up_slot (by decide)).trans ((w_up_slot (by decide)).trans ((w_up_slot (by decide)).trans ((w_up_slot (by decide)).trans ((cl_90 hC)))))))))))) (by omega) (by omega) ⟨(by omega), (by omega)⟩ ?_
                                            refine wa_return rfl ?_
                                            show wJ _ _ _ _ _ _ _ _ _ _
                                            refine wa_return rfl ?_
                                            show wJ _ _ _ _ _ _ _ _ _ _
                                            refine wa_fall ⟨_, rfl⟩ ?_
                                            refine wa_aload_n (n := 0) rfl ?_
                                            refine wb_gf5 61 rfl (wy_pr rfl) wt_61 wf_4_1 (v := 73) ((w_up_slot (by decide)).trans ((w_up_slot (by decide)).trans ((w_up_slot (by decide)).trans ((w_up_slot (by decide)).trans ((w_up_slot (by decide)).trans ((w_up_slot (by decide)).trans ((w_up_slot (by decide)).trans ((w_up_slot (by decide)).trans ((w_up_slot (by decide)).trans ((w_up_slot (by decide)).trans ((w_up_slot (by decide)).trans (hH)))))))))))) (fun r49 => ?_)
                                            refine wb_gf4 73 rfl (wy_pr rfl) wt_73 wf_3_3 (v := 96) wl_73_3 ?_
                                            refine wa_iconst ?_
                                            refine wb_aald5 96 2 rfl rfl (wy_pr rfl) wt_96 (by rw [show _ = _ from ((w_up_slot (by decide)).trans ((w_up_slot (by decide)).trans ((w_up_slot (by decide)).trans ((w_up_slot (by decide)).trans ((w_up_slot (by decide)).trans ((w_up_slot (by decide)).trans ((w_up_slot (by decide)).trans ((w_up_slot (by decide)).trans ((w_up_slot (by decide)).trans ((w_up_slot (by decide)).trans ((w_up_slot (by decide)).trans ((cl_96 hC)))))))))))))]; omega) wl_96_2 ?_
                                            refine wa_aload_n (n := 0) rfl ?_
                                            refine wb_gf5 61 rfl (wy_pr rfl) wt_61 wf_4_1 (v := 73) ((w_up_slot (by decide)).trans ((w_up_slot (by decide)).trans ((w_up_slot (by decide)).trans ((w_up_slot (by decide)).trans ((w_up_slot (by decide)).trans ((w_up_slot (by decide)).trans ((w_up_slot (by decide)).trans ((w_up_slot (by decide)).trans ((w_up_slot (by decide)).trans ((w_up_slot (by decide)).trans ((w_up_slot (by decide)).trans (hH)))))))))))) (fun r50 => ?_)
                                            refine wb_gfi 73 rfl (wy_pr rfl) wt_73 wf_3_4 (v := ((ms.length : Int) + 1)) ((w_up_slot (by decide)).trans (w_up_same _ _ _ _)) (fun r51 => ?_)
                                            refine wa_iconst ?_
                                            refine wa_isub ?_
                                            rw [show ((((ms.length : Int) + 1) - 1) : Int) = (ms.length : Int) by omega]
                                            refine wa_iload_n (n := 2) rfl ?_
                                            refine wa_ifeq (w_rg0 (by omega) (by omega)) ⟨_, rfl⟩ (fun c52 => ?_) (fun c52 => ?_)
                                            · skip
                                              refine wa_iconst ?_
                                              refine wa_fall ⟨_, rfl⟩ ?_
                                              refine wb_iast 99 rfl (wy_pr rfl) wt_99 (n := 400) ((w_up_slot (by decide)).trans ((w_up_slot (by decide)).trans ((w_up_slot (by decide)).trans ((w_up_slot (by decide)).trans ((w_up_slot (by decide)).trans ((w_up_slot (by decide)).trans ((w_up_slot (by decide)).trans ((w_up_slot (by decide)).trans ((w_up_slot (by decide)).trans ((w_up_slot (by decide)).trans ((w_up_slot (by decide)).trans ((cl_99 hC))))))))))))) (by omega) (by omega) ⟨(by omega), (by omega)⟩ ?_
                                              refine wa_return rfl ?_
                                              show wJ _ _ _ _ _ _ _ _ _ _
                                              refine wa_aload_n (n := 0) rfl ?_
                                              refine wb_gf5 61 rfl (wy_pr rfl) wt_61 wf_4_1 (v := 73) ((w_up_slot (by decide)).trans ((w_up_slot (by decide)).trans ((w_up_slot (by decide)).trans ((w_up_slot (by decide)).trans ((w_up_slot (by decide)).trans ((w_up_slot (by decide)).trans ((w_up_slot (by decide)).trans ((w_up_slot (by decide)).trans ((w_up_slot (by decide)).trans ((w_up_slot (by decide)).trans ((w_up_slot (by decide)).trans ((w_up_slot (by decide)).trans (hH))))))))))))) (fun r53 => ?_)
                                              refine wb_gfi 73 rfl (wy_pr rfl) wt_73 wf_3_4 (v := ((ms.length : Int) + 1)) ((w_up_slot (by decide)).trans ((w_up_slot (by decide)).trans (w_up_same _ _ _ _))) (fun r54 => ?_)
                                              refine wa_iconst ?_
                                              refine wa_isub ?_
                                              rw [show ((((ms.length : Int) + 1) - 1) : Int) = (ms.length : Int) by omega]
                                              refine wa_istore (n := 5) rfl ?_
                                              refine wa_aload_n (n := 0) rfl ?_
                                              refine wb_gf5 61 rfl (wy_pr rfl) wt_61 wf_4_1 (v := 73) ((w_up_slot (by decide)).trans ((w_up_slot (by decide)).trans ((w_up_slot (by decide)).trans ((w_up_slot (by decide)).trans ((w_up_slot (by decide)).trans ((w_up_slot (by decide)).trans ((w_up_slot (by decide)).trans ((w_up_slot (by decide)).trans ((w_up_slot (by decide)).trans ((w_up_slot (by decide)).trans ((w_up_slot (by decide)).trans ((w_up_slot (by decide)).trans (hH))))))))))))) (fun r55 => ?_)
                                              refine wb_gf4 73 rfl (wy_pr rfl) wt_73 wf_3_3 (v := 96) wl_73_3 ?_
                                              refine wa_iconst ?_
                                              refine wb_aald5 96 1 rfl rfl (wy_pr rfl) wt_96 (by rw [show _ = _ from ((w_up_slot (by decide)).trans ((w_up_slot (by decide)).trans ((w_up_slot (by decide)).trans ((w_up_slot (by decide)).trans ((w_up_slot (by decide)).trans ((w_up_slot (by decide)).trans ((w_up_slot (by decide)).trans ((w_up_slot (by decide)).trans ((w_up_slot (by decide)).trans ((w_up_slot (by decide)).trans ((w_up_slot (by decide)).trans ((w_up_slot (by decide)).trans ((cl_96 hC))))))))))))))]; omega) wl_96_1 ?_
                                              refine wa_iload (n := 5) rfl ?_
                                              refine wb_iald 98 rfl (wy_pr rfl) wt_98 (n := 400) ((w_up_slot (by decide)).trans ((w_up_slot (by decide)).trans ((w_up_slot (by decide)).trans ((w_up_slot (by decide)).trans ((w_up_slot (by decide)).trans ((w_up_slot (by decide)).trans ((w_up_slot (by decide)).trans ((w_up_slot (by decide)).trans ((w_up_at (by omega)).trans ((w_up_slot (by decide)).trans ((w_up_slot (by decide)).trans ((w_up_slot (by decide)).trans ((cl_98 hC)))))))))))))) (by omega) (by omega) (v := 1) ((w_up_slot (by decide)).trans ((w_up_slot (by decide)).trans ((w_up_slot (by decide)).trans ((w_up_slot (by decide)).trans ((w_up_slot (by decide)).trans ((w_up_slot (by decide)).trans ((w_up_slot (by decide)).trans ((w_up_slot (by decide)).trans (w_up_same _ _ _ _))))))))) (fun r56 => ?_)
                                              refine wa_ifeq (w_rg0 (by omega) (by omega)) ⟨_, rfl⟩ (fun c57 => ?_) (fun c57 => ?_)
                                              · skip
                                                exact absurd c57 (by omega)
                                              · skip
                                                refine wa_aload_n (n := 0) rfl ?_
                                                refine wa_iload (n := 5) rfl ?_
                                                have hmsx : mr_all 97 74 T (w_up (w_up (w_up (w_up (w_up (w_up (w_up (w_up (w_up (w_up (w_up (w_up S 14 4 ((i + 1 : Nat) : Int)) 14 4 ((i + 1 + 1 : Nat) : Int)) 97 (ms.length : Int) kc) 98 (ms.length : Int) 1) 100 (ms.length : Int) y) 101 (ms.length : Int) 0) 102 (ms.length : Int) 0) 111 (ms.length : Int) (S 17 ((i + 1 : Nat) : Int))) 112 (ms.length : Int) (-1)) 73 4 ((ms.length : Int) + 1)) 90 kc (((ms.length : Int) - (fi : Int)) + 1)) 99 (ms.length : Int) 0) ms := (mr_all_up (mr_all_up (mr_all_up (mr_all_up (mr_all_up (mr_all_up (mr_all_up (mr_all_up (mr_all_up (mr_all_up (mr_all_up (mr_all_up hms (by omega) (by omega)) (by omega) (by omega)) (by omega) (by omega)) (by omega) (by omega)) (by omega) (by omega)) (by omega) (by omega)) (by omega) (by omega)) (by omega) (by omega)) (by omega) (by omega)) (by omega) (by omega)) (by omega) (by omega)) (by omega) (by omega))
                                                have hhd : mr_hd 97 74 T (w_up (w_up (w_up (w_up (w_up (w_up (w_up (w_up (w_up (w_up (w_up (w_up S 14 4 ((i + 1 : Nat) : Int)) 14 4 ((i + 1 + 1 : Nat) : Int)) 97 (ms.length : Int) kc) 98 (ms.length : Int) 1) 100 (ms.length : Int) y) 101 (ms.length : Int) 0) 102 (ms.length : Int) 0) 111 (ms.length : Int) (S 17 ((i + 1 : Nat) : Int))) 112 (ms.length : Int) (-1)) 73 4 ((ms.length : Int) + 1)) 90 kc (((ms.length : Int) - (fi : Int)) + 1)) 99 (ms.length : Int) 0) (ms.length : Int) kc 1 0 y (tp T n 1 (i + 1)) (lx_en T n 1 (tp T n 1 (i + 1))) := ⟨⟨((w_up_slot (by decide)).trans ((w_up_slot (by decide)).trans ((w_up_slot (by decide)).trans ((w_up_slot (by decide)).trans ((w_up_slot (by decide)).trans ((w_up_slot (by decide)).trans ((w_up_slot (by decide)).trans ((w_up_slot (by decide)).trans ((w_up_slot (by decide)).trans (w_up_same _ _ _ _)))))))))), ((w_up_slot (by decide)).trans ((w_up_slot (by decide)).trans ((w_up_slot (by decide)).trans ((w_up_slot (by decide)).trans ((w_up_slot (by decide)).trans ((w_up_slot (by decide)).trans ((w_up_slot (by decide)).trans ((w_up_slot (by decide)).trans (w_up_same _ _ _ _))))))))), (w_up_same _ _ _ _), ((w_up_slot (by decide)).trans ((w_up_slot (by decide)).trans ((w_up_slot (by decide)).trans ((w_up_slot (by decide)).trans ((w_up_slot (by decide)).trans ((w_up_slot (by decide)).trans ((w_up_slot (by decide)).trans (w_up_same _ _ _ _))))))))⟩, ⟨by decide, by decide⟩, fun z => absurd z (by decide), fun _ => ⟨⟨by rw [show (w_up (w_up (w_up (w_up (w_up (w_up (w_up (w_up (w_up (w_up (w_up (w_up S 14 4 ((i + 1 : Nat) : Int)) 14 4 ((i + 1 + 1 : Nat) : Int)) 97 (ms.length : Int) kc) 98 (ms.length : Int) 1) 100 (ms.length : Int) y) 101 (ms.length : Int) 0) 102 (ms.length : Int) 0) 111 (ms.length : Int) (S 17 ((i + 1 : Nat) : Int))) 112 (ms.length : Int) (-1)) 73 4 ((ms.length : Int) + 1)) 90 kc (((ms.length : Int) - (fi : Int)) + 1)) 99 (ms.length : Int) 0) (97 + 14) (ms.length : Int) = _ from ((w_up_slot (by decide)).trans ((w_up_slot (by decide)).trans ((w_up_slot (by decide)).trans ((w_up_slot (by decide)).trans (w_up_same _ _ _ _)))))]; omega, by rw [show (w_up (w_up (w_up (w_up (w_up (w_up (w_up (w_up (w_up (w_up (w_up (w_up S 14 4 ((i + 1 : Nat) : Int)) 14 4 ((i + 1 + 1 : Nat) : Int)) 97 (ms.length : Int) kc) 98 (ms.length : Int) 1) 100 (ms.length : Int) y) 101 (ms.length : Int) 0) 102 (ms.length : Int) 0) 111 (ms.length : Int) (S 17 ((i + 1 : Nat) : Int))) 112 (ms.length : Int) (-1)) 73 4 ((ms.length : Int) + 1)) 90 kc (((ms.length : Int) - (fi : Int)) + 1)) 99 (ms.length : Int) 0) (97 + 14) (ms.length : Int) = _ from ((w_up_slot (by decide)).trans ((w_up_slot (by decide)).trans ((w_up_slot (by decide)).trans ((w_up_slot (by decide)).trans (w_up_same _ _ _ _)))))]; show _ < S 74 7; omega⟩, by rw [show (w_up (w_up (w_up (w_up (w_up (w_up (w_up (w_up (w_up (w_up (w_up (w_up S 14 4 ((i + 1 : Nat) : Int)) 14 4 ((i + 1 + 1 : Nat) : Int)) 97 (ms.length : Int) kc) 98 (ms.length : Int) 1) 100 (ms.length : Int) y) 101 (ms.length : Int) 0) 102 (ms.length : Int) 0) 111 (ms.length : Int) (S 17 ((i + 1 : Nat) : Int))) 112 (ms.length : Int) (-1)) 73 4 ((ms.length : Int) + 1)) 90 kc (((ms.length : Int) - (fi : Int)) + 1)) 99 (ms.length : Int) 0) (97 + 14) (ms.length : Int) = _ from ((w_up_slot (by decide)).trans ((w_up_slot (by decide)).trans ((w_up_slot (by decide)).trans ((w_up_slot (by decide)).trans (w_up_same _ _ _ _)))))]; exact hnt1.2.2⟩⟩
                                                have hpm0 : pm_I 97 (w_up (w_up (w_up (w_up (w_up (w_up (w_up (w_up (w_up (w_up (w_up (w_up S 14 4 ((i + 1 : Nat) : Int)) 14 4 ((i + 1 + 1 : Nat) : Int)) 97 (ms.length : Int) kc) 98 (ms.length : Int) 1) 100 (ms.length : Int) y) 101 (ms.length : Int) 0) 102 (ms.length : Int) 0) 111 (ms.length : Int) (S 17 ((i + 1 : Nat) : Int))) 112 (ms.length : Int) (-1)) 73 4 ((ms.length : Int) + 1)) 90 kc (((ms.length : Int) - (fi : Int)) + 1)) 99 (ms.length : Int) 0) (ms.length : Int) [] 0 := ⟨((w_up_slot (by decide)).trans ((w_up_slot (by decide)).trans ((w_up_slot (by decide)).trans ((w_up_slot (by decide)).trans ((w_up_slot (by decide)).trans ((w_up_slot (by decide)).trans (w_up_same _ _ _ _))))))), ((w_up_slot (by decide)).trans ((w_up_slot (by decide)).trans ((w_up_slot (by decide)).trans ((w_up_slot (by decide)).trans ((w_up_slot (by decide)).trans (w_up_same _ _ _ _)))))), by decide, fun q hq => absurd hq (Nat.not_lt_zero _)⟩
                                                have hn := lx_w_k (k := 12) hB hW hrw (by decide) hwc.1 hnt0
                                                rw [show hwl 12 = tx_25 from rfl] at hn
                                                have z1 : zq B (tp T n 1 i) 237 6 = 1 := by rw [zT_6 hB]; exact hnt0.1
                                                have hs := lx_w_k (k := 11) hB hW hrw (by decide) hwc.1 hnt0
                                                rw [show hwl 11 = tx_23 from rfl] at hs
                                                have hrm0 : rm_L B 241 kc itf (ms.drop fi) ms.length (tp T n 1 i) = rb_L B 241 kc itf (ms.drop fi) ms.length (tp T n 1 i) 0 := rm_o (fun z => absurd (hs.1 z) (by omega))
                                                have hyh := ty_hy (av := 1) hyy0 (Or.inr (by decide))
                                                rw [tp_ne (i := i) hB] at hyh
                                                have hrm1 : rm_L B 241 kc itf (ms.drop fi) ms.length (tp T n 1 i) = rb_name B 241 itf (ms.drop fi) y (tp T n 1 (i + 1)) 0 := hrm0.trans (rb_t z1 (fun z => absurd (hn.1 z) (by omega)) hyh.2.2.1 (by omega) hyh.1)
                                                have z2 : zq B (tp T n 1 (i + 1)) 237 6 = 1 := by rw [zT_6 hB]; exact hnt1.1
                                                have hoo := oo_21 hB hW hrw hwc.1 hnt1
                                                have h59 := lx_is_kg (i := i + 1 + 1) hB (k := 17) (ch := 59) (by decide) sk_17
                                                have hrm3 := hrm1.trans (rn_m z2 (fun z => absurd (hoo.1 z) (by omega)) (by rw [tp_ne (i := i + 1) hB]; rintro ⟨q1, q2⟩; have := h59.1 q1; omega))
                                                rw [tp_ne (i := i + 1) hB, zT_8 hB] at hrm3
                                                have h40 := lx_is_kg (i := i + 1 + 1) hB (k := 10) (ch := 40) (by decide) sk_10
                                                have hpar : rm_par2 B 241 1 (tp T n 1 (i + 1)) (lx_en T n 1 (tp T n 1 (i + 1))) (ms.drop fi) (tp T n 1 (i + 1 + 1)) = (if kg T n (tp T n 1 (i + 1 + 1)) = 10 then pk_L B 1 (tp T n 1 (i + 1)) (lx_en T n 1 (tp T n 1 (i + 1))) (ms.drop fi) (pq_r B 241 (tp T n 1 (i + 1 + 1 + 1))) else .inl (1, (tp T n 1 (i + 1 + 1)))) := by
                                                  unfold rm_par2
                                                  by_cases hq : kg T n (tp T n 1 (i + 1 + 1)) = 10
                                                  · rw [if_pos (h40.2 hq), if_pos hq, tp_ne (i := i + 1 + 1) hB]
                                                  · rw [if_neg (fun z => hq (h40.1 z)), if_neg hq]
                                                rw [hpar] at hrm3
                                                generalize hRR : (if kg T n (tp T n 1 (i + 1 + 1)) = 10 then pk_L B 1 (tp T n 1 (i + 1)) (lx_en T n 1 (tp T n 1 (i + 1))) (ms.drop fi) (pq_r B 241 (tp T n 1 (i + 1 + 1 + 1))) else .inl (1, (tp T n 1 (i + 1 + 1)))) = RR at hrm3
                                                have hrp := rp_73 (xs := xs) (M := M) (d := d + 1) (S := (w_up (w_up (w_up (w_up (w_up (w_up (w_up (w_up (w_up (w_up (w_up (w_up S 14 4 ((i + 1 : Nat) : Int)) 14 4 ((i + 1 + 1 : Nat) : Int)) 97 (ms.length : Int) kc) 98 (ms.length : Int) 1) 100 (ms.length : Int) y) 101 (ms.length : Int) 0) 102 (ms.length : Int) 0) 111 (ms.length : Int) (S 17 ((i + 1 : Nat) : Int))) 112 (ms.length : Int) (-1)) 73 4 ((ms.length : Int) + 1)) 90 kc (((ms.length : Int) - (fi : Int)) + 1)) 99 (ms.length : Int) 0)) (i := i + 1 + 1) (ms := ms) (kc := kc) (so := 1) (st := 0) (ty := y) (f0 := (tp T n 1 (i + 1))) (e0 := (lx_en T n 1 (tp T n 1 (i + 1)))) (fi := fi) (hx_up (hx_up (hx_up (hx_up (hx_up (hx_up (hx_up (hx_up (hx_up (hx_up (hx_up (hx_up hx (by unfold hx_o; omega)) (by unfold hx_o; omega)) (by unfold hx_o; omega)) (by unfold hx_o; omega)) (by unfold hx_o; omega)) (by unfold hx_o; omega)) (by unfold hx_o; omega)) (by unfold hx_o; omega)) (by unfold hx_o; omega)) (by unfold hx_o; omega)) (by unfold hx_o; omega)) (by unfold hx_o; omega)) (show cx_P T n c (i + 1 + 1) (w_up (w_up (w_up (w_up (w_up (w_up (w_up (w_up (w_up (w_up (w_up (w_up S 14 4 ((i + 1 : Nat) : Int)) 14 4 ((i + 1 + 1 : Nat) : Int)) 97 (ms.length : Int) kc) 98 (ms.length : Int) 1) 100 (ms.length : Int) y) 101 (ms.length : Int) 0) 102 (ms.length : Int) 0) 111 (ms.length : Int) (S 17 ((i + 1 : Nat) : Int))) 112 (ms.length : Int) (-1)) 73 4 ((ms.length : Int) + 1)) 90 kc (((ms.length : Int) - (fi : Int)) + 1)) 99 (ms.length : Int) 0) from ⟨((w_up_slot (by decide)).trans ((w_up_slot (by decide)).trans ((w_up_slot (by decide)).trans ((w_up_slot (by decide)).trans ((w_up_slot (by decide)).trans ((w_up_slot (by decide)).trans ((w_up_slot (by decide)).trans ((w_up_slot (by decide)).trans ((w_up_slot (by decide)).trans ((w_up_slot (by decide)).trans (w_up_same _ _ _ _))))))))))), hg2⟩) hmsx (by omega) hhd (by decide) hkc ⟨(((w_up_slot (by decide)).trans ((w_up_slot (by decide)).trans ((w_up_slot (by decide)).trans ((w_up_slot (by decide)).trans ((w_up_slot (by decide)).trans ((w_up_slot (by decide)).trans ((w_up_slot (by decide)).trans ((w_up_slot (by decide)).trans ((w_up_slot (by decide)).trans ((w_up_slot (by decide)).trans ((w_up_slot (by decide)).trans (w_up_slot (by decide)))))))))))))).trans hfi.1, hfi.2⟩ hpm0
                                                rw [hRR] at hrp
                                                refine wa_cv 61 rfl (wy_pr rfl) wt_61 (M2 := M) rfl at_XT_readParameters ⟨_, rfl⟩ rfl rfl ⟨trivial, (Or.inr ⟨wy_pr rfl, mS_no rfl⟩), trivial, trivial, trivial⟩ trivial (fun _ _ q => q) (hrp) (fun oq58 Sq58 hp59 q58 => ?_)
                                                rcases q58 with hrq
                                                match RR, hrm3, hrq with
                                                | .inl (e, qq), hrm3, hrq =>
                                                  obtain ⟨v, Z0, rfl, g1, g2⟩ := hrq
                                                  refine ⟨rfl, ?_⟩
                                                  exact hf e qq v Z0 _ (by rw [mb_f_s, if_neg (fun z => absurd (h125.1 z) (by omega)), hrm3]; rfl) (fun j x a1 a2 a3 a4 => (g1 j x a1 (by omega)).trans ((fun j x a1 a2 a3 a4 => (w_up_no (by omega)).trans ((w_up_no (by omega)).trans ((w_up_no (by omega)).trans ((w_up_no (by omega)).trans ((w_up_no (by omega)).trans ((w_up_no (by omega)).trans ((w_up_no (by omega)).trans ((w_up_no (by omega)).trans ((w_up_no (by omega)).trans ((w_up_no (by omega)).trans ((w_up_no (by omega)).trans ((w_up_no (by omega)).trans (rfl))))))))))))) j x a1 a2 a3 a4)) g2
                                                | .inr (qq, l, vv), hrm3, hrq =>
                                                  obtain ⟨rfl, g1, ⟨i2, g2, rfl⟩, g3⟩ := hrq
                                                  show wJ _ _ _ _ _ _ _ _ _ _
                                                  refine wa_fall ⟨_, rfl⟩ ?_
                                                  have hxz : hx_I 241 73 87 92 74 T n c B Sq58 := hx_ag (hx_up (hx_up (hx_up (hx_up (hx_up (hx_up (hx_up (hx_up (hx_up (hx_up (hx_up (hx_up hx (by unfold hx_o; omega)) (by unfold hx_o; omega)) (by unfold hx_o; omega)) (by unfold hx_o; omega)) (by unfold hx_o; omega)) (by unfold hx_o; omega)) (by unfold hx_o; omega)) (by unfold hx_o; omega)) (by unfold hx_o; omega)) (by unfold hx_o; omega)) (by unfold hx_o; omega)) (by unfold hx_o; omega)) (by decide) (g1 14 3 (by omega) (by omega)) (gI_ag (gI_up (gI_up (gI_up (gI_up (gI_up (gI_up (gI_up (gI_up (gI_up (gI_up (gI_up (gI_up hI (by omega) (by omega) (by omega)) (by omega) (by omega) (by omega)) (by omega) (by omega) (by omega)) (by omega) (by omega) (by omega)) (by omega) (by omega) (by omega)) (by omega) (by omega) (by omega)) (by omega) (by omega) (by omega)) (by omega) (by omega) (by omega)) (by omega) (by omega) (by omega)) (by omega) (by omega) (by omega)) (by omega) (by omega) (by omega)) (by omega) (by omega) (by omega)) (fun j hj => funext fun x => ?_)) (fun j hj => funext fun x => g1 j x (by omega) (by omega)) (g1 73 2 (by omega) (by omega)) (g1 61 1 (by omega) (by omega)) (fun z hz => (g1 z.1 (-1) (by omega) (by omega)).trans ((hx_R (hx_up (hx_up (hx_up (hx_up (hx_up (hx_up (hx_up (hx_up (hx_up (hx_up (hx_up (hx_up hx (by unfold hx_o; omega)) (by unfold hx_o; omega)) (by unfold hx_o; omega)) (by unfold hx_o; omega)) (by unfold hx_o; omega)) (by unfold hx_o; omega)) (by unfold hx_o; omega)) (by unfold hx_o; omega)) (by unfold hx_o; omega)) (by unfold hx_o; omega)) (by unfold hx_o; omega)) (by unfold hx_o; omega))).2.2.1 z hz))
                                                  · sorry
                                            · skip
                                              exact absurd c52 (by omega)
                                          · skip
                                            exact absurd c43 (by omega)
                                        · skip
                                          exact absurd c39 (by omega)
                                      · skip
                                        exact absurd c38 (by omega)
                                    · skip
                                      exact absurd c37 (by omega)
                                  · skip
                                    refine wa_aload_n (n := 0) rfl ?_
                                    refine wb_gf4 14 rfl (wy_pr rfl) wt_14 wf_6_0 (v := 15) wl_14_0 ?_
                                    refine wa_aload_n (n := 0) rfl ?_
                                    refine wb_gfi 14 rfl (wy_pr rfl) wt_14 wf_6_4 (v := ((i + 1 : Nat) : Int)) (w_up_same _ _ _ _) (fun r60 => ?_)
                                    refine wa_iconst ?_
                                    refine wa_iadd ?_
                                    refine wb_bald 15 rfl (wy_pr rfl) wt_15 (n := (S 15 (-1))) (w_up_slot (by decide)) (by omega) (by omega) (v := (S 15 (((i + 1 : Nat) : Int) + 1))) (w_up_slot (by decide)) (fun r61 => ?_)
                                    refine wa_goto ⟨_, rfl⟩ ?_
                                    refine wa_ireturn rfl ?_
                                    show wJ _ _ _ _ _ _ _ _ _ _
                                    refine wa_bipush (w_rg2 (by omega) (by omega)) ?_
                                    refine wa_icmpne (w_rg0 (by omega) (by omega)) (w_rg0 (by omega) (by omega)) ⟨_, rfl⟩ (fun c62 => ?_) (fun c62 => ?_)
                                    · skip
                                      refine wa_iconst ?_
                                      refine wa_fall ⟨_, rfl⟩ ?_
                                      refine wa_istore (n := 4) rfl ?_
                                      refine wa_iload (n := 4) rfl ?_
                                      refine wa_ifeq (w_rg0 (by omega) (by omega)) ⟨_, rfl⟩ (fun c63 => ?_) (fun c63 => ?_)
                                      · skip
                                        refine wa_iload (n := 4) rfl ?_
                                        refine wa_ifeq (w_rg0 (by omega) (by omega)) ⟨_, rfl⟩ (fun c64 => ?_) (fun c64 => ?_)
                                        · skip
                                          refine wa_aload_n (n := 0) rfl ?_
                                          refine wb_gf4 61 rfl (wy_pr rfl) wt_61 wf_4_0 (v := 14) wl_61_0 ?_
                                          refine wa_cv 14 rfl (wy_pr rfl) wt_14 (M2 := fun _ => False) rfl at_XR_next ⟨_, rfl⟩ rfl rfl ⟨trivial, trivial, (Or.inr ⟨wy_pr rfl, fun q => q⟩), trivial, trivial, trivial⟩ trivial (fun _ _ q => False.elim q) (nx_c (S := (w_up S 14 4 ((i + 1 : Nat) : Int))) (hx_T (hx_up hx (by unfold hx_o; omega))) (show cx_P T n c (i + 1) (w_up S 14 4 ((i + 1 : Nat) : Int)) from ⟨(w_up_same _ _ _ _), hg1⟩) rfl (gI_up hI (by omega) (by omega) (by omega)) (by omega)) (fun oq65 Sq65 hp66 q65 => ?_)
                                          rcases q65 with ⟨rfl, rfl⟩
                                          show wJ _ _ _ _ _ _ _ _ _ _
                                          have hg2 : pg T n c (i + 1 + 1) := pg_next hT hg1 (by omega) (by omega)
                                          have hA2 := pg_at hT hg2
                                          have h16_2 := hA2.1
                                          have h15_2 := hA2.2.1
                                          have hpr2 := hA2.2.2
                                          have hkr2 := kg_rg T n (tp T n 1 (i + 1 + 1))
                                          have hic2 := hg2.1
                                          have hlt2 := tp_lt hT hg1 (by omega) (by omega)
                                          refine wa_aload_n (n := 0) rfl ?_
                                          refine wb_gf5 61 rfl (wy_pr rfl) wt_61 wf_4_1 (v := 73) ((w_up_slot (by decide)).trans ((w_up_slot (by decide)).trans (hH))) (fun r67 => ?_)
                                          refine wa_iload (n := 4) rfl ?_
                                          refine wa_ifeq (w_rg0 (by omega) (by omega)) ⟨_, rfl⟩ (fun c68 => ?_) (fun c68 => ?_)
                                          · skip
                                            refine wa_iconst ?_
                                            refine wa_fall ⟨_, rfl⟩ ?_
                                            refine wa_iload_n (n := 2) rfl ?_
                                            refine wa_iload_n (n := 3) rfl ?_
                                            refine wa_cv 73 rfl (wy_pr rfl) wt_73 (M2 := fun _ => False) rfl at_XO_addMember ⟨_, rfl⟩ rfl rfl ⟨trivial, trivial, (Or.inr ⟨wy_pr rfl, fun q => q⟩), trivial, trivial, trivial⟩ trivial (fun _ _ q => False.elim q) ?_ (fun _ _ _ q => q)
                                            refine wa_aload_n (n := 0) rfl ?_
                                            refine wb_gfi 73 rfl (wy_pr rfl) wt_73 wf_3_4 (v := (ms.length : Int)) ((w_up_slot (by decide)).trans ((w_up_slot (by decide)).trans (hmc))) (fun r69 => ?_)
                                            refine wa_istore (n := 4) rfl ?_
                                            refine wa_aload_n (n := 0) rfl ?_
                                            refine wb_gf4 73 rfl (wy_pr rfl) wt_73 wf_3_3 (v := 96) wl_73_3 ?_
                                            refine wa_iconst ?_
                                            refine wb_aald5 96 0 rfl rfl (wy_pr rfl) wt_96 (by rw [show _ = _ from ((w_up_slot (by decide)).trans ((w_up_slot (by decide)).trans ((cl_96 hC))))]; omega) wl_96_0 ?_
                                            refine wa_iload (n := 4) rfl ?_
                                            refine wa_aload_n (n := 0) rfl ?_
                                            refine wb_gfi 73 rfl (wy_pr rfl) wt_73 wf_3_2 (v := (kc + 1)) ((w_up_slot (by decide)).trans ((w_up_slot (by decide)).trans (hkc1))) (fun r70 => ?_)
                                            refine wa_iconst ?_
                                            refine wa_isub ?_
                                            rw [show (((kc + 1) - 1) : Int) = kc by omega]
                                            refine wb_iast 97 rfl (wy_pr rfl) wt_97 (n := 400) ((w_up_slot (by decide)).trans ((w_up_slot (by decide)).trans ((cl_97 hC)))) (by omega) (by omega) ⟨(by omega), (by omega)⟩ ?_
                                            refine wa_aload_n (n := 0) rfl ?_
                                            refine wb_gf4 73 rfl (wy_pr rfl) wt_73 wf_3_3 (v := 96) wl_73_3 ?_
                                            refine wa_iconst ?_
                                            refine wb_aald5 96 1 rfl rfl (wy_pr rfl) wt_96 (by rw [show _ = _ from ((w_up_slot (by decide)).trans ((w_up_slot (by decide)).trans ((w_up_slot (by decide)).trans ((cl_96 hC)))))]; omega) wl_96_1 ?_
                                            refine wa_iload (n := 4) rfl ?_
                                            refine wa_iload_n (n := 1) rfl ?_
                                            refine wb_iast 98 rfl (wy_pr rfl) wt_98 (n := 400) ((w_up_slot (by decide)).trans ((w_up_slot (by decide)).trans ((w_up_slot (by decide)).trans ((cl_98 hC))))) (by omega) (by omega) ⟨(by omega), (by omega)⟩ ?_
                                            refine wa_aload_n (n := 0) rfl ?_
                                            refine wb_gf4 73 rfl (wy_pr rfl) wt_73 wf_3_3 (v := 96) wl_73_3 ?_
                                            refine wa_iconst ?_
                                            refine wb_aald5 96 3 rfl rfl (wy_pr rfl) wt_96 (by rw [show _ = _ from ((w_up_slot (by decide)).trans ((w_up_slot (by decide)).trans ((w_up_slot (by decide)).trans ((w_up_slot (by decide)).trans ((cl_96 hC))))))]; omega) wl_96_3 ?_
                                            refine wa_iload (n := 4) rfl ?_
                                            refine wa_iload_n (n := 2) rfl ?_
                                            refine wb_iast 100 rfl (wy_pr rfl) wt_100 (n := 400) ((w_up_slot (by decide)).trans ((w_up_slot (by decide)).trans ((w_up_slot (by decide)).trans ((w_up_slot (by decide)).trans ((cl_100 hC)))))) (by omega) (by omega) ⟨(by omega), (by omega)⟩ ?_
                                            refine wa_aload_n (n := 0) rfl ?_
                                            refine wb_gf4 73 rfl (wy_pr rfl) wt_73 wf_3_3 (v := 96) wl_73_3 ?_
                                            refine wa_iconst ?_
                                            refine wb_aald5 96 4 rfl rfl (wy_pr rfl) wt_96 (by rw [show _ = _ from ((w_up_slot (by decide)).trans ((w_up_slot (by decide)).trans ((w_up_slot (by decide)).trans ((w_up_slot (by decide)).trans ((w_up_slot (by decide)).trans ((cl_96 hC)))))))]; omega) wl_96_4 ?_
                                            refine wa_iload (n := 4) rfl ?_
                                            refine wa_iconst ?_
                                            refine wb_iast 101 rfl (wy_pr rfl) wt_101 (n := 400) ((w_up_slot (by decide)).trans ((w_up_slot (by decide)).trans ((w_up_slot (by decide)).trans ((w_up_slot (by decide)).trans ((w_up_slot (by decide)).trans ((cl_101 hC))))))) (by omega) (by omega) ⟨(by omega), (by omega)⟩ ?_
                                            refine wa_aload_n (n := 0) rfl ?_
                                            refine wb_gf4 73 rfl (wy_pr rfl) wt_73 wf_3_3 (v := 96) wl_73_3 ?_
                                            refine wa_iconst ?_
                                            refine wb_aald5 96 5 rfl rfl (wy_pr rfl) wt_96 (by rw [show _ = _ from ((w_up_slot (by decide)).trans ((w_up_slot (by decide)).trans ((w_up_slot (by decide)).trans ((w_up_slot (by decide)).trans ((w_up_slot (by decide)).trans ((w_up_slot (by decide)).trans ((cl_96 hC))))))))]; omega) wl_96_5 ?_
                                            refine wa_iload (n := 4) rfl ?_
                                            refine wa_iconst ?_
                                            refine wb_iast 102 rfl (wy_pr rfl) wt_102 (n := 400) ((w_up_slot (by decide)).trans ((w_up_slot (by decide)).trans ((w_up_slot (by decide)).trans ((w_up_slot (by decide)).trans ((w_up_slot (by decide)).trans ((w_up_slot (by decide)).trans ((cl_102 hC)))))))) (by omega) (by omega) ⟨(by omega), (by omega)⟩ ?_
                                            refine wa_aload_n (n := 0) rfl ?_
                                            refine wb_gf4 73 rfl (wy_pr rfl) wt_73 wf_3_3 (v := 96) wl_73_3 ?_
                                            refine wa_bipush (w_rg2 (by omega) (by omega)) ?_
                                            refine wb_aald5 96 14 rfl rfl (wy_pr rfl) wt_96 (by rw [show _ = _ from ((w_up_slot (by decide)).trans ((w_up_slot (by decide)).trans ((w_up_slot (by decide)).trans ((w_up_slot (by decide)).trans ((w_up_slot (by decide)).trans ((w_up_slot (by decide)).trans ((w_up_slot (by decide)).trans ((cl_96 hC)))))))))]; omega) wl_96_14 ?_
                                            refine wa_iload (n := 4) rfl ?_
                                            refine wa_iload_n (n := 3) rfl ?_
                                            refine wb_iast 111 rfl (wy_pr rfl) wt_111 (n := 400) ((w_up_slot (by decide)).trans ((w_up_slot (by decide)).trans ((w_up_slot (by decide)).trans ((w_up_slot (by decide)).trans ((w_up_slot (by decide)).trans ((w_up_slot (by decide)).trans ((w_up_slot (by decide)).trans ((cl_111 hC))))))))) (by omega) (by omega) ⟨(by omega), (by omega)⟩ ?_
                                            refine wa_aload_n (n := 0) rfl ?_
                                            refine wb_gf4 73 rfl (wy_pr rfl) wt_73 wf_3_3 (v := 96) wl_73_3 ?_
                                            refine wa_bipush (w_rg2 (by omega) (by omega)) ?_
                                            refine wb_aald5 96 15 rfl rfl (wy_pr rfl) wt_96 (by rw [show _ = _ from ((w_up_slot (by decide)).trans ((w_up_slot (by decide)).trans ((w_up_slot (by decide)).trans ((w_up_slot (by decide)).trans ((w_up_slot (by decide)).trans ((w_up_slot (by decide)).trans ((w_up_slot (by decide)).trans ((w_up_slot (by decide)).trans ((cl_96 hC))))))))))]; omega) wl_96_15 ?_
                                            refine wa_iload (n := 4) rfl ?_
                                            refine wa_iconst ?_
                                            refine wb_iast 112 rfl (wy_pr rfl) wt_112 (n := 400) ((w_up_slot (by decide)).trans ((w_up_slot (by decide)).trans ((w_up_slot (by decide)).trans ((w_up_slot (by decide)).trans ((w_up_slot (by decide)).trans ((w_up_slot (by decide)).trans ((w_up_slot (by decide)).trans ((w_up_slot (by decide)).trans ((cl_112 hC)))))))))) (by omega) (by omega) ⟨(by omega), (by omega)⟩ ?_
                                            refine wa_aload_n (n := 0) rfl ?_
                                            refine wa_dup (by decide) ?_
                                            refine wb_gfi 73 rfl (wy_pr rfl) wt_73 wf_3_4 (v := (ms.length : Int)) ((w_up_slot (by decide)).trans ((w_up_slot (by decide)).trans ((w_up_slot (by decide)).trans ((w_up_slot (by decide)).trans ((w_up_slot (by decide)).trans ((w_up_slot (by decide)).trans ((w_up_slot (by decide)).trans ((w_up_slot (by decide)).trans ((w_up_slot (by decide)).trans (hmc)))))))))) (fun r71 => ?_)
                                            refine wa_iconst ?_
                                            refine wa_iadd ?_
                                            refine wb_pfi 73 rfl (wy_pr rfl) wt_73 wf_3_4 (n := 4) rfl ⟨(by omega), (by omega)⟩ ?_
                                            refine wa_aload_n (n := 0) rfl ?_
                                            refine wb_gf4 73 rfl (wy_pr rfl) wt_73 wf_3_1 (v := 86) wl_73_1 ?_
                                            refine wa_iconst ?_
                                            refine wb_aald5 86 3 rfl rfl (wy_pr rfl) wt_86 (by rw [show _ = _ from ((w_up_slot (by decide)).trans ((w_up_slot (by decide)).trans ((w_up_slot (by decide)).trans ((w_up_slot (by decide)).trans ((w_up_slot (by decide)).trans ((w_up_slot (by decide)).trans ((w_up_slot (by decide)).trans ((w_up_slot (by decide)).trans ((w_up_slot (by decide)).trans ((w_up_slot (by decide)).trans ((cl_86 hC))))))))))))]; omega) wl_86_3 ?_
                                            refine wa_aload_n (n := 0) rfl ?_
                                            refine wb_gfi 73 rfl (wy_pr rfl) wt_73 wf_3_2 (v := (kc + 1)) ((w_up_at (by decide)).trans ((w_up_slot (by decide)).trans ((w_up_slot (by decide)).trans ((w_up_slot (by decide)).trans ((w_up_slot (by decide)).trans ((w_up_slot (by decide)).trans ((w_up_slot (by decide)).trans ((w_up_slot (by decide)).trans ((w_up_slot (by decide)).trans ((w_up_slot (by decide)).trans (hkc1))))))))))) (fun r72 => ?_)
                                            refine wa_iconst ?_
                                            refine wa_isub ?_
                                            rw [show (((kc + 1) - 1) : Int) = kc by omega]
                                            refine wa_dup2 (by decide) (by decide) ?_
                                            refine wb_iald 90 rfl (wy_pr rfl) wt_90 (n := 60) ((w_up_slot (by decide)).trans ((w_up_slot (by decide)).trans ((w_up_slot (by decide)).trans ((w_up_slot (by decide)).trans ((w_up_slot (by decide)).trans ((w_up_slot (by decide)).trans ((w_up_slot (by decide)).trans ((w_up_slot (by decide)).trans ((w_up_slot (by decide)).trans ((w_up_slot (by decide)).trans ((cl_90 hC)))))))))))) (by omega) (by omega) (v := ((ms.length : Int) - (fi : Int))) ((w_up_slot (by decide)).trans ((w_up_slot (by decide)).trans ((w_up_slot (by decide)).trans ((w_up_slot (by decide)).trans ((w_up_slot (by decide)).trans ((w_up_slot (by decide)).trans ((w_up_slot (by decide)).trans ((w_up_slot (by decide)).trans ((w_up_slot (by decide)).trans ((w_up_slot (by decide)).trans (ht3))))))))))) (fun r73 => ?_)
                                            refine wa_iconst ?_
                                            refine wa_iadd ?_
                                            refine wb_iast 90 rfl (wy_pr rfl) wt_90 (n := 60) ((w_up_slot (by decide)).trans ((w_up_slot (by decide)).trans ((w_up_slot (by decide)).trans ((w_up_slot (by decide)).trans ((w_up_slot (by decide)).trans ((w_up_slot (by decide)).trans ((w_up_slot (by decide)).trans ((w_up_slot (by decide)).trans ((w_up_slot (by decide)).trans ((w_up_slot (by decide)).trans ((cl_90 hC)))))))))))) (by omega) (by omega) ⟨(by omega), (by omega)⟩ ?_
                                            refine wa_return rfl ?_
                                            show wJ _ _ _ _ _ _ _ _ _ _
                                            refine wa_return rfl ?_
                                            show wJ _ _ _ _ _ _ _ _ _ _
                                            refine wa_fall ⟨_, rfl⟩ ?_
                                            refine wa_aload_n (n := 0) rfl ?_
                                            refine wb_gf5 61 rfl (wy_pr rfl) wt_61 wf_4_1 (v := 73) ((w_up_slot (by decide)).trans ((w_up_slot (by decide)).trans ((w_up_slot (by decide)).trans ((w_up_slot (by decide)).trans ((w_up_slot (by decide)).trans ((w_up_slot (by decide)).trans ((w_up_slot (by decide)).trans ((w_up_slot (by decide)).trans ((w_up_slot (by decide)).trans ((w_up_slot (by decide)).trans ((w_up_slot (by decide)).trans (hH)))))))))))) (fun r74 => ?_)
                                            refine wb_gf4 73 rfl (wy_pr rfl) wt_73 wf_3_3 (v := 96) wl_73_3 ?_
                                            refine wa_iconst ?_
                                            refine wb_aald5 96 2 rfl rfl (wy_pr rfl) wt_96 (by rw [show _ = _ from ((w_up_slot (by decide)).trans ((w_up_slot (by decide)).trans ((w_up_slot (by decide)).trans ((w_up_slot (by decide)).trans ((w_up_slot (by decide)).trans ((w_up_slot (by decide)).trans ((w_up_slot (by decide)).trans ((w_up_slot (by decide)).trans ((w_up_slot (by decide)).trans ((w_up_slot (by decide)).trans ((w_up_slot (by decide)).trans ((cl_96 hC)))))))))))))]; omega) wl_96_2 ?_
                                            refine wa_aload_n (n := 0) rfl ?_
                                            refine wb_gf5 61 rfl (wy_pr rfl) wt_61 wf_4_1 (v := 73) ((w_up_slot (by decide)).trans ((w_up_slot (by decide)).trans ((w_up_slot (by decide)).trans ((w_up_slot (by decide)).trans ((w_up_slot (by decide)).trans ((w_up_slot (by decide)).trans ((w_up_slot (by decide)).trans ((w_up_slot (by decide)).trans ((w_up_slot (by decide)).trans ((w_up_slot (by decide)).trans ((w_up_slot (by decide)).trans (hH)))))))))))) (fun r75 => ?_)
                                            refine wb_gfi 73 rfl (wy_pr rfl) wt_73 wf_3_4 (v := ((ms.length : Int) + 1)) ((w_up_slot (by decide)).trans (w_up_same _ _ _ _)) (fun r76 => ?_)
                                            refine wa_iconst ?_
                                            refine wa_isub ?_
                                            rw [show ((((ms.length : Int) + 1) - 1) : Int) = (ms.length : Int) by omega]
                                            refine wa_iload_n (n := 2) rfl ?_
                                            refine wa_ifeq (w_rg0 (by omega) (by omega)) ⟨_, rfl⟩ (fun c77 => ?_) (fun c77 => ?_)
                                            · skip
                                              refine wa_iconst ?_
                                              refine wa_fall ⟨_, rfl⟩ ?_
                                              refine wb_iast 99 rfl (wy_pr rfl) wt_99 (n := 400) ((w_up_slot (by decide)).trans ((w_up_slot (by decide)).trans ((w_up_slot (by decide)).trans ((w_up_slot (by decide)).trans ((w_up_slot (by decide)).trans ((w_up_slot (by decide)).trans ((w_up_slot (by decide)).trans ((w_up_slot (by decide)).trans ((w_up_slot (by decide)).trans ((w_up_slot (by decide)).trans ((w_up_slot (by decide)).trans ((cl_99 hC))))))))))))) (by omega) (by omega) ⟨(by omega), (by omega)⟩ ?_
                                              refine wa_return rfl ?_
                                              show wJ _ _ _ _ _ _ _ _ _ _
                                              refine wa_aload_n (n := 0) rfl ?_
                                              refine wb_gf5 61 rfl (wy_pr rfl) wt_61 wf_4_1 (v := 73) ((w_up_slot (by decide)).trans ((w_up_slot (by decide)).trans ((w_up_slot (by decide)).trans ((w_up_slot (by decide)).trans ((w_up_slot (by decide)).trans ((w_up_slot (by decide)).trans ((w_up_slot (by decide)).trans ((w_up_slot (by decide)).trans ((w_up_slot (by decide)).trans ((w_up_slot (by decide)).trans ((w_up_slot (by decide)).trans ((w_up_slot (by decide)).trans (hH))))))))))))) (fun r78 => ?_)
                                              refine wb_gfi 73 rfl (wy_pr rfl) wt_73 wf_3_4 (v := ((ms.length : Int) + 1)) ((w_up_slot (by decide)).trans ((w_up_slot (by decide)).trans (w_up_same _ _ _ _))) (fun r79 => ?_)
                                              refine wa_iconst ?_
                                              refine wa_isub ?_
                                              rw [show ((((ms.length : Int) + 1) - 1) : Int) = (ms.length : Int) by omega]
                                              refine wa_istore (n := 5) rfl ?_
                                              refine wa_aload_n (n := 0) rfl ?_
                                              refine wb_gf5 61 rfl (wy_pr rfl) wt_61 wf_4_1 (v := 73) ((w_up_slot (by decide)).trans ((w_up_slot (by decide)).trans ((w_up_slot (by decide)).trans ((w_up_slot (by decide)).trans ((w_up_slot (by decide)).trans ((w_up_slot (by decide)).trans ((w_up_slot (by decide)).trans ((w_up_slot (by decide)).trans ((w_up_slot (by decide)).trans ((w_up_slot (by decide)).trans ((w_up_slot (by decide)).trans ((w_up_slot (by decide)).trans (hH))))))))))))) (fun r80 => ?_)
                                              refine wb_gf4 73 rfl (wy_pr rfl) wt_73 wf_3_3 (v := 96) wl_73_3 ?_
                                              refine wa_iconst ?_
                                              refine wb_aald5 96 1 rfl rfl (wy_pr rfl) wt_96 (by rw [show _ = _ from ((w_up_slot (by decide)).trans ((w_up_slot (by decide)).trans ((w_up_slot (by decide)).trans ((w_up_slot (by decide)).trans ((w_up_slot (by decide)).trans ((w_up_slot (by decide)).trans ((w_up_slot (by decide)).trans ((w_up_slot (by decide)).trans ((w_up_slot (by decide)).trans ((w_up_slot (by decide)).trans ((w_up_slot (by decide)).trans ((w_up_slot (by decide)).trans ((cl_96 hC))))))))))))))]; omega) wl_96_1 ?_
                                              refine wa_iload (n := 5) rfl ?_
                                              refine wb_iald 98 rfl (wy_pr rfl) wt_98 (n := 400) ((w_up_slot (by decide)).trans ((w_up_slot (by decide)).trans ((w_up_slot (by decide)).trans ((w_up_slot (by decide)).trans ((w_up_slot (by decide)).trans ((w_up_slot (by decide)).trans ((w_up_slot (by decide)).trans ((w_up_slot (by decide)).trans ((w_up_at (by omega)).trans ((w_up_slot (by decide)).trans ((w_up_slot (by decide)).trans ((w_up_slot (by decide)).trans ((cl_98 hC)))))))))))))) (by omega) (by omega) (v := 1) ((w_up_slot (by decide)).trans ((w_up_slot (by decide)).trans ((w_up_slot (by decide)).trans ((w_up_slot (by decide)).trans ((w_up_slot (by decide)).trans ((w_up_slot (by decide)).trans ((w_up_slot (by decide)).trans ((w_up_slot (by decide)).trans (w_up_same _ _ _ _))))))))) (fun r81 => ?_)
                                              refine wa_ifeq (w_rg0 (by omega) (by omega)) ⟨_, rfl⟩ (fun c82 => ?_) (fun c82 => ?_)
                                              · skip
                                                exact absurd c82 (by omega)
                                              · skip
                                                refine wa_aload_n (n := 0) rfl ?_
                                                refine wa_iload (n := 5) rfl ?_
                                                have hmsx : mr_all 97 74 T (w_up (w_up (w_up (w_up (w_up (w_up (w_up (w_up (w_up (w_up (w_up (w_up S 14 4 ((i + 1 : Nat) : Int)) 14 4 ((i + 1 + 1 : Nat) : Int)) 97 (ms.length : Int) kc) 98 (ms.length : Int) 1) 100 (ms.length : Int) y) 101 (ms.length : Int) 0) 102 (ms.length : Int) 0) 111 (ms.length : Int) (S 17 ((i + 1 : Nat) : Int))) 112 (ms.length : Int) (-1)) 73 4 ((ms.length : Int) + 1)) 90 kc (((ms.length : Int) - (fi : Int)) + 1)) 99 (ms.length : Int) 0) ms := (mr_all_up (mr_all_up (mr_all_up (mr_all_up (mr_all_up (mr_all_up (mr_all_up (mr_all_up (mr_all_up (mr_all_up (mr_all_up (mr_all_up hms (by omega) (by omega)) (by omega) (by omega)) (by omega) (by omega)) (by omega) (by omega)) (by omega) (by omega)) (by omega) (by omega)) (by omega) (by omega)) (by omega) (by omega)) (by omega) (by omega)) (by omega) (by omega)) (by omega) (by omega)) (by omega) (by omega))
                                                have hhd : mr_hd 97 74 T (w_up (w_up (w_up (w_up (w_up (w_up (w_up (w_up (w_up (w_up (w_up (w_up S 14 4 ((i + 1 : Nat) : Int)) 14 4 ((i + 1 + 1 : Nat) : Int)) 97 (ms.length : Int) kc) 98 (ms.length : Int) 1) 100 (ms.length : Int) y) 101 (ms.length : Int) 0) 102 (ms.length : Int) 0) 111 (ms.length : Int) (S 17 ((i + 1 : Nat) : Int))) 112 (ms.length : Int) (-1)) 73 4 ((ms.length : Int) + 1)) 90 kc (((ms.length : Int) - (fi : Int)) + 1)) 99 (ms.length : Int) 0) (ms.length : Int) kc 1 0 y (tp T n 1 (i + 1)) (lx_en T n 1 (tp T n 1 (i + 1))) := ⟨⟨((w_up_slot (by decide)).trans ((w_up_slot (by decide)).trans ((w_up_slot (by decide)).trans ((w_up_slot (by decide)).trans ((w_up_slot (by decide)).trans ((w_up_slot (by decide)).trans ((w_up_slot (by decide)).trans ((w_up_slot (by decide)).trans ((w_up_slot (by decide)).trans (w_up_same _ _ _ _)))))))))), ((w_up_slot (by decide)).trans ((w_up_slot (by decide)).trans ((w_up_slot (by decide)).trans ((w_up_slot (by decide)).trans ((w_up_slot (by decide)).trans ((w_up_slot (by decide)).trans ((w_up_slot (by decide)).trans ((w_up_slot (by decide)).trans (w_up_same _ _ _ _))))))))), (w_up_same _ _ _ _), ((w_up_slot (by decide)).trans ((w_up_slot (by decide)).trans ((w_up_slot (by decide)).trans ((w_up_slot (by decide)).trans ((w_up_slot (by decide)).trans ((w_up_slot (by decide)).trans ((w_up_slot (by decide)).trans (w_up_same _ _ _ _))))))))⟩, ⟨by decide, by decide⟩, fun z => absurd z (by decide), fun _ => ⟨⟨by rw [show (w_up (w_up (w_up (w_up (w_up (w_up (w_up (w_up (w_up (w_up (w_up (w_up S 14 4 ((i + 1 : Nat) : Int)) 14 4 ((i + 1 + 1 : Nat) : Int)) 97 (ms.length : Int) kc) 98 (ms.length : Int) 1) 100 (ms.length : Int) y) 101 (ms.length : Int) 0) 102 (ms.length : Int) 0) 111 (ms.length : Int) (S 17 ((i + 1 : Nat) : Int))) 112 (ms.length : Int) (-1)) 73 4 ((ms.length : Int) + 1)) 90 kc (((ms.length : Int) - (fi : Int)) + 1)) 99 (ms.length : Int) 0) (97 + 14) (ms.length : Int) = _ from ((w_up_slot (by decide)).trans ((w_up_slot (by decide)).trans ((w_up_slot (by decide)).trans ((w_up_slot (by decide)).trans (w_up_same _ _ _ _)))))]; omega, by rw [show (w_up (w_up (w_up (w_up (w_up (w_up (w_up (w_up (w_up (w_up (w_up (w_up S 14 4 ((i + 1 : Nat) : Int)) 14 4 ((i + 1 + 1 : Nat) : Int)) 97 (ms.length : Int) kc) 98 (ms.length : Int) 1) 100 (ms.length : Int) y) 101 (ms.length : Int) 0) 102 (ms.length : Int) 0) 111 (ms.length : Int) (S 17 ((i + 1 : Nat) : Int))) 112 (ms.length : Int) (-1)) 73 4 ((ms.length : Int) + 1)) 90 kc (((ms.length : Int) - (fi : Int)) + 1)) 99 (ms.length : Int) 0) (97 + 14) (ms.length : Int) = _ from ((w_up_slot (by decide)).trans ((w_up_slot (by decide)).trans ((w_up_slot (by decide)).trans ((w_up_slot (by decide)).trans (w_up_same _ _ _ _)))))]; show _ < S 74 7; omega⟩, by rw [show (w_up (w_up (w_up (w_up (w_up (w_up (w_up (w_up (w_up (w_up (w_up (w_up S 14 4 ((i + 1 : Nat) : Int)) 14 4 ((i + 1 + 1 : Nat) : Int)) 97 (ms.length : Int) kc) 98 (ms.length : Int) 1) 100 (ms.length : Int) y) 101 (ms.length : Int) 0) 102 (ms.length : Int) 0) 111 (ms.length : Int) (S 17 ((i + 1 : Nat) : Int))) 112 (ms.length : Int) (-1)) 73 4 ((ms.length : Int) + 1)) 90 kc (((ms.length : Int) - (fi : Int)) + 1)) 99 (ms.length : Int) 0) (97 + 14) (ms.length : Int) = _ from ((w_up_slot (by decide)).trans ((w_up_slot (by decide)).trans ((w_up_slot (by decide)).trans ((w_up_slot (by decide)).trans (w_up_same _ _ _ _)))))]; exact hnt1.2.2⟩⟩
                                                have hpm0 : pm_I 97 (w_up (w_up (w_up (w_up (w_up (w_up (w_up (w_up (w_up (w_up (w_up (w_up S 14 4 ((i + 1 : Nat) : Int)) 14 4 ((i + 1 + 1 : Nat) : Int)) 97 (ms.length : Int) kc) 98 (ms.length : Int) 1) 100 (ms.length : Int) y) 101 (ms.length : Int) 0) 102 (ms.length : Int) 0) 111 (ms.length : Int) (S 17 ((i + 1 : Nat) : Int))) 112 (ms.length : Int) (-1)) 73 4 ((ms.length : Int) + 1)) 90 kc (((ms.length : Int) - (fi : Int)) + 1)) 99 (ms.length : Int) 0) (ms.length : Int) [] 0 := ⟨((w_up_slot (by decide)).trans ((w_up_slot (by decide)).trans ((w_up_slot (by decide)).trans ((w_up_slot (by decide)).trans ((w_up_slot (by decide)).trans ((w_up_slot (by decide)).trans (w_up_same _ _ _ _))))))), ((w_up_slot (by decide)).trans ((w_up_slot (by decide)).trans ((w_up_slot (by decide)).trans ((w_up_slot (by decide)).trans ((w_up_slot (by decide)).trans (w_up_same _ _ _ _)))))), by decide, fun q hq => absurd hq (Nat.not_lt_zero _)⟩
                                                have hn := lx_w_k (k := 12) hB hW hrw (by decide) hwc.1 hnt0
                                                rw [show hwl 12 = tx_25 from rfl] at hn
                                                have z1 : zq B (tp T n 1 i) 237 6 = 1 := by rw [zT_6 hB]; exact hnt0.1
                                                have hs := lx_w_k (k := 11) hB hW hrw (by decide) hwc.1 hnt0
                                                rw [show hwl 11 = tx_23 from rfl] at hs
                                                have hrm0 : rm_L B 241 kc itf (ms.drop fi) ms.length (tp T n 1 i) = rb_L B 241 kc itf (ms.drop fi) ms.length (tp T n 1 i) 0 := rm_o (fun z => absurd (hs.1 z) (by omega))
                                                have hyh := ty_hy (av := 1) hyy0 (Or.inr (by decide))
                                                rw [tp_ne (i := i) hB] at hyh
                                                have hrm1 : rm_L B 241 kc itf (ms.drop fi) ms.length (tp T n 1 i) = rb_name B 241 itf (ms.drop fi) y (tp T n 1 (i + 1)) 0 := hrm0.trans (rb_t z1 (fun z => absurd (hn.1 z) (by omega)) hyh.2.2.1 (by omega) hyh.1)
                                                have z2 : zq B (tp T n 1 (i + 1)) 237 6 = 1 := by rw [zT_6 hB]; exact hnt1.1
                                                have hoo := oo_21 hB hW hrw hwc.1 hnt1
                                                have h59 := lx_is_kg (i := i + 1 + 1) hB (k := 17) (ch := 59) (by decide) sk_17
                                                have hrm3 := hrm1.trans (rn_m z2 (fun z => absurd (hoo.1 z) (by omega)) (by rw [tp_ne (i := i + 1) hB]; rintro ⟨q1, q2⟩; have := h59.1 q1; omega))
                                                rw [tp_ne (i := i + 1) hB, zT_8 hB] at hrm3
                                                have h40 := lx_is_kg (i := i + 1 + 1) hB (k := 10) (ch := 40) (by decide) sk_10
                                                have hpar : rm_par2 B 241 1 (tp T n 1 (i + 1)) (lx_en T n 1 (tp T n 1 (i + 1))) (ms.drop fi) (tp T n 1 (i + 1 + 1)) = (if kg T n (tp T n 1 (i + 1 + 1)) = 10 then pk_L B 1 (tp T n 1 (i + 1)) (lx_en T n 1 (tp T n 1 (i + 1))) (ms.drop fi) (pq_r B 241 (tp T n 1 (i + 1 + 1 + 1))) else .inl (1, (tp T n 1 (i + 1 + 1)))) := by
                                                  unfold rm_par2
                                                  by_cases hq : kg T n (tp T n 1 (i + 1 + 1)) = 10
                                                  · rw [if_pos (h40.2 hq), if_pos hq, tp_ne (i := i + 1 + 1) hB]
                                                  · rw [if_neg (fun z => hq (h40.1 z)), if_neg hq]
                                                rw [hpar] at hrm3
                                                generalize hRR : (if kg T n (tp T n 1 (i + 1 + 1)) = 10 then pk_L B 1 (tp T n 1 (i + 1)) (lx_en T n 1 (tp T n 1 (i + 1))) (ms.drop fi) (pq_r B 241 (tp T n 1 (i + 1 + 1 + 1))) else .inl (1, (tp T n 1 (i + 1 + 1)))) = RR at hrm3
                                                have hrp := rp_73 (xs := xs) (M := M) (d := d + 1) (S := (w_up (w_up (w_up (w_up (w_up (w_up (w_up (w_up (w_up (w_up (w_up (w_up S 14 4 ((i + 1 : Nat) : Int)) 14 4 ((i + 1 + 1 : Nat) : Int)) 97 (ms.length : Int) kc) 98 (ms.length : Int) 1) 100 (ms.length : Int) y) 101 (ms.length : Int) 0) 102 (ms.length : Int) 0) 111 (ms.length : Int) (S 17 ((i + 1 : Nat) : Int))) 112 (ms.length : Int) (-1)) 73 4 ((ms.length : Int) + 1)) 90 kc (((ms.length : Int) - (fi : Int)) + 1)) 99 (ms.length : Int) 0)) (i := i + 1 + 1) (ms := ms) (kc := kc) (so := 1) (st := 0) (ty := y) (f0 := (tp T n 1 (i + 1))) (e0 := (lx_en T n 1 (tp T n 1 (i + 1)))) (fi := fi) (hx_up (hx_up (hx_up (hx_up (hx_up (hx_up (hx_up (hx_up (hx_up (hx_up (hx_up (hx_up hx (by unfold hx_o; omega)) (by unfold hx_o; omega)) (by unfold hx_o; omega)) (by unfold hx_o; omega)) (by unfold hx_o; omega)) (by unfold hx_o; omega)) (by unfold hx_o; omega)) (by unfold hx_o; omega)) (by unfold hx_o; omega)) (by unfold hx_o; omega)) (by unfold hx_o; omega)) (by unfold hx_o; omega)) (show cx_P T n c (i + 1 + 1) (w_up (w_up (w_up (w_up (w_up (w_up (w_up (w_up (w_up (w_up (w_up (w_up S 14 4 ((i + 1 : Nat) : Int)) 14 4 ((i + 1 + 1 : Nat) : Int)) 97 (ms.length : Int) kc) 98 (ms.length : Int) 1) 100 (ms.length : Int) y) 101 (ms.length : Int) 0) 102 (ms.length : Int) 0) 111 (ms.length : Int) (S 17 ((i + 1 : Nat) : Int))) 112 (ms.length : Int) (-1)) 73 4 ((ms.length : Int) + 1)) 90 kc (((ms.length : Int) - (fi : Int)) + 1)) 99 (ms.length : Int) 0) from ⟨((w_up_slot (by decide)).trans ((w_up_slot (by decide)).trans ((w_up_slot (by decide)).trans ((w_up_slot (by decide)).trans ((w_up_slot (by decide)).trans ((w_up_slot (by decide)).trans ((w_up_slot (by decide)).trans ((w_up_slot (by decide)).trans ((w_up_slot (by decide)).trans ((w_up_slot (by decide)).trans (w_up_same _ _ _ _))))))))))), hg2⟩) hmsx (by omega) hhd (by decide) hkc ⟨(((w_up_slot (by decide)).trans ((w_up_slot (by decide)).trans ((w_up_slot (by decide)).trans ((w_up_slot (by decide)).trans ((w_up_slot (by decide)).trans ((w_up_slot (by decide)).trans ((w_up_slot (by decide)).trans ((w_up_slot (by decide)).trans ((w_up_slot (by decide)).trans ((w_up_slot (by decide)).trans ((w_up_slot (by decide)).trans (w_up_slot (by decide)))))))))))))).trans hfi.1, hfi.2⟩ hpm0
                                                rw [hRR] at hrp
                                                refine wa_cv 61 rfl (wy_pr rfl) wt_61 (M2 := M) rfl at_XT_readParameters ⟨_, rfl⟩ rfl rfl ⟨trivial, (Or.inr ⟨wy_pr rfl, mS_no rfl⟩), trivial, trivial, trivial⟩ trivial (fun _ _ q => q) (hrp) (fun oq83 Sq83 hp84 q83 => ?_)
                                                rcases q83 with hrq
                                                match RR, hrm3, hrq with
                                                | .inl (e, qq), hrm3, hrq =>
                                                  obtain ⟨v, Z0, rfl, g1, g2⟩ := hrq
                                                  refine ⟨rfl, ?_⟩
                                                  exact hf e qq v Z0 _ (by rw [mb_f_s, if_neg (fun z => absurd (h125.1 z) (by omega)), hrm3]; rfl) (fun j x a1 a2 a3 a4 => (g1 j x a1 (by omega)).trans ((fun j x a1 a2 a3 a4 => (w_up_no (by omega)).trans ((w_up_no (by omega)).trans ((w_up_no (by omega)).trans ((w_up_no (by omega)).trans ((w_up_no (by omega)).trans ((w_up_no (by omega)).trans ((w_up_no (by omega)).trans ((w_up_no (by omega)).trans ((w_up_no (by omega)).trans ((w_up_no (by omega)).trans ((w_up_no (by omega)).trans ((w_up_no (by omega)).trans (rfl))))))))))))) j x a1 a2 a3 a4)) g2
                                                | .inr (qq, l, vv), hrm3, hrq =>
                                                  obtain ⟨rfl, g1, ⟨i2, g2, rfl⟩, g3⟩ := hrq
                                                  show wJ _ _ _ _ _ _ _ _ _ _
                                                  refine wa_fall ⟨_, rfl⟩ ?_
                                                  have hxz : hx_I 241 73 87 92 74 T n c B Sq83 := hx_ag (hx_up (hx_up (hx_up (hx_up (hx_up (hx_up (hx_up (hx_up (hx_up (hx_up (hx_up (hx_up hx (by unfold hx_o; omega)) (by unfold hx_o; omega)) (by unfold hx_o; omega)) (by unfold hx_o; omega)) (by unfold hx_o; omega)) (by unfold hx_o; omega)) (by unfold hx_o; omega)) (by unfold hx_o; omega)) (by unfold hx_o; omega)) (by unfold hx_o; omega)) (by unfold hx_o; omega)) (by unfold hx_o; omega)) (by decide) (g1 14 3 (by omega) (by omega)) (gI_ag (gI_up (gI_up (gI_up (gI_up (gI_up (gI_up (gI_up (gI_up (gI_up (gI_up (gI_up (gI_up hI (by omega) (by omega) (by omega)) (by omega) (by omega) (by omega)) (by omega) (by omega) (by omega)) (by omega) (by omega) (by omega)) (by omega) (by omega) (by omega)) (by omega) (by omega) (by omega)) (by omega) (by omega) (by omega)) (by omega) (by omega) (by omega)) (by omega) (by omega) (by omega)) (by omega) (by omega) (by omega)) (by omega) (by omega) (by omega)) (by omega) (by omega) (by omega)) (fun j hj => funext fun x => ?_)) (fun j hj => funext fun x => g1 j x (by omega) (by omega)) (g1 73 2 (by omega) (by omega)) (g1 61 1 (by omega) (by omega)) (fun z hz => (g1 z.1 (-1) (by omega) (by omega)).trans ((hx_R (hx_up (hx_up (hx_up (hx_up (hx_up (hx_up (hx_up (hx_up (hx_up (hx_up (hx_up (hx_up hx (by unfold hx_o; omega)) (by unfold hx_o; omega)) (by unfold hx_o; omega)) (by unfold hx_o; omega)) (by unfold hx_o; omega)) (by unfold hx_o; omega)) (by unfold hx_o; omega)) (by unfold hx_o; omega)) (by unfold hx_o; omega)) (by unfold hx_o; omega)) (by unfold hx_o; omega)) (by unfold hx_o; omega))).2.2.1 z hz))
                                                  · sorry
                                            · skip
                                              exact absurd c77 (by omega)
                                          · skip
                                            exact absurd c68 (by omega)
                                        · skip
                                          exact absurd c64 (by omega)
                                      · skip
                                        exact absurd c63 (by omega)
                                    · skip
                                      refine wa_iload_n (n := 2) rfl ?_
                                      refine wa_ifeq (w_rg0 (by omega) (by omega)) ⟨_, rfl⟩ (fun c85 => ?_) (fun c85 => ?_)
                                      · skip
                                        refine wa_iconst ?_
                                        refine wa_fall ⟨_, rfl⟩ ?_
                                        refine wa_istore (n := 4) rfl ?_
                                        refine wa_iload (n := 4) rfl ?_
                                        refine wa_ifeq (w_rg0 (by omega) (by omega)) ⟨_, rfl⟩ (fun c86 => ?_) (fun c86 => ?_)
                                        · skip
                                          refine wa_iload (n := 4) rfl ?_
                                          refine wa_ifeq (w_rg0 (by omega) (by omega)) ⟨_, rfl⟩ (fun c87 => ?_) (fun c87 => ?_)
                                          · skip
                                            refine wa_aload_n (n := 0) rfl ?_
                                            refine wb_gf4 61 rfl (wy_pr rfl) wt_61 wf_4_0 (v := 14) wl_61_0 ?_
                                            refine wa_cv 14 rfl (wy_pr rfl) wt_14 (M2 := fun _ => False) rfl at_XR_next ⟨_, rfl⟩ rfl rfl ⟨trivial, trivial, (Or.inr ⟨wy_pr rfl, fun q => q⟩), trivial, trivial, trivial⟩ trivial (fun _ _ q => False.elim q) (nx_c (S := (w_up S 14 4 ((i + 1 : Nat) : Int))) (hx_T (hx_up hx (by unfold hx_o; omega))) (show cx_P T n c (i + 1) (w_up S 14 4 ((i + 1 : Nat) : Int)) from ⟨(w_up_same _ _ _ _), hg1⟩) rfl (gI_up hI (by omega) (by omega) (by omega)) (by omega)) (fun oq88 Sq88 hp89 q88 => ?_)
                                            rcases q88 with ⟨rfl, rfl⟩
                                            show wJ _ _ _ _ _ _ _ _ _ _
                                            have hg2 : pg T n c (i + 1 + 1) := pg_next hT hg1 (by omega) (by omega)
                                            have hA2 := pg_at hT hg2
                                            have h16_2 := hA2.1
                                            have h15_2 := hA2.2.1
                                            have hpr2 := hA2.2.2
                                            have hkr2 := kg_rg T n (tp T n 1 (i + 1 + 1))
                                            have hic2 := hg2.1
                                            have hlt2 := tp_lt hT hg1 (by omega) (by omega)
                                            refine wa_aload_n (n := 0) rfl ?_
                                            refine wb_gf5 61 rfl (wy_pr rfl) wt_61 wf_4_1 (v := 73) ((w_up_slot (by decide)).trans ((w_up_slot (by decide)).trans (hH))) (fun r90 => ?_)
                                            refine wa_iload (n := 4) rfl ?_
                                            refine wa_ifeq (w_rg0 (by omega) (by omega)) ⟨_, rfl⟩ (fun c91 => ?_) (fun c91 => ?_)
                                            · skip
                                              refine wa_iconst ?_
                                              refine wa_fall ⟨_, rfl⟩ ?_
                                              refine wa_iload_n (n := 2) rfl ?_
                                              refine wa_iload_n (n := 3) rfl ?_
                                              refine wa_cv 73 rfl (wy_pr rfl) wt_73 (M2 := fun _ => False) rfl at_XO_addMember ⟨_, rfl⟩ rfl rfl ⟨trivial, trivial, (Or.inr ⟨wy_pr rfl, fun q => q⟩), trivial, trivial, trivial⟩ trivial (fun _ _ q => False.elim q) ?_ (fun _ _ _ q => q)
                                              refine wa_aload_n (n := 0) rfl ?_
                                              refine wb_gfi 73 rfl (wy_pr rfl) wt_73 wf_3_4 (v := (ms.length : Int)) ((w_up_slot (by decide)).trans ((w_up_slot (by decide)).trans (hmc))) (fun r92 => ?_)
                                              refine wa_istore (n := 4) rfl ?_
                                              refine wa_aload_n (n := 0) rfl ?_
                                              refine wb_gf4 73 rfl (wy_pr rfl) wt_73 wf_3_3 (v := 96) wl_73_3 ?_
                                              refine wa_iconst ?_
                                              refine wb_aald5 96 0 rfl rfl (wy_pr rfl) wt_96 (by rw [show _ = _ from ((w_up_slot (by decide)).trans ((w_up_slot (by decide)).trans ((cl_96 hC))))]; omega) wl_96_0 ?_
                                              refine wa_iload (n := 4) rfl ?_
                                              refine wa_aload_n (n := 0) rfl ?_
                                              refine wb_gfi 73 rfl (wy_pr rfl) wt_73 wf_3_2 (v := (kc + 1)) ((w_up_slot (by decide)).trans ((w_up_slot (by decide)).trans (hkc1))) (fun r93 => ?_)
                                              refine wa_iconst ?_
                                              refine wa_isub ?_
                                              rw [show (((kc + 1) - 1) : Int) = kc by omega]
                                              refine wb_iast 97 rfl (wy_pr rfl) wt_97 (n := 400) ((w_up_slot (by decide)).trans ((w_up_slot (by decide)).trans ((cl_97 hC)))) (by omega) (by omega) ⟨(by omega), (by omega)⟩ ?_
                                              refine wa_aload_n (n := 0) rfl ?_
                                              refine wb_gf4 73 rfl (wy_pr rfl) wt_73 wf_3_3 (v := 96) wl_73_3 ?_
                                              refine wa_iconst ?_
                                              refine wb_aald5 96 1 rfl rfl (wy_pr rfl) wt_96 (by rw [show _ = _ from ((w_up_slot (by decide)).trans ((w_up_slot (by decide)).trans ((w_up_slot (by decide)).trans ((cl_96 hC)))))]; omega) wl_96_1 ?_
                                              refine wa_iload (n := 4) rfl ?_
                                              refine wa_iload_n (n := 1) rfl ?_
                                              refine wb_iast 98 rfl (wy_pr rfl) wt_98 (n := 400) ((w_up_slot (by decide)).trans ((w_up_slot (by decide)).trans ((w_up_slot (by decide)).trans ((cl_98 hC))))) (by omega) (by omega) ⟨(by omega), (by omega)⟩ ?_
                                              refine wa_aload_n (n := 0) rfl ?_
                                              refine wb_gf4 73 rfl (wy_pr rfl) wt_73 wf_3_3 (v := 96) wl_73_3 ?_
                                              refine wa_iconst ?_
                                              refine wb_aald5 96 3 rfl rfl (wy_pr rfl) wt_96 (by rw [show _ = _ from ((w_up_slot (by decide)).trans ((w_up_slot (by decide)).trans ((w_up_slot (by decide)).trans ((w_up_slot (by decide)).trans ((cl_96 hC))))))]; omega) wl_96_3 ?_
                                              refine wa_iload (n := 4) rfl ?_
                                              refine wa_iload_n (n := 2) rfl ?_
                                              refine wb_iast 100 rfl (wy_pr rfl) wt_100 (n := 400) ((w_up_slot (by decide)).trans ((w_up_slot (by decide)).trans ((w_up_slot (by decide)).trans ((w_up_slot (by decide)).trans ((cl_100 hC)))))) (by omega) (by omega) ⟨(by omega), (by omega)⟩ ?_
                                              refine wa_aload_n (n := 0) rfl ?_
                                              refine wb_gf4 73 rfl (wy_pr rfl) wt_73 wf_3_3 (v := 96) wl_73_3 ?_
                                              refine wa_iconst ?_
                                              refine wb_aald5 96 4 rfl rfl (wy_pr rfl) wt_96 (by rw [show _ = _ from ((w_up_slot (by decide)).trans ((w_up_slot (by decide)).trans ((w_up_slot (by decide)).trans ((w_up_slot (by decide)).trans ((w_up_slot (by decide)).trans ((cl_96 hC)))))))]; omega) wl_96_4 ?_
                                              refine wa_iload (n := 4) rfl ?_
                                              refine wa_iconst ?_
                                              refine wb_iast 101 rfl (wy_pr rfl) wt_101 (n := 400) ((w_up_slot (by decide)).trans ((w_up_slot (by decide)).trans ((w_up_slot (by decide)).trans ((w_up_slot (by decide)).trans ((w_up_slot (by decide)).trans ((cl_101 hC))))))) (by omega) (by omega) ⟨(by omega), (by omega)⟩ ?_
                                              refine wa_aload_n (n := 0) rfl ?_
                                              refine wb_gf4 73 rfl (wy_pr rfl) wt_73 wf_3_3 (v := 96) wl_73_3 ?_
                                              refine wa_iconst ?_
                                              refine wb_aald5 96 5 rfl rfl (wy_pr rfl) wt_96 (by rw [show _ = _ from ((w_up_slot (by decide)).trans ((w_up_slot (by decide)).trans ((w_up_slot (by decide)).trans ((w_up_slot (by decide)).trans ((w_up_slot (by decide)).trans ((w_up_slot (by decide)).trans ((cl_96 hC))))))))]; omega) wl_96_5 ?_
                                              refine wa_iload (n := 4) rfl ?_
                                              refine wa_iconst ?_
                                              refine wb_iast 102 rfl (wy_pr rfl) wt_102 (n := 400) ((w_up_slot (by decide)).trans ((w_up_slot (by decide)).trans ((w_up_slot (by decide)).trans ((w_up_slot (by decide)).trans ((w_up_slot (by decide)).trans ((w_up_slot (by decide)).trans ((cl_102 hC)))))))) (by omega) (by omega) ⟨(by omega), (by omega)⟩ ?_
                                              refine wa_aload_n (n := 0) rfl ?_
                                              refine wb_gf4 73 rfl (wy_pr rfl) wt_73 wf_3_3 (v := 96) wl_73_3 ?_
                                              refine wa_bipush (w_rg2 (by omega) (by omega)) ?_
                                              refine wb_aald5 96 14 rfl rfl (wy_pr rfl) wt_96 (by rw [show _ = _ from ((w_up_slot (by decide)).trans ((w_up_slot (by decide)).trans ((w_up_slot (by decide)).trans ((w_up_slot (by decide)).trans ((w_up_slot (by decide)).trans ((w_up_slot (by decide)).trans ((w_up_slot (by decide)).trans ((cl_96 hC)))))))))]; omega) wl_96_14 ?_
                                              refine wa_iload (n := 4) rfl ?_
                                              refine wa_iload_n (n := 3) rfl ?_
                                              refine wb_iast 111 rfl (wy_pr rfl) wt_111 (n := 400) ((w_up_slot (by decide)).trans ((w_up_slot (by decide)).trans ((w_up_slot (by decide)).trans ((w_up_slot (by decide)).trans ((w_up_slot (by decide)).trans ((w_up_slot (by decide)).trans ((w_up_slot (by decide)).trans ((cl_111 hC))))))))) (by omega) (by omega) ⟨(by omega), (by omega)⟩ ?_
                                              refine wa_aload_n (n := 0) rfl ?_
                                              refine wb_gf4 73 rfl (wy_pr rfl) wt_73 wf_3_3 (v := 96) wl_73_3 ?_
                                              refine wa_bipush (w_rg2 (by omega) (by omega)) ?_
                                              refine wb_aald5 96 15 rfl rfl (wy_pr rfl) wt_96 (by rw [show _ = _ from ((w_up_slot (by decide)).trans ((w_up_slot (by decide)).trans ((w_up_slot (by decide)).trans ((w_up_slot (by decide)).trans ((w_up_slot (by decide)).trans ((w_up_slot (by decide)).trans ((w_up_slot (by decide)).trans ((w_up_slot (by decide)).trans ((cl_96 hC))))))))))]; omega) wl_96_15 ?_
                                              refine wa_iload (n := 4) rfl ?_
                                              refine wa_iconst ?_
                                              refine wb_iast 112 rfl (wy_pr rfl) wt_112 (n := 400) ((w_up_slot (by decide)).trans ((w_up_slot (by decide)).trans ((w_up_slot (by decide)).trans ((w_up_slot (by decide)).trans ((w_up_slot (by decide)).trans ((w_up_slot (by decide)).trans ((w_up_slot (by decide)).trans ((w_up_slot (by decide)).trans ((cl_112 hC)))))))))) (by omega) (by omega) ⟨(by omega), (by omega)⟩ ?_
                                              refine wa_aload_n (n := 0) rfl ?_
                                              refine wa_dup (by decide) ?_
                                              refine wb_gfi 73 rfl (wy_pr rfl) wt_73 wf_3_4 (v := (ms.length : Int)) ((w_up_slot (by decide)).trans ((w_up_slot (by decide)).trans ((w_up_slot (by decide)).trans ((w_up_slot (by decide)).trans ((w_up_slot (by decide)).trans ((w_up_slot (by decide)).trans ((w_up_slot (by decide)).trans ((w_up_slot (by decide)).trans ((w_up_slot (by decide)).trans (hmc)))))))))) (fun r94 => ?_)
                                              refine wa_iconst ?_
                                              refine wa_iadd ?_
                                              refine wb_pfi 73 rfl (wy_pr rfl) wt_73 wf_3_4 (n := 4) rfl ⟨(by omega), (by omega)⟩ ?_
                                              refine wa_aload_n (n := 0) rfl ?_
                                              refine wb_gf4 73 rfl (wy_pr rfl) wt_73 wf_3_1 (v := 86) wl_73_1 ?_
                                              refine wa_iconst ?_
                                              refine wb_aald5 86 3 rfl rfl (wy_pr rfl) wt_86 (by rw [show _ = _ from ((w_up_slot (by decide)).trans ((w_up_slot (by decide)).trans ((w_up_slot (by decide)).trans ((w_up_slot (by decide)).trans ((w_up_slot (by decide)).trans ((w_up_slot (by decide)).trans ((w_up_slot (by decide)).trans ((w_up_slot (by decide)).trans ((w_up_slot (by decide)).trans ((w_up_slot (by decide)).trans ((cl_86 hC))))))))))))]; omega) wl_86_3 ?_
                                              refine wa_aload_n (n := 0) rfl ?_
                                              refine wb_gfi 73 rfl (wy_pr rfl) wt_73 wf_3_2 (v := (kc + 1)) ((w_up_at (by decide)).trans ((w_up_slot (by decide)).trans ((w_up_slot (by decide)).trans ((w_up_slot (by decide)).trans ((w_up_slot (by decide)).trans ((w_up_slot (by decide)).trans ((w_up_slot (by decide)).trans ((w_up_slot (by decide)).trans ((w_up_slot (by decide)).trans ((w_up_slot (by decide)).trans (hkc1))))))))))) (fun r95 => ?_)
                                              refine wa_iconst ?_
                                              refine wa_isub ?_
                                              rw [show (((kc + 1) - 1) : Int) = kc by omega]
                                              refine wa_dup2 (by decide) (by decide) ?_
                                              refine wb_iald 90 rfl (wy_pr rfl) wt_90 (n := 60) ((w_up_slot (by decide)).trans ((w_up_slot (by decide)).trans ((w_up_slot (by decide)).trans ((w_up_slot (by decide)).trans ((w_up_slot (by decide)).trans ((w_up_slot (by decide)).trans ((w_up_slot (by decide)).trans ((w_up_slot (by decide)).trans ((w_up_slot (by decide)).trans ((w_up_slot (by decide)).trans ((cl_90 hC)))))))))))) (by omega) (by omega) (v := ((ms.length : Int) - (fi : Int))) ((w_up_slot (by decide)).trans ((w_up_slot (by decide)).trans ((w_up_slot (by decide)).trans ((w_up_slot (by decide)).trans ((w_up_slot (by decide)).trans ((w_up_slot (by decide)).trans ((w_up_slot (by decide)).trans ((w_up_slot (by decide)).trans ((w_up_slot (by decide)).trans ((w_up_slot (by decide)).trans (ht3))))))))))) (fun r96 => ?_)
                                              refine wa_iconst ?_
                                              refine wa_iadd ?_
                                              refine wb_iast 90 rfl (wy_pr rfl) wt_90 (n := 60) ((w_up_slot (by decide)).trans ((w_up_slot (by decide)).trans ((w_up_slot (by decide)).trans ((w_up_slot (by decide)).trans ((w_up_slot (by decide)).trans ((w_up_slot (by decide)).trans ((w_up_slot (by decide)).trans ((w_up_slot (by decide)).trans ((w_up_slot (by decide)).trans ((w_up_slot (by decide)).trans ((cl_90 hC)))))))))))) (by omega) (by omega) ⟨(by omega), (by omega)⟩ ?_
                                              refine wa_return rfl ?_
                                              show wJ _ _ _ _ _ _ _ _ _ _
                                              refine wa_return rfl ?_
                                              show wJ _ _ _ _ _ _ _ _ _ _
                                              refine wa_fall ⟨_, rfl⟩ ?_
                                              refine wa_aload_n (n := 0) rfl ?_
                                              refine wb_gf5 61 rfl (wy_pr rfl) wt_61 wf_4_1 (v := 73) ((w_up_slot (by decide)).trans ((w_up_slot (by decide)).trans ((w_up_slot (by decide)).trans ((w_up_slot (by decide)).trans ((w_up_slot (by decide)).trans ((w_up_slot (by decide)).trans ((w_up_slot (by decide)).trans ((w_up_slot (by decide)).trans ((w_up_slot (by decide)).trans ((w_up_slot (by decide)).trans ((w_up_slot (by decide)).trans (hH)))))))))))) (fun r97 => ?_)
                                              refine wb_gf4 73 rfl (wy_pr rfl) wt_73 wf_3_3 (v := 96) wl_73_3 ?_
                                              refine wa_iconst ?_
                                              refine wb_aald5 96 2 rfl rfl (wy_pr rfl) wt_96 (by rw [show _ = _ from ((w_up_slot (by decide)).trans ((w_up_slot (by decide)).trans ((w_up_slot (by decide)).trans ((w_up_slot (by decide)).trans ((w_up_slot (by decide)).trans ((w_up_slot (by decide)).trans ((w_up_slot (by decide)).trans ((w_up_slot (by decide)).trans ((w_up_slot (by decide)).trans ((w_up_slot (by decide)).trans ((w_up_slot (by decide)).trans ((cl_96 hC)))))))))))))]; omega) wl_96_2 ?_
                                              refine wa_aload_n (n := 0) rfl ?_
                                              refine wb_gf5 61 rfl (wy_pr rfl) wt_61 wf_4_1 (v := 73) ((w_up_slot (by decide)).trans ((w_up_slot (by decide)).trans ((w_up_slot (by decide)).trans ((w_up_slot (by decide)).trans ((w_up_slot (by decide)).trans ((w_up_slot (by decide)).trans ((w_up_slot (by decide)).trans ((w_up_slot (by decide)).trans ((w_up_slot (by decide)).trans ((w_up_slot (by decide)).trans ((w_up_slot (by decide)).trans (hH)))))))))))) (fun r98 => ?_)
                                              refine wb_gfi 73 rfl (wy_pr rfl) wt_73 wf_3_4 (v := ((ms.length : Int) + 1)) ((w_up_slot (by decide)).trans (w_up_same _ _ _ _)) (fun r99 => ?_)
                                              refine wa_iconst ?_
                                              refine wa_isub ?_
                                              rw [show ((((ms.length : Int) + 1) - 1) : Int) = (ms.length : Int) by omega]
                                              refine wa_iload_n (n := 2) rfl ?_
                                              refine wa_ifeq (w_rg0 (by omega) (by omega)) ⟨_, rfl⟩ (fun c100 => ?_) (fun c100 => ?_)
                                              · skip
                                                refine wa_iconst ?_
                                                refine wa_fall ⟨_, rfl⟩ ?_
                                                refine wb_iast 99 rfl (wy_pr rfl) wt_99 (n := 400) ((w_up_slot (by decide)).trans ((w_up_slot (by decide)).trans ((w_up_slot (by decide)).trans ((w_up_slot (by decide)).trans ((w_up_slot (by decide)).trans ((w_up_slot (by decide)).trans ((w_up_slot (by decide)).trans ((w_up_slot (by decide)).trans ((w_up_slot (by decide)).trans ((w_up_slot (by decide)).trans ((w_up_slot (by decide)).trans ((cl_99 hC))))))))))))) (by omega) (by omega) ⟨(by omega), (by omega)⟩ ?_
                                                refine wa_return rfl ?_
                                                show wJ _ _ _ _ _ _ _ _ _ _
                                                refine wa_aload_n (n := 0) rfl ?_
                                                refine wb_gf5 61 rfl (wy_pr rfl) wt_61 wf_4_1 (v := 73) ((w_up_slot (by decide)).trans ((w_up_slot (by decide)).trans ((w_up_slot (by decide)).trans ((w_up_slot (by decide)).trans ((w_up_slot (by decide)).trans ((w_up_slot (by decide)).trans ((w_up_slot (by decide)).trans ((w_up_slot (by decide)).trans ((w_up_slot (by decide)).trans ((w_up_slot (by decide)).trans ((w_up_slot (by decide)).trans ((w_up_slot (by decide)).trans (hH))))))))))))) (fun r101 => ?_)
                                                refine wb_gfi 73 rfl (wy_pr rfl) wt_73 wf_3_4 (v := ((ms.length : Int) + 1)) ((w_up_slot (by decide)).trans ((w_up_slot (by decide)).trans (w_up_same _ _ _ _))) (fun r102 => ?_)
                                                refine wa_iconst ?_
                                                refine wa_isub ?_
                                                rw [show ((((ms.length : Int) + 1) - 1) : Int) = (ms.length : Int) by omega]
                                                refine wa_istore (n := 5) rfl ?_
                                                refine wa_aload_n (n := 0) rfl ?_
                                                refine wb_gf5 61 rfl (wy_pr rfl) wt_61 wf_4_1 (v := 73) ((w_up_slot (by decide)).trans ((w_up_slot (by decide)).trans ((w_up_slot (by decide)).trans ((w_up_slot (by decide)).trans ((w_up_slot (by decide)).trans ((w_up_slot (by decide)).trans ((w_up_slot (by decide)).trans ((w_up_slot (by decide)).trans ((w_up_slot (by decide)).trans ((w_up_slot (by decide)).trans ((w_up_slot (by decide)).trans ((w_up_slot (by decide)).trans (hH))))))))))))) (fun r103 => ?_)
                                                refine wb_gf4 73 rfl (wy_pr rfl) wt_73 wf_3_3 (v := 96) wl_73_3 ?_
                                                refine wa_iconst ?_
                                                refine wb_aald5 96 1 rfl rfl (wy_pr rfl) wt_96 (by rw [show _ = _ from ((w_up_slot (by decide)).trans ((w_up_slot (by decide)).trans ((w_up_slot (by decide)).trans ((w_up_slot (by decide)).trans ((w_up_slot (by decide)).trans ((w_up_slot (by decide)).trans ((w_up_slot (by decide)).trans ((w_up_slot (by decide)).trans ((w_up_slot (by decide)).trans ((w_up_slot (by decide)).trans ((w_up_slot (by decide)).trans ((w_up_slot (by decide)).trans ((cl_96 hC))))))))))))))]; omega) wl_96_1 ?_
                                                refine wa_iload (n := 5) rfl ?_
                                                refine wb_iald 98 rfl (wy_pr rfl) wt_98 (n := 400) ((w_up_slot (by decide)).trans ((w_up_slot (by decide)).trans ((w_up_slot (by decide)).trans ((w_up_slot (by decide)).trans ((w_up_slot (by decide)).trans ((w_up_slot (by decide)).trans ((w_up_slot (by decide)).trans ((w_up_slot (by decide)).trans ((w_up_at (by omega)).trans ((w_up_slot (by decide)).trans ((w_up_slot (by decide)).trans ((w_up_slot (by decide)).trans ((cl_98 hC)))))))))))))) (by omega) (by omega) (v := 1) ((w_up_slot (by decide)).trans ((w_up_slot (by decide)).trans ((w_up_slot (by decide)).trans ((w_up_slot (by decide)).trans ((w_up_slot (by decide)).trans ((w_up_slot (by decide)).trans ((w_up_slot (by decide)).trans ((w_up_slot (by decide)).trans (w_up_same _ _ _ _))))))))) (fun r104 => ?_)
                                                refine wa_ifeq (w_rg0 (by omega) (by omega)) ⟨_, rfl⟩ (fun c105 => ?_) (fun c105 => ?_)
                                                · skip
                                                  exact absurd c105 (by omega)
                                                · skip
                                                  refine wa_aload_n (n := 0) rfl ?_
                                                  refine wa_iload (n := 5) rfl ?_
                                                  have hmsx : mr_all 97 74 T (w_up (w_up (w_up (w_up (w_up (w_up (w_up (w_up (w_up (w_up (w_up (w_up S 14 4 ((i + 1 : Nat) : Int)) 14 4 ((i + 1 + 1 : Nat) : Int)) 97 (ms.length : Int) kc) 98 (ms.length : Int) 1) 100 (ms.length : Int) y) 101 (ms.length : Int) 0) 102 (ms.length : Int) 0) 111 (ms.length : Int) (S 17 ((i + 1 : Nat) : Int))) 112 (ms.length : Int) (-1)) 73 4 ((ms.length : Int) + 1)) 90 kc (((ms.length : Int) - (fi : Int)) + 1)) 99 (ms.length : Int) 0) ms := (mr_all_up (mr_all_up (mr_all_up (mr_all_up (mr_all_up (mr_all_up (mr_all_up (mr_all_up (mr_all_up (mr_all_up (mr_all_up (mr_all_up hms (by omega) (by omega)) (by omega) (by omega)) (by omega) (by omega)) (by omega) (by omega)) (by omega) (by omega)) (by omega) (by omega)) (by omega) (by omega)) (by omega) (by omega)) (by omega) (by omega)) (by omega) (by omega)) (by omega) (by omega)) (by omega) (by omega))
                                                  have hhd : mr_hd 97 74 T (w_up (w_up (w_up (w_up (w_up (w_up (w_up (w_up (w_up (w_up (w_up (w_up S 14 4 ((i + 1 : Nat) : Int)) 14 4 ((i + 1 + 1 : Nat) : Int)) 97 (ms.length : Int) kc) 98 (ms.length : Int) 1) 100 (ms.length : Int) y) 101 (ms.length : Int) 0) 102 (ms.length : Int) 0) 111 (ms.length : Int) (S 17 ((i + 1 : Nat) : Int))) 112 (ms.length : Int) (-1)) 73 4 ((ms.length : Int) + 1)) 90 kc (((ms.length : Int) - (fi : Int)) + 1)) 99 (ms.length : Int) 0) (ms.length : Int) kc 1 0 y (tp T n 1 (i + 1)) (lx_en T n 1 (tp T n 1 (i + 1))) := ⟨⟨((w_up_slot (by decide)).trans ((w_up_slot (by decide)).trans ((w_up_slot (by decide)).trans ((w_up_slot (by decide)).trans ((w_up_slot (by decide)).trans ((w_up_slot (by decide)).trans ((w_up_slot (by decide)).trans ((w_up_slot (by decide)).trans ((w_up_slot (by decide)).trans (w_up_same _ _ _ _)))))))))), ((w_up_slot (by decide)).trans ((w_up_slot (by decide)).trans ((w_up_slot (by decide)).trans ((w_up_slot (by decide)).trans ((w_up_slot (by decide)).trans ((w_up_slot (by decide)).trans ((w_up_slot (by decide)).trans ((w_up_slot (by decide)).trans (w_up_same _ _ _ _))))))))), (w_up_same _ _ _ _), ((w_up_slot (by decide)).trans ((w_up_slot (by decide)).trans ((w_up_slot (by decide)).trans ((w_up_slot (by decide)).trans ((w_up_slot (by decide)).trans ((w_up_slot (by decide)).trans ((w_up_slot (by decide)).trans (w_up_same _ _ _ _))))))))⟩, ⟨by decide, by decide⟩, fun z => absurd z (by decide), fun _ => ⟨⟨by rw [show (w_up (w_up (w_up (w_up (w_up (w_up (w_up (w_up (w_up (w_up (w_up (w_up S 14 4 ((i + 1 : Nat) : Int)) 14 4 ((i + 1 + 1 : Nat) : Int)) 97 (ms.length : Int) kc) 98 (ms.length : Int) 1) 100 (ms.length : Int) y) 101 (ms.length : Int) 0) 102 (ms.length : Int) 0) 111 (ms.length : Int) (S 17 ((i + 1 : Nat) : Int))) 112 (ms.length : Int) (-1)) 73 4 ((ms.length : Int) + 1)) 90 kc (((ms.length : Int) - (fi : Int)) + 1)) 99 (ms.length : Int) 0) (97 + 14) (ms.length : Int) = _ from ((w_up_slot (by decide)).trans ((w_up_slot (by decide)).trans ((w_up_slot (by decide)).trans ((w_up_slot (by decide)).trans (w_up_same _ _ _ _)))))]; omega, by rw [show (w_up (w_up (w_up (w_up (w_up (w_up (w_up (w_up (w_up (w_up (w_up (w_up S 14 4 ((i + 1 : Nat) : Int)) 14 4 ((i + 1 + 1 : Nat) : Int)) 97 (ms.length : Int) kc) 98 (ms.length : Int) 1) 100 (ms.length : Int) y) 101 (ms.length : Int) 0) 102 (ms.length : Int) 0) 111 (ms.length : Int) (S 17 ((i + 1 : Nat) : Int))) 112 (ms.length : Int) (-1)) 73 4 ((ms.length : Int) + 1)) 90 kc (((ms.length : Int) - (fi : Int)) + 1)) 99 (ms.length : Int) 0) (97 + 14) (ms.length : Int) = _ from ((w_up_slot (by decide)).trans ((w_up_slot (by decide)).trans ((w_up_slot (by decide)).trans ((w_up_slot (by decide)).trans (w_up_same _ _ _ _)))))]; show _ < S 74 7; omega⟩, by rw [show (w_up (w_up (w_up (w_up (w_up (w_up (w_up (w_up (w_up (w_up (w_up (w_up S 14 4 ((i + 1 : Nat) : Int)) 14 4 ((i + 1 + 1 : Nat) : Int)) 97 (ms.length : Int) kc) 98 (ms.length : Int) 1) 100 (ms.length : Int) y) 101 (ms.length : Int) 0) 102 (ms.length : Int) 0) 111 (ms.length : Int) (S 17 ((i + 1 : Nat) : Int))) 112 (ms.length : Int) (-1)) 73 4 ((ms.length : Int) + 1)) 90 kc (((ms.length : Int) - (fi : Int)) + 1)) 99 (ms.length : Int) 0) (97 + 14) (ms.length : Int) = _ from ((w_up_slot (by decide)).trans ((w_up_slot (by decide)).trans ((w_up_slot (by decide)).trans ((w_up_slot (by decide)).trans (w_up_same _ _ _ _)))))]; exact hnt1.2.2⟩⟩
                                                  have hpm0 : pm_I 97 (w_up (w_up (w_up (w_up (w_up (w_up (w_up (w_up (w_up (w_up (w_up (w_up S 14 4 ((i + 1 : Nat) : Int)) 14 4 ((i + 1 + 1 : Nat) : Int)) 97 (ms.length : Int) kc) 98 (ms.length : Int) 1) 100 (ms.length : Int) y) 101 (ms.length : Int) 0) 102 (ms.length : Int) 0) 111 (ms.length : Int) (S 17 ((i + 1 : Nat) : Int))) 112 (ms.length : Int) (-1)) 73 4 ((ms.length : Int) + 1)) 90 kc (((ms.length : Int) - (fi : Int)) + 1)) 99 (ms.length : Int) 0) (ms.length : Int) [] 0 := ⟨((w_up_slot (by decide)).trans ((w_up_slot (by decide)).trans ((w_up_slot (by decide)).trans ((w_up_slot (by decide)).trans ((w_up_slot (by decide)).trans ((w_up_slot (by decide)).trans (w_up_same _ _ _ _))))))), ((w_up_slot (by decide)).trans ((w_up_slot (by decide)).trans ((w_up_slot (by decide)).trans ((w_up_slot (by decide)).trans ((w_up_slot (by decide)).trans (w_up_same _ _ _ _)))))), by decide, fun q hq => absurd hq (Nat.not_lt_zero _)⟩
                                                  have hn := lx_w_k (k := 12) hB hW hrw (by decide) hwc.1 hnt0
                                                  rw [show hwl 12 = tx_25 from rfl] at hn
                                                  have z1 : zq B (tp T n 1 i) 237 6 = 1 := by rw [zT_6 hB]; exact hnt0.1
                                                  have hs := lx_w_k (k := 11) hB hW hrw (by decide) hwc.1 hnt0
                                                  rw [show hwl 11 = tx_23 from rfl] at hs
                                                  have hrm0 : rm_L B 241 kc itf (ms.drop fi) ms.length (tp T n 1 i) = rb_L B 241 kc itf (ms.drop fi) ms.length (tp T n 1 i) 0 := rm_o (fun z => absurd (hs.1 z) (by omega))
                                                  have hyh := ty_hy (av := 1) hyy0 (Or.inr (by decide))
                                                  rw [tp_ne (i := i) hB] at hyh
                                                  have hrm1 : rm_L B 241 kc itf (ms.drop fi) ms.length (tp T n 1 i) = rb_name B 241 itf (ms.drop fi) y (tp T n 1 (i + 1)) 0 := hrm0.trans (rb_t z1 (fun z => absurd (hn.1 z) (by omega)) hyh.2.2.1 (by omega) hyh.1)
                                                  have z2 : zq B (tp T n 1 (i + 1)) 237 6 = 1 := by rw [zT_6 hB]; exact hnt1.1
                                                  have hoo := oo_21 hB hW hrw hwc.1 hnt1
                                                  have h59 := lx_is_kg (i := i + 1 + 1) hB (k := 17) (ch := 59) (by decide) sk_17
                                                  have hrm3 := hrm1.trans (rn_m z2 (fun z => absurd (hoo.1 z) (by omega)) (by rw [tp_ne (i := i + 1) hB]; rintro ⟨q1, q2⟩; have := h59.1 q1; omega))
                                                  rw [tp_ne (i := i + 1) hB, zT_8 hB] at hrm3
                                                  have h40 := lx_is_kg (i := i + 1 + 1) hB (k := 10) (ch := 40) (by decide) sk_10
                                                  have hpar : rm_par2 B 241 1 (tp T n 1 (i + 1)) (lx_en T n 1 (tp T n 1 (i + 1))) (ms.drop fi) (tp T n 1 (i + 1 + 1)) = (if kg T n (tp T n 1 (i + 1 + 1)) = 10 then pk_L B 1 (tp T n 1 (i + 1)) (lx_en T n 1 (tp T n 1 (i + 1))) (ms.drop fi) (pq_r B 241 (tp T n 1 (i + 1 + 1 + 1))) else .inl (1, (tp T n 1 (i + 1 + 1)))) := by
                                                    unfold rm_par2
                                                    by_cases hq : kg T n (tp T n 1 (i + 1 + 1)) = 10
                                                    · rw [if_pos (h40.2 hq), if_pos hq, tp_ne (i := i + 1 + 1) hB]
                                                    · rw [if_neg (fun z => hq (h40.1 z)), if_neg hq]
                                                  rw [hpar] at hrm3
                                                  generalize hRR : (if kg T n (tp T n 1 (i + 1 + 1)) = 10 then pk_L B 1 (tp T n 1 (i + 1)) (lx_en T n 1 (tp T n 1 (i + 1))) (ms.drop fi) (pq_r B 241 (tp T n 1 (i + 1 + 1 + 1))) else .inl (1, (tp T n 1 (i + 1 + 1)))) = RR at hrm3
                                                  have hrp := rp_73 (xs := xs) (M := M) (d := d + 1) (S := (w_up (w_up (w_up (w_up (w_up (w_up (w_up (w_up (w_up (w_up (w_up (w_up S 14 4 ((i + 1 : Nat) : Int)) 14 4 ((i + 1 + 1 : Nat) : Int)) 97 (ms.length : Int) kc) 98 (ms.length : Int) 1) 100 (ms.length : Int) y) 101 (ms.length : Int) 0) 102 (ms.length : Int) 0) 111 (ms.length : Int) (S 17 ((i + 1 : Nat) : Int))) 112 (ms.length : Int) (-1)) 73 4 ((ms.length : Int) + 1)) 90 kc (((ms.length : Int) - (fi : Int)) + 1)) 99 (ms.length : Int) 0)) (i := i + 1 + 1) (ms := ms) (kc := kc) (so := 1) (st := 0) (ty := y) (f0 := (tp T n 1 (i + 1))) (e0 := (lx_en T n 1 (tp T n 1 (i + 1)))) (fi := fi) (hx_up (hx_up (hx_up (hx_up (hx_up (hx_up (hx_up (hx_up (hx_up (hx_up (hx_up (hx_up hx (by unfold hx_o; omega)) (by unfold hx_o; omega)) (by unfold hx_o; omega)) (by unfold hx_o; omega)) (by unfold hx_o; omega)) (by unfold hx_o; omega)) (by unfold hx_o; omega)) (by unfold hx_o; omega)) (by unfold hx_o; omega)) (by unfold hx_o; omega)) (by unfold hx_o; omega)) (by unfold hx_o; omega)) (show cx_P T n c (i + 1 + 1) (w_up (w_up (w_up (w_up (w_up (w_up (w_up (w_up (w_up (w_up (w_up (w_up S 14 4 ((i + 1 : Nat) : Int)) 14 4 ((i + 1 + 1 : Nat) : Int)) 97 (ms.length : Int) kc) 98 (ms.length : Int) 1) 100 (ms.length : Int) y) 101 (ms.length : Int) 0) 102 (ms.length : Int) 0) 111 (ms.length : Int) (S 17 ((i + 1 : Nat) : Int))) 112 (ms.length : Int) (-1)) 73 4 ((ms.length : Int) + 1)) 90 kc (((ms.length : Int) - (fi : Int)) + 1)) 99 (ms.length : Int) 0) from ⟨((w_up_slot (by decide)).trans ((w_up_slot (by decide)).trans ((w_up_slot (by decide)).trans ((w_up_slot (by decide)).trans ((w_up_slot (by decide)).trans ((w_up_slot (by decide)).trans ((w_up_slot (by decide)).trans ((w_up_slot (by decide)).trans ((w_up_slot (by decide)).trans ((w_up_slot (by decide)).trans (w_up_same _ _ _ _))))))))))), hg2⟩) hmsx (by omega) hhd (by decide) hkc ⟨(((w_up_slot (by decide)).trans ((w_up_slot (by decide)).trans ((w_up_slot (by decide)).trans ((w_up_slot (by decide)).trans ((w_up_slot (by decide)).trans ((w_up_slot (by decide)).trans ((w_up_slot (by decide)).trans ((w_up_slot (by decide)).trans ((w_up_slot (by decide)).trans ((w_up_slot (by decide)).trans ((w_up_slot (by decide)).trans (w_up_slot (by decide)))))))))))))).trans hfi.1, hfi.2⟩ hpm0
                                                  rw [hRR] at hrp
                                                  refine wa_cv 61 rfl (wy_pr rfl) wt_61 (M2 := M) rfl at_XT_readParameters ⟨_, rfl⟩ rfl rfl ⟨trivial, (Or.inr ⟨wy_pr rfl, mS_no rfl⟩), trivial, trivial, trivial⟩ trivial (fun _ _ q => q) (hrp) (fun oq106 Sq106 hp107 q106 => ?_)
                                                  rcases q106 with hrq
                                                  match RR, hrm3, hrq with
                                                  | .inl (e, qq), hrm3, hrq =>
                                                    obtain ⟨v, Z0, rfl, g1, g2⟩ := hrq
                                                    refine ⟨rfl, ?_⟩
                                                    exact hf e qq v Z0 _ (by rw [mb_f_s, if_neg (fun z => absurd (h125.1 z) (by omega)), hrm3]; rfl) (fun j x a1 a2 a3 a4 => (g1 j x a1 (by omega)).trans ((fun j x a1 a2 a3 a4 => (w_up_no (by omega)).trans ((w_up_no (by omega)).trans ((w_up_no (by omega)).trans ((w_up_no (by omega)).trans ((w_up_no (by omega)).trans ((w_up_no (by omega)).trans ((w_up_no (by omega)).trans ((w_up_no (by omega)).trans ((w_up_no (by omega)).trans ((w_up_no (by omega)).trans ((w_up_no (by omega)).trans ((w_up_no (by omega)).trans (rfl))))))))))))) j x a1 a2 a3 a4)) g2
                                                  | .inr (qq, l, vv), hrm3, hrq =>
                                                    obtain ⟨rfl, g1, ⟨i2, g2, rfl⟩, g3⟩ := hrq
                                                    show wJ _ _ _ _ _ _ _ _ _ _
                                                    refine wa_fall ⟨_, rfl⟩ ?_
                                                    have hxz : hx_I 241 73 87 92 74 T n c B Sq106 := hx_ag (hx_up (hx_up (hx_up (hx_up (hx_up (hx_up (hx_up (hx_up (hx_up (hx_up (hx_up (hx_up hx (by unfold hx_o; omega)) (by unfold hx_o; omega)) (by unfold hx_o; omega)) (by unfold hx_o; omega)) (by unfold hx_o; omega)) (by unfold hx_o; omega)) (by unfold hx_o; omega)) (by unfold hx_o; omega)) (by unfold hx_o; omega)) (by unfold hx_o; omega)) (by unfold hx_o; omega)) (by unfold hx_o; omega)) (by decide) (g1 14 3 (by omega) (by omega)) (gI_ag (gI_up (gI_up (gI_up (gI_up (gI_up (gI_up (gI_up (gI_up (gI_up (gI_up (gI_up (gI_up hI (by omega) (by omega) (by omega)) (by omega) (by omega) (by omega)) (by omega) (by omega) (by omega)) (by omega) (by omega) (by omega)) (by omega) (by omega) (by omega)) (by omega) (by omega) (by omega)) (by omega) (by omega) (by omega)) (by omega) (by omega) (by omega)) (by omega) (by omega) (by omega)) (by omega) (by omega) (by omega)) (by omega) (by omega) (by omega)) (by omega) (by omega) (by omega)) (fun j hj => funext fun x => ?_)) (fun j hj => funext fun x => g1 j x (by omega) (by omega)) (g1 73 2 (by omega) (by omega)) (g1 61 1 (by omega) (by omega)) (fun z hz => (g1 z.1 (-1) (by omega) (by omega)).trans ((hx_R (hx_up (hx_up (hx_up (hx_up (hx_up (hx_up (hx_up (hx_up (hx_up (hx_up (hx_up (hx_up hx (by unfold hx_o; omega)) (by unfold hx_o; omega)) (by unfold hx_o; omega)) (by unfold hx_o; omega)) (by unfold hx_o; omega)) (by unfold hx_o; omega)) (by unfold hx_o; omega)) (by unfold hx_o; omega)) (by unfold hx_o; omega)) (by unfold hx_o; omega)) (by unfold hx_o; omega)) (by unfold hx_o; omega))).2.2.1 z hz))
                                                    · sorry
                                              · skip
                                                exact absurd c100 (by omega)
                                            · skip
                                              exact absurd c91 (by omega)
                                          · skip
                                            exact absurd c87 (by omega)
                                        · skip
                                          exact absurd c86 (by omega)
                                      · skip
                                        refine wa_iconst ?_
                                        refine wa_goto ⟨_, rfl⟩ ?_
                                        refine wa_istore (n := 4) rfl ?_
                                        refine wa_iload (n := 4) rfl ?_
                                        refine wa_ifeq (w_rg0 (by omega) (by omega)) ⟨_, rfl⟩ (fun c108 => ?_) (fun c108 => ?_)
                                        · skip
                                          exact absurd c108 (by omega)
                                        · skip
                                          refine wa_aload_n (n := 0) rfl ?_
                                          refine wb_gf5 61 rfl (wy_pr rfl) wt_61 wf_4_1 (v := 73) ((w_up_slot (by decide)).trans (hH)) (fun r109 => ?_)
                                          refine wa_iload_n (n := 3) rfl ?_
                                          refine wa_cv 73 rfl (wy_pr rfl) wt_73 (M2 := fun _ => False) rfl at_XO_hasOwnField ⟨_, rfl⟩ rfl rfl ⟨trivial, trivial, (Or.inr ⟨wy_pr rfl, fun q => q⟩), trivial, trivial, trivial⟩ trivial (fun _ _ q => False.elim q) (of_73 (S := (w_up S 14 4 ((i + 1 : Nat) : Int))) (ms := ms) (f0 := (tp T n 1 (i + 1))) (e0 := lx_en T n 1 (tp T n 1 (i + 1))) (kc := kc) (fi := fi) (hx_R (hx_up hx (by unfold hx_o; omega))).2.2.1 (hx_W (hx_up hx (by unfold hx_o; omega))) (mr_all_up hms (by omega) (by omega)) (((w_up_slot (by decide)).trans (hmc))) ⟨by omega, by show (S 17 ((i + 1 : Nat) : Int)) < S 74 7; omega, by omega⟩ (show wq ((w_up S 14 4 ((i + 1 : Nat) : Int)) 75) ((w_up S 14 4 ((i + 1 : Nat) : Int)) 76) ((w_up S 14 4 ((i + 1 : Nat) : Int)) 77) T (tp T n 1 (i + 1)) (lx_en T n 1 (tp T n 1 (i + 1)) - (tp T n 1 (i + 1))) (S 17 ((i + 1 : Nat) : Int)) from hnt1.2.2) ⟨((w_up_slot (by decide)).trans (hkc1)), hkc.2⟩ ⟨(w_up_slot (by decide)).trans hfi.1, hfi.2⟩) (fun oq111 Sq111 hp112 q111 => ?_)
                                          rcases q111 with ⟨rfl, ⟨rfl, ho110⟩ | ⟨rfl, ho110⟩⟩
                                          · skip
                                            show wJ _ _ _ _ _ _ _ _ _ _
                                            have hdf := ho110
                                            refine wa_ifeq (w_rg0 (by omega) (by omega)) ⟨_, rfl⟩ (fun c113 => ?_) (fun c113 => ?_)
                                            · skip
                                              exact absurd c113 (by omega)
                                            · skip
                                              refine wa_aload_n (n := 0) rfl ?_
                                              refine wa_iconst ?_
                                              refine wa_cv 61 rfl (wy_pr rfl) wt_61 (M2 := fun _ => False) rfl at_XT_refuse ⟨_, rfl⟩ rfl rfl ⟨trivial, trivial, (Or.inr ⟨wy_pr rfl, fun q => q⟩), trivial, trivial, trivial⟩ trivial (fun _ _ q => False.elim q) (rf_c (S := (w_up S 14 4 ((i + 1 : Nat) : Int))) (k := 2) (p := (tp T n 1 (i + 1))) (i := ((i + 1 : Nat) : Int)) (gI_up hI (by omega) (by omega) (by omega)) (w_up_same _ _ _ _) ((w_up_slot (by decide)).trans (h16_1)) ⟨by omega, by have e : (w_up S 14 4 ((i + 1 : Nat) : Int)) 16 (-1) = S 16 (-1) := (w_up_slot (by decide)); omega⟩ ⟨by omega, by omega⟩ ⟨by omega, by omega⟩) (fun oq115 Sq115 hp116 q115 => ?_)
                                              rcases q115 with ⟨v, rfl, rz114⟩
                                              have hrz := rz114
                                              have hkind : (2 : Int) = 2 := rfl
                                              refine ⟨rfl, ?_⟩
                                              refine ⟨rfl, ?_⟩
                                              refine ⟨rfl, ?_⟩
                                              have hn := lx_w_k (k := 12) hB hW hrw (by decide) hwc.1 hnt0
                                              rw [show hwl 12 = tx_25 from rfl] at hn
                                              have z1 : zq B (tp T n 1 i) 237 6 = 1 := by rw [zT_6 hB]; exact hnt0.1
                                              have hs := lx_w_k (k := 11) hB hW hrw (by decide) hwc.1 hnt0
                                              rw [show hwl 11 = tx_23 from rfl] at hs
                                              have hrm0 : rm_L B 241 kc itf (ms.drop fi) ms.length (tp T n 1 i) = rb_L B 241 kc itf (ms.drop fi) ms.length (tp T n 1 i) 0 := rm_o (fun z => absurd (hs.1 z) (by omega))
                                              have hyh := ty_hy (av := 1) hyy0 (Or.inr (by decide))
                                              rw [tp_ne (i := i) hB] at hyh
                                              have hrm1 : rm_L B 241 kc itf (ms.drop fi) ms.length (tp T n 1 i) = rb_name B 241 itf (ms.drop fi) y (tp T n 1 (i + 1)) 0 := hrm0.trans (rb_t z1 (fun z => absurd (hn.1 z) (by omega)) hyh.2.2.1 (by omega) hyh.1)
                                              have z2 : zq B (tp T n 1 (i + 1)) 237 6 = 1 := by rw [zT_6 hB]; exact hnt1.1
                                              have hoo := oo_21 hB hW hrw hwc.1 hnt1
                                              have h59 := lx_is_kg (i := i + 1 + 1) hB (k := 17) (ch := 59) (by decide) sk_17
                                              have h40 := lx_is_kg (i := i + 1 + 1) hB (k := 10) (ch := 40) (by decide) sk_10
                                              have hrm2 := rn_f (b := 241) (itf := itf) (rs := ms.drop fi) (t := y) (st := 0) z2 (fun z => absurd (hoo.1 z) (by omega)) (by rw [tp_ne (i := i + 1) hB]; exact fun z => absurd (h40.1 z) (by omega)) (by rw [tp_ne (i := i + 1) hB]; exact ⟨h59.2 (by omega), by omega⟩)
                                              rw [hBT, zT_8 hB] at hrm2
                                              have hr : rm_L B 241 kc itf (ms.drop fi) ms.length (tp T n 1 i) = .inl (2, (tp T n 1 (i + 1))) := hrm1.trans (hrm2.trans (by rw [if_pos hdf]))
                                              exact hf 2 _ v _ _ (by rw [mb_f_s, if_neg (fun z => absurd (h125.1 z) (by omega)), hr]) (fun j x a1 a2 a3 a4 => (w_up_no (by omega)).trans (rfl)) hrz
                                          · skip
                                            show wJ _ _ _ _ _ _ _ _ _ _
                                            have hdf := ho110
                                            refine wa_ifeq (w_rg0 (by omega) (by omega)) ⟨_, rfl⟩ (fun c117 => ?_) (fun c117 => ?_)
                                            · skip
                                              refine wa_iload (n := 4) rfl ?_
                                              refine wa_ifeq (w_rg0 (by omega) (by omega)) ⟨_, rfl⟩ (fun c118 => ?_) (fun c118 => ?_)
                                              · skip
                                                exact absurd c118 (by omega)
                                              · skip
                                                refine wa_iload_n (n := 1) rfl ?_
                                                refine wa_ifeq (w_rg0 (by omega) (by omega)) ⟨_, rfl⟩ (fun c119 => ?_) (fun c119 => ?_)
                                                · skip
                                                  refine wa_aload_n (n := 0) rfl ?_
                                                  refine wb_gf4 61 rfl (wy_pr rfl) wt_61 wf_4_0 (v := 14) wl_61_0 ?_
                                                  refine wa_cv 14 rfl (wy_pr rfl) wt_14 (M2 := fun _ => False) rfl at_XR_next ⟨_, rfl⟩ rfl rfl ⟨trivial, trivial, (Or.inr ⟨wy_pr rfl, fun q => q⟩), trivial, trivial, trivial⟩ trivial (fun _ _ q => False.elim q) (nx_c (S := (w_up S 14 4 ((i + 1 : Nat) : Int))) (hx_T (hx_up hx (by unfold hx_o; omega))) (show cx_P T n c (i + 1) (w_up S 14 4 ((i + 1 : Nat) : Int)) from ⟨(w_up_same _ _ _ _), hg1⟩) rfl (gI_up hI (by omega) (by omega) (by omega)) (by omega)) (fun oq120 Sq120 hp121 q120 => ?_)
                                                  rcases q120 with ⟨rfl, rfl⟩
                                                  show wJ _ _ _ _ _ _ _ _ _ _
                                                  have hg2 : pg T n c (i + 1 + 1) := pg_next hT hg1 (by omega) (by omega)
                                                  have hA2 := pg_at hT hg2
                                                  have h16_2 := hA2.1
                                                  have h15_2 := hA2.2.1
                                                  have hpr2 := hA2.2.2
                                                  have hkr2 := kg_rg T n (tp T n 1 (i + 1 + 1))
                                                  have hic2 := hg2.1
                                                  have hlt2 := tp_lt hT hg1 (by omega) (by omega)
                                                  refine wa_aload_n (n := 0) rfl ?_
                                                  refine wb_gf5 61 rfl (wy_pr rfl) wt_61 wf_4_1 (v := 73) ((w_up_slot (by decide)).trans ((w_up_slot (by decide)).trans (hH))) (fun r122 => ?_)
                                                  refine wa_iload (n := 4) rfl ?_
                                                  refine wa_ifeq (w_rg0 (by omega) (by omega)) ⟨_, rfl⟩ (fun c123 => ?_) (fun c123 => ?_)
                                                  · skip
                                                    exact absurd c123 (by omega)
                                                  · skip
                                                    refine wa_iconst ?_
                                                    refine wa_goto ⟨_, rfl⟩ ?_
                                                    refine wa_iload_n (n := 2) rfl ?_
                                                    refine wa_iload_n (n := 3) rfl ?_
                                                    refine wa_cv 73 rfl (wy_pr rfl) wt_73 (M2 := fun _ => False) rfl at_XO_addMember ⟨_, rfl⟩ rfl rfl ⟨trivial, trivial, (Or.inr ⟨wy_pr rfl, fun q => q⟩), trivial, trivial, trivial⟩ trivial (fun _ _ q => False.elim q) ?_ (fun _ _ _ q => q)
                                                    refine wa_aload_n (n := 0) rfl ?_
                                                    refine wb_gfi 73 rfl (wy_pr rfl) wt_73 wf_3_4 (v := (ms.length : Int)) ((w_up_slot (by decide)).trans ((w_up_slot (by decide)).trans (hmc))) (fun r124 => ?_)
                                                    refine wa_istore (n := 4) rfl ?_
                                                    refine wa_aload_n (n := 0) rfl ?_
                                                    refine wb_gf4 73 rfl (wy_pr rfl) wt_73 wf_3_3 (v := 96) wl_73_3 ?_
                                                    refine wa_iconst ?_
                                                    refine wb_aald5 96 0 rfl rfl (wy_pr rfl) wt_96 (by rw [show _ = _ from ((w_up_slot (by decide)).trans ((w_up_slot (by decide)).trans ((cl_96 hC))))]; omega) wl_96_0 ?_
                                                    refine wa_iload (n := 4) rfl ?_
                                                    refine wa_aload_n (n := 0) rfl ?_
                                                    refine wb_gfi 73 rfl (wy_pr rfl) wt_73 wf_3_2 (v := (kc + 1)) ((w_up_slot (by decide)).trans ((w_up_slot (by decide)).trans (hkc1))) (fun r125 => ?_)
                                                    refine wa_iconst ?_
                                                    refine wa_isub ?_
                                                    rw [show (((kc + 1) - 1) : Int) = kc by omega]
                                                    refine wb_iast 97 rfl (wy_pr rfl) wt_97 (n := 400) ((w_up_slot (by decide)).trans ((w_up_slot (by decide)).trans ((cl_97 hC)))) (by omega) (by omega) ⟨(by omega), (by omega)⟩ ?_
                                                    refine wa_aload_n (n := 0) rfl ?_
                                                    refine wb_gf4 73 rfl (wy_pr rfl) wt_73 wf_3_3 (v := 96) wl_73_3 ?_
                                                    refine wa_iconst ?_
                                                    refine wb_aald5 96 1 rfl rfl (wy_pr rfl) wt_96 (by rw [show _ = _ from ((w_up_slot (by decide)).trans ((w_up_slot (by decide)).trans ((w_up_slot (by decide)).trans ((cl_96 hC)))))]; omega) wl_96_1 ?_
                                                    refine wa_iload (n := 4) rfl ?_
                                                    refine wa_iload_n (n := 1) rfl ?_
                                                    refine wb_iast 98 rfl (wy_pr rfl) wt_98 (n := 400) ((w_up_slot (by decide)).trans ((w_up_slot (by decide)).trans ((w_up_slot (by decide)).trans ((cl_98 hC))))) (by omega) (by omega) ⟨(by omega), (by omega)⟩ ?_
                                                    refine wa_aload_n (n := 0) rfl ?_
                                                    refine wb_gf4 73 rfl (wy_pr rfl) wt_73 wf_3_3 (v := 96) wl_73_3 ?_
                                                    refine wa_iconst ?_
                                                    refine wb_aald5 96 3 rfl rfl (wy_pr rfl) wt_96 (by rw [show _ = _ from ((w_up_slot (by decide)).trans ((w_up_slot (by decide)).trans ((w_up_slot (by decide)).trans ((w_up_slot (by decide)).trans ((cl_96 hC))))))]; omega) wl_96_3 ?_
                                                    refine wa_iload (n := 4) rfl ?_
                                                    refine wa_iload_n (n := 2) rfl ?_
                                                    refine wb_iast 100 rfl (wy_pr rfl) wt_100 (n := 400) ((w_up_slot (by decide)).trans ((w_up_slot (by decide)).trans ((w_up_slot (by decide)).trans ((w_up_slot (by decide)).trans ((cl_100 hC)))))) (by omega) (by omega) ⟨(by omega), (by omega)⟩ ?_
                                                    refine wa_aload_n (n := 0) rfl ?_
                                                    refine wb_gf4 73 rfl (wy_pr rfl) wt_73 wf_3_3 (v := 96) wl_73_3 ?_
                                                    refine wa_iconst ?_
                                                    refine wb_aald5 96 4 rfl rfl (wy_pr rfl) wt_96 (by rw [show _ = _ from ((w_up_slot (by decide)).trans ((w_up_slot (by decide)).trans ((w_up_slot (by decide)).trans ((w_up_slot (by decide)).trans ((w_up_slot (by decide)).trans ((cl_96 hC)))))))]; omega) wl_96_4 ?_
                                                    refine wa_iload (n := 4) rfl ?_
                                                    refine wa_iconst ?_
                                                    refine wb_iast 101 rfl (wy_pr rfl) wt_101 (n := 400) ((w_up_slot (by decide)).trans ((w_up_slot (by decide)).trans ((w_up_slot (by decide)).trans ((w_up_slot (by decide)).trans ((w_up_slot (by decide)).trans ((cl_101 hC))))))) (by omega) (by omega) ⟨(by omega), (by omega)⟩ ?_
                                                    refine wa_aload_n (n := 0) rfl ?_
                                                    refine wb_gf4 73 rfl (wy_pr rfl) wt_73 wf_3_3 (v := 96) wl_73_3 ?_
                                                    refine wa_iconst ?_
                                                    refine wb_aald5 96 5 rfl rfl (wy_pr rfl) wt_96 (by rw [show _ = _ from ((w_up_slot (by decide)).trans ((w_up_slot (by decide)).trans ((w_up_slot (by decide)).trans ((w_up_slot (by decide)).trans ((w_up_slot (by decide)).trans ((w_up_slot (by decide)).trans ((cl_96 hC))))))))]; omega) wl_96_5 ?_
                                                    refine wa_iload (n := 4) rfl ?_
                                                    refine wa_iconst ?_
                                                    refine wb_iast 102 rfl (wy_pr rfl) wt_102 (n := 400) ((w_up_slot (by decide)).trans ((w_up_slot (by decide)).trans ((w_up_slot (by decide)).trans ((w_up_slot (by decide)).trans ((w_up_slot (by decide)).trans ((w_up_slot (by decide)).trans ((cl_102 hC)))))))) (by omega) (by omega) ⟨(by omega), (by omega)⟩ ?_
                                                    refine wa_aload_n (n := 0) rfl ?_
                                                    refine wb_gf4 73 rfl (wy_pr rfl) wt_73 wf_3_3 (v := 96) wl_73_3 ?_
                                                    refine wa_bipush (w_rg2 (by omega) (by omega)) ?_
                                                    refine wb_aald5 96 14 rfl rfl (wy_pr rfl) wt_96 (by rw [show _ = _ from ((w_up_slot (by decide)).trans ((w_up_slot (by decide)).trans ((w_up_slot (by decide)).trans ((w_up_slot (by decide)).trans ((w_up_slot (by decide)).trans ((w_up_slot (by decide)).trans ((w_up_slot (by decide)).trans ((cl_96 hC)))))))))]; omega) wl_96_14 ?_
                                                    refine wa_iload (n := 4) rfl ?_
                                                    refine wa_iload_n (n := 3) rfl ?_
                                                    refine wb_iast 111 rfl (wy_pr rfl) wt_111 (n := 400) ((w_up_slot (by decide)).trans ((w_up_slot (by decide)).trans ((w_up_slot (by decide)).trans ((w_up_slot (by decide)).trans ((w_up_slot (by decide)).trans ((w_up_slot (by decide)).trans ((w_up_slot (by decide)).trans ((cl_111 hC))))))))) (by omega) (by omega) ⟨(by omega), (by omega)⟩ ?_
                                                    refine wa_aload_n (n := 0) rfl ?_
                                                    refine wb_gf4 73 rfl (wy_pr rfl) wt_73 wf_3_3 (v := 96) wl_73_3 ?_
                                                    refine wa_bipush (w_rg2 (by omega) (by omega)) ?_
                                                    refine wb_aald5 96 15 rfl rfl (wy_pr rfl) wt_96 (by rw [show _ = _ from ((w_up_slot (by decide)).trans ((w_up_slot (by decide)).trans ((w_up_slot (by decide)).trans ((w_up_slot (by decide)).trans ((w_up_slot (by decide)).trans ((w_up_slot (by decide)).trans ((w_up_slot (by decide)).trans ((w_up_slot (by decide)).trans ((cl_96 hC))))))))))]; omega) wl_96_15 ?_
                                                    refine wa_iload (n := 4) rfl ?_
                                                    refine wa_iconst ?_
                                                    refine wb_iast 112 rfl (wy_pr rfl) wt_112 (n := 400) ((w_up_slot (by decide)).trans ((w_up_slot (by decide)).trans ((w_up_slot (by decide)).trans ((w_up_slot (by decide)).trans ((w_up_slot (by decide)).trans ((w_up_slot (by decide)).trans ((w_up_slot (by decide)).trans ((w_up_slot (by decide)).trans ((cl_112 hC)))))))))) (by omega) (by omega) ⟨(by omega), (by omega)⟩ ?_
                                                    refine wa_aload_n (n := 0) rfl ?_
                                                    refine wa_dup (by decide) ?_
                                                    refine wb_gfi 73 rfl (wy_pr rfl) wt_73 wf_3_4 (v := (ms.length : Int)) ((w_up_slot (by decide)).trans ((w_up_slot (by decide)).trans ((w_up_slot (by decide)).trans ((w_up_slot (by decide)).trans ((w_up_slot (by decide)).trans ((w_up_slot (by decide)).trans ((w_up_slot (by decide)).trans ((w_up_slot (by decide)).trans ((w_up_slot (by decide)).trans (hmc)))))))))) (fun r126 => ?_)
                                                    refine wa_iconst ?_
                                                    refine wa_iadd ?_
                                                    refine wb_pfi 73 rfl (wy_pr rfl) wt_73 wf_3_4 (n := 4) rfl ⟨(by omega), (by omega)⟩ ?_
                                                    refine wa_aload_n (n := 0) rfl ?_
                                                    refine wb_gf4 73 rfl (wy_pr rfl) wt_73 wf_3_1 (v := 86) wl_73_1 ?_
                                                    refine wa_iconst ?_
                                                    refine wb_aald5 86 3 rfl rfl (wy_pr rfl) wt_86 (by rw [show _ = _ from ((w_up_slot (by decide)).trans ((w_up_slot (by decide)).trans ((w_up_slot (by decide)).trans ((w_up_slot (by decide)).trans ((w_up_slot (by decide)).trans ((w_up_slot (by decide)).trans ((w_up_slot (by decide)).trans ((w_up_slot (by decide)).trans ((w_up_slot (by decide)).trans ((w_up_slot (by decide)).trans ((cl_86 hC))))))))))))]; omega) wl_86_3 ?_
                                                    refine wa_aload_n (n := 0) rfl ?_
                                                    refine wb_gfi 73 rfl (wy_pr rfl) wt_73 wf_3_2 (v := (kc + 1)) ((w_up_at (by decide)).trans ((w_up_slot (by decide)).trans ((w_up_slot (by decide)).trans ((w_up_slot (by decide)).trans ((w_up_slot (by decide)).trans ((w_up_slot (by decide)).trans ((w_up_slot (by decide)).trans ((w_up_slot (by decide)).trans ((w_up_slot (by decide)).trans ((w_up_slot (by decide)).trans (hkc1))))))))))) (fun r127 => ?_)
                                                    refine wa_iconst ?_
                                                    refine wa_isub ?_
                                                    rw [show (((kc + 1) - 1) : Int) = kc by omega]
                                                    refine wa_dup2 (by decide) (by decide) ?_
                                                    refine wb_iald 90 rfl (wy_pr rfl) wt_90 (n := 60) ((w_up_slot (by decide)).trans ((w_up_slot (by decide)).trans ((w_up_slot (by decide)).trans ((w_up_slot (by decide)).trans ((w_up_slot (by decide)).trans ((w_up_slot (by decide)).trans ((w_up_slot (by decide)).trans ((w_up_slot (by decide)).trans ((w_up_slot (by decide)).trans ((w_up_slot (by decide)).trans ((cl_90 hC)))))))))))) (by omega) (by omega) (v := ((ms.length : Int) - (fi : Int))) ((w_up_slot (by decide)).trans ((w_up_slot (by decide)).trans ((w_up_slot (by decide)).trans ((w_up_slot (by decide)).trans ((w_up_slot (by decide)).trans ((w_up_slot (by decide)).trans ((w_up_slot (by decide)).trans ((w_up_slot (by decide)).trans ((w_up_slot (by decide)).trans ((w_up_slot (by decide)).trans (ht3))))))))))) (fun r128 => ?_)
                                                    refine wa_iconst ?_
                                                    refine wa_iadd ?_
                                                    refine wb_iast 90 rfl (wy_pr rfl) wt_90 (n := 60) ((w_up_slot (by decide)).trans ((w_up_slot (by decide)).trans ((w_up_slot (by decide)).trans ((w_up_slot (by decide)).trans ((w_up_slot (by decide)).trans ((w_up_slot (by decide)).trans ((w_up_slot (by decide)).trans ((w_up_slot (by decide)).trans ((w_up_slot (by decide)).trans ((w_up_slot (by decide)).trans ((cl_90 hC)))))))))))) (by omega) (by omega) ⟨(by omega), (by omega)⟩ ?_
                                                    refine wa_return rfl ?_
                                                    show wJ _ _ _ _ _ _ _ _ _ _
                                                    refine wa_return rfl ?_
                                                    show wJ _ _ _ _ _ _ _ _ _ _
                                                    refine wa_fall ⟨_, rfl⟩ ?_
                                                    refine wa_aload_n (n := 0) rfl ?_
                                                    refine wb_gf5 61 rfl (wy_pr rfl) wt_61 wf_4_1 (v := 73) ((w_up_slot (by decide)).trans ((w_up_slot (by decide)).trans ((w_up_slot (by decide)).trans ((w_up_slot (by decide)).trans ((w_up_slot (by decide)).trans ((w_up_slot (by decide)).trans ((w_up_slot (by decide)).trans ((w_up_slot (by decide)).trans ((w_up_slot (by decide)).trans ((w_up_slot (by decide)).trans ((w_up_slot (by decide)).trans (hH)))))))))))) (fun r129 => ?_)
                                                    refine wb_gf4 73 rfl (wy_pr rfl) wt_73 wf_3_3 (v := 96) wl_73_3 ?_
                                                    refine wa_iconst ?_
                                                    refine wb_aald5 96 2 rfl rfl (wy_pr rfl) wt_96 (by rw [show _ = _ from ((w_up_slot (by decide)).trans ((w_up_slot (by decide)).trans ((w_up_slot (by decide)).trans ((w_up_slot (by decide)).trans ((w_up_slot (by decide)).trans ((w_up_slot (by decide)).trans ((w_up_slot (by decide)).trans ((w_up_slot (by decide)).trans ((w_up_slot (by decide)).trans ((w_up_slot (by decide)).trans ((w_up_slot (by decide)).trans ((cl_96 hC)))))))))))))]; omega) wl_96_2 ?_
                                                    refine wa_aload_n (n := 0) rfl ?_
                                                    refine wb_gf5 61 rfl (wy_pr rfl) wt_61 wf_4_1 (v := 73) ((w_up_slot (by decide)).trans ((w_up_slot (by decide)).trans ((w_up_slot (by decide)).trans ((w_up_slot (by decide)).trans ((w_up_slot (by decide)).trans ((w_up_slot (by decide)).trans ((w_up_slot (by decide)).trans ((w_up_slot (by decide)).trans ((w_up_slot (by decide)).trans ((w_up_slot (by decide)).trans ((w_up_slot (by decide)).trans (hH)))))))))))) (fun r130 => ?_)
                                                    refine wb_gfi 73 rfl (wy_pr rfl) wt_73 wf_3_4 (v := ((ms.length : Int) + 1)) ((w_up_slot (by decide)).trans (w_up_same _ _ _ _)) (fun r131 => ?_)
                                                    refine wa_iconst ?_
                                                    refine wa_isub ?_
                                                    rw [show ((((ms.length : Int) + 1) - 1) : Int) = (ms.length : Int) by omega]
                                                    refine wa_iload_n (n := 2) rfl ?_
                                                    refine wa_ifeq (w_rg0 (by omega) (by omega)) ⟨_, rfl⟩ (fun c132 => ?_) (fun c132 => ?_)
                                                    · skip
                                                      refine wa_iconst ?_
                                                      refine wa_fall ⟨_, rfl⟩ ?_
                                                      refine wb_iast 99 rfl (wy_pr rfl) wt_99 (n := 400) ((w_up_slot (by decide)).trans ((w_up_slot (by decide)).trans ((w_up_slot (by decide)).trans ((w_up_slot (by decide)).trans ((w_up_slot (by decide)).trans ((w_up_slot (by decide)).trans ((w_up_slot (by decide)).trans ((w_up_slot (by decide)).trans ((w_up_slot (by decide)).trans ((w_up_slot (by decide)).trans ((w_up_slot (by decide)).trans ((cl_99 hC))))))))))))) (by omega) (by omega) ⟨(by omega), (by omega)⟩ ?_
                                                      refine wa_return rfl ?_
                                                      show wJ _ _ _ _ _ _ _ _ _ _
                                                      refine wa_aload_n (n := 0) rfl ?_
                                                      refine wb_gf5 61 rfl (wy_pr rfl) wt_61 wf_4_1 (v := 73) ((w_up_slot (by decide)).trans ((w_up_slot (by decide)).trans ((w_up_slot (by decide)).trans ((w_up_slot (by decide)).trans ((w_up_slot (by decide)).trans ((w_up_slot (by decide)).trans ((w_up_slot (by decide)).trans ((w_up_slot (by decide)).trans ((w_up_slot (by decide)).trans ((w_up_slot (by decide)).trans ((w_up_slot (by decide)).trans ((w_up_slot (by decide)).trans (hH))))))))))))) (fun r133 => ?_)
                                                      refine wb_gfi 73 rfl (wy_pr rfl) wt_73 wf_3_4 (v := ((ms.length : Int) + 1)) ((w_up_slot (by decide)).trans ((w_up_slot (by decide)).trans (w_up_same _ _ _ _))) (fun r134 => ?_)
                                                      refine wa_iconst ?_
                                                      refine wa_isub ?_
                                                      rw [show ((((ms.length : Int) + 1) - 1) : Int) = (ms.length : Int) by omega]
                                                      refine wa_istore (n := 5) rfl ?_
                                                      refine wa_aload_n (n := 0) rfl ?_
                                                      refine wb_gf5 61 rfl (wy_pr rfl) wt_61 wf_4_1 (v := 73) ((w_up_slot (by decide)).trans ((w_up_slot (by decide)).trans ((w_up_slot (by decide)).trans ((w_up_slot (by decide)).trans ((w_up_slot (by decide)).trans ((w_up_slot (by decide)).trans ((w_up_slot (by decide)).trans ((w_up_slot (by decide)).trans ((w_up_slot (by decide)).trans ((w_up_slot (by decide)).trans ((w_up_slot (by decide)).trans ((w_up_slot (by decide)).trans (hH))))))))))))) (fun r135 => ?_)
                                                      refine wb_gf4 73 rfl (wy_pr rfl) wt_73 wf_3_3 (v := 96) wl_73_3 ?_
                                                      refine wa_iconst ?_
                                                      refine wb_aald5 96 1 rfl rfl (wy_pr rfl) wt_96 (by rw [show _ = _ from ((w_up_slot (by decide)).trans ((w_up_slot (by decide)).trans ((w_up_slot (by decide)).trans ((w_up_slot (by decide)).trans ((w_up_slot (by decide)).trans ((w_up_slot (by decide)).trans ((w_up_slot (by decide)).trans ((w_up_slot (by decide)).trans ((w_up_slot (by decide)).trans ((w_up_slot (by decide)).trans ((w_up_slot (by decide)).trans ((w_up_slot (by decide)).trans ((cl_96 hC))))))))))))))]; omega) wl_96_1 ?_
                                                      refine wa_iload (n := 5) rfl ?_
                                                      refine wb_iald 98 rfl (wy_pr rfl) wt_98 (n := 400) ((w_up_slot (by decide)).trans ((w_up_slot (by decide)).trans ((w_up_slot (by decide)).trans ((w_up_slot (by decide)).trans ((w_up_slot (by decide)).trans ((w_up_slot (by decide)).trans ((w_up_slot (by decide)).trans ((w_up_slot (by decide)).trans ((w_up_at (by omega)).trans ((w_up_slot (by decide)).trans ((w_up_slot (by decide)).trans ((w_up_slot (by decide)).trans ((cl_98 hC)))))))))))))) (by omega) (by omega) (v := 0) ((w_up_slot (by decide)).trans ((w_up_slot (by decide)).trans ((w_up_slot (by decide)).trans ((w_up_slot (by decide)).trans ((w_up_slot (by decide)).trans ((w_up_slot (by decide)).trans ((w_up_slot (by decide)).trans ((w_up_slot (by decide)).trans (w_up_same _ _ _ _))))))))) (fun r136 => ?_)
                                                      refine wa_ifeq (w_rg0 (by omega) (by omega)) ⟨_, rfl⟩ (fun c137 => ?_) (fun c137 => ?_)
                                                      · skip
                                                        skip
                                                        sorry
                                                      · skip
                                                        exact absurd c137 (by omega)
                                                    · skip
                                                      exact absurd c132 (by omega)
                                                · skip
                                                  refine wa_aload_n (n := 0) rfl ?_
                                                  refine wa_bipush (w_rg2 (by omega) (by omega)) ?_
                                                  refine wa_cv 61 rfl (wy_pr rfl) wt_61 (M2 := fun _ => False) rfl at_XT_refuse ⟨_, rfl⟩ rfl rfl ⟨trivial, trivial, (Or.inr ⟨wy_pr rfl, fun q => q⟩), trivial, trivial, trivial⟩ trivial (fun _ _ q => False.elim q) (rf_c (S := (w_up S 14 4 ((i + 1 : Nat) : Int))) (k := 6) (p := (tp T n 1 (i + 1))) (i := ((i + 1 : Nat) : Int)) (gI_up hI (by omega) (by omega) (by omega)) (w_up_same _ _ _ _) ((w_up_slot (by decide)).trans (h16_1)) ⟨by omega, by have e : (w_up S 14 4 ((i + 1 : Nat) : Int)) 16 (-1) = S 16 (-1) := (w_up_slot (by decide)); omega⟩ ⟨by omega, by omega⟩ ⟨by omega, by omega⟩) (fun oq139 Sq139 hp140 q139 => ?_)
                                                  rcases q139 with ⟨v, rfl, rz138⟩
                                                  have hrz := rz138
                                                  have hkind : (6 : Int) = 6 := rfl
                                                  refine ⟨rfl, ?_⟩
                                                  refine ⟨rfl, ?_⟩
                                                  refine ⟨rfl, ?_⟩
                                                  have hn := lx_w_k (k := 12) hB hW hrw (by decide) hwc.1 hnt0
                                                  rw [show hwl 12 = tx_25 from rfl] at hn
                                                  have z1 : zq B (tp T n 1 i) 237 6 = 1 := by rw [zT_6 hB]; exact hnt0.1
                                                  have hs := lx_w_k (k := 11) hB hW hrw (by decide) hwc.1 hnt0
                                                  rw [show hwl 11 = tx_23 from rfl] at hs
                                                  have hrm0 : rm_L B 241 kc itf (ms.drop fi) ms.length (tp T n 1 i) = rb_L B 241 kc itf (ms.drop fi) ms.length (tp T n 1 i) 0 := rm_o (fun z => absurd (hs.1 z) (by omega))
                                                  have hyh := ty_hy (av := 1) hyy0 (Or.inr (by decide))
                                                  rw [tp_ne (i := i) hB] at hyh
                                                  have hrm1 : rm_L B 241 kc itf (ms.drop fi) ms.length (tp T n 1 i) = rb_name B 241 itf (ms.drop fi) y (tp T n 1 (i + 1)) 0 := hrm0.trans (rb_t z1 (fun z => absurd (hn.1 z) (by omega)) hyh.2.2.1 (by omega) hyh.1)
                                                  have z2 : zq B (tp T n 1 (i + 1)) 237 6 = 1 := by rw [zT_6 hB]; exact hnt1.1
                                                  have hoo := oo_21 hB hW hrw hwc.1 hnt1
                                                  have h59 := lx_is_kg (i := i + 1 + 1) hB (k := 17) (ch := 59) (by decide) sk_17
                                                  have h40 := lx_is_kg (i := i + 1 + 1) hB (k := 10) (ch := 40) (by decide) sk_10
                                                  have hrm2 := rn_f (b := 241) (itf := itf) (rs := ms.drop fi) (t := y) (st := 0) z2 (fun z => absurd (hoo.1 z) (by omega)) (by rw [tp_ne (i := i + 1) hB]; exact fun z => absurd (h40.1 z) (by omega)) (by rw [tp_ne (i := i + 1) hB]; exact ⟨h59.2 (by omega), by omega⟩)
                                                  rw [hBT, zT_8 hB] at hrm2
                                                  have hr : rm_L B 241 kc itf (ms.drop fi) ms.length (tp T n 1 i) = .inl (6, (tp T n 1 (i + 1))) := hrm1.trans (hrm2.trans (by rw [if_neg (by rw [hdf]; decide), if_neg (by omega)]))
                                                  exact hf 6 _ v _ _ (by rw [mb_f_s, if_neg (fun z => absurd (h125.1 z) (by omega)), hr]) (fun j x a1 a2 a3 a4 => (w_up_no (by omega)).trans (rfl)) hrz
                                            · skip
                                              exact absurd c117 (by omega)
                                · skip
                                  refine wa_aload_n (n := 0) rfl ?_
                                  refine wa_iconst ?_
                                  refine wa_cv 61 rfl (wy_pr rfl) wt_61 (M2 := fun _ => False) rfl at_XT_refuse ⟨_, rfl⟩ rfl rfl ⟨trivial, (Or.inr ⟨wy_pr rfl, fun q => q⟩), trivial, trivial, trivial⟩ trivial (fun _ _ q => False.elim q) (rf_c (S := (w_up S 14 4 ((i + 1 : Nat) : Int))) (k := 2) (p := (tp T n 1 (i + 1))) (i := ((i + 1 : Nat) : Int)) (gI_up hI (by omega) (by omega) (by omega)) (w_up_same _ _ _ _) ((w_up_slot (by decide)).trans (h16_1)) ⟨by omega, by have e : (w_up S 14 4 ((i + 1 : Nat) : Int)) 16 (-1) = S 16 (-1) := (w_up_slot (by decide)); omega⟩ ⟨by omega, by omega⟩ ⟨by omega, by omega⟩) (fun oq142 Sq142 hp143 q142 => ?_)
                                  rcases q142 with ⟨v, rfl, rz141⟩
                                  have hrz := rz141
                                  have hkind : (2 : Int) = 2 := rfl
                                  refine ⟨rfl, ?_⟩
                                  refine ⟨rfl, ?_⟩
                                  refine ⟨rfl, ?_⟩
                                  have hn := lx_w_k (k := 12) hB hW hrw (by decide) hwc.1 hnt0
                                  rw [show hwl 12 = tx_25 from rfl] at hn
                                  have z1 : zq B (tp T n 1 i) 237 6 = 1 := by rw [zT_6 hB]; exact hnt0.1
                                  have hs := lx_w_k (k := 11) hB hW hrw (by decide) hwc.1 hnt0
                                  rw [show hwl 11 = tx_23 from rfl] at hs
                                  have hrm0 : rm_L B 241 kc itf (ms.drop fi) ms.length (tp T n 1 i) = rb_L B 241 kc itf (ms.drop fi) ms.length (tp T n 1 i) 0 := rm_o (fun z => absurd (hs.1 z) (by omega))
                                  have hyh := ty_hy (av := 1) hyy0 (Or.inr (by decide))
                                  rw [tp_ne (i := i) hB] at hyh
                                  have hrm1 : rm_L B 241 kc itf (ms.drop fi) ms.length (tp T n 1 i) = rb_name B 241 itf (ms.drop fi) y (tp T n 1 (i + 1)) 0 := hrm0.trans (rb_t z1 (fun z => absurd (hn.1 z) (by omega)) hyh.2.2.1 (by omega) hyh.1)
                                  have z2 : zq B (tp T n 1 (i + 1)) 237 6 = 1 := by rw [zT_6 hB]; exact hnt1.1
                                  have hoo := oo_21 hB hW hrw hwc.1 hnt1
                                  have hr : rm_L B 241 kc itf (ms.drop fi) ms.length (tp T n 1 i) = .inl (2, (tp T n 1 (i + 1))) := hrm1.trans (rn_2 z2 (hoo.2 (by omega)))
                                  exact hf 2 _ v _ _ (by rw [mb_f_s, if_neg (fun z => absurd (h125.1 z) (by omega)), hr]) (fun j x a1 a2 a3 a4 => (w_up_no (by omega)).trans (rfl)) hrz
                              · skip
                                have hkg := hw29
                                refine ⟨rfl, ?_⟩
                                refine ⟨rfl, ?_⟩
                                refine ⟨rfl, ?_⟩
                                have hn := lx_w_k (k := 12) hB hW hrw (by decide) hwc.1 hnt0
                                rw [show hwl 12 = tx_25 from rfl] at hn
                                have z1 : zq B (tp T n 1 i) 237 6 = 1 := by rw [zT_6 hB]; exact hnt0.1
                                have hs := lx_w_k (k := 11) hB hW hrw (by decide) hwc.1 hnt0
                                rw [show hwl 11 = tx_23 from rfl] at hs
                                have hrm0 : rm_L B 241 kc itf (ms.drop fi) ms.length (tp T n 1 i) = rb_L B 241 kc itf (ms.drop fi) ms.length (tp T n 1 i) 0 := rm_o (fun z => absurd (hs.1 z) (by omega))
                                have hyh := ty_hy (av := 1) hyy0 (Or.inr (by decide))
                                rw [tp_ne (i := i) hB] at hyh
                                have hrm1 : rm_L B 241 kc itf (ms.drop fi) ms.length (tp T n 1 i) = rb_name B 241 itf (ms.drop fi) y (tp T n 1 (i + 1)) 0 := hrm0.trans (rb_t z1 (fun z => absurd (hn.1 z) (by omega)) hyh.2.2.1 (by omega) hyh.1)
                                have z2 : zq B (tp T n 1 (i + 1)) 237 6 ≠ 1 := by rw [zT_6 hB]; exact fun z => hkg ((kg_5 T n _).2 z)
                                have hr : rm_L B 241 kc itf (ms.drop fi) ms.length (tp T n 1 i) = .inl (1, (tp T n 1 (i + 1))) := hrm1.trans (rn_1 z2)
                                exact hf 1 _ v _ _ (by rw [mb_f_s, if_neg (fun z => absurd (h125.1 z) (by omega)), hr]) (fun j x a1 a2 a3 a4 => (w_up_no (by omega)).trans (rfl)) hrz
                            · skip
                              exact absurd c28 (by omega)
                          · skip
                            exact absurd c25 (by omega)
                        · skip
                          refine wa_aload_n (n := 0) rfl ?_
                          refine wa_iconst ?_
                          refine wa_cv 61 rfl (wy_pr rfl) wt_61 (M2 := fun _ => False) rfl at_XT_refuse ⟨_, rfl⟩ rfl rfl ⟨trivial, trivial, trivial, (Or.inr ⟨wy_pr rfl, fun q => q⟩), trivial, trivial⟩ trivial (fun _ _ q => False.elim q) (rf_c (S := S) (k := 5) (p := (tp T n 1 i)) (i := (i : Int)) hI (hpos4) (h16_0) ⟨by omega, by have e : S 16 (-1) = S 16 (-1) := rfl; omega⟩ ⟨by omega, by omega⟩ ⟨by omega, by omega⟩) (fun oq145 Sq145 hp146 q145 => ?_)
                          rcases q145 with ⟨v, rfl, rz144⟩
                          have hrz := rz144
                          have hkind : (5 : Int) = 5 := rfl
                          refine ⟨rfl, ?_⟩
                          refine ⟨rfl, ?_⟩
                          have hn := lx_w_k (k := 12) hB hW hrw (by decide) hwc.1 hnt0
                          rw [show hwl 12 = tx_25 from rfl] at hn
                          have z1 : zq B (tp T n 1 i) 237 6 = 1 := by rw [zT_6 hB]; exact hnt0.1
                          have hs := lx_w_k (k := 11) hB hW hrw (by decide) hwc.1 hnt0
                          rw [show hwl 11 = tx_23 from rfl] at hs
                          have hrm0 : rm_L B 241 kc itf (ms.drop fi) ms.length (tp T n 1 i) = rb_L B 241 kc itf (ms.drop fi) ms.length (tp T n 1 i) 0 := rm_o (fun z => absurd (hs.1 z) (by omega))
                          have hkk : lx_w (zq B (tp T n 1 i)) tx_25 = true ∨ (0 ≤ pl_of (zq B (tp T n 1 i)) tx_27 ∨ 0 ≤ ch_of (zq B (tp T n 1 i)) 241) := by first | exact Or.inl (hn.2 (by omega)) | exact Or.inr (ty_hy (av := 1) hyy0 (Or.inr (by decide))).2.2.1
                          have hr : rm_L B 241 kc itf (ms.drop fi) ms.length (tp T n 1 i) = .inl (5, (tp T n 1 i)) := hrm0.trans (rb_5 z1 (fun z => by have := hn.1 z.2; omega) hkk (by omega))
                          exact hf 5 _ v _ _ (by rw [mb_f_s, if_neg (fun z => absurd (h125.1 z) (by omega)), hr]) (fun j x a1 a2 a3 a4 => rfl) hrz
                      · skip
                        have hyy := hy19
                        refine ⟨rfl, ?_⟩
                        refine ⟨rfl, ?_⟩
                        have hn := lx_w_k (k := 12) hB hW hrw (by decide) hwc.1 hnt0
                        rw [show hwl 12 = tx_25 from rfl] at hn
                        have z1 : zq B (tp T n 1 i) 237 6 = 1 := by rw [zT_6 hB]; exact hnt0.1
                        have hs := lx_w_k (k := 11) hB hW hrw (by decide) hwc.1 hnt0
                        rw [show hwl 11 = tx_23 from rfl] at hs
                        have hrm0 : rm_L B 241 kc itf (ms.drop fi) ms.length (tp T n 1 i) = rb_L B 241 kc itf (ms.drop fi) ms.length (tp T n 1 i) 0 := rm_o (fun z => absurd (hs.1 z) (by omega))
                        rcases ty_in hyy with ⟨rfl, q1⟩ | ⟨rfl, q1, q2⟩
                        · exact absurd z1 q1
                        have hr : rm_L B 241 kc itf (ms.drop fi) ms.length (tp T n 1 i) = .inl (3, (tp T n 1 i)) := hrm0.trans (rb_3 z1 (fun z => absurd (hn.1 z) (by omega)) q2)
                        exact hf 3 _ v _ _ (by rw [mb_f_s, if_neg (fun z => absurd (h125.1 z) (by omega)), hr]) (fun j x a1 a2 a3 a4 => rfl) hrz
                    · skip
                      exact absurd c18 (by omega)
                  · skip
                    exact absurd c17 (by omega)
                · skip
                  refine wa_iconst ?_
                  refine wa_goto ⟨_, rfl⟩ ?_
                  refine wa_istore_n (n := 3) rfl ?_
                  refine wa_iload_n (n := 3) rfl ?_
                  refine wa_ifeq (w_rg0 (by omega) (by omega)) ⟨_, rfl⟩ (fun c147 => ?_) (fun c147 => ?_)
                  · skip
                    exact absurd c147 (by omega)
                  · skip
                    refine wa_iload_n (n := 2) rfl ?_
                    refine wa_ifeq (w_rg0 (by omega) (by omega)) ⟨_, rfl⟩ (fun c148 => ?_) (fun c148 => ?_)
                    · skip
                      refine wa_iload_n (n := 3) rfl ?_
                      refine wa_ifeq (w_rg0 (by omega) (by omega)) ⟨_, rfl⟩ (fun c149 => ?_) (fun c149 => ?_)
                      · skip
                        exact absurd c149 (by omega)
                      · skip
                        refine wa_bipush (w_rg2 (by omega) (by omega)) ?_
                        refine wa_aload_n (n := 0) rfl ?_
                        refine wb_gf5 61 rfl (wy_pr rfl) wt_61 wf_4_1 (v := 73) (hH) (fun r150 => ?_)
                        refine wb_gfi 73 rfl (wy_pr rfl) wt_73 wf_3_2 (v := (kc + 1)) (hkc1) (fun r151 => ?_)
                        refine wa_iadd ?_
                        refine wa_iconst ?_
                        refine wa_isub ?_
                        rw [show (((9 + (kc + 1)) - 1) : Int) = (9 + kc) by omega]
                        refine wa_goto ⟨_, rfl⟩ ?_
                        refine wa_istore (n := 4) rfl ?_
                        refine wa_aload_n (n := 0) rfl ?_
                        refine wb_gf5 61 rfl (wy_pr rfl) wt_61 wf_4_1 (v := 73) (hH) (fun r152 => ?_)
                        refine wb_gfi 73 rfl (wy_pr rfl) wt_73 wf_3_4 (v := (ms.length : Int)) (hmc) (fun r153 => ?_)
                        refine wa_sipush (by omega) ?_
                        refine wa_icmpne (w_rg0 (by omega) (by omega)) (w_rg0 (by omega) (by omega)) ⟨_, rfl⟩ (fun c154 => ?_) (fun c154 => ?_)
                        · skip
                          refine wa_iload_n (n := 3) rfl ?_
                          refine wa_ifeq (w_rg0 (by omega) (by omega)) ⟨_, rfl⟩ (fun c155 => ?_) (fun c155 => ?_)
                          · skip
                            exact absurd c155 (by omega)
                          · skip
                            refine wa_iload_n (n := 1) rfl ?_
                            refine wa_ifeq (w_rg0 (by omega) (by omega)) ⟨_, rfl⟩ (fun c156 => ?_) (fun c156 => ?_)
                            · skip
                              refine wa_aload_n (n := 0) rfl ?_
                              refine wb_gf4 61 rfl (wy_pr rfl) wt_61 wf_4_0 (v := 14) wl_61_0 ?_
                              refine wa_cv 14 rfl (wy_pr rfl) wt_14 (M2 := fun _ => False) rfl at_XR_next ⟨_, rfl⟩ rfl rfl ⟨trivial, trivial, trivial, (Or.inr ⟨wy_pr rfl, fun q => q⟩), trivial, trivial⟩ trivial (fun _ _ q => False.elim q) (nx_c (S := S) (hx_T hx) (show cx_P T n c (i) S from ⟨(hpos4), hg0⟩) rfl hI (by omega)) (fun oq157 Sq157 hp158 q157 => ?_)
                              rcases q157 with ⟨rfl, rfl⟩
                              show wJ _ _ _ _ _ _ _ _ _ _
                              have hg1 : pg T n c (i + 1) := pg_next hT hg0 (by omega) (by omega)
                              have hA1 := pg_at hT hg1
                              have h16_1 := hA1.1
                              have h15_1 := hA1.2.1
                              have hpr1 := hA1.2.2
                              have hkr1 := kg_rg T n (tp T n 1 (i + 1))
                              have hic1 := hg1.1
                              have hlt1 := tp_lt hT hg0 (by omega) (by omega)
                              refine wa_iload_n (n := 3) rfl ?_
                              refine wa_ifeq (w_rg0 (by omega) (by omega)) ⟨_, rfl⟩ (fun c159 => ?_) (fun c159 => ?_)
                              · skip
                                exact absurd c159 (by omega)
                              · skip
                                refine wa_aload_n (n := 0) rfl ?_
                                refine wb_gf5 61 rfl (wy_pr rfl) wt_61 wf_4_1 (v := 73) ((w_up_slot (by decide)).trans (hH)) (fun r160 => ?_)
                                refine wa_iconst ?_
                                refine wa_iload (n := 4) rfl ?_
                                refine wa_bipush (w_rg2 (by omega) (by omega)) ?_
                                refine wa_cv 73 rfl (wy_pr rfl) wt_73 (M2 := fun _ => False) rfl at_XO_addMember ⟨_, rfl⟩ rfl rfl ⟨trivial, trivial, trivial, (Or.inr ⟨wy_pr rfl, fun q => q⟩), trivial, trivial⟩ trivial (fun _ _ q => False.elim q) ?_ (fun _ _ _ q => q)
                                refine wa_aload_n (n := 0) rfl ?_
                                refine wb_gfi 73 rfl (wy_pr rfl) wt_73 wf_3_4 (v := (ms.length : Int)) ((w_up_slot (by decide)).trans (hmc)) (fun r161 => ?_)
                                refine wa_istore (n := 4) rfl ?_
                                refine wa_aload_n (n := 0) rfl ?_
                                refine wb_gf4 73 rfl (wy_pr rfl) wt_73 wf_3_3 (v := 96) wl_73_3 ?_
                                refine wa_iconst ?_
                                refine wb_aald5 96 0 rfl rfl (wy_pr rfl) wt_96 (by rw [show _ = _ from ((w_up_slot (by decide)).trans ((cl_96 hC)))]; omega) wl_96_0 ?_
                                refine wa_iload (n := 4) rfl ?_
                                refine wa_aload_n (n := 0) rfl ?_
                                refine wb_gfi 73 rfl (wy_pr rfl) wt_73 wf_3_2 (v := (kc + 1)) ((w_up_slot (by decide)).trans (hkc1)) (fun r162 => ?_)
                                refine wa_iconst ?_
                                refine wa_isub ?_
                                rw [show (((kc + 1) - 1) : Int) = kc by omega]
                                refine wb_iast 97 rfl (wy_pr rfl) wt_97 (n := 400) ((w_up_slot (by decide)).trans ((cl_97 hC))) (by omega) (by omega) ⟨(by omega), (by omega)⟩ ?_
                                refine wa_aload_n (n := 0) rfl ?_
                                refine wb_gf4 73 rfl (wy_pr rfl) wt_73 wf_3_3 (v := 96) wl_73_3 ?_
                                refine wa_iconst ?_
                                refine wb_aald5 96 1 rfl rfl (wy_pr rfl) wt_96 (by rw [show _ = _ from ((w_up_slot (by decide)).trans ((w_up_slot (by decide)).trans ((cl_96 hC))))]; omega) wl_96_1 ?_
                                refine wa_iload (n := 4) rfl ?_
                                refine wa_iload_n (n := 1) rfl ?_
                                refine wb_iast 98 rfl (wy_pr rfl) wt_98 (n := 400) ((w_up_slot (by decide)).trans ((w_up_slot (by decide)).trans ((cl_98 hC)))) (by omega) (by omega) ⟨(by omega), (by omega)⟩ ?_
                                refine wa_aload_n (n := 0) rfl ?_
                                refine wb_gf4 73 rfl (wy_pr rfl) wt_73 wf_3_3 (v := 96) wl_73_3 ?_
                                refine wa_iconst ?_
                                refine wb_aald5 96 3 rfl rfl (wy_pr rfl) wt_96 (by rw [show _ = _ from ((w_up_slot (by decide)).trans ((w_up_slot (by decide)).trans ((w_up_slot (by decide)).trans ((cl_96 hC)))))]; omega) wl_96_3 ?_
                                refine wa_iload (n := 4) rfl ?_
                                refine wa_iload_n (n := 2) rfl ?_
                                refine wb_iast 100 rfl (wy_pr rfl) wt_100 (n := 400) ((w_up_slot (by decide)).trans ((w_up_slot (by decide)).trans ((w_up_slot (by decide)).trans ((cl_100 hC))))) (by omega) (by omega) ⟨(by omega), (by omega)⟩ ?_
                                refine wa_aload_n (n := 0) rfl ?_
                                refine wb_gf4 73 rfl (wy_pr rfl) wt_73 wf_3_3 (v := 96) wl_73_3 ?_
                                refine wa_iconst ?_
                                refine wb_aald5 96 4 rfl rfl (wy_pr rfl) wt_96 (by rw [show _ = _ from ((w_up_slot (by decide)).trans ((w_up_slot (by decide)).trans ((w_up_slot (by decide)).trans ((w_up_slot (by decide)).trans ((cl_96 hC))))))]; omega) wl_96_4 ?_
                                refine wa_iload (n := 4) rfl ?_
                                refine wa_iconst ?_
                                refine wb_iast 101 rfl (wy_pr rfl) wt_101 (n := 400) ((w_up_slot (by decide)).trans ((w_up_slot (by decide)).trans ((w_up_slot (by decide)).trans ((w_up_slot (by decide)).trans ((cl_101 hC)))))) (by omega) (by omega) ⟨(by omega), (by omega)⟩ ?_
                                refine wa_aload_n (n := 0) rfl ?_
                                refine wb_gf4 73 rfl (wy_pr rfl) wt_73 wf_3_3 (v := 96) wl_73_3 ?_
                                refine wa_iconst ?_
                                refine wb_aald5 96 5 rfl rfl (wy_pr rfl) wt_96 (by rw [show _ = _ from ((w_up_slot (by decide)).trans ((w_up_slot (by decide)).trans ((w_up_slot (by decide)).trans ((w_up_slot (by decide)).trans ((w_up_slot (by decide)).trans ((cl_96 hC)))))))]; omega) wl_96_5 ?_
                                refine wa_iload (n := 4) rfl ?_
                                refine wa_iconst ?_
                                refine wb_iast 102 rfl (wy_pr rfl) wt_102 (n := 400) ((w_up_slot (by decide)).trans ((w_up_slot (by decide)).trans ((w_up_slot (by decide)).trans ((w_up_slot (by decide)).trans ((w_up_slot (by decide)).trans ((cl_102 hC))))))) (by omega) (by omega) ⟨(by omega), (by omega)⟩ ?_
                                refine wa_aload_n (n := 0) rfl ?_
                                refine wb_gf4 73 rfl (wy_pr rfl) wt_73 wf_3_3 (v := 96) wl_73_3 ?_
                                refine wa_bipush (w_rg2 (by omega) (by omega)) ?_
                                refine wb_aald5 96 14 rfl rfl (wy_pr rfl) wt_96 (by rw [show _ = _ from ((w_up_slot (by decide)).trans ((w_up_slot (by decide)).trans ((w_up_slot (by decide)).trans ((w_up_slot (by decide)).trans ((w_up_slot (by decide)).trans ((w_up_slot (by decide)).trans ((cl_96 hC))))))))]; omega) wl_96_14 ?_
                                refine wa_iload (n := 4) rfl ?_
                                refine wa_iload_n (n := 3) rfl ?_
                                refine wb_iast 111 rfl (wy_pr rfl) wt_111 (n := 400) ((w_up_slot (by decide)).trans ((w_up_slot (by decide)).trans ((w_up_slot (by decide)).trans ((w_up_slot (by decide)).trans ((w_up_slot (by decide)).trans ((w_up_slot (by decide)).trans ((cl_111 hC)))))))) (by omega) (by omega) ⟨(by omega), (by omega)⟩ ?_
                                refine wa_aload_n (n := 0) rfl ?_
                                refine wb_gf4 73 rfl (wy_pr rfl) wt_73 wf_3_3 (v := 96) wl_73_3 ?_
                                refine wa_bipush (w_rg2 (by omega) (by omega)) ?_
                                refine wb_aald5 96 15 rfl rfl (wy_pr rfl) wt_96 (by rw [show _ = _ from ((w_up_slot (by decide)).trans ((w_up_slot (by decide)).trans ((w_up_slot (by decide)).trans ((w_up_slot (by decide)).trans ((w_up_slot (by decide)).trans ((w_up_slot (by decide)).trans ((w_up_slot (by decide)).trans ((cl_96 hC)))))))))]; omega) wl_96_15 ?_
                                refine wa_iload (n := 4) rfl ?_
                                refine wa_iconst ?_
                                refine wb_iast 112 rfl (wy_pr rfl) wt_112 (n := 400) ((w_up_slot (by decide)).trans ((w_up_slot (by decide)).trans ((w_up_slot (by decide)).trans ((w_up_slot (by decide)).trans ((w_up_slot (by decide)).trans ((w_up_slot (by decide)).trans ((w_up_slot (by decide)).trans ((cl_112 hC))))))))) (by omega) (by omega) ⟨(by omega), (by omega)⟩ ?_
                                refine wa_aload_n (n := 0) rfl ?_
                                refine wa_dup (by decide) ?_
                                refine wb_gfi 73 rfl (wy_pr rfl) wt_73 wf_3_4 (v := (ms.length : Int)) ((w_up_slot (by decide)).trans ((w_up_slot (by decide)).trans ((w_up_slot (by decide)).trans ((w_up_slot (by decide)).trans ((w_up_slot (by decide)).trans ((w_up_slot (by decide)).trans ((w_up_slot (by decide)).trans ((w_up_slot (by decide)).trans (hmc))))))))) (fun r163 => ?_)
                                refine wa_iconst ?_
                                refine wa_iadd ?_
                                refine wb_pfi 73 rfl (wy_pr rfl) wt_73 wf_3_4 (n := 4) rfl ⟨(by omega), (by omega)⟩ ?_
                                refine wa_aload_n (n := 0) rfl ?_
                                refine wb_gf4 73 rfl (wy_pr rfl) wt_73 wf_3_1 (v := 86) wl_73_1 ?_
                                refine wa_iconst ?_
                                refine wb_aald5 86 3 rfl rfl (wy_pr rfl) wt_86 (by rw [show _ = _ from ((w_up_slot (by decide)).trans ((w_up_slot (by decide)).trans ((w_up_slot (by decide)).trans ((w_up_slot (by decide)).trans ((w_up_slot (by decide)).trans ((w_up_slot (by decide)).trans ((w_up_slot (by decide)).trans ((w_up_slot (by decide)).trans ((w_up_slot (by decide)).trans ((cl_86 hC)))))))))))]; omega) wl_86_3 ?_
                                refine wa_aload_n (n := 0) rfl ?_
                                refine wb_gfi 73 rfl (wy_pr rfl) wt_73 wf_3_2 (v := (kc + 1)) ((w_up_at (by decide)).trans ((w_up_slot (by decide)).trans ((w_up_slot (by decide)).trans ((w_up_slot (by decide)).trans ((w_up_slot (by decide)).trans ((w_up_slot (by decide)).trans ((w_up_slot (by decide)).trans ((w_up_slot (by decide)).trans ((w_up_slot (by decide)).trans (hkc1)))))))))) (fun r164 => ?_)
                                refine wa_iconst ?_
                                refine wa_isub ?_
                                rw [show (((kc + 1) - 1) : Int) = kc by omega]
                                refine wa_dup2 (by decide) (by decide) ?_
                                refine wb_iald 90 rfl (wy_pr rfl) wt_90 (n := 60) ((w_up_slot (by decide)).trans ((w_up_slot (by decide)).trans ((w_up_slot (by decide)).trans ((w_up_slot (by decide)).trans ((w_up_slot (by decide)).trans ((w_up_slot (by decide)).trans ((w_up_slot (by decide)).trans ((w_up_slot (by decide)).trans ((w_up_slot (by decide)).trans ((cl_90 hC))))))))))) (by omega) (by omega) (v := ((ms.length : Int) - (fi : Int))) ((w_up_slot (by decide)).trans ((w_up_slot (by decide)).trans ((w_up_slot (by decide)).trans ((w_up_slot (by decide)).trans ((w_up_slot (by decide)).trans ((w_up_slot (by decide)).trans ((w_up_slot (by decide)).trans ((w_up_slot (by decide)).trans ((w_up_slot (by decide)).trans (ht3)))))))))) (fun r165 => ?_)
                                refine wa_iconst ?_
                                refine wa_iadd ?_
                                refine wb_iast 90 rfl (wy_pr rfl) wt_90 (n := 60) ((w_up_slot (by decide)).trans ((w_up_slot (by decide)).trans ((w_up_slot (by decide)).trans ((w_up_slot (by decide)).trans ((w_up_slot (by decide)).trans ((w_up_slot (by decide)).trans ((w_up_slot (by decide)).trans ((w_up_slot (by decide)).trans ((w_up_slot (by decide)).trans ((cl_90 hC))))))))))) (by omega) (by omega) ⟨(by omega), (by omega)⟩ ?_
                                refine wa_return rfl ?_
                                show wJ _ _ _ _ _ _ _ _ _ _
                                refine wa_goto ⟨_, rfl⟩ ?_
                                refine wa_aload_n (n := 0) rfl ?_
                                refine wb_gf5 61 rfl (wy_pr rfl) wt_61 wf_4_1 (v := 73) ((w_up_slot (by decide)).trans ((w_up_slot (by decide)).trans ((w_up_slot (by decide)).trans ((w_up_slot (by decide)).trans ((w_up_slot (by decide)).trans ((w_up_slot (by decide)).trans ((w_up_slot (by decide)).trans ((w_up_slot (by decide)).trans ((w_up_slot (by decide)).trans ((w_up_slot (by decide)).trans (hH))))))))))) (fun r166 => ?_)
                                refine wb_gf4 73 rfl (wy_pr rfl) wt_73 wf_3_3 (v := 96) wl_73_3 ?_
                                refine wa_iconst ?_
                                refine wb_aald5 96 2 rfl rfl (wy_pr rfl) wt_96 (by rw [show _ = _ from ((w_up_slot (by decide)).trans ((w_up_slot (by decide)).trans ((w_up_slot (by decide)).trans ((w_up_slot (by decide)).trans ((w_up_slot (by decide)).trans ((w_up_slot (by decide)).trans ((w_up_slot (by decide)).trans ((w_up_slot (by decide)).trans ((w_up_slot (by decide)).trans ((w_up_slot (by decide)).trans ((cl_96 hC))))))))))))]; omega) wl_96_2 ?_
                                refine wa_aload_n (n := 0) rfl ?_
                                refine wb_gf5 61 rfl (wy_pr rfl) wt_61 wf_4_1 (v := 73) ((w_up_slot (by decide)).trans ((w_up_slot (by decide)).trans ((w_up_slot (by decide)).trans ((w_up_slot (by decide)).trans ((w_up_slot (by decide)).trans ((w_up_slot (by decide)).trans ((w_up_slot (by decide)).trans ((w_up_slot (by decide)).trans ((w_up_slot (by decide)).trans ((w_up_slot (by decide)).trans (hH))))))))))) (fun r167 => ?_)
                                refine wb_gfi 73 rfl (wy_pr rfl) wt_73 wf_3_4 (v := ((ms.length : Int) + 1)) ((w_up_slot (by decide)).trans (w_up_same _ _ _ _)) (fun r168 => ?_)
                                refine wa_iconst ?_
                                refine wa_isub ?_
                                rw [show ((((ms.length : Int) + 1) - 1) : Int) = (ms.length : Int) by omega]
                                refine wa_iload_n (n := 2) rfl ?_
                                refine wa_ifeq (w_rg0 (by omega) (by omega)) ⟨_, rfl⟩ (fun c169 => ?_) (fun c169 => ?_)
                                · skip
                                  refine wa_iconst ?_
                                  refine wa_fall ⟨_, rfl⟩ ?_
                                  refine wb_iast 99 rfl (wy_pr rfl) wt_99 (n := 400) ((w_up_slot (by decide)).trans ((w_up_slot (by decide)).trans ((w_up_slot (by decide)).trans ((w_up_slot (by decide)).trans ((w_up_slot (by decide)).trans ((w_up_slot (by decide)).trans ((w_up_slot (by decide)).trans ((w_up_slot (by decide)).trans ((w_up_slot (by decide)).trans ((w_up_slot (by decide)).trans ((cl_99 hC)))))))))))) (by omega) (by omega) ⟨(by omega), (by omega)⟩ ?_
                                  refine wa_return rfl ?_
                                  show wJ _ _ _ _ _ _ _ _ _ _
                                  refine wa_aload_n (n := 0) rfl ?_
                                  refine wb_gf5 61 rfl (wy_pr rfl) wt_61 wf_4_1 (v := 73) ((w_up_slot (by decide)).trans ((w_up_slot (by decide)).trans ((w_up_slot (by decide)).trans ((w_up_slot (by decide)).trans ((w_up_slot (by decide)).trans ((w_up_slot (by decide)).trans ((w_up_slot (by decide)).trans ((w_up_slot (by decide)).trans ((w_up_slot (by decide)).trans ((w_up_slot (by decide)).trans ((w_up_slot (by decide)).trans (hH)))))))))))) (fun r170 => ?_)
                                  refine wb_gfi 73 rfl (wy_pr rfl) wt_73 wf_3_4 (v := ((ms.length : Int) + 1)) ((w_up_slot (by decide)).trans ((w_up_slot (by decide)).trans (w_up_same _ _ _ _))) (fun r171 => ?_)
                                  refine wa_iconst ?_
                                  refine wa_isub ?_
                                  rw [show ((((ms.length : Int) + 1) - 1) : Int) = (ms.length : Int) by omega]
                                  refine wa_istore (n := 5) rfl ?_
                                  refine wa_aload_n (n := 0) rfl ?_
                                  refine wb_gf5 61 rfl (wy_pr rfl) wt_61 wf_4_1 (v := 73) ((w_up_slot (by decide)).trans ((w_up_slot (by decide)).trans ((w_up_slot (by decide)).trans ((w_up_slot (by decide)).trans ((w_up_slot (by decide)).trans ((w_up_slot (by decide)).trans ((w_up_slot (by decide)).trans ((w_up_slot (by decide)).trans ((w_up_slot (by decide)).trans ((w_up_slot (by decide)).trans ((w_up_slot (by decide)).trans (hH)))))))))))) (fun r172 => ?_)
                                  refine wb_gf4 73 rfl (wy_pr rfl) wt_73 wf_3_3 (v := 96) wl_73_3 ?_
                                  refine wa_iconst ?_
                                  refine wb_aald5 96 1 rfl rfl (wy_pr rfl) wt_96 (by rw [show _ = _ from ((w_up_slot (by decide)).trans ((w_up_slot (by decide)).trans ((w_up_slot (by decide)).trans ((w_up_slot (by decide)).trans ((w_up_slot (by decide)).trans ((w_up_slot (by decide)).trans ((w_up_slot (by decide)).trans ((w_up_slot (by decide)).trans ((w_up_slot (by decide)).trans ((w_up_slot (by decide)).trans ((w_up_slot (by decide)).trans ((cl_96 hC)))))))))))))]; omega) wl_96_1 ?_
                                  refine wa_iload (n := 5) rfl ?_
                                  refine wb_iald 98 rfl (wy_pr rfl) wt_98 (n := 400) ((w_up_slot (by decide)).trans ((w_up_slot (by decide)).trans ((w_up_slot (by decide)).trans ((w_up_slot (by decide)).trans ((w_up_slot (by decide)).trans ((w_up_slot (by decide)).trans ((w_up_slot (by decide)).trans ((w_up_slot (by decide)).trans ((w_up_at (by omega)).trans ((w_up_slot (by decide)).trans ((w_up_slot (by decide)).trans ((cl_98 hC))))))))))))) (by omega) (by omega) (v := 2) ((w_up_slot (by decide)).trans ((w_up_slot (by decide)).trans ((w_up_slot (by decide)).trans ((w_up_slot (by decide)).trans ((w_up_slot (by decide)).trans ((w_up_slot (by decide)).trans ((w_up_slot (by decide)).trans ((w_up_slot (by decide)).trans (w_up_same _ _ _ _))))))))) (fun r173 => ?_)
                                  refine wa_ifeq (w_rg0 (by omega) (by omega)) ⟨_, rfl⟩ (fun c174 => ?_) (fun c174 => ?_)
                                  · skip
                                    exact absurd c174 (by omega)
                                  · skip
                                    refine wa_aload_n (n := 0) rfl ?_
                                    refine wa_iload (n := 5) rfl ?_
                                    have hmsx : mr_all 97 74 T (w_up (w_up (w_up (w_up (w_up (w_up (w_up (w_up (w_up (w_up (w_up S 14 4 ((i + 1 : Nat) : Int)) 97 (ms.length : Int) kc) 98 (ms.length : Int) 2) 100 (ms.length : Int) (9 + kc)) 101 (ms.length : Int) 0) 102 (ms.length : Int) 0) 111 (ms.length : Int) 12) 112 (ms.length : Int) (-1)) 73 4 ((ms.length : Int) + 1)) 90 kc (((ms.length : Int) - (fi : Int)) + 1)) 99 (ms.length : Int) 0) ms := (mr_all_up (mr_all_up (mr_all_up (mr_all_up (mr_all_up (mr_all_up (mr_all_up (mr_all_up (mr_all_up (mr_all_up (mr_all_up hms (by omega) (by omega)) (by omega) (by omega)) (by omega) (by omega)) (by omega) (by omega)) (by omega) (by omega)) (by omega) (by omega)) (by omega) (by omega)) (by omega) (by omega)) (by omega) (by omega)) (by omega) (by omega)) (by omega) (by omega))
                                    have hhd : mr_hd 97 74 T (w_up (w_up (w_up (w_up (w_up (w_up (w_up (w_up (w_up (w_up (w_up S 14 4 ((i + 1 : Nat) : Int)) 97 (ms.length : Int) kc) 98 (ms.length : Int) 2) 100 (ms.length : Int) (9 + kc)) 101 (ms.length : Int) 0) 102 (ms.length : Int) 0) 111 (ms.length : Int) 12) 112 (ms.length : Int) (-1)) 73 4 ((ms.length : Int) + 1)) 90 kc (((ms.length : Int) - (fi : Int)) + 1)) 99 (ms.length : Int) 0) (ms.length : Int) kc 2 0 (9 + kc) (tp T n 1 i) (tp T n 1 i) := ⟨⟨((w_up_slot (by decide)).trans ((w_up_slot (by decide)).trans ((w_up_slot (by decide)).trans ((w_up_slot (by decide)).trans ((w_up_slot (by decide)).trans ((w_up_slot (by decide)).trans ((w_up_slot (by decide)).trans ((w_up_slot (by decide)).trans ((w_up_slot (by decide)).trans (w_up_same _ _ _ _)))))))))), ((w_up_slot (by decide)).trans ((w_up_slot (by decide)).trans ((w_up_slot (by decide)).trans ((w_up_slot (by decide)).trans ((w_up_slot (by decide)).trans ((w_up_slot (by decide)).trans ((w_up_slot (by decide)).trans ((w_up_slot (by decide)).trans (w_up_same _ _ _ _))))))))), (w_up_same _ _ _ _), ((w_up_slot (by decide)).trans ((w_up_slot (by decide)).trans ((w_up_slot (by decide)).trans ((w_up_slot (by decide)).trans ((w_up_slot (by decide)).trans ((w_up_slot (by decide)).trans ((w_up_slot (by decide)).trans (w_up_same _ _ _ _))))))))⟩, ⟨by decide, by decide⟩, fun _ => ⟨((w_up_slot (by decide)).trans ((w_up_slot (by decide)).trans ((w_up_slot (by decide)).trans ((w_up_slot (by decide)).trans (w_up_same _ _ _ _))))), rfl⟩, fun z => absurd rfl z⟩
                                    have hpm0 : pm_I 97 (w_up (w_up (w_up (w_up (w_up (w_up (w_up (w_up (w_up (w_up (w_up S 14 4 ((i + 1 : Nat) : Int)) 97 (ms.length : Int) kc) 98 (ms.length : Int) 2) 100 (ms.length : Int) (9 + kc)) 101 (ms.length : Int) 0) 102 (ms.length : Int) 0) 111 (ms.length : Int) 12) 112 (ms.length : Int) (-1)) 73 4 ((ms.length : Int) + 1)) 90 kc (((ms.length : Int) - (fi : Int)) + 1)) 99 (ms.length : Int) 0) (ms.length : Int) [] 0 := ⟨((w_up_slot (by decide)).trans ((w_up_slot (by decide)).trans ((w_up_slot (by decide)).trans ((w_up_slot (by decide)).trans ((w_up_slot (by decide)).trans ((w_up_slot (by decide)).trans (w_up_same _ _ _ _))))))), ((w_up_slot (by decide)).trans ((w_up_slot (by decide)).trans ((w_up_slot (by decide)).trans ((w_up_slot (by decide)).trans ((w_up_slot (by decide)).trans (w_up_same _ _ _ _)))))), by decide, fun q hq => absurd hq (Nat.not_lt_zero _)⟩
                                    have hn := lx_w_k (k := 12) hB hW hrw (by decide) hwc.1 hnt0
                                    rw [show hwl 12 = tx_25 from rfl] at hn
                                    have z1 : zq B (tp T n 1 i) 237 6 = 1 := by rw [zT_6 hB]; exact hnt0.1
                                    have hs := lx_w_k (k := 11) hB hW hrw (by decide) hwc.1 hnt0
                                    rw [show hwl 11 = tx_23 from rfl] at hs
                                    have hrm0 : rm_L B 241 kc itf (ms.drop fi) ms.length (tp T n 1 i) = rb_L B 241 kc itf (ms.drop fi) ms.length (tp T n 1 i) 0 := rm_o (fun z => absurd (hs.1 z) (by omega))
                                    have hrm3 := hrm0.trans (rb_n z1 (by decide) (hn.2 (by omega)) (by omega) (by omega))
                                    rw [tp_ne (i := i) hB] at hrm3
                                    have h40 := lx_is_kg (i := i + 1) hB (k := 10) (ch := 40) (by decide) sk_10
                                    have hpar : rm_par2 B 241 2 (tp T n 1 i) (tp T n 1 i) (ms.drop fi) (tp T n 1 (i + 1)) = (if kg T n (tp T n 1 (i + 1)) = 10 then pk_L B 2 (tp T n 1 i) (tp T n 1 i) (ms.drop fi) (pq_r B 241 (tp T n 1 (i + 1 + 1))) else .inl (1, (tp T n 1 (i + 1)))) := by
                                      unfold rm_par2
                                      by_cases hq : kg T n (tp T n 1 (i + 1)) = 10
                                      · rw [if_pos (h40.2 hq), if_pos hq, tp_ne (i := i + 1) hB]
                                      · rw [if_neg (fun z => hq (h40.1 z)), if_neg hq]
                                    rw [hpar] at hrm3
                                    generalize hRR : (if kg T n (tp T n 1 (i + 1)) = 10 then pk_L B 2 (tp T n 1 i) (tp T n 1 i) (ms.drop fi) (pq_r B 241 (tp T n 1 (i + 1 + 1))) else .inl (1, (tp T n 1 (i + 1)))) = RR at hrm3
                                    have hrp := rp_73 (xs := xs) (M := M) (d := d + 1) (S := (w_up (w_up (w_up (w_up (w_up (w_up (w_up (w_up (w_up (w_up (w_up S 14 4 ((i + 1 : Nat) : Int)) 97 (ms.length : Int) kc) 98 (ms.length : Int) 2) 100 (ms.length : Int) (9 + kc)) 101 (ms.length : Int) 0) 102 (ms.length : Int) 0) 111 (ms.length : Int) 12) 112 (ms.length : Int) (-1)) 73 4 ((ms.length : Int) + 1)) 90 kc (((ms.length : Int) - (fi : Int)) + 1)) 99 (ms.length : Int) 0)) (i := i + 1) (ms := ms) (kc := kc) (so := 2) (st := 0) (ty := (9 + kc)) (f0 := (tp T n 1 i)) (e0 := (tp T n 1 i)) (fi := fi) (hx_up (hx_up (hx_up (hx_up (hx_up (hx_up (hx_up (hx_up (hx_up (hx_up (hx_up hx (by unfold hx_o; omega)) (by unfold hx_o; omega)) (by unfold hx_o; omega)) (by unfold hx_o; omega)) (by unfold hx_o; omega)) (by unfold hx_o; omega)) (by unfold hx_o; omega)) (by unfold hx_o; omega)) (by unfold hx_o; omega)) (by unfold hx_o; omega)) (by unfold hx_o; omega)) (show cx_P T n c (i + 1) (w_up (w_up (w_up (w_up (w_up (w_up (w_up (w_up (w_up (w_up (w_up S 14 4 ((i + 1 : Nat) : Int)) 97 (ms.length : Int) kc) 98 (ms.length : Int) 2) 100 (ms.length : Int) (9 + kc)) 101 (ms.length : Int) 0) 102 (ms.length : Int) 0) 111 (ms.length : Int) 12) 112 (ms.length : Int) (-1)) 73 4 ((ms.length : Int) + 1)) 90 kc (((ms.length : Int) - (fi : Int)) + 1)) 99 (ms.length : Int) 0) from ⟨((w_up_slot (by decide)).trans ((w_up_slot (by decide)).trans ((w_up_slot (by decide)).trans ((w_up_slot (by decide)).trans ((w_up_slot (by decide)).trans ((w_up_slot (by decide)).trans ((w_up_slot (by decide)).trans ((w_up_slot (by decide)).trans ((w_up_slot (by decide)).trans ((w_up_slot (by decide)).trans (w_up_same _ _ _ _))))))))))), hg1⟩) hmsx (by omega) hhd (by decide) hkc ⟨(((w_up_slot (by decide)).trans ((w_up_slot (by decide)).trans ((w_up_slot (by decide)).trans ((w_up_slot (by decide)).trans ((w_up_slot (by decide)).trans ((w_up_slot (by decide)).trans ((w_up_slot (by decide)).trans ((w_up_slot (by decide)).trans ((w_up_slot (by decide)).trans ((w_up_slot (by decide)).trans (w_up_slot (by decide))))))))))))).trans hfi.1, hfi.2⟩ hpm0
                                    rw [hRR] at hrp
                                    refine wa_cv 61 rfl (wy_pr rfl) wt_61 (M2 := M) rfl at_XT_readParameters ⟨_, rfl⟩ rfl rfl ⟨trivial, (Or.inr ⟨wy_pr rfl, mS_no rfl⟩), trivial, trivial, trivial⟩ trivial (fun _ _ q => q) (hrp) (fun oq175 Sq175 hp176 q175 => ?_)
                                    rcases q175 with hrq
                                    match RR, hrm3, hrq with
                                    | .inl (e, qq), hrm3, hrq =>
                                      obtain ⟨v, Z0, rfl, g1, g2⟩ := hrq
                                      refine ⟨rfl, ?_⟩
                                      exact hf e qq v Z0 _ (by rw [mb_f_s, if_neg (fun z => absurd (h125.1 z) (by omega)), hrm3]; rfl) (fun j x a1 a2 a3 a4 => (g1 j x a1 (by omega)).trans ((fun j x a1 a2 a3 a4 => (w_up_no (by omega)).trans ((w_up_no (by omega)).trans ((w_up_no (by omega)).trans ((w_up_no (by omega)).trans ((w_up_no (by omega)).trans ((w_up_no (by omega)).trans ((w_up_no (by omega)).trans ((w_up_no (by omega)).trans ((w_up_no (by omega)).trans ((w_up_no (by omega)).trans ((w_up_no (by omega)).trans (rfl)))))))))))) j x a1 a2 a3 a4)) g2
                                    | .inr (qq, l, vv), hrm3, hrq =>
                                      obtain ⟨rfl, g1, ⟨i2, g2, rfl⟩, g3⟩ := hrq
                                      show wJ _ _ _ _ _ _ _ _ _ _
                                      refine wa_fall ⟨_, rfl⟩ ?_
                                      have hxz : hx_I 241 73 87 92 74 T n c B Sq175 := hx_ag (hx_up (hx_up (hx_up (hx_up (hx_up (hx_up (hx_up (hx_up (hx_up (hx_up (hx_up hx (by unfold hx_o; omega)) (by unfold hx_o; omega)) (by unfold hx_o; omega)) (by unfold hx_o; omega)) (by unfold hx_o; omega)) (by unfold hx_o; omega)) (by unfold hx_o; omega)) (by unfold hx_o; omega)) (by unfold hx_o; omega)) (by unfold hx_o; omega)) (by unfold hx_o; omega)) (by decide) (g1 14 3 (by omega) (by omega)) (gI_ag (gI_up (gI_up (gI_up (gI_up (gI_up (gI_up (gI_up (gI_up (gI_up (gI_up (gI_up hI (by omega) (by omega) (by omega)) (by omega) (by omega) (by omega)) (by omega) (by omega) (by omega)) (by omega) (by omega) (by omega)) (by omega) (by omega) (by omega)) (by omega) (by omega) (by omega)) (by omega) (by omega) (by omega)) (by omega) (by omega) (by omega)) (by omega) (by omega) (by omega)) (by omega) (by omega) (by omega)) (by omega) (by omega) (by omega)) (fun j hj => funext fun x => ?_)) (fun j hj => funext fun x => g1 j x (by omega) (by omega)) (g1 73 2 (by omega) (by omega)) (g1 61 1 (by omega) (by omega)) (fun z hz => (g1 z.1 (-1) (by omega) (by omega)).trans ((hx_R (hx_up (hx_up (hx_up (hx_up (hx_up (hx_up (hx_up (hx_up (hx_up (hx_up (hx_up hx (by unfold hx_o; omega)) (by unfold hx_o; omega)) (by unfold hx_o; omega)) (by unfold hx_o; omega)) (by unfold hx_o; omega)) (by unfold hx_o; omega)) (by unfold hx_o; omega)) (by unfold hx_o; omega)) (by unfold hx_o; omega)) (by unfold hx_o; omega)) (by unfold hx_o; omega))).2.2.1 z hz))
                                      · sorry
                                · skip
                                  exact absurd c169 (by omega)
                            · skip
                              refine wa_aload_n (n := 0) rfl ?_
                              refine wa_bipush (w_rg2 (by omega) (by omega)) ?_
                              refine wa_cv 61 rfl (wy_pr rfl) wt_61 (M2 := fun _ => False) rfl at_XT_refuse ⟨_, rfl⟩ rfl rfl ⟨trivial, trivial, trivial, (Or.inr ⟨wy_pr rfl, fun q => q⟩), trivial, trivial⟩ trivial (fun _ _ q => False.elim q) (rf_c (S := S) (k := 6) (p := (tp T n 1 i)) (i := (i : Int)) hI (hpos4) (h16_0) ⟨by omega, by have e : S 16 (-1) = S 16 (-1) := rfl; omega⟩ ⟨by omega, by omega⟩ ⟨by omega, by omega⟩) (fun oq178 Sq178 hp179 q178 => ?_)
                              rcases q178 with ⟨v, rfl, rz177⟩
                              have hrz := rz177
                              have hkind : (6 : Int) = 6 := rfl
                              refine ⟨rfl, ?_⟩
                              refine ⟨rfl, ?_⟩
                              have hn := lx_w_k (k := 12) hB hW hrw (by decide) hwc.1 hnt0
                              rw [show hwl 12 = tx_25 from rfl] at hn
                              have z1 : zq B (tp T n 1 i) 237 6 = 1 := by rw [zT_6 hB]; exact hnt0.1
                              have hs := lx_w_k (k := 11) hB hW hrw (by decide) hwc.1 hnt0
                              rw [show hwl 11 = tx_23 from rfl] at hs
                              have hrm0 : rm_L B 241 kc itf (ms.drop fi) ms.length (tp T n 1 i) = rb_L B 241 kc itf (ms.drop fi) ms.length (tp T n 1 i) 0 := rm_o (fun z => absurd (hs.1 z) (by omega))
                              have hr : rm_L B 241 kc itf (ms.drop fi) ms.length (tp T n 1 i) = .inl (6, (tp T n 1 i)) := hrm0.trans (rb_6 z1 (by omega) (hn.2 (by omega)) (by omega) (by omega))
                              exact hf 6 _ v _ _ (by rw [mb_f_s, if_neg (fun z => absurd (h125.1 z) (by omega)), hr]) (fun j x a1 a2 a3 a4 => rfl) hrz
                        · skip
                          refine wa_aload_n (n := 0) rfl ?_
                          refine wa_iconst ?_
                          refine wa_cv 61 rfl (wy_pr rfl) wt_61 (M2 := fun _ => False) rfl at_XT_refuse ⟨_, rfl⟩ rfl rfl ⟨trivial, trivial, trivial, (Or.inr ⟨wy_pr rfl, fun q => q⟩), trivial, trivial⟩ trivial (fun _ _ q => False.elim q) (rf_c (S := S) (k := 5) (p := (tp T n 1 i)) (i := (i : Int)) hI (hpos4) (h16_0) ⟨by omega, by have e : S 16 (-1) = S 16 (-1) := rfl; omega⟩ ⟨by omega, by omega⟩ ⟨by omega, by omega⟩) (fun oq181 Sq181 hp182 q181 => ?_)
                          rcases q181 with ⟨v, rfl, rz180⟩
                          have hrz := rz180
                          have hkind : (5 : Int) = 5 := rfl
                          refine ⟨rfl, ?_⟩
                          refine ⟨rfl, ?_⟩
                          have hn := lx_w_k (k := 12) hB hW hrw (by decide) hwc.1 hnt0
                          rw [show hwl 12 = tx_25 from rfl] at hn
                          have z1 : zq B (tp T n 1 i) 237 6 = 1 := by rw [zT_6 hB]; exact hnt0.1
                          have hs := lx_w_k (k := 11) hB hW hrw (by decide) hwc.1 hnt0
                          rw [show hwl 11 = tx_23 from rfl] at hs
                          have hrm0 : rm_L B 241 kc itf (ms.drop fi) ms.length (tp T n 1 i) = rb_L B 241 kc itf (ms.drop fi) ms.length (tp T n 1 i) 0 := rm_o (fun z => absurd (hs.1 z) (by omega))
                          have hkk : lx_w (zq B (tp T n 1 i)) tx_25 = true ∨ (0 ≤ pl_of (zq B (tp T n 1 i)) tx_27 ∨ 0 ≤ ch_of (zq B (tp T n 1 i)) 241) := by first | exact Or.inl (hn.2 (by omega)) | exact Or.inr (ty_hy (av := 1) hyy0 (Or.inr (by decide))).2.2.1
                          have hr : rm_L B 241 kc itf (ms.drop fi) ms.length (tp T n 1 i) = .inl (5, (tp T n 1 i)) := hrm0.trans (rb_5 z1 (fun z => by have := hn.1 z.2; omega) hkk (by omega))
                          exact hf 5 _ v _ _ (by rw [mb_f_s, if_neg (fun z => absurd (h125.1 z) (by omega)), hr]) (fun j x a1 a2 a3 a4 => rfl) hrz
                    · skip
                      exact absurd c148 (by omega)
              · skip
                have hkg := hw12
                refine ⟨rfl, ?_⟩
                refine ⟨rfl, ?_⟩
                exfalso; omega
            · skip
              exact absurd c11 (by omega)
          · skip
            refine wa_iconst ?_
            refine wa_goto ⟨_, rfl⟩ ?_
            refine wa_istore_n (n := 2) rfl ?_
            refine wa_iload_n (n := 2) rfl ?_
            refine wa_ifeq (w_rg0 (by omega) (by omega)) ⟨_, rfl⟩ (fun c183 => ?_) (fun c183 => ?_)
            · skip
              exact absurd c183 (by omega)
            · skip
              refine wa_iload_n (n := 1) rfl ?_
              refine wa_ifeq (w_rg0 (by omega) (by omega)) ⟨_, rfl⟩ (fun c184 => ?_) (fun c184 => ?_)
              · skip
                refine wa_aload_n (n := 0) rfl ?_
                refine wb_gf4 61 rfl (wy_pr rfl) wt_61 wf_4_0 (v := 14) wl_61_0 ?_
                refine wa_cv 14 rfl (wy_pr rfl) wt_14 (M2 := fun _ => False) rfl at_XR_next ⟨_, rfl⟩ rfl rfl ⟨trivial, (Or.inr ⟨wy_pr rfl, fun q => q⟩), trivial, trivial⟩ trivial (fun _ _ q => False.elim q) (nx_c (S := S) (hx_T hx) (show cx_P T n c (i) S from ⟨(hpos4), hg0⟩) rfl hI (by omega)) (fun oq185 Sq185 hp186 q185 => ?_)
                rcases q185 with ⟨rfl, rfl⟩
                show wJ _ _ _ _ _ _ _ _ _ _
                have hg1 : pg T n c (i + 1) := pg_next hT hg0 (by omega) (by omega)
                have hA1 := pg_at hT hg1
                have h16_1 := hA1.1
                have h15_1 := hA1.2.1
                have hpr1 := hA1.2.2
                have hkr1 := kg_rg T n (tp T n 1 (i + 1))
                have hic1 := hg1.1
                have hlt1 := tp_lt hT hg0 (by omega) (by omega)
                refine wa_fall ⟨_, rfl⟩ ?_
                refine wa_aload_n (n := 0) rfl ?_
                refine wa_cv 61 rfl (wy_pr rfl) wt_61 (M2 := fun _ => False) rfl at_XT_wordHere ⟨_, rfl⟩ rfl rfl ⟨trivial, (Or.inr ⟨wy_pr rfl, fun q => q⟩), trivial, trivial⟩ trivial (fun _ _ q => False.elim q) (wh_c (S := (w_up S 14 4 ((i + 1 : Nat) : Int))) (hx_T (hx_up hx (by unfold hx_o; omega))) (show cx_P T n c (i + 1) (w_up S 14 4 ((i + 1 : Nat) : Int)) from ⟨(w_up_same _ _ _ _), hg1⟩) rfl (gI_up hI (by omega) (by omega) (by omega))) (fun oq189 Sq189 hp190 q189 => ?_)
                rcases q189 with ⟨hw187, rfl, rfl⟩ | ⟨hw187, v, rfl, hrz⟩
                · skip
                  show wJ _ _ _ _ _ _ _ _ _ _
                  show wJ _ _ _ _ _ _ _ ((0, S 17 ((i + 1 : Nat) : Int)) :: _) _ _
                  have hnt1 : nt_I S 74 T n (tp T n 1 (i + 1)) (S 17 ((i + 1 : Nat) : Int)) := pg_nt hT hg1 hw187
                  have hnv1 := hnt1.2.1
                  refine wa_bipush (w_rg2 (by omega) (by omega)) ?_
                  refine wa_icmpne (w_rg0 (by omega) (by omega)) (w_rg0 (by omega) (by omega)) ⟨_, rfl⟩ (fun c191 => ?_) (fun c191 => ?_)
                  · skip
                    refine wa_iconst ?_
                    refine wa_fall ⟨_, rfl⟩ ?_
                    refine wa_istore_n (n := 3) rfl ?_
                    refine wa_iload_n (n := 3) rfl ?_
                    refine wa_ifeq (w_rg0 (by omega) (by omega)) ⟨_, rfl⟩ (fun c192 => ?_) (fun c192 => ?_)
                    · skip
                      refine wa_iload_n (n := 3) rfl ?_
                      refine wa_ifeq (w_rg0 (by omega) (by omega)) ⟨_, rfl⟩ (fun c193 => ?_) (fun c193 => ?_)
                      · skip
                        refine wa_aload_n (n := 0) rfl ?_
                        refine wa_cv 61 rfl (wy_pr rfl) wt_61 (M2 := fun _ => False) rfl at_XT_typeHere ⟨_, rfl⟩ rfl rfl ⟨trivial, trivial, (Or.inr ⟨wy_pr rfl, fun q => q⟩), trivial, trivial⟩ trivial (fun _ _ q => False.elim q) (th_73 (S := (w_up S 14 4 ((i + 1 : Nat) : Int))) (B := B) (hx_up hx (by unfold hx_o; omega)) (show cx_P T n c (i + 1) (w_up S 14 4 ((i + 1 : Nat) : Int)) from ⟨(w_up_same _ _ _ _), hg1⟩)) (fun oq195 Sq195 hp196 q195 => ?_)
                        rcases q195 with ⟨y, hy194, rfl, hy2, rfl⟩ | ⟨e, hy194, v, rfl, hrz⟩
                        · skip
                          show wJ _ _ _ _ _ _ _ _ _ _
                          have hyy1 := hy194
                          have hkg5_1 := hy2
                          refine wa_fall ⟨_, rfl⟩ ?_
                          refine wa_istore (n := 4) rfl ?_
                          refine wa_aload_n (n := 0) rfl ?_
                          refine wb_gf5 61 rfl (wy_pr rfl) wt_61 wf_4_1 (v := 73) ((w_up_slot (by decide)).trans (hH)) (fun r197 => ?_)
                          refine wb_gfi 73 rfl (wy_pr rfl) wt_73 wf_3_4 (v := (ms.length : Int)) ((w_up_slot (by decide)).trans (hmc)) (fun r198 => ?_)
                          refine wa_sipush (by omega) ?_
                          refine wa_icmpne (w_rg0 (by omega) (by omega)) (w_rg0 (by omega) (by omega)) ⟨_, rfl⟩ (fun c199 => ?_) (fun c199 => ?_)
                          · skip
                            refine wa_iload_n (n := 3) rfl ?_
                            refine wa_ifeq (w_rg0 (by omega) (by omega)) ⟨_, rfl⟩ (fun c200 => ?_) (fun c200 => ?_)
                            · skip
                              refine wa_aload_n (n := 0) rfl ?_
                              refine wb_gf4 61 rfl (wy_pr rfl) wt_61 wf_4_0 (v := 14) wl_61_0 ?_
                              refine wa_cv 14 rfl (wy_pr rfl) wt_14 (M2 := fun _ => False) rfl at_XR_next ⟨_, rfl⟩ rfl rfl ⟨trivial, trivial, trivial, (Or.inr ⟨wy_pr rfl, fun q => q⟩), trivial, trivial⟩ trivial (fun _ _ q => False.elim q) (nx_c (S := (w_up S 14 4 ((i + 1 : Nat) : Int))) (hx_T (hx_up hx (by unfold hx_o; omega))) (show cx_P T n c (i + 1) (w_up S 14 4 ((i + 1 : Nat) : Int)) from ⟨(w_up_same _ _ _ _), hg1⟩) rfl (gI_up hI (by omega) (by omega) (by omega)) (by omega)) (fun oq201 Sq201 hp202 q201 => ?_)
                              rcases q201 with ⟨rfl, rfl⟩
                              show wJ _ _ _ _ _ _ _ _ _ _
                              have hg2 : pg T n c (i + 1 + 1) := pg_next hT hg1 (by omega) (by omega)
                              have hA2 := pg_at hT hg2
                              have h16_2 := hA2.1
                              have h15_2 := hA2.2.1
                              have hpr2 := hA2.2.2
                              have hkr2 := kg_rg T n (tp T n 1 (i + 1 + 1))
                              have hic2 := hg2.1
                              have hlt2 := tp_lt hT hg1 (by omega) (by omega)
                              refine wa_iload_n (n := 3) rfl ?_
                              refine wa_ifeq (w_rg0 (by omega) (by omega)) ⟨_, rfl⟩ (fun c203 => ?_) (fun c203 => ?_)
                              · skip
                                refine wa_aload_n (n := 0) rfl ?_
                                refine wa_iload_n (n := 1) rfl ?_
                                refine wa_iload (n := 4) rfl ?_
                                refine wa_cv 61 rfl (wy_pr rfl) wt_61 (M2 := fun _ => False) rfl at_XT_readName ⟨_, rfl⟩ rfl rfl ⟨trivial, trivial, trivial, (Or.inr ⟨wy_pr rfl, fun q => q⟩), trivial, trivial⟩ trivial (fun _ _ q => False.elim q) ?_ (fun _ _ _ q => q)
                                refine wa_aload_n (n := 0) rfl ?_
                                refine wa_cv 61 rfl (wy_pr rfl) wt_61 (M2 := fun _ => False) rfl at_XT_wordHere ⟨_, rfl⟩ rfl rfl ⟨(Or.inr ⟨wy_pr rfl, fun q => q⟩), trivial, trivial, trivial⟩ trivial (fun _ _ q => False.elim q) (wh_c (S := (w_up (w_up S 14 4 ((i + 1 : Nat) : Int)) 14 4 ((i + 1 + 1 : Nat) : Int))) (hx_T (hx_up (hx_up hx (by unfold hx_o; omega)) (by unfold hx_o; omega))) (show cx_P T n c (i + 1 + 1) (w_up (w_up S 14 4 ((i + 1 : Nat) : Int)) 14 4 ((i + 1 + 1 : Nat) : Int)) from ⟨(w_up_same _ _ _ _), hg2⟩) rfl (gI_up (gI_up hI (by omega) (by omega) (by omega)) (by omega) (by omega) (by omega))) (fun oq206 Sq206 hp207 q206 => ?_)
                                rcases q206 with ⟨hw204, rfl, rfl⟩ | ⟨hw204, v, rfl, hrz⟩
                                · skip
                                  show wJ _ _ _ _ _ _ _ _ _ _
                                  show wJ _ _ _ _ _ _ _ ((0, S 17 ((i + 1 + 1 : Nat) : Int)) :: _) _ _
                                  have hnt2 : nt_I S 74 T n (tp T n 1 (i + 1 + 1)) (S 17 ((i + 1 + 1 : Nat) : Int)) := pg_nt hT hg2 hw204
                                  have hnv2 := hnt2.2.1
                                  refine wa_istore_n (n := 3) rfl ?_
                                  refine wa_iload_n (n := 3) rfl ?_
                                  refine wa_bipush (w_rg2 (by omega) (by omega)) ?_
                                  refine wa_icmpge (w_rg0 (by omega) (by omega)) (w_rg0 (by omega) (by omega)) ⟨_, rfl⟩ (fun c208 => ?_) (fun c208 => ?_)
                                  · skip
                                    refine wa_aload_n (n := 0) rfl ?_
                                    refine wb_gf4 61 rfl (wy_pr rfl) wt_61 wf_4_0 (v := 14) wl_61_0 ?_
                                    refine wa_cv 14 rfl (wy_pr rfl) wt_14 (M2 := fun _ => False) rfl at_XR_kindBehind ⟨_, rfl⟩ rfl rfl ⟨trivial, (Or.inr ⟨wy_pr rfl, fun q => q⟩), trivial, trivial, trivial⟩ trivial (fun _ _ q => False.elim q) ?_ (fun _ _ _ q => q)
                                    refine wa_aload_n (n := 0) rfl ?_
                                    refine wb_gfi 14 rfl (wy_pr rfl) wt_14 wf_6_4 (v := ((i + 1 + 1 : Nat) : Int)) (w_up_same _ _ _ _) (fun r209 => ?_)
                                    refine wa_iconst ?_
                                    refine wa_iadd ?_
                                    refine wa_aload_n (n := 0) rfl ?_
                                    refine wb_gfi 14 rfl (wy_pr rfl) wt_14 wf_6_3 (v := ((c : Int) + 1)) ((w_up_at (by decide)).trans ((w_up_at (by decide)).trans (hT.1))) (fun r210 => ?_)
                                    refine wa_icmpge (w_rg0 (by omega) (by omega)) (w_rg0 (by omega) (by omega)) ⟨_, rfl⟩ (fun c211 => ?_) (fun c211 => ?_)
                                    · skip
                                      refine wa_iconst ?_
                                      refine wa_fall ⟨_, rfl⟩ ?_
                                      refine wa_ireturn rfl ?_
                                      show wJ _ _ _ _ _ _ _ _ _ _
                                      refine wa_bipush (w_rg2 (by omega) (by omega)) ?_
                                      refine wa_icmpne (w_rg0 (by omega) (by omega)) (w_rg0 (by omega) (by omega)) ⟨_, rfl⟩ (fun c212 => ?_) (fun c212 => ?_)
                                      · skip
                                        refine wa_iconst ?_
                                        refine wa_fall ⟨_, rfl⟩ ?_
                                        refine wa_istore (n := 4) rfl ?_
                                        refine wa_iload (n := 4) rfl ?_
                                        refine wa_ifeq (w_rg0 (by omega) (by omega)) ⟨_, rfl⟩ (fun c213 => ?_) (fun c213 => ?_)
                                        · skip
                                          refine wa_iload (n := 4) rfl ?_
                                          refine wa_ifeq (w_rg0 (by omega) (by omega)) ⟨_, rfl⟩ (fun c214 => ?_) (fun c214 => ?_)
                                          · skip
                                            refine wa_aload_n (n := 0) rfl ?_
                                            refine wb_gf4 61 rfl (wy_pr rfl) wt_61 wf_4_0 (v := 14) wl_61_0 ?_
                                            refine wa_cv 14 rfl (wy_pr rfl) wt_14 (M2 := fun _ => False) rfl at_XR_next ⟨_, rfl⟩ rfl rfl ⟨trivial, trivial, (Or.inr ⟨wy_pr rfl, fun q => q⟩), trivial, trivial, trivial⟩ trivial (fun _ _ q => False.elim q) (nx_c (S := (w_up (w_up S 14 4 ((i + 1 : Nat) : Int)) 14 4 ((i + 1 + 1 : Nat) : Int))) (hx_T (hx_up (hx_up hx (by unfold hx_o; omega)) (by unfold hx_o; omega))) (show cx_P T n c (i + 1 + 1) (w_up (w_up S 14 4 ((i + 1 : Nat) : Int)) 14 4 ((i + 1 + 1 : Nat) : Int)) from ⟨(w_up_same _ _ _ _), hg2⟩) rfl (gI_up (gI_up hI (by omega) (by omega) (by omega)) (by omega) (by omega) (by omega)) (by omega)) (fun oq215 Sq215 hp216 q215 => ?_)
                                            rcases q215 with ⟨rfl, rfl⟩
                                            show wJ _ _ _ _ _ _ _ _ _ _
                                            have hg3 : pg T n c (i + 1 + 1 + 1) := pg_next hT hg2 (by omega) (by omega)
                                            have hA3 := pg_at hT hg3
                                            have h16_3 := hA3.1
                                            have h15_3 := hA3.2.1
                                            have hpr3 := hA3.2.2
                                            have hkr3 := kg_rg T n (tp T n 1 (i + 1 + 1 + 1))
                                            have hic3 := hg3.1
                                            have hlt3 := tp_lt hT hg2 (by omega) (by omega)
                                            refine wa_aload_n (n := 0) rfl ?_
                                            refine wb_gf5 61 rfl (wy_pr rfl) wt_61 wf_4_1 (v := 73) ((w_up_slot (by decide)).trans ((w_up_slot (by decide)).trans ((w_up_slot (by decide)).trans (hH)))) (fun r217 => ?_)
                                            refine wa_iload (n := 4) rfl ?_
                                            refine wa_ifeq (w_rg0 (by omega) (by omega)) ⟨_, rfl⟩ (fun c218 => ?_) (fun c218 => ?_)
                                            · skip
                                              refine wa_iconst ?_
                                              refine wa_fall ⟨_, rfl⟩ ?_
                                              refine wa_iload_n (n := 2) rfl ?_
                                              refine wa_iload_n (n := 3) rfl ?_
                                              refine wa_cv 73 rfl (wy_pr rfl) wt_73 (M2 := fun _ => False) rfl at_XO_addMember ⟨_, rfl⟩ rfl rfl ⟨trivial, trivial, (Or.inr ⟨wy_pr rfl, fun q => q⟩), trivial, trivial, trivial⟩ trivial (fun _ _ q => False.elim q) ?_ (fun _ _ _ q => q)
                                              refine wa_aload_n (n := 0) rfl ?_
                                              refine wb_gfi 73 rfl (wy_pr rfl) wt_73 wf_3_4 (v := (ms.length : Int)) ((w_up_slot (by decide)).trans ((w_up_slot (by decide)).trans ((w_up_slot (by decide)).trans (hmc)))) (fun r219 => ?_)
                                              refine wa_istore (n := 4) rfl ?_
                                              refine wa_aload_n (n := 0) rfl ?_
                                              refine wb_gf4 73 rfl (wy_pr rfl) wt_73 wf_3_3 (v := 96) wl_73_3 ?_
                                              refine wa_iconst ?_
                                              refine wb_aald5 96 0 rfl rfl (wy_pr rfl) wt_96 (by rw [show _ = _ from ((w_up_slot (by decide)).trans ((w_up_slot (by decide)).trans ((w_up_slot (by decide)).trans ((cl_96 hC)))))]; omega) wl_96_0 ?_
                                              refine wa_iload (n := 4) rfl ?_
                                              refine wa_aload_n (n := 0) rfl ?_
                                              refine wb_gfi 73 rfl (wy_pr rfl) wt_73 wf_3_2 (v := (kc + 1)) ((w_up_slot (by decide)).trans ((w_up_slot (by decide)).trans ((w_up_slot (by decide)).trans (hkc1)))) (fun r220 => ?_)
                                              refine wa_iconst ?_
                                              refine wa_isub ?_
                                              rw [show (((kc + 1) - 1) : Int) = kc by omega]
                                              refine wb_iast 97 rfl (wy_pr rfl) wt_97 (n := 400) ((w_up_slot (by decide)).trans ((w_up_slot (by decide)).trans ((w_up_slot (by decide)).trans ((cl_97 hC))))) (by omega) (by omega) ⟨(by omega), (by omega)⟩ ?_
                                              refine wa_aload_n (n := 0) rfl ?_
                                              refine wb_gf4 73 rfl (wy_pr rfl) wt_73 wf_3_3 (v := 96) wl_73_3 ?_
                                              refine wa_iconst ?_
                                              refine wb_aald5 96 1 rfl rfl (wy_pr rfl) wt_96 (by rw [show _ = _ from ((w_up_slot (by decide)).trans ((w_up_slot (by decide)).trans ((w_up_slot (by decide)).trans ((w_up_slot (by decide)).trans ((cl_96 hC))))))]; omega) wl_96_1 ?_
                                              refine wa_iload (n := 4) rfl ?_
                                              refine wa_iload_n (n := 1) rfl ?_
                                              refine wb_iast 98 rfl (wy_pr rfl) wt_98 (n := 400) ((w_up_slot (by decide)).trans ((w_up_slot (by decide)).trans ((w_up_slot (by decide)).trans ((w_up_slot (by decide)).trans ((cl_98 hC)))))) (by omega) (by omega) ⟨(by omega), (by omega)⟩ ?_
                                              refine wa_aload_n (n := 0) rfl ?_
                                              refine wb_gf4 73 rfl (wy_pr rfl) wt_73 wf_3_3 (v := 96) wl_73_3 ?_
                                              refine wa_iconst ?_
                                              refine wb_aald5 96 3 rfl rfl (wy_pr rfl) wt_96 (by rw [show _ = _ from ((w_up_slot (by decide)).trans ((w_up_slot (by decide)).trans ((w_up_slot (by decide)).trans ((w_up_slot (by decide)).trans ((w_up_slot (by decide)).trans ((cl_96 hC)))))))]; omega) wl_96_3 ?_
                                              refine wa_iload (n := 4) rfl ?_
                                              refine wa_iload_n (n := 2) rfl ?_
                                              refine wb_iast 100 rfl (wy_pr rfl) wt_100 (n := 400) ((w_up_slot (by decide)).trans ((w_up_slot (by decide)).trans ((w_up_slot (by decide)).trans ((w_up_slot (by decide)).trans ((w_up_slot (by decide)).trans ((cl_100 hC))))))) (by omega) (by omega) ⟨(by omega), (by omega)⟩ ?_
                                              refine wa_aload_n (n := 0) rfl ?_
                                              refine wb_gf4 73 rfl (wy_pr rfl) wt_73 wf_3_3 (v := 96) wl_73_3 ?_
                                              refine wa_iconst ?_
                                              refine wb_aald5 96 4 rfl rfl (wy_pr rfl) wt_96 (by rw [show _ = _ from ((w_up_slot (by decide)).trans ((w_up_slot (by decide)).trans ((w_up_slot (by decide)).trans ((w_up_slot (by decide)).trans ((w_up_slot (by decide)).trans ((w_up_slot (by decide)).trans ((cl_96 hC))))))))]; omega) wl_96_4 ?_
                                              refine wa_iload (n := 4) rfl ?_
                                              refine wa_iconst ?_
                                              refine wb_iast 101 rfl (wy_pr rfl) wt_101 (n := 400) ((w_up_slot (by decide)).trans ((w_up_slot (by decide)).trans ((w_up_slot (by decide)).trans ((w_up_slot (by decide)).trans ((w_up_slot (by decide)).trans ((w_up_slot (by decide)).trans ((cl_101 hC)))))))) (by omega) (by omega) ⟨(by omega), (by omega)⟩ ?_
                                              refine wa_aload_n (n := 0) rfl ?_
                                              refine wb_gf4 73 rfl (wy_pr rfl) wt_73 wf_3_3 (v := 96) wl_73_3 ?_
                                              refine wa_iconst ?_
                                              refine wb_aald5 96 5 rfl rfl (wy_pr rfl) wt_96 (by rw [show _ = _ from ((w_up_slot (by decide)).trans ((w_up_slot (by decide)).trans ((w_up_slot (by decide)).trans ((w_up_slot (by decide)).trans ((w_up_slot (by decide)).trans ((w_up_slot (by decide)).trans ((w_up_slot (by decide)).trans ((cl_96 hC)))))))))]; omega) wl_96_5 ?_
                                              refine wa_iload (n := 4) rfl ?_
                                              refine wa_iconst ?_
                                              refine wb_iast 102 rfl (wy_pr rfl) wt_102 (n := 400) ((w_up_slot (by decide)).trans ((w_up_slot (by decide)).trans ((w_up_slot (by decide)).trans ((w_up_slot (by decide)).trans ((w_up_slot (by decide)).trans ((w_up_slot (by decide)).trans ((w_up_slot (by decide)).trans ((cl_102 hC))))))))) (by omega) (by omega) ⟨(by omega), (by omega)⟩ ?_
                                              refine wa_aload_n (n := 0) rfl ?_
                                              refine wb_gf4 73 rfl (wy_pr rfl) wt_73 wf_3_3 (v := 96) wl_73_3 ?_
                                              refine wa_bipush (w_rg2 (by omega) (by omega)) ?_
                                              refine wb_aald5 96 14 rfl rfl (wy_pr rfl) wt_96 (by rw [show _ = _ from ((w_up_slot (by decide)).trans ((w_up_slot (by decide)).trans ((w_up_slot (by decide)).trans ((w_up_slot (by decide)).trans ((w_up_slot (by decide)).trans ((w_up_slot (by decide)).trans ((w_up_slot (by decide)).trans ((w_up_slot (by decide)).trans ((cl_96 hC))))))))))]; omega) wl_96_14 ?_
                                              refine wa_iload (n := 4) rfl ?_
                                              refine wa_iload_n (n := 3) rfl ?_
                                              refine wb_iast 111 rfl (wy_pr rfl) wt_111 (n := 400) ((w_up_slot (by decide)).trans ((w_up_slot (by decide)).trans ((w_up_slot (by decide)).trans ((w_up_slot (by decide)).trans ((w_up_slot (by decide)).trans ((w_up_slot (by decide)).trans ((w_up_slot (by decide)).trans ((w_up_slot (by decide)).trans ((cl_111 hC)))))))))) (by omega) (by omega) ⟨(by omega), (by omega)⟩ ?_
                                              refine wa_aload_n (n := 0) rfl ?_
                                              refine wb_gf4 73 rfl (wy_pr rfl) wt_73 wf_3_3 (v := 96) wl_73_3 ?_
                                              refine wa_bipush (w_rg2 (by omega) (by omega)) ?_
                                              refine wb_aald5 96 15 rfl rfl (wy_pr rfl) wt_96 (by rw [show _ = _ from ((w_up_slot (by decide)).trans ((w_up_slot (by decide)).trans ((w_up_slot (by decide)).trans ((w_up_slot (by decide)).trans ((w_up_slot (by decide)).trans ((w_up_slot (by decide)).trans ((w_up_slot (by decide)).trans ((w_up_slot (by decide)).trans ((w_up_slot (by decide)).trans ((cl_96 hC)))))))))))]; omega) wl_96_15 ?_
                                              refine wa_iload (n := 4) rfl ?_
                                              refine wa_iconst ?_
                                              refine wb_iast 112 rfl (wy_pr rfl) wt_112 (n := 400) ((w_up_slot (by decide)).trans ((w_up_slot (by decide)).trans ((w_up_slot (by decide)).trans ((w_up_slot (by decide)).trans ((w_up_slot (by decide)).trans ((w_up_slot (by decide)).trans ((w_up_slot (by decide)).trans ((w_up_slot (by decide)).trans ((w_up_slot (by decide)).trans ((cl_112 hC))))))))))) (by omega) (by omega) ⟨(by omega), (by omega)⟩ ?_
                                              refine wa_aload_n (n := 0) rfl ?_
                                              refine wa_dup (by decide) ?_
                                              refine wb_gfi 73 rfl (wy_pr rfl) wt_73 wf_3_4 (v := (ms.length : Int)) ((w_up_slot (by decide)).trans ((w_up_slot (by decide)).trans ((w_up_slot (by decide)).trans ((w_up_slot (by decide)).trans ((w_up_slot (by decide)).trans ((w_up_slot (by decide)).trans ((w_up_slot (by decide)).trans ((w_up_slot (by decide)).trans ((w_up_slot (by decide)).trans ((w_up_slot (by decide)).trans (hmc))))))))))) (fun r221 => ?_)
                                              refine wa_iconst ?_
                                              refine wa_iadd ?_
                                              refine wb_pfi 73 rfl (wy_pr rfl) wt_73 wf_3_4 (n := 4) rfl ⟨(by omega), (by omega)⟩ ?_
                                              refine wa_aload_n (n := 0) rfl ?_
                                              refine wb_gf4 73 rfl (wy_pr rfl) wt_73 wf_3_1 (v := 86) wl_73_1 ?_
                                              refine wa_iconst ?_
                                              refine wb_aald5 86 3 rfl rfl (wy_pr rfl) wt_86 (by rw [show _ = _ from ((w_up_slot (by decide)).trans ((w_up_slot (by decide)).trans ((w_up_slot (by decide)).trans ((w_up_slot (by decide)).trans ((w_up_slot (by decide)).trans ((w_up_slot (by decide)).trans ((w_up_slot (by decide)).trans ((w_up_slot (by decide)).trans ((w_up_slot (by decide)).trans ((w_up_slot (by decide)).trans ((w_up_slot (by decide)).trans ((cl_86 hC)))))))))))))]; omega) wl_86_3 ?_
                                              refine wa_aload_n (n := 0) rfl ?_
                                              refine wb_gfi 73 rfl (wy_pr rfl) wt_73 wf_3_2 (v := (kc + 1)) ((w_up_at (by decide)).trans ((w_up_slot (by decide)).trans ((w_up_slot (by decide)).trans ((w_up_slot (by decide)).trans ((w_up_slot (by decide)).trans ((w_up_slot (by decide)).trans ((w_up_slot (by decide)).trans ((w_up_slot (by decide)).trans ((w_up_slot (by decide)).trans ((w_up_slot (by decide)).trans ((w_up_slot (by decide)).trans (hkc1)))))))))))) (fun r222 => ?_)
                                              refine wa_iconst ?_
                                              refine wa_isub ?_
                                              rw [show (((kc + 1) - 1) : Int) = kc by omega]
                                              refine wa_dup2 (by decide) (by decide) ?_
                                              refine wb_iald 90 rfl (wy_pr rfl) wt_90 (n := 60) ((w_up_slot (by decide)).trans ((w_up_slot (by decide)).trans ((w_up_slot (by decide)).trans ((w_up_slot (by decide)).trans ((w_up_slot (by decide)).trans ((w_up_slot (by decide)).trans ((w_up_slot (by decide)).trans ((w_up_slot (by decide)).trans ((w_up_slot (by decide)).trans ((w_up_slot (by decide)).trans ((w_up_slot (by decide)).trans ((cl_90 hC))))))))))))) (by omega) (by omega) (v := ((ms.length : Int) - (fi : Int))) ((w_up_slot (by decide)).trans ((w_up_slot (by decide)).trans ((w_up_slot (by decide)).trans ((w_up_slot (by decide)).trans ((w_up_slot (by decide)).trans ((w_up_slot (by decide)).trans ((w_up_slot (by decide)).trans ((w_up_slot (by decide)).trans ((w_up_slot (by decide)).trans ((w_up_slot (by decide)).trans ((w_up_slot (by decide)).trans (ht3)))))))))))) (fun r223 => ?_)
                                              refine wa_iconst ?_
                                              refine wa_iadd ?_
                                              refine wb_iast 90 rfl (wy_pr rfl) wt_90 (n := 60) ((w_up_slot (by decide)).trans ((w_up_slot (by decide)).trans ((w_up_slot (by decide)).trans ((w_up_slot (by decide)).trans ((w_up_slot (by decide)).trans ((w_up_slot (by decide)).trans ((w_up_slot (by decide)).trans ((w_up_slot (by decide)).trans ((w_up_slot (by decide)).trans ((w_up_slot (by decide)).trans ((w_up_slot (by decide)).trans ((cl_90 hC))))))))))))) (by omega) (by omega) ⟨(by omega), (by omega)⟩ ?_
                                              refine wa_return rfl ?_
                                              show wJ _ _ _ _ _ _ _ _ _ _
                                              refine wa_return rfl ?_
                                              show wJ _ _ _ _ _ _ _ _ _ _
                                              refine wa_fall ⟨_, rfl⟩ ?_
                                              refine wa_aload_n (n := 0) rfl ?_
                                              refine wb_gf5 61 rfl (wy_pr rfl) wt_61 wf_4_1 (v := 73) ((w_up_slot (by decide)).trans ((w_up_slot (by decide)).trans ((w_up_slot (by decide)).trans ((w_up_slot (by decide)).trans ((w_up_slot (by decide)).trans ((w_up_slot (by decide)).trans ((w_up_slot (by decide)).trans ((w_up_slot (by decide)).trans ((w_up_slot (by decide)).trans ((w_up_slot (by decide)).trans ((w_up_slot (by decide)).trans ((w_up_slot (by decide)).trans (hH))))))))))))) (fun r224 => ?_)
                                              refine wb_gf4 73 rfl (wy_pr rfl) wt_73 wf_3_3 (v := 96) wl_73_3 ?_
                                              refine wa_iconst ?_
                                              refine wb_aald5 96 2 rfl rfl (wy_pr rfl) wt_96 (by rw [show _ = _ from ((w_up_slot (by decide)).trans ((w_up_slot (by decide)).trans ((w_up_slot (by decide)).trans ((w_up_slot (by decide)).trans ((w_up_slot (by decide)).trans ((w_up_slot (by decide)).trans ((w_up_slot (by decide)).trans ((w_up_slot (by decide)).trans ((w_up_slot (by decide)).trans ((w_up_slot (by decide)).trans ((w_up_slot (by decide)).trans ((w_up_slot (by decide)).trans ((cl_96 hC))))))))))))))]; omega) wl_96_2 ?_
                                              refine wa_aload_n (n := 0) rfl ?_
                                              refine wb_gf5 61 rfl (wy_pr rfl) wt_61 wf_4_1 (v := 73) ((w_up_slot (by decide)).trans ((w_up_slot (by decide)).trans ((w_up_slot (by decide)).trans ((w_up_slot (by decide)).trans ((w_up_slot (by decide)).trans ((w_up_slot (by decide)).trans ((w_up_slot (by decide)).trans ((w_up_slot (by decide)).trans ((w_up_slot (by decide)).trans ((w_up_slot (by decide)).trans ((w_up_slot (by decide)).trans ((w_up_slot (by decide)).trans (hH))))))))))))) (fun r225 => ?_)
                                              refine wb_gfi 73 rfl (wy_pr rfl) wt_73 wf_3_4 (v := ((ms.length : Int) + 1)) ((w_up_slot (by decide)).trans (w_up_same _ _ _ _)) (fun r226 => ?_)
                                              refine wa_iconst ?_
                                              refine wa_isub ?_
                                              rw [show ((((ms.length : Int) + 1) - 1) : Int) = (ms.length : Int) by omega]
                                              refine wa_iload_n (n := 2) rfl ?_
                                              refine wa_ifeq (w_rg0 (by omega) (by omega)) ⟨_, rfl⟩ (fun c227 => ?_) (fun c227 => ?_)
                                              · skip
                                                exact absurd c227 (by omega)
                                              · skip
                                                refine wa_iconst ?_
                                                refine wa_goto ⟨_, rfl⟩ ?_
                                                refine wb_iast 99 rfl (wy_pr rfl) wt_99 (n := 400) ((w_up_slot (by decide)).trans ((w_up_slot (by decide)).trans ((w_up_slot (by decide)).trans ((w_up_slot (by decide)).trans ((w_up_slot (by decide)).trans ((w_up_slot (by decide)).trans ((w_up_slot (by decide)).trans ((w_up_slot (by decide)).trans ((w_up_slot (by decide)).trans ((w_up_slot (by decide)).trans ((w_up_slot (by decide)).trans ((w_up_slot (by decide)).trans ((cl_99 hC)))))))))))))) (by omega) (by omega) ⟨(by omega), (by omega)⟩ ?_
                                                refine wa_return rfl ?_
                                                show wJ _ _ _ _ _ _ _ _ _ _
                                                refine wa_aload_n (n := 0) rfl ?_
                                                refine wb_gf5 61 rfl (wy_pr rfl) wt_61 wf_4_1 (v := 73) ((w_up_slot (by decide)).trans ((w_up_slot (by decide)).trans ((w_up_slot (by decide)).trans ((w_up_slot (by decide)).trans ((w_up_slot (by decide)).trans ((w_up_slot (by decide)).trans ((w_up_slot (by decide)).trans ((w_up_slot (by decide)).trans ((w_up_slot (by decide)).trans ((w_up_slot (by decide)).trans ((w_up_slot (by decide)).trans ((w_up_slot (by decide)).trans ((w_up_slot (by decide)).trans (hH)))))))))))))) (fun r228 => ?_)
                                                refine wb_gfi 73 rfl (wy_pr rfl) wt_73 wf_3_4 (v := ((ms.length : Int) + 1)) ((w_up_slot (by decide)).trans ((w_up_slot (by decide)).trans (w_up_same _ _ _ _))) (fun r229 => ?_)
                                                refine wa_iconst ?_
                                                refine wa_isub ?_
                                                rw [show ((((ms.length : Int) + 1) - 1) : Int) = (ms.length : Int) by omega]
                                                refine wa_istore (n := 5) rfl ?_
                                                refine wa_aload_n (n := 0) rfl ?_
                                                refine wb_gf5 61 rfl (wy_pr rfl) wt_61 wf_4_1 (v := 73) ((w_up_slot (by decide)).trans ((w_up_slot (by decide)).trans ((w_up_slot (by decide)).trans ((w_up_slot (by decide)).trans ((w_up_slot (by decide)).trans ((w_up_slot (by decide)).trans ((w_up_slot (by decide)).trans ((w_up_slot (by decide)).trans ((w_up_slot (by decide)).trans ((w_up_slot (by decide)).trans ((w_up_slot (by decide)).trans ((w_up_slot (by decide)).trans ((w_up_slot (by decide)).trans (hH)))))))))))))) (fun r230 => ?_)
                                                refine wb_gf4 73 rfl (wy_pr rfl) wt_73 wf_3_3 (v := 96) wl_73_3 ?_
                                                refine wa_iconst ?_
                                                refine wb_aald5 96 1 rfl rfl (wy_pr rfl) wt_96 (by rw [show _ = _ from ((w_up_slot (by decide)).trans ((w_up_slot (by decide)).trans ((w_up_slot (by decide)).trans ((w_up_slot (by decide)).trans ((w_up_slot (by decide)).trans ((w_up_slot (by decide)).trans ((w_up_slot (by decide)).trans ((w_up_slot (by decide)).trans ((w_up_slot (by decide)).trans ((w_up_slot (by decide)).trans ((w_up_slot (by decide)).trans ((w_up_slot (by decide)).trans ((w_up_slot (by decide)).trans ((cl_96 hC)))))))))))))))]; omega) wl_96_1 ?_
                                                refine wa_iload (n := 5) rfl ?_
                                                refine wb_iald 98 rfl (wy_pr rfl) wt_98 (n := 400) ((w_up_slot (by decide)).trans ((w_up_slot (by decide)).trans ((w_up_slot (by decide)).trans ((w_up_slot (by decide)).trans ((w_up_slot (by decide)).trans ((w_up_slot (by decide)).trans ((w_up_slot (by decide)).trans ((w_up_slot (by decide)).trans ((w_up_at (by omega)).trans ((w_up_slot (by decide)).trans ((w_up_slot (by decide)).trans ((w_up_slot (by decide)).trans ((w_up_slot (by decide)).trans ((cl_98 hC))))))))))))))) (by omega) (by omega) (v := 1) ((w_up_slot (by decide)).trans ((w_up_slot (by decide)).trans ((w_up_slot (by decide)).trans ((w_up_slot (by decide)).trans ((w_up_slot (by decide)).trans ((w_up_slot (by decide)).trans ((w_up_slot (by decide)).trans ((w_up_slot (by decide)).trans (w_up_same _ _ _ _))))))))) (fun r231 => ?_)
                                                refine wa_ifeq (w_rg0 (by omega) (by omega)) ⟨_, rfl⟩ (fun c232 => ?_) (fun c232 => ?_)
                                                · skip
                                                  exact absurd c232 (by omega)
                                                · skip
                                                  refine wa_aload_n (n := 0) rfl ?_
                                                  refine wa_iload (n := 5) rfl ?_
                                                  have hmsx : mr_all 97 74 T (w_up (w_up (w_up (w_up (w_up (w_up (w_up (w_up (w_up (w_up (w_up (w_up (w_up S 14 4 ((i + 1 : Nat) : Int)) 14 4 ((i + 1 + 1 : Nat) : Int)) 14 4 ((i + 1 + 1 + 1 : Nat) : Int)) 97 (ms.length : Int) kc) 98 (ms.length : Int) 1) 100 (ms.length : Int) y) 101 (ms.length : Int) 0) 102 (ms.length : Int) 0) 111 (ms.length : Int) (S 17 ((i + 1 + 1 : Nat) : Int))) 112 (ms.length : Int) (-1)) 73 4 ((ms.length : Int) + 1)) 90 kc (((ms.length : Int) - (fi : Int)) + 1)) 99 (ms.length : Int) 1) ms := (mr_all_up (mr_all_up (mr_all_up (mr_all_up (mr_all_up (mr_all_up (mr_all_up (mr_all_up (mr_all_up (mr_all_up (mr_all_up (mr_all_up (mr_all_up hms (by omega) (by omega)) (by omega) (by omega)) (by omega) (by omega)) (by omega) (by omega)) (by omega) (by omega)) (by omega) (by omega)) (by omega) (by omega)) (by omega) (by omega)) (by omega) (by omega)) (by omega) (by omega)) (by omega) (by omega)) (by omega) (by omega)) (by omega) (by omega))
                                                  have hhd : mr_hd 97 74 T (w_up (w_up (w_up (w_up (w_up (w_up (w_up (w_up (w_up (w_up (w_up (w_up (w_up S 14 4 ((i + 1 : Nat) : Int)) 14 4 ((i + 1 + 1 : Nat) : Int)) 14 4 ((i + 1 + 1 + 1 : Nat) : Int)) 97 (ms.length : Int) kc) 98 (ms.length : Int) 1) 100 (ms.length : Int) y) 101 (ms.length : Int) 0) 102 (ms.length : Int) 0) 111 (ms.length : Int) (S 17 ((i + 1 + 1 : Nat) : Int))) 112 (ms.length : Int) (-1)) 73 4 ((ms.length : Int) + 1)) 90 kc (((ms.length : Int) - (fi : Int)) + 1)) 99 (ms.length : Int) 1) (ms.length : Int) kc 1 1 y (tp T n 1 (i + 1 + 1)) (lx_en T n 1 (tp T n 1 (i + 1 + 1))) := ⟨⟨((w_up_slot (by decide)).trans ((w_up_slot (by decide)).trans ((w_up_slot (by decide)).trans ((w_up_slot (by decide)).trans ((w_up_slot (by decide)).trans ((w_up_slot (by decide)).trans ((w_up_slot (by decide)).trans ((w_up_slot (by decide)).trans ((w_up_slot (by decide)).trans (w_up_same _ _ _ _)))))))))), ((w_up_slot (by decide)).trans ((w_up_slot (by decide)).trans ((w_up_slot (by decide)).trans ((w_up_slot (by decide)).trans ((w_up_slot (by decide)).trans ((w_up_slot (by decide)).trans ((w_up_slot (by decide)).trans ((w_up_slot (by decide)).trans (w_up_same _ _ _ _))))))))), (w_up_same _ _ _ _), ((w_up_slot (by decide)).trans ((w_up_slot (by decide)).trans ((w_up_slot (by decide)).trans ((w_up_slot (by decide)).trans ((w_up_slot (by decide)).trans ((w_up_slot (by decide)).trans ((w_up_slot (by decide)).trans (w_up_same _ _ _ _))))))))⟩, ⟨by decide, by decide⟩, fun z => absurd z (by decide), fun _ => ⟨⟨by rw [show (w_up (w_up (w_up (w_up (w_up (w_up (w_up (w_up (w_up (w_up (w_up (w_up (w_up S 14 4 ((i + 1 : Nat) : Int)) 14 4 ((i + 1 + 1 : Nat) : Int)) 14 4 ((i + 1 + 1 + 1 : Nat) : Int)) 97 (ms.length : Int) kc) 98 (ms.length : Int) 1) 100 (ms.length : Int) y) 101 (ms.length : Int) 0) 102 (ms.length : Int) 0) 111 (ms.length : Int) (S 17 ((i + 1 + 1 : Nat) : Int))) 112 (ms.length : Int) (-1)) 73 4 ((ms.length : Int) + 1)) 90 kc (((ms.length : Int) - (fi : Int)) + 1)) 99 (ms.length : Int) 1) (97 + 14) (ms.length : Int) = _ from ((w_up_slot (by decide)).trans ((w_up_slot (by decide)).trans ((w_up_slot (by decide)).trans ((w_up_slot (by decide)).trans (w_up_same _ _ _ _)))))]; omega, by rw [show (w_up (w_up (w_up (w_up (w_up (w_up (w_up (w_up (w_up (w_up (w_up (w_up (w_up S 14 4 ((i + 1 : Nat) : Int)) 14 4 ((i + 1 + 1 : Nat) : Int)) 14 4 ((i + 1 + 1 + 1 : Nat) : Int)) 97 (ms.length : Int) kc) 98 (ms.length : Int) 1) 100 (ms.length : Int) y) 101 (ms.length : Int) 0) 102 (ms.length : Int) 0) 111 (ms.length : Int) (S 17 ((i + 1 + 1 : Nat) : Int))) 112 (ms.length : Int) (-1)) 73 4 ((ms.length : Int) + 1)) 90 kc (((ms.length : Int) - (fi : Int)) + 1)) 99 (ms.length : Int) 1) (97 + 14) (ms.length : Int) = _ from ((w_up_slot (by decide)).trans ((w_up_slot (by decide)).trans ((w_up_slot (by decide)).trans ((w_up_slot (by decide)).trans (w_up_same _ _ _ _)))))]; show _ < S 74 7; omega⟩, by rw [show (w_up (w_up (w_up (w_up (w_up (w_up (w_up (w_up (w_up (w_up (w_up (w_up (w_up S 14 4 ((i + 1 : Nat) : Int)) 14 4 ((i + 1 + 1 : Nat) : Int)) 14 4 ((i + 1 + 1 + 1 : Nat) : Int)) 97 (ms.length : Int) kc) 98 (ms.length : Int) 1) 100 (ms.length : Int) y) 101 (ms.length : Int) 0) 102 (ms.length : Int) 0) 111 (ms.length : Int) (S 17 ((i + 1 + 1 : Nat) : Int))) 112 (ms.length : Int) (-1)) 73 4 ((ms.length : Int) + 1)) 90 kc (((ms.length : Int) - (fi : Int)) + 1)) 99 (ms.length : Int) 1) (97 + 14) (ms.length : Int) = _ from ((w_up_slot (by decide)).trans ((w_up_slot (by decide)).trans ((w_up_slot (by decide)).trans ((w_up_slot (by decide)).trans (w_up_same _ _ _ _)))))]; exact hnt2.2.2⟩⟩
                                                  have hpm0 : pm_I 97 (w_up (w_up (w_up (w_up (w_up (w_up (w_up (w_up (w_up (w_up (w_up (w_up (w_up S 14 4 ((i + 1 : Nat) : Int)) 14 4 ((i + 1 + 1 : Nat) : Int)) 14 4 ((i + 1 + 1 + 1 : Nat) : Int)) 97 (ms.length : Int) kc) 98 (ms.length : Int) 1) 100 (ms.length : Int) y) 101 (ms.length : Int) 0) 102 (ms.length : Int) 0) 111 (ms.length : Int) (S 17 ((i + 1 + 1 : Nat) : Int))) 112 (ms.length : Int) (-1)) 73 4 ((ms.length : Int) + 1)) 90 kc (((ms.length : Int) - (fi : Int)) + 1)) 99 (ms.length : Int) 1) (ms.length : Int) [] 0 := ⟨((w_up_slot (by decide)).trans ((w_up_slot (by decide)).trans ((w_up_slot (by decide)).trans ((w_up_slot (by decide)).trans ((w_up_slot (by decide)).trans ((w_up_slot (by decide)).trans (w_up_same _ _ _ _))))))), ((w_up_slot (by decide)).trans ((w_up_slot (by decide)).trans ((w_up_slot (by decide)).trans ((w_up_slot (by decide)).trans ((w_up_slot (by decide)).trans (w_up_same _ _ _ _)))))), by decide, fun q hq => absurd hq (Nat.not_lt_zero _)⟩
                                                  have hn := lx_w_k (k := 12) hB hW hrw (by decide) hwc.1 hnt1
                                                  rw [show hwl 12 = tx_25 from rfl] at hn
                                                  have z1 : zq B (tp T n 1 (i + 1)) 237 6 = 1 := by rw [zT_6 hB]; exact hnt1.1
                                                  have hs := lx_w_k (k := 11) hB hW hrw (by decide) hwc.1 hnt0
                                                  rw [show hwl 11 = tx_23 from rfl] at hs
                                                  have hrm0 : rm_L B 241 kc itf (ms.drop fi) ms.length (tp T n 1 i) = rb_L B 241 kc itf (ms.drop fi) ms.length (tp T n 1 (i + 1)) 1 := (rm_s (hs.2 (by omega)) (by omega)).trans (by rw [tp_ne (i := i) hB])
                                                  have hyh := ty_hy (av := 1) hyy1 (Or.inr (by decide))
                                                  rw [tp_ne (i := i + 1) hB] at hyh
                                                  have hrm1 : rm_L B 241 kc itf (ms.drop fi) ms.length (tp T n 1 i) = rb_name B 241 itf (ms.drop fi) y (tp T n 1 (i + 1 + 1)) 1 := hrm0.trans (rb_t z1 (fun z => absurd (hn.1 z) (by omega)) hyh.2.2.1 (by omega) hyh.1)
                                                  have z2 : zq B (tp T n 1 (i + 1 + 1)) 237 6 = 1 := by rw [zT_6 hB]; exact hnt2.1
                                                  have hoo := oo_21 hB hW hrw hwc.1 hnt2
                                                  have h59 := lx_is_kg (i := i + 1 + 1 + 1) hB (k := 17) (ch := 59) (by decide) sk_17
                                                  have hrm3 := hrm1.trans (rn_m z2 (fun z => absurd (hoo.1 z) (by omega)) (by rw [tp_ne (i := i + 1 + 1) hB]; rintro ⟨q1, q2⟩; have := h59.1 q1; omega))
                                                  rw [tp_ne (i := i + 1 + 1) hB, zT_8 hB] at hrm3
                                                  have h40 := lx_is_kg (i := i + 1 + 1 + 1) hB (k := 10) (ch := 40) (by decide) sk_10
                                                  have hpar : rm_par2 B 241 1 (tp T n 1 (i + 1 + 1)) (lx_en T n 1 (tp T n 1 (i + 1 + 1))) (ms.drop fi) (tp T n 1 (i + 1 + 1 + 1)) = (if kg T n (tp T n 1 (i + 1 + 1 + 1)) = 10 then pk_L B 1 (tp T n 1 (i + 1 + 1)) (lx_en T n 1 (tp T n 1 (i + 1 + 1))) (ms.drop fi) (pq_r B 241 (tp T n 1 (i + 1 + 1 + 1 + 1))) else .inl (1, (tp T n 1 (i + 1 + 1 + 1)))) := by
                                                    unfold rm_par2
                                                    by_cases hq : kg T n (tp T n 1 (i + 1 + 1 + 1)) = 10
                                                    · rw [if_pos (h40.2 hq), if_pos hq, tp_ne (i := i + 1 + 1 + 1) hB]
                                                    · rw [if_neg (fun z => hq (h40.1 z)), if_neg hq]
                                                  rw [hpar] at hrm3
                                                  generalize hRR : (if kg T n (tp T n 1 (i + 1 + 1 + 1)) = 10 then pk_L B 1 (tp T n 1 (i + 1 + 1)) (lx_en T n 1 (tp T n 1 (i + 1 + 1))) (ms.drop fi) (pq_r B 241 (tp T n 1 (i + 1 + 1 + 1 + 1))) else .inl (1, (tp T n 1 (i + 1 + 1 + 1)))) = RR at hrm3
                                                  have hrp := rp_73 (xs := xs) (M := M) (d := d + 1) (S := (w_up (w_up (w_up (w_up (w_up (w_up (w_up (w_up (w_up (w_up (w_up (w_up (w_up S 14 4 ((i + 1 : Nat) : Int)) 14 4 ((i + 1 + 1 : Nat) : Int)) 14 4 ((i + 1 + 1 + 1 : Nat) : Int)) 97 (ms.length : Int) kc) 98 (ms.length : Int) 1) 100 (ms.length : Int) y) 101 (ms.length : Int) 0) 102 (ms.length : Int) 0) 111 (ms.length : Int) (S 17 ((i + 1 + 1 : Nat) : Int))) 112 (ms.length : Int) (-1)) 73 4 ((ms.length : Int) + 1)) 90 kc (((ms.length : Int) - (fi : Int)) + 1)) 99 (ms.length : Int) 1)) (i := i + 1 + 1 + 1) (ms := ms) (kc := kc) (so := 1) (st := 1) (ty := y) (f0 := (tp T n 1 (i + 1 + 1))) (e0 := (lx_en T n 1 (tp T n 1 (i + 1 + 1)))) (fi := fi) (hx_up (hx_up (hx_up (hx_up (hx_up (hx_up (hx_up (hx_up (hx_up (hx_up (hx_up (hx_up (hx_up hx (by unfold hx_o; omega)) (by unfold hx_o; omega)) (by unfold hx_o; omega)) (by unfold hx_o; omega)) (by unfold hx_o; omega)) (by unfold hx_o; omega)) (by unfold hx_o; omega)) (by unfold hx_o; omega)) (by unfold hx_o; omega)) (by unfold hx_o; omega)) (by unfold hx_o; omega)) (by unfold hx_o; omega)) (by unfold hx_o; omega)) (show cx_P T n c (i + 1 + 1 + 1) (w_up (w_up (w_up (w_up (w_up (w_up (w_up (w_up (w_up (w_up (w_up (w_up (w_up S 14 4 ((i + 1 : Nat) : Int)) 14 4 ((i + 1 + 1 : Nat) : Int)) 14 4 ((i + 1 + 1 + 1 : Nat) : Int)) 97 (ms.length : Int) kc) 98 (ms.length : Int) 1) 100 (ms.length : Int) y) 101 (ms.length : Int) 0) 102 (ms.length : Int) 0) 111 (ms.length : Int) (S 17 ((i + 1 + 1 : Nat) : Int))) 112 (ms.length : Int) (-1)) 73 4 ((ms.length : Int) + 1)) 90 kc (((ms.length : Int) - (fi : Int)) + 1)) 99 (ms.length : Int) 1) from ⟨((w_up_slot (by decide)).trans ((w_up_slot (by decide)).trans ((w_up_slot (by decide)).trans ((w_up_slot (by decide)).trans ((w_up_slot (by decide)).trans ((w_up_slot (by decide)).trans ((w_up_slot (by decide)).trans ((w_up_slot (by decide)).trans ((w_up_slot (by decide)).trans ((w_up_slot (by decide)).trans (w_up_same _ _ _ _))))))))))), hg3⟩) hmsx (by omega) hhd (by decide) hkc ⟨(((w_up_slot (by decide)).trans ((w_up_slot (by decide)).trans ((w_up_slot (by decide)).trans ((w_up_slot (by decide)).trans ((w_up_slot (by decide)).trans ((w_up_slot (by decide)).trans ((w_up_slot (by decide)).trans ((w_up_slot (by decide)).trans ((w_up_slot (by decide)).trans ((w_up_slot (by decide)).trans ((w_up_slot (by decide)).trans ((w_up_slot (by decide)).trans (w_up_slot (by decide))))))))))))))).trans hfi.1, hfi.2⟩ hpm0
                                                  rw [hRR] at hrp
                                                  refine wa_cv 61 rfl (wy_pr rfl) wt_61 (M2 := M) rfl at_XT_readParameters ⟨_, rfl⟩ rfl rfl ⟨trivial, (Or.inr ⟨wy_pr rfl, mS_no rfl⟩), trivial, trivial, trivial⟩ trivial (fun _ _ q => q) (hrp) (fun oq233 Sq233 hp234 q233 => ?_)
                                                  rcases q233 with hrq
                                                  match RR, hrm3, hrq with
                                                  | .inl (e, qq), hrm3, hrq =>
                                                    obtain ⟨v, Z0, rfl, g1, g2⟩ := hrq
                                                    refine ⟨rfl, ?_⟩
                                                    exact hf e qq v Z0 _ (by rw [mb_f_s, if_neg (fun z => absurd (h125.1 z) (by omega)), hrm3]; rfl) (fun j x a1 a2 a3 a4 => (g1 j x a1 (by omega)).trans ((fun j x a1 a2 a3 a4 => (w_up_no (by omega)).trans ((w_up_no (by omega)).trans ((w_up_no (by omega)).trans ((w_up_no (by omega)).trans ((w_up_no (by omega)).trans ((w_up_no (by omega)).trans ((w_up_no (by omega)).trans ((w_up_no (by omega)).trans ((w_up_no (by omega)).trans ((w_up_no (by omega)).trans ((w_up_no (by omega)).trans ((w_up_no (by omega)).trans ((w_up_no (by omega)).trans (rfl)))))))))))))) j x a1 a2 a3 a4)) g2
                                                  | .inr (qq, l, vv), hrm3, hrq =>
                                                    obtain ⟨rfl, g1, ⟨i2, g2, rfl⟩, g3⟩ := hrq
                                                    show wJ _ _ _ _ _ _ _ _ _ _
                                                    refine wa_fall ⟨_, rfl⟩ ?_
                                                    have hxz : hx_I 241 73 87 92 74 T n c B Sq233 := hx_ag (hx_up (hx_up (hx_up (hx_up (hx_up (hx_up (hx_up (hx_up (hx_up (hx_up (hx_up (hx_up (hx_up hx (by unfold hx_o; omega)) (by unfold hx_o; omega)) (by unfold hx_o; omega)) (by unfold hx_o; omega)) (by unfold hx_o; omega)) (by unfold hx_o; omega)) (by unfold hx_o; omega)) (by unfold hx_o; omega)) (by unfold hx_o; omega)) (by unfold hx_o; omega)) (by unfold hx_o; omega)) (by unfold hx_o; omega)) (by unfold hx_o; omega)) (by decide) (g1 14 3 (by omega) (by omega)) (gI_ag (gI_up (gI_up (gI_up (gI_up (gI_up (gI_up (gI_up (gI_up (gI_up (gI_up (gI_up (gI_up (gI_up hI (by omega) (by omega) (by omega)) (by omega) (by omega) (by omega)) (by omega) (by omega) (by omega)) (by omega) (by omega) (by omega)) (by omega) (by omega) (by omega)) (by omega) (by omega) (by omega)) (by omega) (by omega) (by omega)) (by omega) (by omega) (by omega)) (by omega) (by omega) (by omega)) (by omega) (by omega) (by omega)) (by omega) (by omega) (by omega)) (by omega) (by omega) (by omega)) (by omega) (by omega) (by omega)) (fun j hj => funext fun x => ?_)) (fun j hj => funext fun x => g1 j x (by omega) (by omega)) (g1 73 2 (by omega) (by omega)) (g1 61 1 (by omega) (by omega)) (fun z hz => (g1 z.1 (-1) (by omega) (by omega)).trans ((hx_R (hx_up (hx_up (hx_up (hx_up (hx_up (hx_up (hx_up (hx_up (hx_up (hx_up (hx_up (hx_up (hx_up hx (by unfold hx_o; omega)) (by unfold hx_o; omega)) (by unfold hx_o; omega)) (by unfold hx_o; omega)) (by unfold hx_o; omega)) (by unfold hx_o; omega)) (by unfold hx_o; omega)) (by unfold hx_o; omega)) (by unfold hx_o; omega)) (by unfold hx_o; omega)) (by unfold hx_o; omega)) (by unfold hx_o; omega)) (by unfold hx_o; omega))).2.2.1 z hz))
                                                    · sorry
                                            · skip
                                              exact absurd c218 (by omega)
                                          · skip
                                            exact absurd c214 (by omega)
                                        · skip
                                          exact absurd c213 (by omega)
                                      · skip
                                        exact absurd c212 (by omega)
                                    · skip
                                      refine wa_aload_n (n := 0) rfl ?_
                                      refine wb_gf4 14 rfl (wy_pr rfl) wt_14 wf_6_0 (v := 15) wl_14_0 ?_
                                      refine wa_aload_n (n := 0) rfl ?_
                                      refine wb_gfi 14 rfl (wy_pr rfl) wt_14 wf_6_4 (v := ((i + 1 + 1 : Nat) : Int)) (w_up_same _ _ _ _) (fun r235 => ?_)
                                      refine wa_iconst ?_
                                      refine wa_iadd ?_
                                      refine wb_bald 15 rfl (wy_pr rfl) wt_15 (n := (S 15 (-1))) ((w_up_slot (by decide)).trans (w_up_slot (by decide))) (by omega) (by omega) (v := (S 15 (((i + 1 + 1 : Nat) : Int) + 1))) ((w_up_slot (by decide)).trans (w_up_slot (by decide))) (fun r236 => ?_)
                                      refine wa_goto ⟨_, rfl⟩ ?_
                                      refine wa_ireturn rfl ?_
                                      show wJ _ _ _ _ _ _ _ _ _ _
                                      refine wa_bipush (w_rg2 (by omega) (by omega)) ?_
                                      refine wa_icmpne (w_rg0 (by omega) (by omega)) (w_rg0 (by omega) (by omega)) ⟨_, rfl⟩ (fun c237 => ?_) (fun c237 => ?_)
                                      · skip
                                        refine wa_iconst ?_
                                        refine wa_fall ⟨_, rfl⟩ ?_
                                        refine wa_istore (n := 4) rfl ?_
                                        refine wa_iload (n := 4) rfl ?_
                                        refine wa_ifeq (w_rg0 (by omega) (by omega)) ⟨_, rfl⟩ (fun c238 => ?_) (fun c238 => ?_)
                                        · skip
                                          refine wa_iload (n := 4) rfl ?_
                                          refine wa_ifeq (w_rg0 (by omega) (by omega)) ⟨_, rfl⟩ (fun c239 => ?_) (fun c239 => ?_)
                                          · skip
                                            refine wa_aload_n (n := 0) rfl ?_
                                            refine wb_gf4 61 rfl (wy_pr rfl) wt_61 wf_4_0 (v := 14) wl_61_0 ?_
                                            refine wa_cv 14 rfl (wy_pr rfl) wt_14 (M2 := fun _ => False) rfl at_XR_next ⟨_, rfl⟩ rfl rfl ⟨trivial, trivial, (Or.inr ⟨wy_pr rfl, fun q => q⟩), trivial, trivial, trivial⟩ trivial (fun _ _ q => False.elim q) (nx_c (S := (w_up (w_up S 14 4 ((i + 1 : Nat) : Int)) 14 4 ((i + 1 + 1 : Nat) : Int))) (hx_T (hx_up (hx_up hx (by unfold hx_o; omega)) (by unfold hx_o; omega))) (show cx_P T n c (i + 1 + 1) (w_up (w_up S 14 4 ((i + 1 : Nat) : Int)) 14 4 ((i + 1 + 1 : Nat) : Int)) from ⟨(w_up_same _ _ _ _), hg2⟩) rfl (gI_up (gI_up hI (by omega) (by omega) (by omega)) (by omega) (by omega) (by omega)) (by omega)) (fun oq240 Sq240 hp241 q240 => ?_)
                                            rcases q240 with ⟨rfl, rfl⟩
                                            show wJ _ _ _ _ _ _ _ _ _ _
                                            have hg3 : pg T n c (i + 1 + 1 + 1) := pg_next hT hg2 (by omega) (by omega)
                                            have hA3 := pg_at hT hg3
                                            have h16_3 := hA3.1
                                            have h15_3 := hA3.2.1
                                            have hpr3 := hA3.2.2
                                            have hkr3 := kg_rg T n (tp T n 1 (i + 1 + 1 + 1))
                                            have hic3 := hg3.1
                                            have hlt3 := tp_lt hT hg2 (by omega) (by omega)
                                            refine wa_aload_n (n := 0) rfl ?_
                                            refine wb_gf5 61 rfl (wy_pr rfl) wt_61 wf_4_1 (v := 73) ((w_up_slot (by decide)).trans ((w_up_slot (by decide)).trans ((w_up_slot (by decide)).trans (hH)))) (fun r242 => ?_)
                                            refine wa_iload (n := 4) rfl ?_
                                            refine wa_ifeq (w_rg0 (by omega) (by omega)) ⟨_, rfl⟩ (fun c243 => ?_) (fun c243 => ?_)
                                            · skip
                                              refine wa_iconst ?_
                                              refine wa_fall ⟨_, rfl⟩ ?_
                                              refine wa_iload_n (n := 2) rfl ?_
                                              refine wa_iload_n (n := 3) rfl ?_
                                              refine wa_cv 73 rfl (wy_pr rfl) wt_73 (M2 := fun _ => False) rfl at_XO_addMember ⟨_, rfl⟩ rfl rfl ⟨trivial, trivial, (Or.inr ⟨wy_pr rfl, fun q => q⟩), trivial, trivial, trivial⟩ trivial (fun _ _ q => False.elim q) ?_ (fun _ _ _ q => q)
                                              refine wa_aload_n (n := 0) rfl ?_
                                              refine wb_gfi 73 rfl (wy_pr rfl) wt_73 wf_3_4 (v := (ms.length : Int)) ((w_up_slot (by decide)).trans ((w_up_slot (by decide)).trans ((w_up_slot (by decide)).trans (hmc)))) (fun r244 => ?_)
                                              refine wa_istore (n := 4) rfl ?_
                                              refine wa_aload_n (n := 0) rfl ?_
                                              refine wb_gf4 73 rfl (wy_pr rfl) wt_73 wf_3_3 (v := 96) wl_73_3 ?_
                                              refine wa_iconst ?_
                                              refine wb_aald5 96 0 rfl rfl (wy_pr rfl) wt_96 (by rw [show _ = _ from ((w_up_slot (by decide)).trans ((w_up_slot (by decide)).trans ((w_up_slot (by decide)).trans ((cl_96 hC)))))]; omega) wl_96_0 ?_
                                              refine wa_iload (n := 4) rfl ?_
                                              refine wa_aload_n (n := 0) rfl ?_
                                              refine wb_gfi 73 rfl (wy_pr rfl) wt_73 wf_3_2 (v := (kc + 1)) ((w_up_slot (by decide)).trans ((w_up_slot (by decide)).trans ((w_up_slot (by decide)).trans (hkc1)))) (fun r245 => ?_)
                                              refine wa_iconst ?_
                                              refine wa_isub ?_
                                              rw [show (((kc + 1) - 1) : Int) = kc by omega]
                                              refine wb_iast 97 rfl (wy_pr rfl) wt_97 (n := 400) ((w_up_slot (by decide)).trans ((w_up_slot (by decide)).trans ((w_up_slot (by decide)).trans ((cl_97 hC))))) (by omega) (by omega) ⟨(by omega), (by omega)⟩ ?_
                                              refine wa_aload_n (n := 0) rfl ?_
                                              refine wb_gf4 73 rfl (wy_pr rfl) wt_73 wf_3_3 (v := 96) wl_73_3 ?_
                                              refine wa_iconst ?_
                                              refine wb_aald5 96 1 rfl rfl (wy_pr rfl) wt_96 (by rw [show _ = _ from ((w_up_slot (by decide)).trans ((w_up_slot (by decide)).trans ((w_up_slot (by decide)).trans ((w_up_slot (by decide)).trans ((cl_96 hC))))))]; omega) wl_96_1 ?_
                                              refine wa_iload (n := 4) rfl ?_
                                              refine wa_iload_n (n := 1) rfl ?_
                                              refine wb_iast 98 rfl (wy_pr rfl) wt_98 (n := 400) ((w_up_slot (by decide)).trans ((w_up_slot (by decide)).trans ((w_up_slot (by decide)).trans ((w_up_slot (by decide)).trans ((cl_98 hC)))))) (by omega) (by omega) ⟨(by omega), (by omega)⟩ ?_
                                              refine wa_aload_n (n := 0) rfl ?_
                                              refine wb_gf4 73 rfl (wy_pr rfl) wt_73 wf_3_3 (v := 96) wl_73_3 ?_
                                              refine wa_iconst ?_
                                              refine wb_aald5 96 3 rfl rfl (wy_pr rfl) wt_96 (by rw [show _ = _ from ((w_up_slot (by decide)).trans ((w_up_slot (by decide)).trans ((w_up_slot (by decide)).trans ((w_up_slot (by decide)).trans ((w_up_slot (by decide)).trans ((cl_96 hC)))))))]; omega) wl_96_3 ?_
                                              refine wa_iload (n := 4) rfl ?_
                                              refine wa_iload_n (n := 2) rfl ?_
                                              refine wb_iast 100 rfl (wy_pr rfl) wt_100 (n := 400) ((w_up_slot (by decide)).trans ((w_up_slot (by decide)).trans ((w_up_slot (by decide)).trans ((w_up_slot (by decide)).trans ((w_up_slot (by decide)).trans ((cl_100 hC))))))) (by omega) (by omega) ⟨(by omega), (by omega)⟩ ?_
                                              refine wa_aload_n (n := 0) rfl ?_
                                              refine wb_gf4 73 rfl (wy_pr rfl) wt_73 wf_3_3 (v := 96) wl_73_3 ?_
                                              refine wa_iconst ?_
                                              refine wb_aald5 96 4 rfl rfl (wy_pr rfl) wt_96 (by rw [show _ = _ from ((w_up_slot (by decide)).trans ((w_up_slot (by decide)).trans ((w_up_slot (by decide)).trans ((w_up_slot (by decide)).trans ((w_up_slot (by decide)).trans ((w_up_slot (by decide)).trans ((cl_96 hC))))))))]; omega) wl_96_4 ?_
                                              refine wa_iload (n := 4) rfl ?_
                                              refine wa_iconst ?_
                                              refine wb_iast 101 rfl (wy_pr rfl) wt_101 (n := 400) ((w_up_slot (by decide)).trans ((w_up_slot (by decide)).trans ((w_up_slot (by decide)).trans ((w_up_slot (by decide)).trans ((w_up_slot (by decide)).trans ((w_up_slot (by decide)).trans ((cl_101 hC)))))))) (by omega) (by omega) ⟨(by omega), (by omega)⟩ ?_
                                              refine wa_aload_n (n := 0) rfl ?_
                                              refine wb_gf4 73 rfl (wy_pr rfl) wt_73 wf_3_3 (v := 96) wl_73_3 ?_
                                              refine wa_iconst ?_
                                              refine wb_aald5 96 5 rfl rfl (wy_pr rfl) wt_96 (by rw [show _ = _ from ((w_up_slot (by decide)).trans ((w_up_slot (by decide)).trans ((w_up_slot (by decide)).trans ((w_up_slot (by decide)).trans ((w_up_slot (by decide)).trans ((w_up_slot (by decide)).trans ((w_up_slot (by decide)).trans ((cl_96 hC)))))))))]; omega) wl_96_5 ?_
                                              refine wa_iload (n := 4) rfl ?_
                                              refine wa_iconst ?_
                                              refine wb_iast 102 rfl (wy_pr rfl) wt_102 (n := 400) ((w_up_slot (by decide)).trans ((w_up_slot (by decide)).trans ((w_up_slot (by decide)).trans ((w_up_slot (by decide)).trans ((w_up_slot (by decide)).trans ((w_up_slot (by decide)).trans ((w_up_slot (by decide)).trans ((cl_102 hC))))))))) (by omega) (by omega) ⟨(by omega), (by omega)⟩ ?_
                                              refine wa_aload_n (n := 0) rfl ?_
                                              refine wb_gf4 73 rfl (wy_pr rfl) wt_73 wf_3_3 (v := 96) wl_73_3 ?_
                                              refine wa_bipush (w_rg2 (by omega) (by omega)) ?_
                                              refine wb_aald5 96 14 rfl rfl (wy_pr rfl) wt_96 (by rw [show _ = _ from ((w_up_slot (by decide)).trans ((w_up_slot (by decide)).trans ((w_up_slot (by decide)).trans ((w_up_slot (by decide)).trans ((w_up_slot (by decide)).trans ((w_up_slot (by decide)).trans ((w_up_slot (by decide)).trans ((w_up_slot (by decide)).trans ((cl_96 hC))))))))))]; omega) wl_96_14 ?_
                                              refine wa_iload (n := 4) rfl ?_
                                              refine wa_iload_n (n := 3) rfl ?_
                                              refine wb_iast 111 rfl (wy_pr rfl) wt_111 (n := 400) ((w_up_slot (by decide)).trans ((w_up_slot (by decide)).trans ((w_up_slot (by decide)).trans ((w_up_slot (by decide)).trans ((w_up_slot (by decide)).trans ((w_up_slot (by decide)).trans ((w_up_slot (by decide)).trans ((w_up_slot (by decide)).trans ((cl_111 hC)))))))))) (by omega) (by omega) ⟨(by omega), (by omega)⟩ ?_
                                              refine wa_aload_n (n := 0) rfl ?_
                                              refine wb_gf4 73 rfl (wy_pr rfl) wt_73 wf_3_3 (v := 96) wl_73_3 ?_
                                              refine wa_bipush (w_rg2 (by omega) (by omega)) ?_
                                              refine wb_aald5 96 15 rfl rfl (wy_pr rfl) wt_96 (by rw [show _ = _ from ((w_up_slot (by decide)).trans ((w_up_slot (by decide)).trans ((w_up_slot (by decide)).trans ((w_up_slot (by decide)).trans ((w_up_slot (by decide)).trans ((w_up_slot (by decide)).trans ((w_up_slot (by decide)).trans ((w_up_slot (by decide)).trans ((w_up_slot (by decide)).trans ((cl_96 hC)))))))))))]; omega) wl_96_15 ?_
                                              refine wa_iload (n := 4) rfl ?_
                                              refine wa_iconst ?_
                                              refine wb_iast 112 rfl (wy_pr rfl) wt_112 (n := 400) ((w_up_slot (by decide)).trans ((w_up_slot (by decide)).trans ((w_up_slot (by decide)).trans ((w_up_slot (by decide)).trans ((w_up_slot (by decide)).trans ((w_up_slot (by decide)).trans ((w_up_slot (by decide)).trans ((w_up_slot (by decide)).trans ((w_up_slot (by decide)).trans ((cl_112 hC))))))))))) (by omega) (by omega) ⟨(by omega), (by omega)⟩ ?_
                                              refine wa_aload_n (n := 0) rfl ?_
                                              refine wa_dup (by decide) ?_
                                              refine wb_gfi 73 rfl (wy_pr rfl) wt_73 wf_3_4 (v := (ms.length : Int)) ((w_up_slot (by decide)).trans ((w_up_slot (by decide)).trans ((w_up_slot (by decide)).trans ((w_up_slot (by decide)).trans ((w_up_slot (by decide)).trans ((w_up_slot (by decide)).trans ((w_up_slot (by decide)).trans ((w_up_slot (by decide)).trans ((w_up_slot (by decide)).trans ((w_up_slot (by decide)).trans (hmc))))))))))) (fun r246 => ?_)
                                              refine wa_iconst ?_
                                              refine wa_iadd ?_
                                              refine wb_pfi 73 rfl (wy_pr rfl) wt_73 wf_3_4 (n := 4) rfl ⟨(by omega), (by omega)⟩ ?_
                                              refine wa_aload_n (n := 0) rfl ?_
                                              refine wb_gf4 73 rfl (wy_pr rfl) wt_73 wf_3_1 (v := 86) wl_73_1 ?_
                                              refine wa_iconst ?_
                                              refine wb_aald5 86 3 rfl rfl (wy_pr rfl) wt_86 (by rw [show _ = _ from ((w_up_slot (by decide)).trans ((w_up_slot (by decide)).trans ((w_up_slot (by decide)).trans ((w_up_slot (by decide)).trans ((w_up_slot (by decide)).trans ((w_up_slot (by decide)).trans ((w_up_slot (by decide)).trans ((w_up_slot (by decide)).trans ((w_up_slot (by decide)).trans ((w_up_slot (by decide)).trans ((w_up_slot (by decide)).trans ((cl_86 hC)))))))))))))]; omega) wl_86_3 ?_
                                              refine wa_aload_n (n := 0) rfl ?_
                                              refine wb_gfi 73 rfl (wy_pr rfl) wt_73 wf_3_2 (v := (kc + 1)) ((w_up_at (by decide)).trans ((w_up_slot (by decide)).trans ((w_up_slot (by decide)).trans ((w_up_slot (by decide)).trans ((w_up_slot (by decide)).trans ((w_up_slot (by decide)).trans ((w_up_slot (by decide)).trans ((w_up_slot (by decide)).trans ((w_up_slot (by decide)).trans ((w_up_slot (by decide)).trans ((w_up_slot (by decide)).trans (hkc1)))))))))))) (fun r247 => ?_)
                                              refine wa_iconst ?_
                                              refine wa_isub ?_
                                              rw [show (((kc + 1) - 1) : Int) = kc by omega]
                                              refine wa_dup2 (by decide) (by decide) ?_
                                              refine wb_iald 90 rfl (wy_pr rfl) wt_90 (n := 60) ((w_up_slot (by decide)).trans ((w_up_slot (by decide)).trans ((w_up_slot (by decide)).trans ((w_up_slot (by decide)).trans ((w_up_slot (by decide)).trans ((w_up_slot (by decide)).trans ((w_up_slot (by decide)).trans ((w_up_slot (by decide)).trans ((w_up_slot (by decide)).trans ((w_up_slot (by decide)).trans ((w_up_slot (by decide)).trans ((cl_90 hC))))))))))))) (by omega) (by omega) (v := ((ms.length : Int) - (fi : Int))) ((w_up_slot (by decide)).trans ((w_up_slot (by decide)).trans ((w_up_slot (by decide)).trans ((w_up_slot (by decide)).trans ((w_up_slot (by decide)).trans ((w_up_slot (by decide)).trans ((w_up_slot (by decide)).trans ((w_up_slot (by decide)).trans ((w_up_slot (by decide)).trans ((w_up_slot (by decide)).trans ((w_up_slot (by decide)).trans (ht3)))))))))))) (fun r248 => ?_)
                                              refine wa_iconst ?_
                                              refine wa_iadd ?_
                                              refine wb_iast 90 rfl (wy_pr rfl) wt_90 (n := 60) ((w_up_slot (by decide)).trans ((w_up_slot (by decide)).trans ((w_up_slot (by decide)).trans ((w_up_slot (by decide)).trans ((w_up_slot (by decide)).trans ((w_up_slot (by decide)).trans ((w_up_slot (by decide)).trans ((w_up_slot (by decide)).trans ((w_up_slot (by decide)).trans ((w_up_slot (by decide)).trans ((w_up_slot (by decide)).trans ((cl_90 hC))))))))))))) (by omega) (by omega) ⟨(by omega), (by omega)⟩ ?_
                                              refine wa_return rfl ?_
                                              show wJ _ _ _ _ _ _ _ _ _ _
                                              refine wa_return rfl ?_
                                              show wJ _ _ _ _ _ _ _ _ _ _
                                              refine wa_fall ⟨_, rfl⟩ ?_
                                              refine wa_aload_n (n := 0) rfl ?_
                                              refine wb_gf5 61 rfl (wy_pr rfl) wt_61 wf_4_1 (v := 73) ((w_up_slot (by decide)).trans ((w_up_slot (by decide)).trans ((w_up_slot (by decide)).trans ((w_up_slot (by decide)).trans ((w_up_slot (by decide)).trans ((w_up_slot (by decide)).trans ((w_up_slot (by decide)).trans ((w_up_slot (by decide)).trans ((w_up_slot (by decide)).trans ((w_up_slot (by decide)).trans ((w_up_slot (by decide)).trans ((w_up_slot (by decide)).trans (hH))))))))))))) (fun r249 => ?_)
                                              refine wb_gf4 73 rfl (wy_pr rfl) wt_73 wf_3_3 (v := 96) wl_73_3 ?_
                                              refine wa_iconst ?_
                                              refine wb_aald5 96 2 rfl rfl (wy_pr rfl) wt_96 (by rw [show _ = _ from ((w_up_slot (by decide)).trans ((w_up_slot (by decide)).trans ((w_up_slot (by decide)).trans ((w_up_slot (by decide)).trans ((w_up_slot (by decide)).trans ((w_up_slot (by decide)).trans ((w_up_slot (by decide)).trans ((w_up_slot (by decide)).trans ((w_up_slot (by decide)).trans ((w_up_slot (by decide)).trans ((w_up_slot (by decide)).trans ((w_up_slot (by decide)).trans ((cl_96 hC))))))))))))))]; omega) wl_96_2 ?_
                                              refine wa_aload_n (n := 0) rfl ?_
                                              refine wb_gf5 61 rfl (wy_pr rfl) wt_61 wf_4_1 (v := 73) ((w_up_slot (by decide)).trans ((w_up_slot (by decide)).trans ((w_up_slot (by decide)).trans ((w_up_slot (by decide)).trans ((w_up_slot (by decide)).trans ((w_up_slot (by decide)).trans ((w_up_slot (by decide)).trans ((w_up_slot (by decide)).trans ((w_up_slot (by decide)).trans ((w_up_slot (by decide)).trans ((w_up_slot (by decide)).trans ((w_up_slot (by decide)).trans (hH))))))))))))) (fun r250 => ?_)
                                              refine wb_gfi 73 rfl (wy_pr rfl) wt_73 wf_3_4 (v := ((ms.length : Int) + 1)) ((w_up_slot (by decide)).trans (w_up_same _ _ _ _)) (fun r251 => ?_)
                                              refine wa_iconst ?_
                                              refine wa_isub ?_
                                              rw [show ((((ms.length : Int) + 1) - 1) : Int) = (ms.length : Int) by omega]
                                              refine wa_iload_n (n := 2) rfl ?_
                                              refine wa_ifeq (w_rg0 (by omega) (by omega)) ⟨_, rfl⟩ (fun c252 => ?_) (fun c252 => ?_)
                                              · skip
                                                exact absurd c252 (by omega)
                                              · skip
                                                refine wa_iconst ?_
                                                refine wa_goto ⟨_, rfl⟩ ?_
                                                refine wb_iast 99 rfl (wy_pr rfl) wt_99 (n := 400) ((w_up_slot (by decide)).trans ((w_up_slot (by decide)).trans ((w_up_slot (by decide)).trans ((w_up_slot (by decide)).trans ((w_up_slot (by decide)).trans ((w_up_slot (by decide)).trans ((w_up_slot (by decide)).trans ((w_up_slot (by decide)).trans ((w_up_slot (by decide)).trans ((w_up_slot (by decide)).trans ((w_up_slot (by decide)).trans ((w_up_slot (by decide)).trans ((cl_99 hC)))))))))))))) (by omega) (by omega) ⟨(by omega), (by omega)⟩ ?_
                                                refine wa_return rfl ?_
                                                show wJ _ _ _ _ _ _ _ _ _ _
                                                refine wa_aload_n (n := 0) rfl ?_
                                                refine wb_gf5 61 rfl (wy_pr rfl) wt_61 wf_4_1 (v := 73) ((w_up_slot (by decide)).trans ((w_up_slot (by decide)).trans ((w_up_slot (by decide)).trans ((w_up_slot (by decide)).trans ((w_up_slot (by decide)).trans ((w_up_slot (by decide)).trans ((w_up_slot (by decide)).trans ((w_up_slot (by decide)).trans ((w_up_slot (by decide)).trans ((w_up_slot (by decide)).trans ((w_up_slot (by decide)).trans ((w_up_slot (by decide)).trans ((w_up_slot (by decide)).trans (hH)))))))))))))) (fun r253 => ?_)
                                                refine wb_gfi 73 rfl (wy_pr rfl) wt_73 wf_3_4 (v := ((ms.length : Int) + 1)) ((w_up_slot (by decide)).trans ((w_up_slot (by decide)).trans (w_up_same _ _ _ _))) (fun r254 => ?_)
                                                refine wa_iconst ?_
                                                refine wa_isub ?_
                                                rw [show ((((ms.length : Int) + 1) - 1) : Int) = (ms.length : Int) by omega]
                                                refine wa_istore (n := 5) rfl ?_
                                                refine wa_aload_n (n := 0) rfl ?_
                                                refine wb_gf5 61 rfl (wy_pr rfl) wt_61 wf_4_1 (v := 73) ((w_up_slot (by decide)).trans ((w_up_slot (by decide)).trans ((w_up_slot (by decide)).trans ((w_up_slot (by decide)).trans ((w_up_slot (by decide)).trans ((w_up_slot (by decide)).trans ((w_up_slot (by decide)).trans ((w_up_slot (by decide)).trans ((w_up_slot (by decide)).trans ((w_up_slot (by decide)).trans ((w_up_slot (by decide)).trans ((w_up_slot (by decide)).trans ((w_up_slot (by decide)).trans (hH)))))))))))))) (fun r255 => ?_)
                                                refine wb_gf4 73 rfl (wy_pr rfl) wt_73 wf_3_3 (v := 96) wl_73_3 ?_
                                                refine wa_iconst ?_
                                                refine wb_aald5 96 1 rfl rfl (wy_pr rfl) wt_96 (by rw [show _ = _ from ((w_up_slot (by decide)).trans ((w_up_slot (by decide)).trans ((w_up_slot (by decide)).trans ((w_up_slot (by decide)).trans ((w_up_slot (by decide)).trans ((w_up_slot (by decide)).trans ((w_up_slot (by decide)).trans ((w_up_slot (by decide)).trans ((w_up_slot (by decide)).trans ((w_up_slot (by decide)).trans ((w_up_slot (by decide)).trans ((w_up_slot (by decide)).trans ((w_up_slot (by decide)).trans ((cl_96 hC)))))))))))))))]; omega) wl_96_1 ?_
                                                refine wa_iload (n := 5) rfl ?_
                                                refine wb_iald 98 rfl (wy_pr rfl) wt_98 (n := 400) ((w_up_slot (by decide)).trans ((w_up_slot (by decide)).trans ((w_up_slot (by decide)).trans ((w_up_slot (by decide)).trans ((w_up_slot (by decide)).trans ((w_up_slot (by decide)).trans ((w_up_slot (by decide)).trans ((w_up_slot (by decide)).trans ((w_up_at (by omega)).trans ((w_up_slot (by decide)).trans ((w_up_slot (by decide)).trans ((w_up_slot (by decide)).trans ((w_up_slot (by decide)).trans ((cl_98 hC))))))))))))))) (by omega) (by omega) (v := 1) ((w_up_slot (by decide)).trans ((w_up_slot (by decide)).trans ((w_up_slot (by decide)).trans ((w_up_slot (by decide)).trans ((w_up_slot (by decide)).trans ((w_up_slot (by decide)).trans ((w_up_slot (by decide)).trans ((w_up_slot (by decide)).trans (w_up_same _ _ _ _))))))))) (fun r256 => ?_)
                                                refine wa_ifeq (w_rg0 (by omega) (by omega)) ⟨_, rfl⟩ (fun c257 => ?_) (fun c257 => ?_)
                                                · skip
                                                  exact absurd c257 (by omega)
                                                · skip
                                                  refine wa_aload_n (n := 0) rfl ?_
                                                  refine wa_iload (n := 5) rfl ?_
                                                  have hmsx : mr_all 97 74 T (w_up (w_up (w_up (w_up (w_up (w_up (w_up (w_up (w_up (w_up (w_up (w_up (w_up S 14 4 ((i + 1 : Nat) : Int)) 14 4 ((i + 1 + 1 : Nat) : Int)) 14 4 ((i + 1 + 1 + 1 : Nat) : Int)) 97 (ms.length : Int) kc) 98 (ms.length : Int) 1) 100 (ms.length : Int) y) 101 (ms.length : Int) 0) 102 (ms.length : Int) 0) 111 (ms.length : Int) (S 17 ((i + 1 + 1 : Nat) : Int))) 112 (ms.length : Int) (-1)) 73 4 ((ms.length : Int) + 1)) 90 kc (((ms.length : Int) - (fi : Int)) + 1)) 99 (ms.length : Int) 1) ms := (mr_all_up (mr_all_up (mr_all_up (mr_all_up (mr_all_up (mr_all_up (mr_all_up (mr_all_up (mr_all_up (mr_all_up (mr_all_up (mr_all_up (mr_all_up hms (by omega) (by omega)) (by omega) (by omega)) (by omega) (by omega)) (by omega) (by omega)) (by omega) (by omega)) (by omega) (by omega)) (by omega) (by omega)) (by omega) (by omega)) (by omega) (by omega)) (by omega) (by omega)) (by omega) (by omega)) (by omega) (by omega)) (by omega) (by omega))
                                                  have hhd : mr_hd 97 74 T (w_up (w_up (w_up (w_up (w_up (w_up (w_up (w_up (w_up (w_up (w_up (w_up (w_up S 14 4 ((i + 1 : Nat) : Int)) 14 4 ((i + 1 + 1 : Nat) : Int)) 14 4 ((i + 1 + 1 + 1 : Nat) : Int)) 97 (ms.length : Int) kc) 98 (ms.length : Int) 1) 100 (ms.length : Int) y) 101 (ms.length : Int) 0) 102 (ms.length : Int) 0) 111 (ms.length : Int) (S 17 ((i + 1 + 1 : Nat) : Int))) 112 (ms.length : Int) (-1)) 73 4 ((ms.length : Int) + 1)) 90 kc (((ms.length : Int) - (fi : Int)) + 1)) 99 (ms.length : Int) 1) (ms.length : Int) kc 1 1 y (tp T n 1 (i + 1 + 1)) (lx_en T n 1 (tp T n 1 (i + 1 + 1))) := ⟨⟨((w_up_slot (by decide)).trans ((w_up_slot (by decide)).trans ((w_up_slot (by decide)).trans ((w_up_slot (by decide)).trans ((w_up_slot (by decide)).trans ((w_up_slot (by decide)).trans ((w_up_slot (by decide)).trans ((w_up_slot (by decide)).trans ((w_up_slot (by decide)).trans (w_up_same _ _ _ _)))))))))), ((w_up_slot (by decide)).trans ((w_up_slot (by decide)).trans ((w_up_slot (by decide)).trans ((w_up_slot (by decide)).trans ((w_up_slot (by decide)).trans ((w_up_slot (by decide)).trans ((w_up_slot (by decide)).trans ((w_up_slot (by decide)).trans (w_up_same _ _ _ _))))))))), (w_up_same _ _ _ _), ((w_up_slot (by decide)).trans ((w_up_slot (by decide)).trans ((w_up_slot (by decide)).trans ((w_up_slot (by decide)).trans ((w_up_slot (by decide)).trans ((w_up_slot (by decide)).trans ((w_up_slot (by decide)).trans (w_up_same _ _ _ _))))))))⟩, ⟨by decide, by decide⟩, fun z => absurd z (by decide), fun _ => ⟨⟨by rw [show (w_up (w_up (w_up (w_up (w_up (w_up (w_up (w_up (w_up (w_up (w_up (w_up (w_up S 14 4 ((i + 1 : Nat) : Int)) 14 4 ((i + 1 + 1 : Nat) : Int)) 14 4 ((i + 1 + 1 + 1 : Nat) : Int)) 97 (ms.length : Int) kc) 98 (ms.length : Int) 1) 100 (ms.length : Int) y) 101 (ms.length : Int) 0) 102 (ms.length : Int) 0) 111 (ms.length : Int) (S 17 ((i + 1 + 1 : Nat) : Int))) 112 (ms.length : Int) (-1)) 73 4 ((ms.length : Int) + 1)) 90 kc (((ms.length : Int) - (fi : Int)) + 1)) 99 (ms.length : Int) 1) (97 + 14) (ms.length : Int) = _ from ((w_up_slot (by decide)).trans ((w_up_slot (by decide)).trans ((w_up_slot (by decide)).trans ((w_up_slot (by decide)).trans (w_up_same _ _ _ _)))))]; omega, by rw [show (w_up (w_up (w_up (w_up (w_up (w_up (w_up (w_up (w_up (w_up (w_up (w_up (w_up S 14 4 ((i + 1 : Nat) : Int)) 14 4 ((i + 1 + 1 : Nat) : Int)) 14 4 ((i + 1 + 1 + 1 : Nat) : Int)) 97 (ms.length : Int) kc) 98 (ms.length : Int) 1) 100 (ms.length : Int) y) 101 (ms.length : Int) 0) 102 (ms.length : Int) 0) 111 (ms.length : Int) (S 17 ((i + 1 + 1 : Nat) : Int))) 112 (ms.length : Int) (-1)) 73 4 ((ms.length : Int) + 1)) 90 kc (((ms.length : Int) - (fi : Int)) + 1)) 99 (ms.length : Int) 1) (97 + 14) (ms.length : Int) = _ from ((w_up_slot (by decide)).trans ((w_up_slot (by decide)).trans ((w_up_slot (by decide)).trans ((w_up_slot (by decide)).trans (w_up_same _ _ _ _)))))]; show _ < S 74 7; omega⟩, by rw [show (w_up (w_up (w_up (w_up (w_up (w_up (w_up (w_up (w_up (w_up (w_up (w_up (w_up S 14 4 ((i + 1 : Nat) : Int)) 14 4 ((i + 1 + 1 : Nat) : Int)) 14 4 ((i + 1 + 1 + 1 : Nat) : Int)) 97 (ms.length : Int) kc) 98 (ms.length : Int) 1) 100 (ms.length : Int) y) 101 (ms.length : Int) 0) 102 (ms.length : Int) 0) 111 (ms.length : Int) (S 17 ((i + 1 + 1 : Nat) : Int))) 112 (ms.length : Int) (-1)) 73 4 ((ms.length : Int) + 1)) 90 kc (((ms.length : Int) - (fi : Int)) + 1)) 99 (ms.length : Int) 1) (97 + 14) (ms.length : Int) = _ from ((w_up_slot (by decide)).trans ((w_up_slot (by decide)).trans ((w_up_slot (by decide)).trans ((w_up_slot (by decide)).trans (w_up_same _ _ _ _)))))]; exact hnt2.2.2⟩⟩
                                                  have hpm0 : pm_I 97 (w_up (w_up (w_up (w_up (w_up (w_up (w_up (w_up (w_up (w_up (w_up (w_up (w_up S 14 4 ((i + 1 : Nat) : Int)) 14 4 ((i + 1 + 1 : Nat) : Int)) 14 4 ((i + 1 + 1 + 1 : Nat) : Int)) 97 (ms.length : Int) kc) 98 (ms.length : Int) 1) 100 (ms.length : Int) y) 101 (ms.length : Int) 0) 102 (ms.length : Int) 0) 111 (ms.length : Int) (S 17 ((i + 1 + 1 : Nat) : Int))) 112 (ms.length : Int) (-1)) 73 4 ((ms.length : Int) + 1)) 90 kc (((ms.length : Int) - (fi : Int)) + 1)) 99 (ms.length : Int) 1) (ms.length : Int) [] 0 := ⟨((w_up_slot (by decide)).trans ((w_up_slot (by decide)).trans ((w_up_slot (by decide)).trans ((w_up_slot (by decide)).trans ((w_up_slot (by decide)).trans ((w_up_slot (by decide)).trans (w_up_same _ _ _ _))))))), ((w_up_slot (by decide)).trans ((w_up_slot (by decide)).trans ((w_up_slot (by decide)).trans ((w_up_slot (by decide)).trans ((w_up_slot (by decide)).trans (w_up_same _ _ _ _)))))), by decide, fun q hq => absurd hq (Nat.not_lt_zero _)⟩
                                                  have hn := lx_w_k (k := 12) hB hW hrw (by decide) hwc.1 hnt1
                                                  rw [show hwl 12 = tx_25 from rfl] at hn
                                                  have z1 : zq B (tp T n 1 (i + 1)) 237 6 = 1 := by rw [zT_6 hB]; exact hnt1.1
                                                  have hs := lx_w_k (k := 11) hB hW hrw (by decide) hwc.1 hnt0
                                                  rw [show hwl 11 = tx_23 from rfl] at hs
                                                  have hrm0 : rm_L B 241 kc itf (ms.drop fi) ms.length (tp T n 1 i) = rb_L B 241 kc itf (ms.drop fi) ms.length (tp T n 1 (i + 1)) 1 := (rm_s (hs.2 (by omega)) (by omega)).trans (by rw [tp_ne (i := i) hB])
                                                  have hyh := ty_hy (av := 1) hyy1 (Or.inr (by decide))
                                                  rw [tp_ne (i := i + 1) hB] at hyh
                                                  have hrm1 : rm_L B 241 kc itf (ms.drop fi) ms.length (tp T n 1 i) = rb_name B 241 itf (ms.drop fi) y (tp T n 1 (i + 1 + 1)) 1 := hrm0.trans (rb_t z1 (fun z => absurd (hn.1 z) (by omega)) hyh.2.2.1 (by omega) hyh.1)
                                                  have z2 : zq B (tp T n 1 (i + 1 + 1)) 237 6 = 1 := by rw [zT_6 hB]; exact hnt2.1
                                                  have hoo := oo_21 hB hW hrw hwc.1 hnt2
                                                  have h59 := lx_is_kg (i := i + 1 + 1 + 1) hB (k := 17) (ch := 59) (by decide) sk_17
                                                  have hrm3 := hrm1.trans (rn_m z2 (fun z => absurd (hoo.1 z) (by omega)) (by rw [tp_ne (i := i + 1 + 1) hB]; rintro ⟨q1, q2⟩; have := h59.1 q1; omega))
                                                  rw [tp_ne (i := i + 1 + 1) hB, zT_8 hB] at hrm3
                                                  have h40 := lx_is_kg (i := i + 1 + 1 + 1) hB (k := 10) (ch := 40) (by decide) sk_10
                                                  have hpar : rm_par2 B 241 1 (tp T n 1 (i + 1 + 1)) (lx_en T n 1 (tp T n 1 (i + 1 + 1))) (ms.drop fi) (tp T n 1 (i + 1 + 1 + 1)) = (if kg T n (tp T n 1 (i + 1 + 1 + 1)) = 10 then pk_L B 1 (tp T n 1 (i + 1 + 1)) (lx_en T n 1 (tp T n 1 (i + 1 + 1))) (ms.drop fi) (pq_r B 241 (tp T n 1 (i + 1 + 1 + 1 + 1))) else .inl (1, (tp T n 1 (i + 1 + 1 + 1)))) := by
                                                    unfold rm_par2
                                                    by_cases hq : kg T n (tp T n 1 (i + 1 + 1 + 1)) = 10
                                                    · rw [if_pos (h40.2 hq), if_pos hq, tp_ne (i := i + 1 + 1 + 1) hB]
                                                    · rw [if_neg (fun z => hq (h40.1 z)), if_neg hq]
                                                  rw [hpar] at hrm3
                                                  generalize hRR : (if kg T n (tp T n 1 (i + 1 + 1 + 1)) = 10 then pk_L B 1 (tp T n 1 (i + 1 + 1)) (lx_en T n 1 (tp T n 1 (i + 1 + 1))) (ms.drop fi) (pq_r B 241 (tp T n 1 (i + 1 + 1 + 1 + 1))) else .inl (1, (tp T n 1 (i + 1 + 1 + 1)))) = RR at hrm3
                                                  have hrp := rp_73 (xs := xs) (M := M) (d := d + 1) (S := (w_up (w_up (w_up (w_up (w_up (w_up (w_up (w_up (w_up (w_up (w_up (w_up (w_up S 14 4 ((i + 1 : Nat) : Int)) 14 4 ((i + 1 + 1 : Nat) : Int)) 14 4 ((i + 1 + 1 + 1 : Nat) : Int)) 97 (ms.length : Int) kc) 98 (ms.length : Int) 1) 100 (ms.length : Int) y) 101 (ms.length : Int) 0) 102 (ms.length : Int) 0) 111 (ms.length : Int) (S 17 ((i + 1 + 1 : Nat) : Int))) 112 (ms.length : Int) (-1)) 73 4 ((ms.length : Int) + 1)) 90 kc (((ms.length : Int) - (fi : Int)) + 1)) 99 (ms.length : Int) 1)) (i := i + 1 + 1 + 1) (ms := ms) (kc := kc) (so := 1) (st := 1) (ty := y) (f0 := (tp T n 1 (i + 1 + 1))) (e0 := (lx_en T n 1 (tp T n 1 (i + 1 + 1)))) (fi := fi) (hx_up (hx_up (hx_up (hx_up (hx_up (hx_up (hx_up (hx_up (hx_up (hx_up (hx_up (hx_up (hx_up hx (by unfold hx_o; omega)) (by unfold hx_o; omega)) (by unfold hx_o; omega)) (by unfold hx_o; omega)) (by unfold hx_o; omega)) (by unfold hx_o; omega)) (by unfold hx_o; omega)) (by unfold hx_o; omega)) (by unfold hx_o; omega)) (by unfold hx_o; omega)) (by unfold hx_o; omega)) (by unfold hx_o; omega)) (by unfold hx_o; omega)) (show cx_P T n c (i + 1 + 1 + 1) (w_up (w_up (w_up (w_up (w_up (w_up (w_up (w_up (w_up (w_up (w_up (w_up (w_up S 14 4 ((i + 1 : Nat) : Int)) 14 4 ((i + 1 + 1 : Nat) : Int)) 14 4 ((i + 1 + 1 + 1 : Nat) : Int)) 97 (ms.length : Int) kc) 98 (ms.length : Int) 1) 100 (ms.length : Int) y) 101 (ms.length : Int) 0) 102 (ms.length : Int) 0) 111 (ms.length : Int) (S 17 ((i + 1 + 1 : Nat) : Int))) 112 (ms.length : Int) (-1)) 73 4 ((ms.length : Int) + 1)) 90 kc (((ms.length : Int) - (fi : Int)) + 1)) 99 (ms.length : Int) 1) from ⟨((w_up_slot (by decide)).trans ((w_up_slot (by decide)).trans ((w_up_slot (by decide)).trans ((w_up_slot (by decide)).trans ((w_up_slot (by decide)).trans ((w_up_slot (by decide)).trans ((w_up_slot (by decide)).trans ((w_up_slot (by decide)).trans ((w_up_slot (by decide)).trans ((w_up_slot (by decide)).trans (w_up_same _ _ _ _))))))))))), hg3⟩) hmsx (by omega) hhd (by decide) hkc ⟨(((w_up_slot (by decide)).trans ((w_up_slot (by decide)).trans ((w_up_slot (by decide)).trans ((w_up_slot (by decide)).trans ((w_up_slot (by decide)).trans ((w_up_slot (by decide)).trans ((w_up_slot (by decide)).trans ((w_up_slot (by decide)).trans ((w_up_slot (by decide)).trans ((w_up_slot (by decide)).trans ((w_up_slot (by decide)).trans ((w_up_slot (by decide)).trans (w_up_slot (by decide))))))))))))))).trans hfi.1, hfi.2⟩ hpm0
                                                  rw [hRR] at hrp
                                                  refine wa_cv 61 rfl (wy_pr rfl) wt_61 (M2 := M) rfl at_XT_readParameters ⟨_, rfl⟩ rfl rfl ⟨trivial, (Or.inr ⟨wy_pr rfl, mS_no rfl⟩), trivial, trivial, trivial⟩ trivial (fun _ _ q => q) (hrp) (fun oq258 Sq258 hp259 q258 => ?_)
                                                  rcases q258 with hrq
                                                  match RR, hrm3, hrq with
                                                  | .inl (e, qq), hrm3, hrq =>
                                                    obtain ⟨v, Z0, rfl, g1, g2⟩ := hrq
                                                    refine ⟨rfl, ?_⟩
                                                    exact hf e qq v Z0 _ (by rw [mb_f_s, if_neg (fun z => absurd (h125.1 z) (by omega)), hrm3]; rfl) (fun j x a1 a2 a3 a4 => (g1 j x a1 (by omega)).trans ((fun j x a1 a2 a3 a4 => (w_up_no (by omega)).trans ((w_up_no (by omega)).trans ((w_up_no (by omega)).trans ((w_up_no (by omega)).trans ((w_up_no (by omega)).trans ((w_up_no (by omega)).trans ((w_up_no (by omega)).trans ((w_up_no (by omega)).trans ((w_up_no (by omega)).trans ((w_up_no (by omega)).trans ((w_up_no (by omega)).trans ((w_up_no (by omega)).trans ((w_up_no (by omega)).trans (rfl)))))))))))))) j x a1 a2 a3 a4)) g2
                                                  | .inr (qq, l, vv), hrm3, hrq =>
                                                    obtain ⟨rfl, g1, ⟨i2, g2, rfl⟩, g3⟩ := hrq
                                                    show wJ _ _ _ _ _ _ _ _ _ _
                                                    refine wa_fall ⟨_, rfl⟩ ?_
                                                    have hxz : hx_I 241 73 87 92 74 T n c B Sq258 := hx_ag (hx_up (hx_up (hx_up (hx_up (hx_up (hx_up (hx_up (hx_up (hx_up (hx_up (hx_up (hx_up (hx_up hx (by unfold hx_o; omega)) (by unfold hx_o; omega)) (by unfold hx_o; omega)) (by unfold hx_o; omega)) (by unfold hx_o; omega)) (by unfold hx_o; omega)) (by unfold hx_o; omega)) (by unfold hx_o; omega)) (by unfold hx_o; omega)) (by unfold hx_o; omega)) (by unfold hx_o; omega)) (by unfold hx_o; omega)) (by unfold hx_o; omega)) (by decide) (g1 14 3 (by omega) (by omega)) (gI_ag (gI_up (gI_up (gI_up (gI_up (gI_up (gI_up (gI_up (gI_up (gI_up (gI_up (gI_up (gI_up (gI_up hI (by omega) (by omega) (by omega)) (by omega) (by omega) (by omega)) (by omega) (by omega) (by omega)) (by omega) (by omega) (by omega)) (by omega) (by omega) (by omega)) (by omega) (by omega) (by omega)) (by omega) (by omega) (by omega)) (by omega) (by omega) (by omega)) (by omega) (by omega) (by omega)) (by omega) (by omega) (by omega)) (by omega) (by omega) (by omega)) (by omega) (by omega) (by omega)) (by omega) (by omega) (by omega)) (fun j hj => funext fun x => ?_)) (fun j hj => funext fun x => g1 j x (by omega) (by omega)) (g1 73 2 (by omega) (by omega)) (g1 61 1 (by omega) (by omega)) (fun z hz => (g1 z.1 (-1) (by omega) (by omega)).trans ((hx_R (hx_up (hx_up (hx_up (hx_up (hx_up (hx_up (hx_up (hx_up (hx_up (hx_up (hx_up (hx_up (hx_up hx (by unfold hx_o; omega)) (by unfold hx_o; omega)) (by unfold hx_o; omega)) (by unfold hx_o; omega)) (by unfold hx_o; omega)) (by unfold hx_o; omega)) (by unfold hx_o; omega)) (by unfold hx_o; omega)) (by unfold hx_o; omega)) (by unfold hx_o; omega)) (by unfold hx_o; omega)) (by unfold hx_o; omega)) (by unfold hx_o; omega))).2.2.1 z hz))
                                                    · sorry
                                            · skip
                                              exact absurd c243 (by omega)
                                          · skip
                                            exact absurd c239 (by omega)
                                        · skip
                                          exact absurd c238 (by omega)
                                      · skip
                                        refine wa_iload_n (n := 2) rfl ?_
                                        refine wa_ifeq (w_rg0 (by omega) (by omega)) ⟨_, rfl⟩ (fun c260 => ?_) (fun c260 => ?_)
                                        · skip
                                          refine wa_iconst ?_
                                          refine wa_fall ⟨_, rfl⟩ ?_
                                          refine wa_istore (n := 4) rfl ?_
                                          refine wa_iload (n := 4) rfl ?_
                                          refine wa_ifeq (w_rg0 (by omega) (by omega)) ⟨_, rfl⟩ (fun c261 => ?_) (fun c261 => ?_)
                                          · skip
                                            refine wa_iload (n := 4) rfl ?_
                                            refine wa_ifeq (w_rg0 (by omega) (by omega)) ⟨_, rfl⟩ (fun c262 => ?_) (fun c262 => ?_)
                                            · skip
                                              refine wa_aload_n (n := 0) rfl ?_
                                              refine wb_gf4 61 rfl (wy_pr rfl) wt_61 wf_4_0 (v := 14) wl_61_0 ?_
                                              refine wa_cv 14 rfl (wy_pr rfl) wt_14 (M2 := fun _ => False) rfl at_XR_next ⟨_, rfl⟩ rfl rfl ⟨trivial, trivial, (Or.inr ⟨wy_pr rfl, fun q => q⟩), trivial, trivial, trivial⟩ trivial (fun _ _ q => False.elim q) (nx_c (S := (w_up (w_up S 14 4 ((i + 1 : Nat) : Int)) 14 4 ((i + 1 + 1 : Nat) : Int))) (hx_T (hx_up (hx_up hx (by unfold hx_o; omega)) (by unfold hx_o; omega))) (show cx_P T n c (i + 1 + 1) (w_up (w_up S 14 4 ((i + 1 : Nat) : Int)) 14 4 ((i + 1 + 1 : Nat) : Int)) from ⟨(w_up_same _ _ _ _), hg2⟩) rfl (gI_up (gI_up hI (by omega) (by omega) (by omega)) (by omega) (by omega) (by omega)) (by omega)) (fun oq263 Sq263 hp264 q263 => ?_)
                                              rcases q263 with ⟨rfl, rfl⟩
                                              show wJ _ _ _ _ _ _ _ _ _ _
                                              have hg3 : pg T n c (i + 1 + 1 + 1) := pg_next hT hg2 (by omega) (by omega)
                                              have hA3 := pg_at hT hg3
                                              have h16_3 := hA3.1
                                              have h15_3 := hA3.2.1
                                              have hpr3 := hA3.2.2
                                              have hkr3 := kg_rg T n (tp T n 1 (i + 1 + 1 + 1))
                                              have hic3 := hg3.1
                                              have hlt3 := tp_lt hT hg2 (by omega) (by omega)
                                              refine wa_aload_n (n := 0) rfl ?_
                                              refine wb_gf5 61 rfl (wy_pr rfl) wt_61 wf_4_1 (v := 73) ((w_up_slot (by decide)).trans ((w_up_slot (by decide)).trans ((w_up_slot (by decide)).trans (hH)))) (fun r265 => ?_)
                                              refine wa_iload (n := 4) rfl ?_
                                              refine wa_ifeq (w_rg0 (by omega) (by omega)) ⟨_, rfl⟩ (fun c266 => ?_) (fun c266 => ?_)
                                              · skip
                                                refine wa_iconst ?_
                                                refine wa_fall ⟨_, rfl⟩ ?_
                                                refine wa_iload_n (n := 2) rfl ?_
                                                refine wa_iload_n (n := 3) rfl ?_
                                                refine wa_cv 73 rfl (wy_pr rfl) wt_73 (M2 := fun _ => False) rfl at_XO_addMember ⟨_, rfl⟩ rfl rfl ⟨trivial, trivial, (Or.inr ⟨wy_pr rfl, fun q => q⟩), trivial, trivial, trivial⟩ trivial (fun _ _ q => False.elim q) ?_ (fun _ _ _ q => q)
                                                refine wa_aload_n (n := 0) rfl ?_
                                                refine wb_gfi 73 rfl (wy_pr rfl) wt_73 wf_3_4 (v := (ms.length : Int)) ((w_up_slot (by decide)).trans ((w_up_slot (by decide)).trans ((w_up_slot (by decide)).trans (hmc)))) (fun r267 => ?_)
                                                refine wa_istore (n := 4) rfl ?_
                                                refine wa_aload_n (n := 0) rfl ?_
                                                refine wb_gf4 73 rfl (wy_pr rfl) wt_73 wf_3_3 (v := 96) wl_73_3 ?_
                                                refine wa_iconst ?_
                                                refine wb_aald5 96 0 rfl rfl (wy_pr rfl) wt_96 (by rw [show _ = _ from ((w_up_slot (by decide)).trans ((w_up_slot (by decide)).trans ((w_up_slot (by decide)).trans ((cl_96 hC)))))]; omega) wl_96_0 ?_
                                                refine wa_iload (n := 4) rfl ?_
                                                refine wa_aload_n (n := 0) rfl ?_
                                                refine wb_gfi 73 rfl (wy_pr rfl) wt_73 wf_3_2 (v := (kc + 1)) ((w_up_slot (by decide)).trans ((w_up_slot (by decide)).trans ((w_up_slot (by decide)).trans (hkc1)))) (fun r268 => ?_)
                                                refine wa_iconst ?_
                                                refine wa_isub ?_
                                                rw [show (((kc + 1) - 1) : Int) = kc by omega]
                                                refine wb_iast 97 rfl (wy_pr rfl) wt_97 (n := 400) ((w_up_slot (by decide)).trans ((w_up_slot (by decide)).trans ((w_up_slot (by decide)).trans ((cl_97 hC))))) (by omega) (by omega) ⟨(by omega), (by omega)⟩ ?_
                                                refine wa_aload_n (n := 0) rfl ?_
                                                refine wb_gf4 73 rfl (wy_pr rfl) wt_73 wf_3_3 (v := 96) wl_73_3 ?_
                                                refine wa_iconst ?_
                                                refine wb_aald5 96 1 rfl rfl (wy_pr rfl) wt_96 (by rw [show _ = _ from ((w_up_slot (by decide)).trans ((w_up_slot (by decide)).trans ((w_up_slot (by decide)).trans ((w_up_slot (by decide)).trans ((cl_96 hC))))))]; omega) wl_96_1 ?_
                                                refine wa_iload (n := 4) rfl ?_
                                                refine wa_iload_n (n := 1) rfl ?_
                                                refine wb_iast 98 rfl (wy_pr rfl) wt_98 (n := 400) ((w_up_slot (by decide)).trans ((w_up_slot (by decide)).trans ((w_up_slot (by decide)).trans ((w_up_slot (by decide)).trans ((cl_98 hC)))))) (by omega) (by omega) ⟨(by omega), (by omega)⟩ ?_
                                                refine wa_aload_n (n := 0) rfl ?_
                                                refine wb_gf4 73 rfl (wy_pr rfl) wt_73 wf_3_3 (v := 96) wl_73_3 ?_
                                                refine wa_iconst ?_
                                                refine wb_aald5 96 3 rfl rfl (wy_pr rfl) wt_96 (by rw [show _ = _ from ((w_up_slot (by decide)).trans ((w_up_slot (by decide)).trans ((w_up_slot (by decide)).trans ((w_up_slot (by decide)).trans ((w_up_slot (by decide)).trans ((cl_96 hC)))))))]; omega) wl_96_3 ?_
                                                refine wa_iload (n := 4) rfl ?_
                                                refine wa_iload_n (n := 2) rfl ?_
                                                refine wb_iast 100 rfl (wy_pr rfl) wt_100 (n := 400) ((w_up_slot (by decide)).trans ((w_up_slot (by decide)).trans ((w_up_slot (by decide)).trans ((w_up_slot (by decide)).trans ((w_up_slot (by decide)).trans ((cl_100 hC))))))) (by omega) (by omega) ⟨(by omega), (by omega)⟩ ?_
                                                refine wa_aload_n (n := 0) rfl ?_
                                                refine wb_gf4 73 rfl (wy_pr rfl) wt_73 wf_3_3 (v := 96) wl_73_3 ?_
                                                refine wa_iconst ?_
                                                refine wb_aald5 96 4 rfl rfl (wy_pr rfl) wt_96 (by rw [show _ = _ from ((w_up_slot (by decide)).trans ((w_up_slot (by decide)).trans ((w_up_slot (by decide)).trans ((w_up_slot (by decide)).trans ((w_up_slot (by decide)).trans ((w_up_slot (by decide)).trans ((cl_96 hC))))))))]; omega) wl_96_4 ?_
                                                refine wa_iload (n := 4) rfl ?_
                                                refine wa_iconst ?_
                                                refine wb_iast 101 rfl (wy_pr rfl) wt_101 (n := 400) ((w_up_slot (by decide)).trans ((w_up_slot (by decide)).trans ((w_up_slot (by decide)).trans ((w_up_slot (by decide)).trans ((w_up_slot (by decide)).trans ((w_up_slot (by decide)).trans ((cl_101 hC)))))))) (by omega) (by omega) ⟨(by omega), (by omega)⟩ ?_
                                                refine wa_aload_n (n := 0) rfl ?_
                                                refine wb_gf4 73 rfl (wy_pr rfl) wt_73 wf_3_3 (v := 96) wl_73_3 ?_
                                                refine wa_iconst ?_
                                                refine wb_aald5 96 5 rfl rfl (wy_pr rfl) wt_96 (by rw [show _ = _ from ((w_up_slot (by decide)).trans ((w_up_slot (by decide)).trans ((w_up_slot (by decide)).trans ((w_up_slot (by decide)).trans ((w_up_slot (by decide)).trans ((w_up_slot (by decide)).trans ((w_up_slot (by decide)).trans ((cl_96 hC)))))))))]; omega) wl_96_5 ?_
                                                refine wa_iload (n := 4) rfl ?_
                                                refine wa_iconst ?_
                                                refine wb_iast 102 rfl (wy_pr rfl) wt_102 (n := 400) ((w_up_slot (by decide)).trans ((w_up_slot (by decide)).trans ((w_up_slot (by decide)).trans ((w_up_slot (by decide)).trans ((w_up_slot (by decide)).trans ((w_up_slot (by decide)).trans ((w_up_slot (by decide)).trans ((cl_102 hC))))))))) (by omega) (by omega) ⟨(by omega), (by omega)⟩ ?_
                                                refine wa_aload_n (n := 0) rfl ?_
                                                refine wb_gf4 73 rfl (wy_pr rfl) wt_73 wf_3_3 (v := 96) wl_73_3 ?_
                                                refine wa_bipush (w_rg2 (by omega) (by omega)) ?_
                                                refine wb_aald5 96 14 rfl rfl (wy_pr rfl) wt_96 (by rw [show _ = _ from ((w_up_slot (by decide)).trans ((w_up_slot (by decide)).trans ((w_up_slot (by decide)).trans ((w_up_slot (by decide)).trans ((w_up_slot (by decide)).trans ((w_up_slot (by decide)).trans ((w_up_slot (by decide)).trans ((w_up_slot (by decide)).trans ((cl_96 hC))))))))))]; omega) wl_96_14 ?_
                                                refine wa_iload (n := 4) rfl ?_
                                                refine wa_iload_n (n := 3) rfl ?_
                                                refine wb_iast 111 rfl (wy_pr rfl) wt_111 (n := 400) ((w_up_slot (by decide)).trans ((w_up_slot (by decide)).trans ((w_up_slot (by decide)).trans ((w_up_slot (by decide)).trans ((w_up_slot (by decide)).trans ((w_up_slot (by decide)).trans ((w_up_slot (by decide)).trans ((w_up_slot (by decide)).trans ((cl_111 hC)))))))))) (by omega) (by omega) ⟨(by omega), (by omega)⟩ ?_
                                                refine wa_aload_n (n := 0) rfl ?_
                                                refine wb_gf4 73 rfl (wy_pr rfl) wt_73 wf_3_3 (v := 96) wl_73_3 ?_
                                                refine wa_bipush (w_rg2 (by omega) (by omega)) ?_
                                                refine wb_aald5 96 15 rfl rfl (wy_pr rfl) wt_96 (by rw [show _ = _ from ((w_up_slot (by decide)).trans ((w_up_slot (by decide)).trans ((w_up_slot (by decide)).trans ((w_up_slot (by decide)).trans ((w_up_slot (by decide)).trans ((w_up_slot (by decide)).trans ((w_up_slot (by decide)).trans ((w_up_slot (by decide)).trans ((w_up_slot (by decide)).trans ((cl_96 hC)))))))))))]; omega) wl_96_15 ?_
                                                refine wa_iload (n := 4) rfl ?_
                                                refine wa_iconst ?_
                                                refine wb_iast 112 rfl (wy_pr rfl) wt_112 (n := 400) ((w_up_slot (by decide)).trans ((w_up_slot (by decide)).trans ((w_up_slot (by decide)).trans ((w_up_slot (by decide)).trans ((w_up_slot (by decide)).trans ((w_up_slot (by decide)).trans ((w_up_slot (by decide)).trans ((w_up_slot (by decide)).trans ((w_up_slot (by decide)).trans ((cl_112 hC))))))))))) (by omega) (by omega) ⟨(by omega), (by omega)⟩ ?_
                                                refine wa_aload_n (n := 0) rfl ?_
                                                refine wa_dup (by decide) ?_
                                                refine wb_gfi 73 rfl (wy_pr rfl) wt_73 wf_3_4 (v := (ms.length : Int)) ((w_up_slot (by decide)).trans ((w_up_slot (by decide)).trans ((w_up_slot (by decide)).trans ((w_up_slot (by decide)).trans ((w_up_slot (by decide)).trans ((w_up_slot (by decide)).trans ((w_up_slot (by decide)).trans ((w_up_slot (by decide)).trans ((w_up_slot (by decide)).trans ((w_up_slot (by decide)).trans (hmc))))))))))) (fun r269 => ?_)
                                                refine wa_iconst ?_
                                                refine wa_iadd ?_
                                                refine wb_pfi 73 rfl (wy_pr rfl) wt_73 wf_3_4 (n := 4) rfl ⟨(by omega), (by omega)⟩ ?_
                                                refine wa_aload_n (n := 0) rfl ?_
                                                refine wb_gf4 73 rfl (wy_pr rfl) wt_73 wf_3_1 (v := 86) wl_73_1 ?_
                                                refine wa_iconst ?_
                                                refine wb_aald5 86 3 rfl rfl (wy_pr rfl) wt_86 (by rw [show _ = _ from ((w_up_slot (by decide)).trans ((w_up_slot (by decide)).trans ((w_up_slot (by decide)).trans ((w_up_slot (by decide)).trans ((w_up_slot (by decide)).trans ((w_up_slot (by decide)).trans ((w_up_slot (by decide)).trans ((w_up_slot (by decide)).trans ((w_up_slot (by decide)).trans ((w_up_slot (by decide)).trans ((w_up_slot (by decide)).trans ((cl_86 hC)))))))))))))]; omega) wl_86_3 ?_
                                                refine wa_aload_n (n := 0) rfl ?_
                                                refine wb_gfi 73 rfl (wy_pr rfl) wt_73 wf_3_2 (v := (kc + 1)) ((w_up_at (by decide)).trans ((w_up_slot (by decide)).trans ((w_up_slot (by decide)).trans ((w_up_slot (by decide)).trans ((w_up_slot (by decide)).trans ((w_up_slot (by decide)).trans ((w_up_slot (by decide)).trans ((w_up_slot (by decide)).trans ((w_up_slot (by decide)).trans ((w_up_slot (by decide)).trans ((w_up_slot (by decide)).trans (hkc1)))))))))))) (fun r270 => ?_)
                                                refine wa_iconst ?_
                                                refine wa_isub ?_
                                                rw [show (((kc + 1) - 1) : Int) = kc by omega]
                                                refine wa_dup2 (by decide) (by decide) ?_
                                                refine wb_iald 90 rfl (wy_pr rfl) wt_90 (n := 60) ((w_up_slot (by decide)).trans ((w_up_slot (by decide)).trans ((w_up_slot (by decide)).trans ((w_up_slot (by decide)).trans ((w_up_slot (by decide)).trans ((w_up_slot (by decide)).trans ((w_up_slot (by decide)).trans ((w_up_slot (by decide)).trans ((w_up_slot (by decide)).trans ((w_up_slot (by decide)).trans ((w_up_slot (by decide)).trans ((cl_90 hC))))))))))))) (by omega) (by omega) (v := ((ms.length : Int) - (fi : Int))) ((w_up_slot (by decide)).trans ((w_up_slot (by decide)).trans ((w_up_slot (by decide)).trans ((w_up_slot (by decide)).trans ((w_up_slot (by decide)).trans ((w_up_slot (by decide)).trans ((w_up_slot (by decide)).trans ((w_up_slot (by decide)).trans ((w_up_slot (by decide)).trans ((w_up_slot (by decide)).trans ((w_up_slot (by decide)).trans (ht3)))))))))))) (fun r271 => ?_)
                                                refine wa_iconst ?_
                                                refine wa_iadd ?_
                                                refine wb_iast 90 rfl (wy_pr rfl) wt_90 (n := 60) ((w_up_slot (by decide)).trans ((w_up_slot (by decide)).trans ((w_up_slot (by decide)).trans ((w_up_slot (by decide)).trans ((w_up_slot (by decide)).trans ((w_up_slot (by decide)).trans ((w_up_slot (by decide)).trans ((w_up_slot (by decide)).trans ((w_up_slot (by decide)).trans ((w_up_slot (by decide)).trans ((w_up_slot (by decide)).trans ((cl_90 hC))))))))))))) (by omega) (by omega) ⟨(by omega), (by omega)⟩ ?_
                                                refine wa_return rfl ?_
                                                show wJ _ _ _ _ _ _ _ _ _ _
                                                refine wa_return rfl ?_
                                                show wJ _ _ _ _ _ _ _ _ _ _
                                                refine wa_fall ⟨_, rfl⟩ ?_
                                                refine wa_aload_n (n := 0) rfl ?_
                                                refine wb_gf5 61 rfl (wy_pr rfl) wt_61 wf_4_1 (v := 73) ((w_up_slot (by decide)).trans ((w_up_slot (by decide)).trans ((w_up_slot (by decide)).trans ((w_up_slot (by decide)).trans ((w_up_slot (by decide)).trans ((w_up_slot (by decide)).trans ((w_up_slot (by decide)).trans ((w_up_slot (by decide)).trans ((w_up_slot (by decide)).trans ((w_up_slot (by decide)).trans ((w_up_slot (by decide)).trans ((w_up_slot (by decide)).trans (hH))))))))))))) (fun r272 => ?_)
                                                refine wb_gf4 73 rfl (wy_pr rfl) wt_73 wf_3_3 (v := 96) wl_73_3 ?_
                                                refine wa_iconst ?_
                                                refine wb_aald5 96 2 rfl rfl (wy_pr rfl) wt_96 (by rw [show _ = _ from ((w_up_slot (by decide)).trans ((w_up_slot (by decide)).trans ((w_up_slot (by decide)).trans ((w_up_slot (by decide)).trans ((w_up_slot (by decide)).trans ((w_up_slot (by decide)).trans ((w_up_slot (by decide)).trans ((w_up_slot (by decide)).trans ((w_up_slot (by decide)).trans ((w_up_slot (by decide)).trans ((w_up_slot (by decide)).trans ((w_up_slot (by decide)).trans ((cl_96 hC))))))))))))))]; omega) wl_96_2 ?_
                                                refine wa_aload_n (n := 0) rfl ?_
                                                refine wb_gf5 61 rfl (wy_pr rfl) wt_61 wf_4_1 (v := 73) ((w_up_slot (by decide)).trans ((w_up_slot (by decide)).trans ((w_up_slot (by decide)).trans ((w_up_slot (by decide)).trans ((w_up_slot (by decide)).trans ((w_up_slot (by decide)).trans ((w_up_slot (by decide)).trans ((w_up_slot (by decide)).trans ((w_up_slot (by decide)).trans ((w_up_slot (by decide)).trans ((w_up_slot (by decide)).trans ((w_up_slot (by decide)).trans (hH))))))))))))) (fun r273 => ?_)
                                                refine wb_gfi 73 rfl (wy_pr rfl) wt_73 wf_3_4 (v := ((ms.length : Int) + 1)) ((w_up_slot (by decide)).trans (w_up_same _ _ _ _)) (fun r274 => ?_)
                                                refine wa_iconst ?_
                                                refine wa_isub ?_
                                                rw [show ((((ms.length : Int) + 1) - 1) : Int) = (ms.length : Int) by omega]
                                                refine wa_iload_n (n := 2) rfl ?_
                                                refine wa_ifeq (w_rg0 (by omega) (by omega)) ⟨_, rfl⟩ (fun c275 => ?_) (fun c275 => ?_)
                                                · skip
                                                  exact absurd c275 (by omega)
                                                · skip
                                                  refine wa_iconst ?_
                                                  refine wa_goto ⟨_, rfl⟩ ?_
                                                  refine wb_iast 99 rfl (wy_pr rfl) wt_99 (n := 400) ((w_up_slot (by decide)).trans ((w_up_slot (by decide)).trans ((w_up_slot (by decide)).trans ((w_up_slot (by decide)).trans ((w_up_slot (by decide)).trans ((w_up_slot (by decide)).trans ((w_up_slot (by decide)).trans ((w_up_slot (by decide)).trans ((w_up_slot (by decide)).trans ((w_up_slot (by decide)).trans ((w_up_slot (by decide)).trans ((w_up_slot (by decide)).trans ((cl_99 hC)))))))))))))) (by omega) (by omega) ⟨(by omega), (by omega)⟩ ?_
                                                  refine wa_return rfl ?_
                                                  show wJ _ _ _ _ _ _ _ _ _ _
                                                  refine wa_aload_n (n := 0) rfl ?_
                                                  refine wb_gf5 61 rfl (wy_pr rfl) wt_61 wf_4_1 (v := 73) ((w_up_slot (by decide)).trans ((w_up_slot (by decide)).trans ((w_up_slot (by decide)).trans ((w_up_slot (by decide)).trans ((w_up_slot (by decide)).trans ((w_up_slot (by decide)).trans ((w_up_slot (by decide)).trans ((w_up_slot (by decide)).trans ((w_up_slot (by decide)).trans ((w_up_slot (by decide)).trans ((w_up_slot (by decide)).trans ((w_up_slot (by decide)).trans ((w_up_slot (by decide)).trans (hH)))))))))))))) (fun r276 => ?_)
                                                  refine wb_gfi 73 rfl (wy_pr rfl) wt_73 wf_3_4 (v := ((ms.length : Int) + 1)) ((w_up_slot (by decide)).trans ((w_up_slot (by decide)).trans (w_up_same _ _ _ _))) (fun r277 => ?_)
                                                  refine wa_iconst ?_
                                                  refine wa_isub ?_
                                                  rw [show ((((ms.length : Int) + 1) - 1) : Int) = (ms.length : Int) by omega]
                                                  refine wa_istore (n := 5) rfl ?_
                                                  refine wa_aload_n (n := 0) rfl ?_
                                                  refine wb_gf5 61 rfl (wy_pr rfl) wt_61 wf_4_1 (v := 73) ((w_up_slot (by decide)).trans ((w_up_slot (by decide)).trans ((w_up_slot (by decide)).trans ((w_up_slot (by decide)).trans ((w_up_slot (by decide)).trans ((w_up_slot (by decide)).trans ((w_up_slot (by decide)).trans ((w_up_slot (by decide)).trans ((w_up_slot (by decide)).trans ((w_up_slot (by decide)).trans ((w_up_slot (by decide)).trans ((w_up_slot (by decide)).trans ((w_up_slot (by decide)).trans (hH)))))))))))))) (fun r278 => ?_)
                                                  refine wb_gf4 73 rfl (wy_pr rfl) wt_73 wf_3_3 (v := 96) wl_73_3 ?_
                                                  refine wa_iconst ?_
                                                  refine wb_aald5 96 1 rfl rfl (wy_pr rfl) wt_96 (by rw [show _ = _ from ((w_up_slot (by decide)).trans ((w_up_slot (by decide)).trans ((w_up_slot (by decide)).trans ((w_up_slot (by decide)).trans ((w_up_slot (by decide)).trans ((w_up_slot (by decide)).trans ((w_up_slot (by decide)).trans ((w_up_slot (by decide)).trans ((w_up_slot (by decide)).trans ((w_up_slot (by decide)).trans ((w_up_slot (by decide)).trans ((w_up_slot (by decide)).trans ((w_up_slot (by decide)).trans ((cl_96 hC)))))))))))))))]; omega) wl_96_1 ?_
                                                  refine wa_iload (n := 5) rfl ?_
                                                  refine wb_iald 98 rfl (wy_pr rfl) wt_98 (n := 400) ((w_up_slot (by decide)).trans ((w_up_slot (by decide)).trans ((w_up_slot (by decide)).trans ((w_up_slot (by decide)).trans ((w_up_slot (by decide)).trans ((w_up_slot (by decide)).trans ((w_up_slot (by decide)).trans ((w_up_slot (by decide)).trans ((w_up_at (by omega)).trans ((w_up_slot (by decide)).trans ((w_up_slot (by decide)).trans ((w_up_slot (by decide)).trans ((w_up_slot (by decide)).trans ((cl_98 hC))))))))))))))) (by omega) (by omega) (v := 1) ((w_up_slot (by decide)).trans ((w_up_slot (by decide)).trans ((w_up_slot (by decide)).trans ((w_up_slot (by decide)).trans ((w_up_slot (by decide)).trans ((w_up_slot (by decide)).trans ((w_up_slot (by decide)).trans ((w_up_slot (by decide)).trans (w_up_same _ _ _ _))))))))) (fun r279 => ?_)
                                                  refine wa_ifeq (w_rg0 (by omega) (by omega)) ⟨_, rfl⟩ (fun c280 => ?_) (fun c280 => ?_)
                                                  · skip
                                                    exact absurd c280 (by omega)
                                                  · skip
                                                    refine wa_aload_n (n := 0) rfl ?_
                                                    refine wa_iload (n := 5) rfl ?_
                                                    have hmsx : mr_all 97 74 T (w_up (w_up (w_up (w_up (w_up (w_up (w_up (w_up (w_up (w_up (w_up (w_up (w_up S 14 4 ((i + 1 : Nat) : Int)) 14 4 ((i + 1 + 1 : Nat) : Int)) 14 4 ((i + 1 + 1 + 1 : Nat) : Int)) 97 (ms.length : Int) kc) 98 (ms.length : Int) 1) 100 (ms.length : Int) y) 101 (ms.length : Int) 0) 102 (ms.length : Int) 0) 111 (ms.length : Int) (S 17 ((i + 1 + 1 : Nat) : Int))) 112 (ms.length : Int) (-1)) 73 4 ((ms.length : Int) + 1)) 90 kc (((ms.length : Int) - (fi : Int)) + 1)) 99 (ms.length : Int) 1) ms := (mr_all_up (mr_all_up (mr_all_up (mr_all_up (mr_all_up (mr_all_up (mr_all_up (mr_all_up (mr_all_up (mr_all_up (mr_all_up (mr_all_up (mr_all_up hms (by omega) (by omega)) (by omega) (by omega)) (by omega) (by omega)) (by omega) (by omega)) (by omega) (by omega)) (by omega) (by omega)) (by omega) (by omega)) (by omega) (by omega)) (by omega) (by omega)) (by omega) (by omega)) (by omega) (by omega)) (by omega) (by omega)) (by omega) (by omega))
                                                    have hhd : mr_hd 97 74 T (w_up (w_up (w_up (w_up (w_up (w_up (w_up (w_up (w_up (w_up (w_up (w_up (w_up S 14 4 ((i + 1 : Nat) : Int)) 14 4 ((i + 1 + 1 : Nat) : Int)) 14 4 ((i + 1 + 1 + 1 : Nat) : Int)) 97 (ms.length : Int) kc) 98 (ms.length : Int) 1) 100 (ms.length : Int) y) 101 (ms.length : Int) 0) 102 (ms.length : Int) 0) 111 (ms.length : Int) (S 17 ((i + 1 + 1 : Nat) : Int))) 112 (ms.length : Int) (-1)) 73 4 ((ms.length : Int) + 1)) 90 kc (((ms.length : Int) - (fi : Int)) + 1)) 99 (ms.length : Int) 1) (ms.length : Int) kc 1 1 y (tp T n 1 (i + 1 + 1)) (lx_en T n 1 (tp T n 1 (i + 1 + 1))) := ⟨⟨((w_up_slot (by decide)).trans ((w_up_slot (by decide)).trans ((w_up_slot (by decide)).trans ((w_up_slot (by decide)).trans ((w_up_slot (by decide)).trans ((w_up_slot (by decide)).trans ((w_up_slot (by decide)).trans ((w_up_slot (by decide)).trans ((w_up_slot (by decide)).trans (w_up_same _ _ _ _)))))))))), ((w_up_slot (by decide)).trans ((w_up_slot (by decide)).trans ((w_up_slot (by decide)).trans ((w_up_slot (by decide)).trans ((w_up_slot (by decide)).trans ((w_up_slot (by decide)).trans ((w_up_slot (by decide)).trans ((w_up_slot (by decide)).trans (w_up_same _ _ _ _))))))))), (w_up_same _ _ _ _), ((w_up_slot (by decide)).trans ((w_up_slot (by decide)).trans ((w_up_slot (by decide)).trans ((w_up_slot (by decide)).trans ((w_up_slot (by decide)).trans ((w_up_slot (by decide)).trans ((w_up_slot (by decide)).trans (w_up_same _ _ _ _))))))))⟩, ⟨by decide, by decide⟩, fun z => absurd z (by decide), fun _ => ⟨⟨by rw [show (w_up (w_up (w_up (w_up (w_up (w_up (w_up (w_up (w_up (w_up (w_up (w_up (w_up S 14 4 ((i + 1 : Nat) : Int)) 14 4 ((i + 1 + 1 : Nat) : Int)) 14 4 ((i + 1 + 1 + 1 : Nat) : Int)) 97 (ms.length : Int) kc) 98 (ms.length : Int) 1) 100 (ms.length : Int) y) 101 (ms.length : Int) 0) 102 (ms.length : Int) 0) 111 (ms.length : Int) (S 17 ((i + 1 + 1 : Nat) : Int))) 112 (ms.length : Int) (-1)) 73 4 ((ms.length : Int) + 1)) 90 kc (((ms.length : Int) - (fi : Int)) + 1)) 99 (ms.length : Int) 1) (97 + 14) (ms.length : Int) = _ from ((w_up_slot (by decide)).trans ((w_up_slot (by decide)).trans ((w_up_slot (by decide)).trans ((w_up_slot (by decide)).trans (w_up_same _ _ _ _)))))]; omega, by rw [show (w_up (w_up (w_up (w_up (w_up (w_up (w_up (w_up (w_up (w_up (w_up (w_up (w_up S 14 4 ((i + 1 : Nat) : Int)) 14 4 ((i + 1 + 1 : Nat) : Int)) 14 4 ((i + 1 + 1 + 1 : Nat) : Int)) 97 (ms.length : Int) kc) 98 (ms.length : Int) 1) 100 (ms.length : Int) y) 101 (ms.length : Int) 0) 102 (ms.length : Int) 0) 111 (ms.length : Int) (S 17 ((i + 1 + 1 : Nat) : Int))) 112 (ms.length : Int) (-1)) 73 4 ((ms.length : Int) + 1)) 90 kc (((ms.length : Int) - (fi : Int)) + 1)) 99 (ms.length : Int) 1) (97 + 14) (ms.length : Int) = _ from ((w_up_slot (by decide)).trans ((w_up_slot (by decide)).trans ((w_up_slot (by decide)).trans ((w_up_slot (by decide)).trans (w_up_same _ _ _ _)))))]; show _ < S 74 7; omega⟩, by rw [show (w_up (w_up (w_up (w_up (w_up (w_up (w_up (w_up (w_up (w_up (w_up (w_up (w_up S 14 4 ((i + 1 : Nat) : Int)) 14 4 ((i + 1 + 1 : Nat) : Int)) 14 4 ((i + 1 + 1 + 1 : Nat) : Int)) 97 (ms.length : Int) kc) 98 (ms.length : Int) 1) 100 (ms.length : Int) y) 101 (ms.length : Int) 0) 102 (ms.length : Int) 0) 111 (ms.length : Int) (S 17 ((i + 1 + 1 : Nat) : Int))) 112 (ms.length : Int) (-1)) 73 4 ((ms.length : Int) + 1)) 90 kc (((ms.length : Int) - (fi : Int)) + 1)) 99 (ms.length : Int) 1) (97 + 14) (ms.length : Int) = _ from ((w_up_slot (by decide)).trans ((w_up_slot (by decide)).trans ((w_up_slot (by decide)).trans ((w_up_slot (by decide)).trans (w_up_same _ _ _ _)))))]; exact hnt2.2.2⟩⟩
                                                    have hpm0 : pm_I 97 (w_up (w_up (w_up (w_up (w_up (w_up (w_up (w_up (w_up (w_up (w_up (w_up (w_up S 14 4 ((i + 1 : Nat) : Int)) 14 4 ((i + 1 + 1 : Nat) : Int)) 14 4 ((i + 1 + 1 + 1 : Nat) : Int)) 97 (ms.length : Int) kc) 98 (ms.length : Int) 1) 100 (ms.length : Int) y) 101 (ms.length : Int) 0) 102 (ms.length : Int) 0) 111 (ms.length : Int) (S 17 ((i + 1 + 1 : Nat) : Int))) 112 (ms.length : Int) (-1)) 73 4 ((ms.length : Int) + 1)) 90 kc (((ms.length : Int) - (fi : Int)) + 1)) 99 (ms.length : Int) 1) (ms.length : Int) [] 0 := ⟨((w_up_slot (by decide)).trans ((w_up_slot (by decide)).trans ((w_up_slot (by decide)).trans ((w_up_slot (by decide)).trans ((w_up_slot (by decide)).trans ((w_up_slot (by decide)).trans (w_up_same _ _ _ _))))))), ((w_up_slot (by decide)).trans ((w_up_slot (by decide)).trans ((w_up_slot (by decide)).trans ((w_up_slot (by decide)).trans ((w_up_slot (by decide)).trans (w_up_same _ _ _ _)))))), by decide, fun q hq => absurd hq (Nat.not_lt_zero _)⟩
                                                    have hn := lx_w_k (k := 12) hB hW hrw (by decide) hwc.1 hnt1
                                                    rw [show hwl 12 = tx_25 from rfl] at hn
                                                    have z1 : zq B (tp T n 1 (i + 1)) 237 6 = 1 := by rw [zT_6 hB]; exact hnt1.1
                                                    have hs := lx_w_k (k := 11) hB hW hrw (by decide) hwc.1 hnt0
                                                    rw [show hwl 11 = tx_23 from rfl] at hs
                                                    have hrm0 : rm_L B 241 kc itf (ms.drop fi) ms.length (tp T n 1 i) = rb_L B 241 kc itf (ms.drop fi) ms.length (tp T n 1 (i + 1)) 1 := (rm_s (hs.2 (by omega)) (by omega)).trans (by rw [tp_ne (i := i) hB])
                                                    have hyh := ty_hy (av := 1) hyy1 (Or.inr (by decide))
                                                    rw [tp_ne (i := i + 1) hB] at hyh
                                                    have hrm1 : rm_L B 241 kc itf (ms.drop fi) ms.length (tp T n 1 i) = rb_name B 241 itf (ms.drop fi) y (tp T n 1 (i + 1 + 1)) 1 := hrm0.trans (rb_t z1 (fun z => absurd (hn.1 z) (by omega)) hyh.2.2.1 (by omega) hyh.1)
                                                    have z2 : zq B (tp T n 1 (i + 1 + 1)) 237 6 = 1 := by rw [zT_6 hB]; exact hnt2.1
                                                    have hoo := oo_21 hB hW hrw hwc.1 hnt2
                                                    have h59 := lx_is_kg (i := i + 1 + 1 + 1) hB (k := 17) (ch := 59) (by decide) sk_17
                                                    have hrm3 := hrm1.trans (rn_m z2 (fun z => absurd (hoo.1 z) (by omega)) (by rw [tp_ne (i := i + 1 + 1) hB]; rintro ⟨q1, q2⟩; have := h59.1 q1; omega))
                                                    rw [tp_ne (i := i + 1 + 1) hB, zT_8 hB] at hrm3
                                                    have h40 := lx_is_kg (i := i + 1 + 1 + 1) hB (k := 10) (ch := 40) (by decide) sk_10
                                                    have hpar : rm_par2 B 241 1 (tp T n 1 (i + 1 + 1)) (lx_en T n 1 (tp T n 1 (i + 1 + 1))) (ms.drop fi) (tp T n 1 (i + 1 + 1 + 1)) = (if kg T n (tp T n 1 (i + 1 + 1 + 1)) = 10 then pk_L B 1 (tp T n 1 (i + 1 + 1)) (lx_en T n 1 (tp T n 1 (i + 1 + 1))) (ms.drop fi) (pq_r B 241 (tp T n 1 (i + 1 + 1 + 1 + 1))) else .inl (1, (tp T n 1 (i + 1 + 1 + 1)))) := by
                                                      unfold rm_par2
                                                      by_cases hq : kg T n (tp T n 1 (i + 1 + 1 + 1)) = 10
                                                      · rw [if_pos (h40.2 hq), if_pos hq, tp_ne (i := i + 1 + 1 + 1) hB]
                                                      · rw [if_neg (fun z => hq (h40.1 z)), if_neg hq]
                                                    rw [hpar] at hrm3
                                                    generalize hRR : (if kg T n (tp T n 1 (i + 1 + 1 + 1)) = 10 then pk_L B 1 (tp T n 1 (i + 1 + 1)) (lx_en T n 1 (tp T n 1 (i + 1 + 1))) (ms.drop fi) (pq_r B 241 (tp T n 1 (i + 1 + 1 + 1 + 1))) else .inl (1, (tp T n 1 (i + 1 + 1 + 1)))) = RR at hrm3
                                                    have hrp := rp_73 (xs := xs) (M := M) (d := d + 1) (S := (w_up (w_up (w_up (w_up (w_up (w_up (w_up (w_up (w_up (w_up (w_up (w_up (w_up S 14 4 ((i + 1 : Nat) : Int)) 14 4 ((i + 1 + 1 : Nat) : Int)) 14 4 ((i + 1 + 1 + 1 : Nat) : Int)) 97 (ms.length : Int) kc) 98 (ms.length : Int) 1) 100 (ms.length : Int) y) 101 (ms.length : Int) 0) 102 (ms.length : Int) 0) 111 (ms.length : Int) (S 17 ((i + 1 + 1 : Nat) : Int))) 112 (ms.length : Int) (-1)) 73 4 ((ms.length : Int) + 1)) 90 kc (((ms.length : Int) - (fi : Int)) + 1)) 99 (ms.length : Int) 1)) (i := i + 1 + 1 + 1) (ms := ms) (kc := kc) (so := 1) (st := 1) (ty := y) (f0 := (tp T n 1 (i + 1 + 1))) (e0 := (lx_en T n 1 (tp T n 1 (i + 1 + 1)))) (fi := fi) (hx_up (hx_up (hx_up (hx_up (hx_up (hx_up (hx_up (hx_up (hx_up (hx_up (hx_up (hx_up (hx_up hx (by unfold hx_o; omega)) (by unfold hx_o; omega)) (by unfold hx_o; omega)) (by unfold hx_o; omega)) (by unfold hx_o; omega)) (by unfold hx_o; omega)) (by unfold hx_o; omega)) (by unfold hx_o; omega)) (by unfold hx_o; omega)) (by unfold hx_o; omega)) (by unfold hx_o; omega)) (by unfold hx_o; omega)) (by unfold hx_o; omega)) (show cx_P T n c (i + 1 + 1 + 1) (w_up (w_up (w_up (w_up (w_up (w_up (w_up (w_up (w_up (w_up (w_up (w_up (w_up S 14 4 ((i + 1 : Nat) : Int)) 14 4 ((i + 1 + 1 : Nat) : Int)) 14 4 ((i + 1 + 1 + 1 : Nat) : Int)) 97 (ms.length : Int) kc) 98 (ms.length : Int) 1) 100 (ms.length : Int) y) 101 (ms.length : Int) 0) 102 (ms.length : Int) 0) 111 (ms.length : Int) (S 17 ((i + 1 + 1 : Nat) : Int))) 112 (ms.length : Int) (-1)) 73 4 ((ms.length : Int) + 1)) 90 kc (((ms.length : Int) - (fi : Int)) + 1)) 99 (ms.length : Int) 1) from ⟨((w_up_slot (by decide)).trans ((w_up_slot (by decide)).trans ((w_up_slot (by decide)).trans ((w_up_slot (by decide)).trans ((w_up_slot (by decide)).trans ((w_up_slot (by decide)).trans ((w_up_slot (by decide)).trans ((w_up_slot (by decide)).trans ((w_up_slot (by decide)).trans ((w_up_slot (by decide)).trans (w_up_same _ _ _ _))))))))))), hg3⟩) hmsx (by omega) hhd (by decide) hkc ⟨(((w_up_slot (by decide)).trans ((w_up_slot (by decide)).trans ((w_up_slot (by decide)).trans ((w_up_slot (by decide)).trans ((w_up_slot (by decide)).trans ((w_up_slot (by decide)).trans ((w_up_slot (by decide)).trans ((w_up_slot (by decide)).trans ((w_up_slot (by decide)).trans ((w_up_slot (by decide)).trans ((w_up_slot (by decide)).trans ((w_up_slot (by decide)).trans (w_up_slot (by decide))))))))))))))).trans hfi.1, hfi.2⟩ hpm0
                                                    rw [hRR] at hrp
                                                    refine wa_cv 61 rfl (wy_pr rfl) wt_61 (M2 := M) rfl at_XT_readParameters ⟨_, rfl⟩ rfl rfl ⟨trivial, (Or.inr ⟨wy_pr rfl, mS_no rfl⟩), trivial, trivial, trivial⟩ trivial (fun _ _ q => q) (hrp) (fun oq281 Sq281 hp282 q281 => ?_)
                                                    rcases q281 with hrq
                                                    match RR, hrm3, hrq with
                                                    | .inl (e, qq), hrm3, hrq =>
                                                      obtain ⟨v, Z0, rfl, g1, g2⟩ := hrq
                                                      refine ⟨rfl, ?_⟩
                                                      exact hf e qq v Z0 _ (by rw [mb_f_s, if_neg (fun z => absurd (h125.1 z) (by omega)), hrm3]; rfl) (fun j x a1 a2 a3 a4 => (g1 j x a1 (by omega)).trans ((fun j x a1 a2 a3 a4 => (w_up_no (by omega)).trans ((w_up_no (by omega)).trans ((w_up_no (by omega)).trans ((w_up_no (by omega)).trans ((w_up_no (by omega)).trans ((w_up_no (by omega)).trans ((w_up_no (by omega)).trans ((w_up_no (by omega)).trans ((w_up_no (by omega)).trans ((w_up_no (by omega)).trans ((w_up_no (by omega)).trans ((w_up_no (by omega)).trans ((w_up_no (by omega)).trans (rfl)))))))))))))) j x a1 a2 a3 a4)) g2
                                                    | .inr (qq, l, vv), hrm3, hrq =>
                                                      obtain ⟨rfl, g1, ⟨i2, g2, rfl⟩, g3⟩ := hrq
                                                      show wJ _ _ _ _ _ _ _ _ _ _
                                                      refine wa_fall ⟨_, rfl⟩ ?_
                                                      have hxz : hx_I 241 73 87 92 74 T n c B Sq281 := hx_ag (hx_up (hx_up (hx_up (hx_up (hx_up (hx_up (hx_up (hx_up (hx_up (hx_up (hx_up (hx_up (hx_up hx (by unfold hx_o; omega)) (by unfold hx_o; omega)) (by unfold hx_o; omega)) (by unfold hx_o; omega)) (by unfold hx_o; omega)) (by unfold hx_o; omega)) (by unfold hx_o; omega)) (by unfold hx_o; omega)) (by unfold hx_o; omega)) (by unfold hx_o; omega)) (by unfold hx_o; omega)) (by unfold hx_o; omega)) (by unfold hx_o; omega)) (by decide) (g1 14 3 (by omega) (by omega)) (gI_ag (gI_up (gI_up (gI_up (gI_up (gI_up (gI_up (gI_up (gI_up (gI_up (gI_up (gI_up (gI_up (gI_up hI (by omega) (by omega) (by omega)) (by omega) (by omega) (by omega)) (by omega) (by omega) (by omega)) (by omega) (by omega) (by omega)) (by omega) (by omega) (by omega)) (by omega) (by omega) (by omega)) (by omega) (by omega) (by omega)) (by omega) (by omega) (by omega)) (by omega) (by omega) (by omega)) (by omega) (by omega) (by omega)) (by omega) (by omega) (by omega)) (by omega) (by omega) (by omega)) (by omega) (by omega) (by omega)) (fun j hj => funext fun x => ?_)) (fun j hj => funext fun x => g1 j x (by omega) (by omega)) (g1 73 2 (by omega) (by omega)) (g1 61 1 (by omega) (by omega)) (fun z hz => (g1 z.1 (-1) (by omega) (by omega)).trans ((hx_R (hx_up (hx_up (hx_up (hx_up (hx_up (hx_up (hx_up (hx_up (hx_up (hx_up (hx_up (hx_up (hx_up hx (by unfold hx_o; omega)) (by unfold hx_o; omega)) (by unfold hx_o; omega)) (by unfold hx_o; omega)) (by unfold hx_o; omega)) (by unfold hx_o; omega)) (by unfold hx_o; omega)) (by unfold hx_o; omega)) (by unfold hx_o; omega)) (by unfold hx_o; omega)) (by unfold hx_o; omega)) (by unfold hx_o; omega)) (by unfold hx_o; omega))).2.2.1 z hz))
                                                      · sorry
                                              · skip
                                                exact absurd c266 (by omega)
                                            · skip
                                              exact absurd c262 (by omega)
                                          · skip
                                            exact absurd c261 (by omega)
                                        · skip
                                          refine wa_iconst ?_
                                          refine wa_goto ⟨_, rfl⟩ ?_
                                          refine wa_istore (n := 4) rfl ?_
                                          refine wa_iload (n := 4) rfl ?_
                                          refine wa_ifeq (w_rg0 (by omega) (by omega)) ⟨_, rfl⟩ (fun c283 => ?_) (fun c283 => ?_)
                                          · skip
                                            exact absurd c283 (by omega)
                                          · skip
                                            refine wa_aload_n (n := 0) rfl ?_
                                            refine wb_gf5 61 rfl (wy_pr rfl) wt_61 wf_4_1 (v := 73) ((w_up_slot (by decide)).trans ((w_up_slot (by decide)).trans (hH))) (fun r284 => ?_)
                                            refine wa_iload_n (n := 3) rfl ?_
                                            refine wa_cv 73 rfl (wy_pr rfl) wt_73 (M2 := fun _ => False) rfl at_XO_hasOwnField ⟨_, rfl⟩ rfl rfl ⟨trivial, trivial, (Or.inr ⟨wy_pr rfl, fun q => q⟩), trivial, trivial, trivial⟩ trivial (fun _ _ q => False.elim q) (of_73 (S := (w_up (w_up S 14 4 ((i + 1 : Nat) : Int)) 14 4 ((i + 1 + 1 : Nat) : Int))) (ms := ms) (f0 := (tp T n 1 (i + 1 + 1))) (e0 := lx_en T n 1 (tp T n 1 (i + 1 + 1))) (kc := kc) (fi := fi) (hx_R (hx_up (hx_up hx (by unfold hx_o; omega)) (by unfold hx_o; omega))).2.2.1 (hx_W (hx_up (hx_up hx (by unfold hx_o; omega)) (by unfold hx_o; omega))) (mr_all_up (mr_all_up hms (by omega) (by omega)) (by omega) (by omega)) (((w_up_slot (by decide)).trans ((w_up_slot (by decide)).trans (hmc)))) ⟨by omega, by show (S 17 ((i + 1 + 1 : Nat) : Int)) < S 74 7; omega, by omega⟩ (show wq ((w_up (w_up S 14 4 ((i + 1 : Nat) : Int)) 14 4 ((i + 1 + 1 : Nat) : Int)) 75) ((w_up (w_up S 14 4 ((i + 1 : Nat) : Int)) 14 4 ((i + 1 + 1 : Nat) : Int)) 76) ((w_up (w_up S 14 4 ((i + 1 : Nat) : Int)) 14 4 ((i + 1 + 1 : Nat) : Int)) 77) T (tp T n 1 (i + 1 + 1)) (lx_en T n 1 (tp T n 1 (i + 1 + 1)) - (tp T n 1 (i + 1 + 1))) (S 17 ((i + 1 + 1 : Nat) : Int)) from hnt2.2.2) ⟨((w_up_slot (by decide)).trans ((w_up_slot (by decide)).trans (hkc1))), hkc.2⟩ ⟨((w_up_slot (by decide)).trans (w_up_slot (by decide))).trans hfi.1, hfi.2⟩) (fun oq286 Sq286 hp287 q286 => ?_)
                                            rcases q286 with ⟨rfl, ⟨rfl, ho285⟩ | ⟨rfl, ho285⟩⟩
                                            · skip
                                              show wJ _ _ _ _ _ _ _ _ _ _
                                              have hdf := ho285
                                              refine wa_ifeq (w_rg0 (by omega) (by omega)) ⟨_, rfl⟩ (fun c288 => ?_) (fun c288 => ?_)
                                              · skip
                                                exact absurd c288 (by omega)
                                              · skip
                                                refine wa_aload_n (n := 0) rfl ?_
                                                refine wa_iconst ?_
                                                refine wa_cv 61 rfl (wy_pr rfl) wt_61 (M2 := fun _ => False) rfl at_XT_refuse ⟨_, rfl⟩ rfl rfl ⟨trivial, trivial, (Or.inr ⟨wy_pr rfl, fun q => q⟩), trivial, trivial, trivial⟩ trivial (fun _ _ q => False.elim q) (rf_c (S := (w_up (w_up S 14 4 ((i + 1 : Nat) : Int)) 14 4 ((i + 1 + 1 : Nat) : Int))) (k := 2) (p := (tp T n 1 (i + 1 + 1))) (i := ((i + 1 + 1 : Nat) : Int)) (gI_up (gI_up hI (by omega) (by omega) (by omega)) (by omega) (by omega) (by omega)) (w_up_same _ _ _ _) ((w_up_slot (by decide)).trans ((w_up_slot (by decide)).trans (h16_2))) ⟨by omega, by have e : (w_up (w_up S 14 4 ((i + 1 : Nat) : Int)) 14 4 ((i + 1 + 1 : Nat) : Int)) 16 (-1) = S 16 (-1) := ((w_up_slot (by decide)).trans (w_up_slot (by decide))); omega⟩ ⟨by omega, by omega⟩ ⟨by omega, by omega⟩) (fun oq290 Sq290 hp291 q290 => ?_)
                                                rcases q290 with ⟨v, rfl, rz289⟩
                                                have hrz := rz289
                                                have hkind : (2 : Int) = 2 := rfl
                                                refine ⟨rfl, ?_⟩
                                                refine ⟨rfl, ?_⟩
                                                refine ⟨rfl, ?_⟩
                                                have hn := lx_w_k (k := 12) hB hW hrw (by decide) hwc.1 hnt1
                                                rw [show hwl 12 = tx_25 from rfl] at hn
                                                have z1 : zq B (tp T n 1 (i + 1)) 237 6 = 1 := by rw [zT_6 hB]; exact hnt1.1
                                                have hs := lx_w_k (k := 11) hB hW hrw (by decide) hwc.1 hnt0
                                                rw [show hwl 11 = tx_23 from rfl] at hs
                                                have hrm0 : rm_L B 241 kc itf (ms.drop fi) ms.length (tp T n 1 i) = rb_L B 241 kc itf (ms.drop fi) ms.length (tp T n 1 (i + 1)) 1 := (rm_s (hs.2 (by omega)) (by omega)).trans (by rw [tp_ne (i := i) hB])
                                                have hyh := ty_hy (av := 1) hyy1 (Or.inr (by decide))
                                                rw [tp_ne (i := i + 1) hB] at hyh
                                                have hrm1 : rm_L B 241 kc itf (ms.drop fi) ms.length (tp T n 1 i) = rb_name B 241 itf (ms.drop fi) y (tp T n 1 (i + 1 + 1)) 1 := hrm0.trans (rb_t z1 (fun z => absurd (hn.1 z) (by omega)) hyh.2.2.1 (by omega) hyh.1)
                                                have z2 : zq B (tp T n 1 (i + 1 + 1)) 237 6 = 1 := by rw [zT_6 hB]; exact hnt2.1
                                                have hoo := oo_21 hB hW hrw hwc.1 hnt2
                                                have h59 := lx_is_kg (i := i + 1 + 1 + 1) hB (k := 17) (ch := 59) (by decide) sk_17
                                                have h40 := lx_is_kg (i := i + 1 + 1 + 1) hB (k := 10) (ch := 40) (by decide) sk_10
                                                have hrm2 := rn_f (b := 241) (itf := itf) (rs := ms.drop fi) (t := y) (st := 1) z2 (fun z => absurd (hoo.1 z) (by omega)) (by rw [tp_ne (i := i + 1 + 1) hB]; exact fun z => absurd (h40.1 z) (by omega)) (by rw [tp_ne (i := i + 1 + 1) hB]; exact ⟨h59.2 (by omega), by omega⟩)
                                                rw [hBT, zT_8 hB] at hrm2
                                                have hr : rm_L B 241 kc itf (ms.drop fi) ms.length (tp T n 1 i) = .inl (2, (tp T n 1 (i + 1 + 1))) := hrm1.trans (hrm2.trans (by rw [if_pos hdf]))
                                                exact hf 2 _ v _ _ (by rw [mb_f_s, if_neg (fun z => absurd (h125.1 z) (by omega)), hr]) (fun j x a1 a2 a3 a4 => (w_up_no (by omega)).trans ((w_up_no (by omega)).trans (rfl))) hrz
                                            · skip
                                              show wJ _ _ _ _ _ _ _ _ _ _
                                              have hdf := ho285
                                              refine wa_ifeq (w_rg0 (by omega) (by omega)) ⟨_, rfl⟩ (fun c292 => ?_) (fun c292 => ?_)
                                              · skip
                                                refine wa_iload (n := 4) rfl ?_
                                                refine wa_ifeq (w_rg0 (by omega) (by omega)) ⟨_, rfl⟩ (fun c293 => ?_) (fun c293 => ?_)
                                                · skip
                                                  exact absurd c293 (by omega)
                                                · skip
                                                  refine wa_iload_n (n := 1) rfl ?_
                                                  refine wa_ifeq (w_rg0 (by omega) (by omega)) ⟨_, rfl⟩ (fun c294 => ?_) (fun c294 => ?_)
                                                  · skip
                                                    refine wa_aload_n (n := 0) rfl ?_
                                                    refine wb_gf4 61 rfl (wy_pr rfl) wt_61 wf_4_0 (v := 14) wl_61_0 ?_
                                                    refine wa_cv 14 rfl (wy_pr rfl) wt_14 (M2 := fun _ => False) rfl at_XR_next ⟨_, rfl⟩ rfl rfl ⟨trivial, trivial, (Or.inr ⟨wy_pr rfl, fun q => q⟩), trivial, trivial, trivial⟩ trivial (fun _ _ q => False.elim q) (nx_c (S := (w_up (w_up S 14 4 ((i + 1 : Nat) : Int)) 14 4 ((i + 1 + 1 : Nat) : Int))) (hx_T (hx_up (hx_up hx (by unfold hx_o; omega)) (by unfold hx_o; omega))) (show cx_P T n c (i + 1 + 1) (w_up (w_up S 14 4 ((i + 1 : Nat) : Int)) 14 4 ((i + 1 + 1 : Nat) : Int)) from ⟨(w_up_same _ _ _ _), hg2⟩) rfl (gI_up (gI_up hI (by omega) (by omega) (by omega)) (by omega) (by omega) (by omega)) (by omega)) (fun oq295 Sq295 hp296 q295 => ?_)
                                                    rcases q295 with ⟨rfl, rfl⟩
                                                    show wJ _ _ _ _ _ _ _ _ _ _
                                                    have hg3 : pg T n c (i + 1 + 1 + 1) := pg_next hT hg2 (by omega) (by omega)
                                                    have hA3 := pg_at hT hg3
                                                    have h16_3 := hA3.1
                                                    have h15_3 := hA3.2.1
                                                    have hpr3 := hA3.2.2
                                                    have hkr3 := kg_rg T n (tp T n 1 (i + 1 + 1 + 1))
                                                    have hic3 := hg3.1
                                                    have hlt3 := tp_lt hT hg2 (by omega) (by omega)
                                                    refine wa_aload_n (n := 0) rfl ?_
                                                    refine wb_gf5 61 rfl (wy_pr rfl) wt_61 wf_4_1 (v := 73) ((w_up_slot (by decide)).trans ((w_up_slot (by decide)).trans ((w_up_slot (by decide)).trans (hH)))) (fun r297 => ?_)
                                                    refine wa_iload (n := 4) rfl ?_
                                                    refine wa_ifeq (w_rg0 (by omega) (by omega)) ⟨_, rfl⟩ (fun c298 => ?_) (fun c298 => ?_)
                                                    · skip
                                                      exact absurd c298 (by omega)
                                                    · skip
                                                      refine wa_iconst ?_
                                                      refine wa_goto ⟨_, rfl⟩ ?_
                                                      refine wa_iload_n (n := 2) rfl ?_
                                                      refine wa_iload_n (n := 3) rfl ?_
                                                      refine wa_cv 73 rfl (wy_pr rfl) wt_73 (M2 := fun _ => False) rfl at_XO_addMember ⟨_, rfl⟩ rfl rfl ⟨trivial, trivial, (Or.inr ⟨wy_pr rfl, fun q => q⟩), trivial, trivial, trivial⟩ trivial (fun _ _ q => False.elim q) ?_ (fun _ _ _ q => q)
                                                      refine wa_aload_n (n := 0) rfl ?_
                                                      refine wb_gfi 73 rfl (wy_pr rfl) wt_73 wf_3_4 (v := (ms.length : Int)) ((w_up_slot (by decide)).trans ((w_up_slot (by decide)).trans ((w_up_slot (by decide)).trans (hmc)))) (fun r299 => ?_)
                                                      refine wa_istore (n := 4) rfl ?_
                                                      refine wa_aload_n (n := 0) rfl ?_
                                                      refine wb_gf4 73 rfl (wy_pr rfl) wt_73 wf_3_3 (v := 96) wl_73_3 ?_
                                                      refine wa_iconst ?_
                                                      refine wb_aald5 96 0 rfl rfl (wy_pr rfl) wt_96 (by rw [show _ = _ from ((w_up_slot (by decide)).trans ((w_up_slot (by decide)).trans ((w_up_slot (by decide)).trans ((cl_96 hC)))))]; omega) wl_96_0 ?_
                                                      refine wa_iload (n := 4) rfl ?_
                                                      refine wa_aload_n (n := 0) rfl ?_
                                                      refine wb_gfi 73 rfl (wy_pr rfl) wt_73 wf_3_2 (v := (kc + 1)) ((w_up_slot (by decide)).trans ((w_up_slot (by decide)).trans ((w_up_slot (by decide)).trans (hkc1)))) (fun r300 => ?_)
                                                      refine wa_iconst ?_
                                                      refine wa_isub ?_
                                                      rw [show (((kc + 1) - 1) : Int) = kc by omega]
                                                      refine wb_iast 97 rfl (wy_pr rfl) wt_97 (n := 400) ((w_up_slot (by decide)).trans ((w_up_slot (by decide)).trans ((w_up_slot (by decide)).trans ((cl_97 hC))))) (by omega) (by omega) ⟨(by omega), (by omega)⟩ ?_
                                                      refine wa_aload_n (n := 0) rfl ?_
                                                      refine wb_gf4 73 rfl (wy_pr rfl) wt_73 wf_3_3 (v := 96) wl_73_3 ?_
                                                      refine wa_iconst ?_
                                                      refine wb_aald5 96 1 rfl rfl (wy_pr rfl) wt_96 (by rw [show _ = _ from ((w_up_slot (by decide)).trans ((w_up_slot (by decide)).trans ((w_up_slot (by decide)).trans ((w_up_slot (by decide)).trans ((cl_96 hC))))))]; omega) wl_96_1 ?_
                                                      refine wa_iload (n := 4) rfl ?_
                                                      refine wa_iload_n (n := 1) rfl ?_
                                                      refine wb_iast 98 rfl (wy_pr rfl) wt_98 (n := 400) ((w_up_slot (by decide)).trans ((w_up_slot (by decide)).trans ((w_up_slot (by decide)).trans ((w_up_slot (by decide)).trans ((cl_98 hC)))))) (by omega) (by omega) ⟨(by omega), (by omega)⟩ ?_
                                                      refine wa_aload_n (n := 0) rfl ?_
                                                      refine wb_gf4 73 rfl (wy_pr rfl) wt_73 wf_3_3 (v := 96) wl_73_3 ?_
                                                      refine wa_iconst ?_
                                                      refine wb_aald5 96 3 rfl rfl (wy_pr rfl) wt_96 (by rw [show _ = _ from ((w_up_slot (by decide)).trans ((w_up_slot (by decide)).trans ((w_up_slot (by decide)).trans ((w_up_slot (by decide)).trans ((w_up_slot (by decide)).trans ((cl_96 hC)))))))]; omega) wl_96_3 ?_
                                                      refine wa_iload (n := 4) rfl ?_
                                                      refine wa_iload_n (n := 2) rfl ?_
                                                      refine wb_iast 100 rfl (wy_pr rfl) wt_100 (n := 400) ((w_up_slot (by decide)).trans ((w_up_slot (by decide)).trans ((w_up_slot (by decide)).trans ((w_up_slot (by decide)).trans ((w_up_slot (by decide)).trans ((cl_100 hC))))))) (by omega) (by omega) ⟨(by omega), (by omega)⟩ ?_
                                                      refine wa_aload_n (n := 0) rfl ?_
                                                      refine wb_gf4 73 rfl (wy_pr rfl) wt_73 wf_3_3 (v := 96) wl_73_3 ?_
                                                      refine wa_iconst ?_
                                                      refine wb_aald5 96 4 rfl rfl (wy_pr rfl) wt_96 (by rw [show _ = _ from ((w_up_slot (by decide)).trans ((w_up_slot (by decide)).trans ((w_up_slot (by decide)).trans ((w_up_slot (by decide)).trans ((w_up_slot (by decide)).trans ((w_up_slot (by decide)).trans ((cl_96 hC))))))))]; omega) wl_96_4 ?_
                                                      refine wa_iload (n := 4) rfl ?_
                                                      refine wa_iconst ?_
                                                      refine wb_iast 101 rfl (wy_pr rfl) wt_101 (n := 400) ((w_up_slot (by decide)).trans ((w_up_slot (by decide)).trans ((w_up_slot (by decide)).trans ((w_up_slot (by decide)).trans ((w_up_slot (by decide)).trans ((w_up_slot (by decide)).trans ((cl_101 hC)))))))) (by omega) (by omega) ⟨(by omega), (by omega)⟩ ?_
                                                      refine wa_aload_n (n := 0) rfl ?_
                                                      refine wb_gf4 73 rfl (wy_pr rfl) wt_73 wf_3_3 (v := 96) wl_73_3 ?_
                                                      refine wa_iconst ?_
                                                      refine wb_aald5 96 5 rfl rfl (wy_pr rfl) wt_96 (by rw [show _ = _ from ((w_up_slot (by decide)).trans ((w_up_slot (by decide)).trans ((w_up_slot (by decide)).trans ((w_up_slot (by decide)).trans ((w_up_slot (by decide)).trans ((w_up_slot (by decide)).trans ((w_up_slot (by decide)).trans ((cl_96 hC)))))))))]; omega) wl_96_5 ?_
                                                      refine wa_iload (n := 4) rfl ?_
                                                      refine wa_iconst ?_
                                                      refine wb_iast 102 rfl (wy_pr rfl) wt_102 (n := 400) ((w_up_slot (by decide)).trans ((w_up_slot (by decide)).trans ((w_up_slot (by decide)).trans ((w_up_slot (by decide)).trans ((w_up_slot (by decide)).trans ((w_up_slot (by decide)).trans ((w_up_slot (by decide)).trans ((cl_102 hC))))))))) (by omega) (by omega) ⟨(by omega), (by omega)⟩ ?_
                                                      refine wa_aload_n (n := 0) rfl ?_
                                                      refine wb_gf4 73 rfl (wy_pr rfl) wt_73 wf_3_3 (v := 96) wl_73_3 ?_
                                                      refine wa_bipush (w_rg2 (by omega) (by omega)) ?_
                                                      refine wb_aald5 96 14 rfl rfl (wy_pr rfl) wt_96 (by rw [show _ = _ from ((w_up_slot (by decide)).trans ((w_up_slot (by decide)).trans ((w_up_slot (by decide)).trans ((w_up_slot (by decide)).trans ((w_up_slot (by decide)).trans ((w_up_slot (by decide)).trans ((w_up_slot (by decide)).trans ((w_up_slot (by decide)).trans ((cl_96 hC))))))))))]; omega) wl_96_14 ?_
                                                      refine wa_iload (n := 4) rfl ?_
                                                      refine wa_iload_n (n := 3) rfl ?_
                                                      refine wb_iast 111 rfl (wy_pr rfl) wt_111 (n := 400) ((w_up_slot (by decide)).trans ((w_up_slot (by decide)).trans ((w_up_slot (by decide)).trans ((w_up_slot (by decide)).trans ((w_up_slot (by decide)).trans ((w_up_slot (by decide)).trans ((w_up_slot (by decide)).trans ((w_up_slot (by decide)).trans ((cl_111 hC)))))))))) (by omega) (by omega) ⟨(by omega), (by omega)⟩ ?_
                                                      refine wa_aload_n (n := 0) rfl ?_
                                                      refine wb_gf4 73 rfl (wy_pr rfl) wt_73 wf_3_3 (v := 96) wl_73_3 ?_
                                                      refine wa_bipush (w_rg2 (by omega) (by omega)) ?_
                                                      refine wb_aald5 96 15 rfl rfl (wy_pr rfl) wt_96 (by rw [show _ = _ from ((w_up_slot (by decide)).trans ((w_up_slot (by decide)).trans ((w_up_slot (by decide)).trans ((w_up_slot (by decide)).trans ((w_up_slot (by decide)).trans ((w_up_slot (by decide)).trans ((w_up_slot (by decide)).trans ((w_up_slot (by decide)).trans ((w_up_slot (by decide)).trans ((cl_96 hC)))))))))))]; omega) wl_96_15 ?_
                                                      refine wa_iload (n := 4) rfl ?_
                                                      refine wa_iconst ?_
                                                      refine wb_iast 112 rfl (wy_pr rfl) wt_112 (n := 400) ((w_up_slot (by decide)).trans ((w_up_slot (by decide)).trans ((w_up_slot (by decide)).trans ((w_up_slot (by decide)).trans ((w_up_slot (by decide)).trans ((w_up_slot (by decide)).trans ((w_up_slot (by decide)).trans ((w_up_slot (by decide)).trans ((w_up_slot (by decide)).trans ((cl_112 hC))))))))))) (by omega) (by omega) ⟨(by omega), (by omega)⟩ ?_
                                                      refine wa_aload_n (n := 0) rfl ?_
                                                      refine wa_dup (by decide) ?_
                                                      refine wb_gfi 73 rfl (wy_pr rfl) wt_73 wf_3_4 (v := (ms.length : Int)) ((w_up_slot (by decide)).trans ((w_up_slot (by decide)).trans ((w_up_slot (by decide)).trans ((w_up_slot (by decide)).trans ((w_up_slot (by decide)).trans ((w_up_slot (by decide)).trans ((w_up_slot (by decide)).trans ((w_up_slot (by decide)).trans ((w_up_slot (by decide)).trans ((w_up_slot (by decide)).trans (hmc))))))))))) (fun r301 => ?_)
                                                      refine wa_iconst ?_
                                                      refine wa_iadd ?_
                                                      refine wb_pfi 73 rfl (wy_pr rfl) wt_73 wf_3_4 (n := 4) rfl ⟨(by omega), (by omega)⟩ ?_
                                                      refine wa_aload_n (n := 0) rfl ?_
                                                      refine wb_gf4 73 rfl (wy_pr rfl) wt_73 wf_3_1 (v := 86) wl_73_1 ?_
                                                      refine wa_iconst ?_
                                                      refine wb_aald5 86 3 rfl rfl (wy_pr rfl) wt_86 (by rw [show _ = _ from ((w_up_slot (by decide)).trans ((w_up_slot (by decide)).trans ((w_up_slot (by decide)).trans ((w_up_slot (by decide)).trans ((w_up_slot (by decide)).trans ((w_up_slot (by decide)).trans ((w_up_slot (by decide)).trans ((w_up_slot (by decide)).trans ((w_up_slot (by decide)).trans ((w_up_slot (by decide)).trans ((w_up_slot (by decide)).trans ((cl_86 hC)))))))))))))]; omega) wl_86_3 ?_
                                                      refine wa_aload_n (n := 0) rfl ?_
                                                      refine wb_gfi 73 rfl (wy_pr rfl) wt_73 wf_3_2 (v := (kc + 1)) ((w_up_at (by decide)).trans ((w_up_slot (by decide)).trans ((w_up_slot (by decide)).trans ((w_up_slot (by decide)).trans ((w_up_slot (by decide)).trans ((w_up_slot (by decide)).trans ((w_up_slot (by decide)).trans ((w_up_slot (by decide)).trans ((w_up_slot (by decide)).trans ((w_up_slot (by decide)).trans ((w_up_slot (by decide)).trans (hkc1)))))))))))) (fun r302 => ?_)
                                                      refine wa_iconst ?_
                                                      refine wa_isub ?_
                                                      rw [show (((kc + 1) - 1) : Int) = kc by omega]
                                                      refine wa_dup2 (by decide) (by decide) ?_
                                                      refine wb_iald 90 rfl (wy_pr rfl) wt_90 (n := 60) ((w_up_slot (by decide)).trans ((w_up_slot (by decide)).trans ((w_up_slot (by decide)).trans ((w_up_slot (by decide)).trans ((w_up_slot (by decide)).trans ((w_up_slot (by decide)).trans ((w_up_slot (by decide)).trans ((w_up_slot (by decide)).trans ((w_up_slot (by decide)).trans ((w_up_slot (by decide)).trans ((w_up_slot (by decide)).trans ((cl_90 hC))))))))))))) (by omega) (by omega) (v := ((ms.length : Int) - (fi : Int))) ((w_up_slot (by decide)).trans ((w_up_slot (by decide)).trans ((w_up_slot (by decide)).trans ((w_up_slot (by decide)).trans ((w_up_slot (by decide)).trans ((w_up_slot (by decide)).trans ((w_up_slot (by decide)).trans ((w_up_slot (by decide)).trans ((w_up_slot (by decide)).trans ((w_up_slot (by decide)).trans ((w_up_slot (by decide)).trans (ht3)))))))))))) (fun r303 => ?_)
                                                      refine wa_iconst ?_
                                                      refine wa_iadd ?_
                                                      refine wb_iast 90 rfl (wy_pr rfl) wt_90 (n := 60) ((w_up_slot (by decide)).trans ((w_up_slot (by decide)).trans ((w_up_slot (by decide)).trans ((w_up_slot (by decide)).trans ((w_up_slot (by decide)).trans ((w_up_slot (by decide)).trans ((w_up_slot (by decide)).trans ((w_up_slot (by decide)).trans ((w_up_slot (by decide)).trans ((w_up_slot (by decide)).trans ((w_up_slot (by decide)).trans ((cl_90 hC))))))))))))) (by omega) (by omega) ⟨(by omega), (by omega)⟩ ?_
                                                      refine wa_return rfl ?_
                                                      show wJ _ _ _ _ _ _ _ _ _ _
                                                      refine wa_return rfl ?_
                                                      show wJ _ _ _ _ _ _ _ _ _ _
                                                      refine wa_fall ⟨_, rfl⟩ ?_
                                                      refine wa_aload_n (n := 0) rfl ?_
                                                      refine wb_gf5 61 rfl (wy_pr rfl) wt_61 wf_4_1 (v := 73) ((w_up_slot (by decide)).trans ((w_up_slot (by decide)).trans ((w_up_slot (by decide)).trans ((w_up_slot (by decide)).trans ((w_up_slot (by decide)).trans ((w_up_slot (by decide)).trans ((w_up_slot (by decide)).trans ((w_up_slot (by decide)).trans ((w_up_slot (by decide)).trans ((w_up_slot (by decide)).trans ((w_up_slot (by decide)).trans ((w_up_slot (by decide)).trans (hH))))))))))))) (fun r304 => ?_)
                                                      refine wb_gf4 73 rfl (wy_pr rfl) wt_73 wf_3_3 (v := 96) wl_73_3 ?_
                                                      refine wa_iconst ?_
                                                      refine wb_aald5 96 2 rfl rfl (wy_pr rfl) wt_96 (by rw [show _ = _ from ((w_up_slot (by decide)).trans ((w_up_slot (by decide)).trans ((w_up_slot (by decide)).trans ((w_up_slot (by decide)).trans ((w_up_slot (by decide)).trans ((w_up_slot (by decide)).trans ((w_up_slot (by decide)).trans ((w_up_slot (by decide)).trans ((w_up_slot (by decide)).trans ((w_up_slot (by decide)).trans ((w_up_slot (by decide)).trans ((w_up_slot (by decide)).trans ((cl_96 hC))))))))))))))]; omega) wl_96_2 ?_
                                                      refine wa_aload_n (n := 0) rfl ?_
                                                      refine wb_gf5 61 rfl (wy_pr rfl) wt_61 wf_4_1 (v := 73) ((w_up_slot (by decide)).trans ((w_up_slot (by decide)).trans ((w_up_slot (by decide)).trans ((w_up_slot (by decide)).trans ((w_up_slot (by decide)).trans ((w_up_slot (by decide)).trans ((w_up_slot (by decide)).trans ((w_up_slot (by decide)).trans ((w_up_slot (by decide)).trans ((w_up_slot (by decide)).trans ((w_up_slot (by decide)).trans ((w_up_slot (by decide)).trans (hH))))))))))))) (fun r305 => ?_)
                                                      refine wb_gfi 73 rfl (wy_pr rfl) wt_73 wf_3_4 (v := ((ms.length : Int) + 1)) ((w_up_slot (by decide)).trans (w_up_same _ _ _ _)) (fun r306 => ?_)
                                                      refine wa_iconst ?_
                                                      refine wa_isub ?_
                                                      rw [show ((((ms.length : Int) + 1) - 1) : Int) = (ms.length : Int) by omega]
                                                      refine wa_iload_n (n := 2) rfl ?_
                                                      refine wa_ifeq (w_rg0 (by omega) (by omega)) ⟨_, rfl⟩ (fun c307 => ?_) (fun c307 => ?_)
                                                      · skip
                                                        exact absurd c307 (by omega)
                                                      · skip
                                                        refine wa_iconst ?_
                                                        refine wa_goto ⟨_, rfl⟩ ?_
                                                        refine wb_iast 99 rfl (wy_pr rfl) wt_99 (n := 400) ((w_up_slot (by decide)).trans ((w_up_slot (by decide)).trans ((w_up_slot (by decide)).trans ((w_up_slot (by decide)).trans ((w_up_slot (by decide)).trans ((w_up_slot (by decide)).trans ((w_up_slot (by decide)).trans ((w_up_slot (by decide)).trans ((w_up_slot (by decide)).trans ((w_up_slot (by decide)).trans ((w_up_slot (by decide)).trans ((w_up_slot (by decide)).trans ((cl_99 hC)))))))))))))) (by omega) (by omega) ⟨(by omega), (by omega)⟩ ?_
                                                        refine wa_return rfl ?_
                                                        show wJ _ _ _ _ _ _ _ _ _ _
                                                        refine wa_aload_n (n := 0) rfl ?_
                                                        refine wb_gf5 61 rfl (wy_pr rfl) wt_61 wf_4_1 (v := 73) ((w_up_slot (by decide)).trans ((w_up_slot (by decide)).trans ((w_up_slot (by decide)).trans ((w_up_slot (by decide)).trans ((w_up_slot (by decide)).trans ((w_up_slot (by decide)).trans ((w_up_slot (by decide)).trans ((w_up_slot (by decide)).trans ((w_up_slot (by decide)).trans ((w_up_slot (by decide)).trans ((w_up_slot (by decide)).trans ((w_up_slot (by decide)).trans ((w_up_slot (by decide)).trans (hH)))))))))))))) (fun r308 => ?_)
                                                        refine wb_gfi 73 rfl (wy_pr rfl) wt_73 wf_3_4 (v := ((ms.length : Int) + 1)) ((w_up_slot (by decide)).trans ((w_up_slot (by decide)).trans (w_up_same _ _ _ _))) (fun r309 => ?_)
                                                        refine wa_iconst ?_
                                                        refine wa_isub ?_
                                                        rw [show ((((ms.length : Int) + 1) - 1) : Int) = (ms.length : Int) by omega]
                                                        refine wa_istore (n := 5) rfl ?_
                                                        refine wa_aload_n (n := 0) rfl ?_
                                                        refine wb_gf5 61 rfl (wy_pr rfl) wt_61 wf_4_1 (v := 73) ((w_up_slot (by decide)).trans ((w_up_slot (by decide)).trans ((w_up_slot (by decide)).trans ((w_up_slot (by decide)).trans ((w_up_slot (by decide)).trans ((w_up_slot (by decide)).trans ((w_up_slot (by decide)).trans ((w_up_slot (by decide)).trans ((w_up_slot (by decide)).trans ((w_up_slot (by decide)).trans ((w_up_slot (by decide)).trans ((w_up_slot (by decide)).trans ((w_up_slot (by decide)).trans (hH)))))))))))))) (fun r310 => ?_)
                                                        refine wb_gf4 73 rfl (wy_pr rfl) wt_73 wf_3_3 (v := 96) wl_73_3 ?_
                                                        refine wa_iconst ?_
                                                        refine wb_aald5 96 1 rfl rfl (wy_pr rfl) wt_96 (by rw [show _ = _ from ((w_up_slot (by decide)).trans ((w_up_slot (by decide)).trans ((w_up_slot (by decide)).trans ((w_up_slot (by decide)).trans ((w_up_slot (by decide)).trans ((w_up_slot (by decide)).trans ((w_up_slot (by decide)).trans ((w_up_slot (by decide)).trans ((w_up_slot (by decide)).trans ((w_up_slot (by decide)).trans ((w_up_slot (by decide)).trans ((w_up_slot (by decide)).trans ((w_up_slot (by decide)).trans ((cl_96 hC)))))))))))))))]; omega) wl_96_1 ?_
                                                        refine wa_iload (n := 5) rfl ?_
                                                        refine wb_iald 98 rfl (wy_pr rfl) wt_98 (n := 400) ((w_up_slot (by decide)).trans ((w_up_slot (by decide)).trans ((w_up_slot (by decide)).trans ((w_up_slot (by decide)).trans ((w_up_slot (by decide)).trans ((w_up_slot (by decide)).trans ((w_up_slot (by decide)).trans ((w_up_slot (by decide)).trans ((w_up_at (by omega)).trans ((w_up_slot (by decide)).trans ((w_up_slot (by decide)).trans ((w_up_slot (by decide)).trans ((w_up_slot (by decide)).trans ((cl_98 hC))))))))))))))) (by omega) (by omega) (v := 0) ((w_up_slot (by decide)).trans ((w_up_slot (by decide)).trans ((w_up_slot (by decide)).trans ((w_up_slot (by decide)).trans ((w_up_slot (by decide)).trans ((w_up_slot (by decide)).trans ((w_up_slot (by decide)).trans ((w_up_slot (by decide)).trans (w_up_same _ _ _ _))))))))) (fun r311 => ?_)
                                                        refine wa_ifeq (w_rg0 (by omega) (by omega)) ⟨_, rfl⟩ (fun c312 => ?_) (fun c312 => ?_)
                                                        · skip
                                                          skip
                                                          sorry
                                                        · skip
                                                          exact absurd c312 (by omega)
                                                  · skip
                                                    exact absurd c294 (by omega)
                                              · skip
                                                exact absurd c292 (by omega)
                                  · skip
                                    refine wa_aload_n (n := 0) rfl ?_
                                    refine wa_iconst ?_
                                    refine wa_cv 61 rfl (wy_pr rfl) wt_61 (M2 := fun _ => False) rfl at_XT_refuse ⟨_, rfl⟩ rfl rfl ⟨trivial, (Or.inr ⟨wy_pr rfl, fun q => q⟩), trivial, trivial, trivial⟩ trivial (fun _ _ q => False.elim q) (rf_c (S := (w_up (w_up S 14 4 ((i + 1 : Nat) : Int)) 14 4 ((i + 1 + 1 : Nat) : Int))) (k := 2) (p := (tp T n 1 (i + 1 + 1))) (i := ((i + 1 + 1 : Nat) : Int)) (gI_up (gI_up hI (by omega) (by omega) (by omega)) (by omega) (by omega) (by omega)) (w_up_same _ _ _ _) ((w_up_slot (by decide)).trans ((w_up_slot (by decide)).trans (h16_2))) ⟨by omega, by have e : (w_up (w_up S 14 4 ((i + 1 : Nat) : Int)) 14 4 ((i + 1 + 1 : Nat) : Int)) 16 (-1) = S 16 (-1) := ((w_up_slot (by decide)).trans (w_up_slot (by decide))); omega⟩ ⟨by omega, by omega⟩ ⟨by omega, by omega⟩) (fun oq314 Sq314 hp315 q314 => ?_)
                                    rcases q314 with ⟨v, rfl, rz313⟩
                                    have hrz := rz313
                                    have hkind : (2 : Int) = 2 := rfl
                                    refine ⟨rfl, ?_⟩
                                    refine ⟨rfl, ?_⟩
                                    refine ⟨rfl, ?_⟩
                                    have hn := lx_w_k (k := 12) hB hW hrw (by decide) hwc.1 hnt1
                                    rw [show hwl 12 = tx_25 from rfl] at hn
                                    have z1 : zq B (tp T n 1 (i + 1)) 237 6 = 1 := by rw [zT_6 hB]; exact hnt1.1
                                    have hs := lx_w_k (k := 11) hB hW hrw (by decide) hwc.1 hnt0
                                    rw [show hwl 11 = tx_23 from rfl] at hs
                                    have hrm0 : rm_L B 241 kc itf (ms.drop fi) ms.length (tp T n 1 i) = rb_L B 241 kc itf (ms.drop fi) ms.length (tp T n 1 (i + 1)) 1 := (rm_s (hs.2 (by omega)) (by omega)).trans (by rw [tp_ne (i := i) hB])
                                    have hyh := ty_hy (av := 1) hyy1 (Or.inr (by decide))
                                    rw [tp_ne (i := i + 1) hB] at hyh
                                    have hrm1 : rm_L B 241 kc itf (ms.drop fi) ms.length (tp T n 1 i) = rb_name B 241 itf (ms.drop fi) y (tp T n 1 (i + 1 + 1)) 1 := hrm0.trans (rb_t z1 (fun z => absurd (hn.1 z) (by omega)) hyh.2.2.1 (by omega) hyh.1)
                                    have z2 : zq B (tp T n 1 (i + 1 + 1)) 237 6 = 1 := by rw [zT_6 hB]; exact hnt2.1
                                    have hoo := oo_21 hB hW hrw hwc.1 hnt2
                                    have hr : rm_L B 241 kc itf (ms.drop fi) ms.length (tp T n 1 i) = .inl (2, (tp T n 1 (i + 1 + 1))) := hrm1.trans (rn_2 z2 (hoo.2 (by omega)))
                                    exact hf 2 _ v _ _ (by rw [mb_f_s, if_neg (fun z => absurd (h125.1 z) (by omega)), hr]) (fun j x a1 a2 a3 a4 => (w_up_no (by omega)).trans ((w_up_no (by omega)).trans (rfl))) hrz
                                · skip
                                  have hkg := hw204
                                  refine ⟨rfl, ?_⟩
                                  refine ⟨rfl, ?_⟩
                                  refine ⟨rfl, ?_⟩
                                  have hn := lx_w_k (k := 12) hB hW hrw (by decide) hwc.1 hnt1
                                  rw [show hwl 12 = tx_25 from rfl] at hn
                                  have z1 : zq B (tp T n 1 (i + 1)) 237 6 = 1 := by rw [zT_6 hB]; exact hnt1.1
                                  have hs := lx_w_k (k := 11) hB hW hrw (by decide) hwc.1 hnt0
                                  rw [show hwl 11 = tx_23 from rfl] at hs
                                  have hrm0 : rm_L B 241 kc itf (ms.drop fi) ms.length (tp T n 1 i) = rb_L B 241 kc itf (ms.drop fi) ms.length (tp T n 1 (i + 1)) 1 := (rm_s (hs.2 (by omega)) (by omega)).trans (by rw [tp_ne (i := i) hB])
                                  have hyh := ty_hy (av := 1) hyy1 (Or.inr (by decide))
                                  rw [tp_ne (i := i + 1) hB] at hyh
                                  have hrm1 : rm_L B 241 kc itf (ms.drop fi) ms.length (tp T n 1 i) = rb_name B 241 itf (ms.drop fi) y (tp T n 1 (i + 1 + 1)) 1 := hrm0.trans (rb_t z1 (fun z => absurd (hn.1 z) (by omega)) hyh.2.2.1 (by omega) hyh.1)
                                  have z2 : zq B (tp T n 1 (i + 1 + 1)) 237 6 ≠ 1 := by rw [zT_6 hB]; exact fun z => hkg ((kg_5 T n _).2 z)
                                  have hr : rm_L B 241 kc itf (ms.drop fi) ms.length (tp T n 1 i) = .inl (1, (tp T n 1 (i + 1 + 1))) := hrm1.trans (rn_1 z2)
                                  exact hf 1 _ v _ _ (by rw [mb_f_s, if_neg (fun z => absurd (h125.1 z) (by omega)), hr]) (fun j x a1 a2 a3 a4 => (w_up_no (by omega)).trans ((w_up_no (by omega)).trans (rfl))) hrz
                              · skip
                                exact absurd c203 (by omega)
                            · skip
                              exact absurd c200 (by omega)
                          · skip
                            refine wa_aload_n (n := 0) rfl ?_
                            refine wa_iconst ?_
                            refine wa_cv 61 rfl (wy_pr rfl) wt_61 (M2 := fun _ => False) rfl at_XT_refuse ⟨_, rfl⟩ rfl rfl ⟨trivial, trivial, trivial, (Or.inr ⟨wy_pr rfl, fun q => q⟩), trivial, trivial⟩ trivial (fun _ _ q => False.elim q) (rf_c (S := (w_up S 14 4 ((i + 1 : Nat) : Int))) (k := 5) (p := (tp T n 1 (i + 1))) (i := ((i + 1 : Nat) : Int)) (gI_up hI (by omega) (by omega) (by omega)) (w_up_same _ _ _ _) ((w_up_slot (by decide)).trans (h16_1)) ⟨by omega, by have e : (w_up S 14 4 ((i + 1 : Nat) : Int)) 16 (-1) = S 16 (-1) := (w_up_slot (by decide)); omega⟩ ⟨by omega, by omega⟩ ⟨by omega, by omega⟩) (fun oq317 Sq317 hp318 q317 => ?_)
                            rcases q317 with ⟨v, rfl, rz316⟩
                            have hrz := rz316
                            have hkind : (5 : Int) = 5 := rfl
                            refine ⟨rfl, ?_⟩
                            refine ⟨rfl, ?_⟩
                            have hn := lx_w_k (k := 12) hB hW hrw (by decide) hwc.1 hnt1
                            rw [show hwl 12 = tx_25 from rfl] at hn
                            have z1 : zq B (tp T n 1 (i + 1)) 237 6 = 1 := by rw [zT_6 hB]; exact hnt1.1
                            have hs := lx_w_k (k := 11) hB hW hrw (by decide) hwc.1 hnt0
                            rw [show hwl 11 = tx_23 from rfl] at hs
                            have hrm0 : rm_L B 241 kc itf (ms.drop fi) ms.length (tp T n 1 i) = rb_L B 241 kc itf (ms.drop fi) ms.length (tp T n 1 (i + 1)) 1 := (rm_s (hs.2 (by omega)) (by omega)).trans (by rw [tp_ne (i := i) hB])
                            have hkk : lx_w (zq B (tp T n 1 (i + 1))) tx_25 = true ∨ (0 ≤ pl_of (zq B (tp T n 1 (i + 1))) tx_27 ∨ 0 ≤ ch_of (zq B (tp T n 1 (i + 1))) 241) := by first | exact Or.inl (hn.2 (by omega)) | exact Or.inr (ty_hy (av := 1) hyy1 (Or.inr (by decide))).2.2.1
                            have hr : rm_L B 241 kc itf (ms.drop fi) ms.length (tp T n 1 i) = .inl (5, (tp T n 1 (i + 1))) := hrm0.trans (rb_5 z1 (fun z => by have := hn.1 z.2; omega) hkk (by omega))
                            exact hf 5 _ v _ _ (by rw [mb_f_s, if_neg (fun z => absurd (h125.1 z) (by omega)), hr]) (fun j x a1 a2 a3 a4 => (w_up_no (by omega)).trans (rfl)) hrz
                        · skip
                          have hyy := hy194
                          refine ⟨rfl, ?_⟩
                          refine ⟨rfl, ?_⟩
                          have hn := lx_w_k (k := 12) hB hW hrw (by decide) hwc.1 hnt1
                          rw [show hwl 12 = tx_25 from rfl] at hn
                          have z1 : zq B (tp T n 1 (i + 1)) 237 6 = 1 := by rw [zT_6 hB]; exact hnt1.1
                          have hs := lx_w_k (k := 11) hB hW hrw (by decide) hwc.1 hnt0
                          rw [show hwl 11 = tx_23 from rfl] at hs
                          have hrm0 : rm_L B 241 kc itf (ms.drop fi) ms.length (tp T n 1 i) = rb_L B 241 kc itf (ms.drop fi) ms.length (tp T n 1 (i + 1)) 1 := (rm_s (hs.2 (by omega)) (by omega)).trans (by rw [tp_ne (i := i) hB])
                          rcases ty_in hyy with ⟨rfl, q1⟩ | ⟨rfl, q1, q2⟩
                          · exact absurd z1 q1
                          have hr : rm_L B 241 kc itf (ms.drop fi) ms.length (tp T n 1 i) = .inl (3, (tp T n 1 (i + 1))) := hrm0.trans (rb_3 z1 (fun z => absurd (hn.1 z) (by omega)) q2)
                          exact hf 3 _ v _ _ (by rw [mb_f_s, if_neg (fun z => absurd (h125.1 z) (by omega)), hr]) (fun j x a1 a2 a3 a4 => (w_up_no (by omega)).trans (rfl)) hrz
                      · skip
                        exact absurd c193 (by omega)
                    · skip
                      exact absurd c192 (by omega)
                  · skip
                    refine wa_iconst ?_
                    refine wa_goto ⟨_, rfl⟩ ?_
                    refine wa_istore_n (n := 3) rfl ?_
                    refine wa_iload_n (n := 3) rfl ?_
                    refine wa_ifeq (w_rg0 (by omega) (by omega)) ⟨_, rfl⟩ (fun c319 => ?_) (fun c319 => ?_)
                    · skip
                      exact absurd c319 (by omega)
                    · skip
                      refine wa_iload_n (n := 2) rfl ?_
                      refine wa_ifeq (w_rg0 (by omega) (by omega)) ⟨_, rfl⟩ (fun c320 => ?_) (fun c320 => ?_)
                      · skip
                        exact absurd c320 (by omega)
                      · skip
                        refine wa_aload_n (n := 0) rfl ?_
                        refine wa_iconst ?_
                        refine wa_cv 61 rfl (wy_pr rfl) wt_61 (M2 := fun _ => False) rfl at_XT_refuse ⟨_, rfl⟩ rfl rfl ⟨trivial, trivial, (Or.inr ⟨wy_pr rfl, fun q => q⟩), trivial, trivial⟩ trivial (fun _ _ q => False.elim q) (rf_c (S := (w_up S 14 4 ((i + 1 : Nat) : Int))) (k := 1) (p := (tp T n 1 (i + 1))) (i := ((i + 1 : Nat) : Int)) (gI_up hI (by omega) (by omega) (by omega)) (w_up_same _ _ _ _) ((w_up_slot (by decide)).trans (h16_1)) ⟨by omega, by have e : (w_up S 14 4 ((i + 1 : Nat) : Int)) 16 (-1) = S 16 (-1) := (w_up_slot (by decide)); omega⟩ ⟨by omega, by omega⟩ ⟨by omega, by omega⟩) (fun oq322 Sq322 hp323 q322 => ?_)
                        rcases q322 with ⟨v, rfl, rz321⟩
                        have hrz := rz321
                        have hkind : (1 : Int) = 1 := rfl
                        refine ⟨rfl, ?_⟩
                        refine ⟨rfl, ?_⟩
                        have hn := lx_w_k (k := 12) hB hW hrw (by decide) hwc.1 hnt1
                        rw [show hwl 12 = tx_25 from rfl] at hn
                        have z1 : zq B (tp T n 1 (i + 1)) 237 6 = 1 := by rw [zT_6 hB]; exact hnt1.1
                        have hs := lx_w_k (k := 11) hB hW hrw (by decide) hwc.1 hnt0
                        rw [show hwl 11 = tx_23 from rfl] at hs
                        have hrm0 : rm_L B 241 kc itf (ms.drop fi) ms.length (tp T n 1 i) = rb_L B 241 kc itf (ms.drop fi) ms.length (tp T n 1 (i + 1)) 1 := (rm_s (hs.2 (by omega)) (by omega)).trans (by rw [tp_ne (i := i) hB])
                        have hr : rm_L B 241 kc itf (ms.drop fi) ms.length (tp T n 1 i) = .inl (1, (tp T n 1 (i + 1))) := hrm0.trans (rb_2 rfl (hn.2 (by omega)))
                        exact hf 1 _ v _ _ (by rw [mb_f_s, if_neg (fun z => absurd (h125.1 z) (by omega)), hr]) (fun j x a1 a2 a3 a4 => (w_up_no (by omega)).trans (rfl)) hrz
                · skip
                  have hkg := hw187
                  refine ⟨rfl, ?_⟩
                  refine ⟨rfl, ?_⟩
                  have z1 : zq B (tp T n 1 (i + 1)) 237 6 ≠ 1 := by rw [zT_6 hB]; exact fun z => hkg ((kg_5 T n _).2 z)
                  have hs := lx_w_k (k := 11) hB hW hrw (by decide) hwc.1 hnt0
                  rw [show hwl 11 = tx_23 from rfl] at hs
                  have hr : rm_L B 241 kc itf (ms.drop fi) ms.length (tp T n 1 i) = .inl (1, (tp T n 1 (i + 1))) := (rm_s (hs.2 (by omega)) (by omega)).trans (by rw [tp_ne (i := i) hB]; exact rb_1 z1)
                  exact hf 1 _ v _ _ (by rw [mb_f_s, if_neg (fun z => absurd (h125.1 z) (by omega)), hr]) (fun j x a1 a2 a3 a4 => (w_up_no (by omega)).trans (rfl)) hrz
              · skip
                refine wa_aload_n (n := 0) rfl ?_
                refine wa_bipush (w_rg2 (by omega) (by omega)) ?_
                refine wa_cv 61 rfl (wy_pr rfl) wt_61 (M2 := fun _ => False) rfl at_XT_refuse ⟨_, rfl⟩ rfl rfl ⟨trivial, (Or.inr ⟨wy_pr rfl, fun q => q⟩), trivial, trivial⟩ trivial (fun _ _ q => False.elim q) (rf_c (S := S) (k := 6) (p := (tp T n 1 i)) (i := (i : Int)) hI (hpos4) (h16_0) ⟨by omega, by have e : S 16 (-1) = S 16 (-1) := rfl; omega⟩ ⟨by omega, by omega⟩ ⟨by omega, by omega⟩) (fun oq325 Sq325 hp326 q325 => ?_)
                rcases q325 with ⟨v, rfl, rz324⟩
                have hrz := rz324
                have hkind : (6 : Int) = 6 := rfl
                refine ⟨rfl, ?_⟩
                refine ⟨rfl, ?_⟩
                have hs := lx_w_k (k := 11) hB hW hrw (by decide) hwc.1 hnt0
                rw [show hwl 11 = tx_23 from rfl] at hs
                have hr : rm_L B 241 kc itf (ms.drop fi) ms.length (tp T n 1 i) = .inl (6, (tp T n 1 i)) := rm_s6 (hs.2 (by omega)) (by omega)
                exact hf 6 _ v _ _ (by rw [mb_f_s, if_neg (fun z => absurd (h125.1 z) (by omega)), hr]) (fun j x a1 a2 a3 a4 => rfl) hrz
        · skip
          have hkg := hw6
          refine ⟨rfl, ?_⟩
          refine ⟨rfl, ?_⟩
          have z1 : zq B (tp T n 1 i) 237 6 ≠ 1 := by rw [zT_6 hB]; exact fun z => hkg ((kg_5 T n _).2 z)
          have hr : rm_L B 241 kc itf (ms.drop fi) ms.length (tp T n 1 i) = .inl (1, (tp T n 1 i)) := (rm_o (lx_w_no z1)).trans (rb_1 z1)
          exact hf 1 _ v _ _ (by rw [mb_f_s, if_neg (fun z => absurd (h125.1 z) (by omega)), hr]) (fun j x a1 a2 a3 a4 => rfl) hrz
end W9r
