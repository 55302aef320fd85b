/-! PART 9s: the members of a class, in the class's reader: the other host. -/
section W9s
variable {xs : List (Nat × List Int32)} {M : Nat → Prop} {d : Nat} {A B C S Z : wS} {Q : wO → wS → Prop} {T : Int → Int} {n : Int} {c i : Nat}
theorem mb6_162 {itf u : Int} (hx : hx_I 261 162 176 181 163 T n c B S) (hP : cx_P T n c i S) (hu : 0 ≤ u ∧ u ≤ 70000) (hk : kg T n (tp T n 1 i) = 17 → wJ (pe_GA xs) wY0 M (d + 11) t_XT_readClass ((pe_at t_XT_readClass.bl 5).getD (0, [])).2 [(0, (2, 61)), (1, (0, itf)), (4, (0, u + 1))] [] (w_up S 14 4 ((i + 1 : Nat) : Int)) Q) (hf : kg T n (tp T n 1 i) ≠ 17 → ∀ (v : Nat) (Z : wS), rz_ag S Z v (1 + 16 * tp T n 1 i) → Q (.inr v) Z) : wJ (pe_GA xs) wY0 M (d + 11) t_XT_readClass ((pe_at t_XT_readClass.bl 6).getD (0, [])).2 [(0, (2, 61)), (1, (0, itf)), (4, (0, u))] [] S Q := by
  have hB : zT B T n := hx.1
  have hT : cx_T 163 T n c S := hx.2.1
  have hI : gI S := hx.2.2.1
  have hW : wd_at S 163 64 := hx.2.2.2.1
  have hrw : rw_I S 163 := hx.2.2.2.2.1
  have hwc : 13 ≤ S 163 7 ∧ S 163 7 ≤ 400000 := hx.2.2.2.2.2.1
  have hR : cn_R 261 162 176 181 163 T B S := hx.2.2.2.2.2.2.1
  have hH : S 61 1 = 162 := hx.2.2.2.2.2.2.2
  have hC : w_CL S := hR.2.2.1
  have hN : S 162 2 = B 261 1 := hR.1
  have hN6 : 0 ≤ B 261 1 ∧ B 261 1 ≤ 60 := hR.2.1
  have hpos4 : S 14 4 = (i : Int) := hP.1
  have hg0 : pg T n c i := hP.2
  have hA0 := pg_at hT hg0
  have h16_0 := hA0.1
  have h15_0 := hA0.2.1
  have hpr0 := hA0.2.2
  have hkr0 := kg_rg T n (tp T n 1 i)
  have hcn : (c : Int) ≤ n ∧ n ≤ 65536 := ⟨hT.2.2.2.2.1, hT.2.2.2.2.2.1⟩
  have hRL := hT.2.2.2.2.2.2
  have hl15 : S 14 3 ≤ S 15 (-1) := hRL.1.2
  have hl16 : S 16 (-1) = S 15 (-1) := hRL.2.1
  have hl17 : S 17 (-1) = S 15 (-1) := hRL.2.2.1
  have hc3 : S 14 3 = (c : Int) + 1 := hT.1
  have hic0 : i ≤ c := hg0.1
  refine wa_aload_n (n := 0) rfl ?_
  refine wa_bipush (w_rg2 (by omega) (by omega)) ?_
  refine wa_cv 61 rfl (wy_pr rfl) wt_61 (M2 := fun _ => False) rfl at_XT_take ⟨_, rfl⟩ rfl rfl ⟨(Or.inr ⟨wy_pr rfl, fun q => q⟩), trivial, trivial, trivial⟩ trivial (fun _ _ q => False.elim q) (ta_c (S := S) (hx_T hx) (show cx_P T n c (i) S from ⟨(hpos4), hg0⟩) rfl hI (k := 17) ⟨by omega, by omega⟩) (fun oq2 Sq2 hp3 q2 => ?_)
  rcases q2 with ⟨ht1, rfl, rfl⟩ | ⟨ht1, v, rfl, hrz⟩
  · skip
    show wJ _ _ _ _ _ _ _ _ _ _
    have hg1 : pg T n c (i + 1) := pg_next (i := i) hT hg0 (by omega) (by omega)
    have hA1 := pg_at hT hg1
    have h16_1 := hA1.1
    have h15_1 := hA1.2.1
    have hpr1 := hA1.2.2
    have hkr1 := kg_rg T n (tp T n 1 (i + 1))
    have hic1 := hg1.1
    have hlt1 := tp_lt (i := i) hT hg0 (by omega) (by omega)
    refine wa_iinc rfl rfl ?_
    refine wa_goto ⟨_, rfl⟩ ?_
    exact wJ_S (hk (by omega)) ⟨rfl, rfl, rfl, trivial⟩
  · skip
    have hkg := ht1
    refine ⟨rfl, ?_⟩
    exact hf hkg v _ hrz
set_option maxHeartbeats 8000000 in
theorem mb_l_162 {kc itf : Int} {fi : Nat} (hkc : B 261 1 = kc + 1 ∧ 0 ≤ kc ∧ kc < 60) (hit : itf = 0 ∨ itf = 1) : ∀ (f i : Nat) (ms : List hMR) (u : Int) (S : wS), (n - tp T n 1 i).toNat < f → (hx : hx_I 261 162 176 181 163 T n c B S) → (hP : cx_P T n c i S) → (hms : mr_all 186 163 T S ms) → (hmc : S 162 4 = (ms.length : Int)) → (hfi : S 180 kc = (fi : Int) ∧ fi ≤ ms.length) → (ht3 : S 179 kc = (ms.length : Int) - (fi : Int)) → (hu : 0 ≤ u ∧ u ≤ (i : Int)) → (hk : ∀ (i' : Nat) (ms' : List hMR) (u' : Int) (Z : wS), mb_f B 261 kc itf fi f (tp T n 1 i) ms = .inr (tp T n 1 i', ms') → mz_ag 186 162 176 kc (ms.length : Int) S Z → hx_I 261 162 176 181 163 T n c B Z → cx_P T n c i' Z → mr_all 186 163 T Z ms' → Z 162 4 = (ms'.length : Int) → fi ≤ ms'.length → Z 179 kc = (ms'.length : Int) - (fi : Int) → kg T n (tp T n 1 i') = 13 → wJ (pe_GA xs) wY0 M (d + 11) t_XT_readClass ((pe_at t_XT_readClass.bl 7).getD (0, [])).2 [(0, (2, 61))] [] Z Q) → (hf : ∀ (e q : Int) (v : Nat) (Z0 Z : wS), mb_f B 261 kc itf fi f (tp T n 1 i) ms = .inl (e, q) → mz_ag 186 162 176 kc (ms.length : Int) S Z0 → rz_ag Z0 Z v (e + 16 * q) → Q (.inr v) Z) → wJ (pe_GA xs) wY0 M (d + 11) t_XT_readClass ((pe_at t_XT_readClass.bl 5).getD (0, [])).2 [(0, (2, 61)), (1, (0, itf)), (4, (0, u))] [] S Q := by
  intro f
  induction f with
  | zero => intro i ms u S h; exact absurd h (Nat.not_lt_zero _)
  | succ f ih =>
    intro i ms u S hf0 hx hP hms hmc hfi ht3 hu hk hf
    have hB : zT B T n := hx.1
    have hT : cx_T 163 T n c S := hx.2.1
    have hI : gI S := hx.2.2.1
    have hW : wd_at S 163 64 := hx.2.2.2.1
    have hrw : rw_I S 163 := hx.2.2.2.2.1
    have hwc : 13 ≤ S 163 7 ∧ S 163 7 ≤ 400000 := hx.2.2.2.2.2.1
    have hR : cn_R 261 162 176 181 163 T B S := hx.2.2.2.2.2.2.1
    have hH : S 61 1 = 162 := hx.2.2.2.2.2.2.2
    have hC : w_CL S := hR.2.2.1
    have hN : S 162 2 = B 261 1 := hR.1
    have hN6 : 0 ≤ B 261 1 ∧ B 261 1 ≤ 60 := hR.2.1
    have hpos4 : S 14 4 = (i : Int) := hP.1
    have hg0 : pg T n c i := hP.2
    have hA0 := pg_at hT hg0
    have h16_0 := hA0.1
    have h15_0 := hA0.2.1
    have hpr0 := hA0.2.2
    have hkr0 := kg_rg T n (tp T n 1 i)
    have hcn : (c : Int) ≤ n ∧ n ≤ 65536 := ⟨hT.2.2.2.2.1, hT.2.2.2.2.2.1⟩
    have hRL := hT.2.2.2.2.2.2
    have hl15 : S 14 3 ≤ S 15 (-1) := hRL.1.2
    have hl16 : S 16 (-1) = S 15 (-1) := hRL.2.1
    have hl17 : S 17 (-1) = S 15 (-1) := hRL.2.2.1
    have hc3 : S 14 3 = (c : Int) + 1 := hT.1
    have hic0 : i ≤ c := hg0.1
    have h400 := hms.1
    have hkc1 : S 162 2 = kc + 1 := hN.trans hkc.1
    have h125 := lx_is_kg (i := i) hB (k := 13) (ch := 125) (by decide) sk_13
    have hBT : B 239 = T := hB.1
    have hB4 : B 237 4 = n := hB.2.1
    have hgt := fun p2 so2 st2 ty2 v2 f2 e2 l2 => rm_L_gt (B := B) (b := 261) (p := tp T n 1 i) (c := kc) (itf := itf) (rs := ms.drop fi) (n := ms.length) (p2 := p2) (so2 := so2) (st2 := st2) (ty2 := ty2) (v2 := v2) (f2 := f2) (e2 := e2) (l2 := l2) (by omega) (by decide) ⟨by omega, by rw [hB4]; omega⟩
    have htail : ∀ (Zs : wS) (i2 : Nat) (so st ty vv F E : Int) (l : List Int), hx_I 261 162 176 181 163 T n c B Zs → cx_P T n c i2 Zs → mr_all 186 163 T Zs ms → ms.length < 400 → mr_at 186 163 T Zs (ms.length : Int) (kc, so, st, ty, l, vv, F, E) → mz_ag 186 162 176 kc (ms.length : Int) S Zs → Zs 162 4 = (ms.length : Int) + 1 → Zs 179 kc = (ms.length : Int) - (fi : Int) + 1 → Zs 180 kc = (fi : Int) → rm_L B 261 kc itf (ms.drop fi) ms.length (tp T n 1 i) = rm_end B (tp T n 1 i2) so st ty l vv F E → kg T n (tp T n 1 i) ≠ 13 → wJ (pe_GA xs) wY0 M (d + 11) t_XT_readClass ((pe_at t_XT_readClass.bl 6).getD (0, [])).2 [(0, (2, 61)), (1, (0, itf)), (4, (0, u))] [] Zs Q := by
      intro Zs i2 so st ty vv F E l hxz hPz hmz hm hat hag h4 h3 hf4 hrm hk13
      have h59 := lx_is_kg (i := i2) hB (k := 17) (ch := 59) (by decide) sk_17
      have hBz := hxz.2.1
      refine mb6_162 hxz hPz ⟨by omega, by omega⟩ (fun h17 => ?_) (fun h17 v Z hz => ?_)
      · have he : rm_L B 261 kc itf (ms.drop fi) ms.length (tp T n 1 i) = .inr (tp T n 1 (i2 + 1), so, st, ty, l, vv, F, E) := hrm.trans (by unfold rm_end; rw [if_pos (h59.2 h17), tp_ne (i := i2) hB])
        have hg3 := hgt _ _ _ _ _ _ _ _ he
        have hstep : mb_f B 261 kc itf fi (f + 1) (tp T n 1 i) ms = mb_f B 261 kc itf fi f (tp T n 1 (i2 + 1)) (ms ++ [(kc, so, st, ty, l, vv, F, E)]) := by rw [mb_f_s, if_neg (fun z => hk13 (h125.1 z)), he]
        have hg2 : pg T n c (i2 + 1) := pg_next hBz hPz.2 (by omega) (by omega)
        have hidx : i < i2 + 1 := (tp_idx hT hg0 hg3.1).resolve_right (fun z => z hg2)
        have hlen : (ms ++ [(kc, so, st, ty, l, vv, F, E)]).length = ms.length + 1 := by rw [List.length_append]; rfl
        have hms2 : mr_all 186 163 T (w_up Zs 14 4 ((i2 + 1 : Nat) : Int)) (ms ++ [(kc, so, st, ty, l, vv, F, E)]) := mr_all_up (mr_all_add hmz hm hat) (by omega) (by omega)
        have hag2 : mz_ag 186 162 176 kc (ms.length : Int) S (w_up Zs 14 4 ((i2 + 1 : Nat) : Int)) := fun j x a1 a2 a3 a4 => (w_up_no (by omega)).trans (hag j x a1 a2 a3 a4)
        refine ih (i2 + 1) _ (u + 1) _ (by rw [hB4] at hg3; omega) (hx_up hxz (by unfold hx_o; omega)) ⟨w_up_same _ _ _ _, hg2⟩ hms2 ?_ ⟨?_, by omega⟩ ?_ ⟨by omega, by omega⟩ (fun i' ms' u' Z e1 e2 e3 e4 e5 e6 e7 e8 e9 => hk i' ms' u' Z (hstep.trans e1) (mz_tr hag2 e2 (by omega)) e3 e4 e5 e6 e7 e8 e9) (fun e q v Z0 Z e1 e2 e3 => hf e q v Z0 Z (hstep.trans e1) (mz_tr hag2 e2 (by omega)) e3)
        · rw [hlen]; exact (w_up_slot (by decide)).trans (h4.trans (by omega))
        · exact (w_up_slot (by decide)).trans hf4
        · rw [hlen]; exact (w_up_slot (by decide)).trans (h3.trans (by omega))
      · exact hf 1 _ v Zs Z (by rw [mb_f_s, if_neg (fun z => hk13 (h125.1 z)), hrm]; unfold rm_end; rw [if_neg (fun z => h17 (h59.1 z))]) hag hz
    refine wa_iload (n := 4) rfl ?_
    refine wa_aload_n (n := 0) rfl ?_
    refine wb_gf4 61 rfl (wy_pr rfl) wt_61 wf_4_0 (v := 14) wl_61_0 ?_
    refine wb_gfi 14 rfl (wy_pr rfl) wt_14 wf_6_3 (v := ((c : Int) + 1)) (hT.1) (fun r1 => ?_)
    refine wa_icmpge (w_rg0 (by omega) (by omega)) (w_rg0 (by omega) (by omega)) ⟨_, rfl⟩ (fun c2 => ?_) (fun c2 => ?_)
    · skip
      exact wJ_S (hk i ms u S (by rw [mb_f_s, if_pos (h125.2 (by omega))]) (fun _ _ _ _ _ _ => rfl) hx hP hms hmc hfi.2 ht3 (by omega)) ⟨rfl, trivial⟩
    · skip
      refine wa_aload_n (n := 0) rfl ?_
      refine wb_gf4 61 rfl (wy_pr rfl) wt_61 wf_4_0 (v := 14) wl_61_0 ?_
      refine wa_cv 14 rfl (wy_pr rfl) wt_14 (M2 := fun _ => False) rfl at_XR_kind ⟨_, rfl⟩ rfl rfl ⟨(Or.inr ⟨wy_pr rfl, fun q => q⟩), trivial, trivial, trivial⟩ trivial (fun _ _ q => False.elim q) ?_ (fun _ _ _ q => q)
      refine wa_aload_n (n := 0) rfl ?_
      refine wb_gf4 14 rfl (wy_pr rfl) wt_14 wf_6_0 (v := 15) wl_14_0 ?_
      refine wa_aload_n (n := 0) rfl ?_
      refine wb_gfi 14 rfl (wy_pr rfl) wt_14 wf_6_4 (v := (i : Int)) (hpos4) (fun r3 => ?_)
      refine wb_bald 15 rfl (wy_pr rfl) wt_15 (n := (S 15 (-1))) rfl (by omega) (by omega) (v := (kg T n (tp T n 1 i))) (h15_0) (fun r4 => ?_)
      refine wa_ireturn rfl ?_
      show wJ _ _ _ _ _ _ _ _ _ _
      refine wa_bipush (w_rg2 (by omega) (by omega)) ?_
      refine wa_icmpeq (w_rg0 (by omega) (by omega)) (w_rg0 (by omega) (by omega)) ⟨_, rfl⟩ (fun c5 => ?_) (fun c5 => ?_)
      · skip
        exact wJ_S (hk i ms u S (by rw [mb_f_s, if_pos (h125.2 (by omega))]) (fun _ _ _ _ _ _ => rfl) hx hP hms hmc hfi.2 ht3 (by omega)) ⟨rfl, trivial⟩
      · skip
        refine wa_aload_n (n := 0) rfl ?_
        refine wa_iload_n (n := 1) rfl ?_
        refine wa_cv 61 rfl (wy_pr rfl) wt_61 (M2 := fun _ => False) rfl at_XT_readHead ⟨_, rfl⟩ rfl rfl ⟨(Or.inr ⟨wy_pr rfl, fun q => q⟩), trivial, trivial, trivial⟩ trivial (fun _ _ q => False.elim q) ?_ (fun _ _ _ q => q)
        refine wa_aload_n (n := 0) rfl ?_
        refine wa_cv 61 rfl (wy_pr rfl) wt_61 (M2 := fun _ => False) rfl at_XT_wordHere ⟨_, rfl⟩ rfl rfl ⟨(Or.inr ⟨wy_pr rfl, fun q => q⟩), trivial, trivial⟩ trivial (fun _ _ q => False.elim q) (wh_c (S := S) (hx_T hx) (show cx_P T n c (i) S from ⟨(hpos4), hg0⟩) rfl hI) (fun oq8 Sq8 hp9 q8 => ?_)
        rcases q8 with ⟨hw6, rfl, rfl⟩ | ⟨hw6, v, rfl, hrz⟩
        · skip
          show wJ _ _ _ _ _ _ _ _ _ _
          show wJ _ _ _ _ _ _ _ ((0, S 17 (i : Int)) :: _) _ _
          have hnt0 : nt_I S 163 T n (tp T n 1 i) (S 17 (i : Int)) := pg_nt hT hg0 hw6
          have hnv0 := hnt0.2.1
          refine wa_bipush (w_rg2 (by omega) (by omega)) ?_
          refine wa_icmpne (w_rg0 (by omega) (by omega)) (w_rg0 (by omega) (by omega)) ⟨_, rfl⟩ (fun c10 => ?_) (fun c10 => ?_)
          · skip
            refine wa_iconst ?_
            refine wa_fall ⟨_, rfl⟩ ?_
            refine wa_istore_n (n := 2) rfl ?_
            refine wa_iload_n (n := 2) rfl ?_
            refine wa_ifeq (w_rg0 (by omega) (by omega)) ⟨_, rfl⟩ (fun c11 => ?_) (fun c11 => ?_)
            · skip
              refine wa_aload_n (n := 0) rfl ?_
              refine wa_cv 61 rfl (wy_pr rfl) wt_61 (M2 := fun _ => False) rfl at_XT_wordHere ⟨_, rfl⟩ rfl rfl ⟨trivial, (Or.inr ⟨wy_pr rfl, fun q => q⟩), trivial, trivial⟩ trivial (fun _ _ q => False.elim q) (wh_c (S := S) (hx_T hx) (show cx_P T n c (i) S from ⟨(hpos4), hg0⟩) rfl hI) (fun oq14 Sq14 hp15 q14 => ?_)
              rcases q14 with ⟨hw12, rfl, rfl⟩ | ⟨hw12, v, rfl, hrz⟩
              · skip
                show wJ _ _ _ _ _ _ _ _ _ _
                show wJ _ _ _ _ _ _ _ ((0, S 17 (i : Int)) :: _) _ _
                have hnt0 : nt_I S 163 T n (tp T n 1 i) (S 17 (i : Int)) := pg_nt hT hg0 hw12
                have hnv0 := hnt0.2.1
                refine wa_bipush (w_rg2 (by omega) (by omega)) ?_
                refine wa_icmpne (w_rg0 (by omega) (by omega)) (w_rg0 (by omega) (by omega)) ⟨_, rfl⟩ (fun c16 => ?_) (fun c16 => ?_)
                · skip
                  refine wa_iconst ?_
                  refine wa_fall ⟨_, rfl⟩ ?_
                  refine wa_istore_n (n := 3) rfl ?_
                  refine wa_iload_n (n := 3) rfl ?_
                  refine wa_ifeq (w_rg0 (by omega) (by omega)) ⟨_, rfl⟩ (fun c17 => ?_) (fun c17 => ?_)
                  · skip
                    refine wa_iload_n (n := 3) rfl ?_
                    refine wa_ifeq (w_rg0 (by omega) (by omega)) ⟨_, rfl⟩ (fun c18 => ?_) (fun c18 => ?_)
                    · skip
                      refine wa_aload_n (n := 0) rfl ?_
                      refine wa_cv 61 rfl (wy_pr rfl) wt_61 (M2 := fun _ => False) rfl at_XT_typeHere ⟨_, rfl⟩ rfl rfl ⟨trivial, trivial, (Or.inr ⟨wy_pr rfl, fun q => q⟩), trivial, trivial⟩ trivial (fun _ _ q => False.elim q) (th_162 (S := S) (B := B) hx (show cx_P T n c (i) S from ⟨(hpos4), hg0⟩)) (fun oq20 Sq20 hp21 q20 => ?_)
                      rcases q20 with ⟨y, hy19, rfl, hy2, rfl⟩ | ⟨e, hy19, v, rfl, hrz⟩
                      · skip
                        show wJ _ _ _ _ _ _ _ _ _ _
                        have hyy0 := hy19
                        have hkg5_0 := hy2
                        refine wa_fall ⟨_, rfl⟩ ?_
                        refine wa_istore (n := 4) rfl ?_
                        refine wa_aload_n (n := 0) rfl ?_
                        refine wb_gf5 61 rfl (wy_pr rfl) wt_61 wf_4_1 (v := 162) (hH) (fun r22 => ?_)
                        refine wb_gfi 162 rfl (wy_pr rfl) wt_162 wf_3_4 (v := (ms.length : Int)) (hmc) (fun r23 => ?_)
                        refine wa_sipush (by omega) ?_
                        refine wa_icmpne (w_rg0 (by omega) (by omega)) (w_rg0 (by omega) (by omega)) ⟨_, rfl⟩ (fun c24 => ?_) (fun c24 => ?_)
                        · skip
                          refine wa_iload_n (n := 3) rfl ?_
                          refine wa_ifeq (w_rg0 (by omega) (by omega)) ⟨_, rfl⟩ (fun c25 => ?_) (fun c25 => ?_)
                          · skip
                            refine wa_aload_n (n := 0) rfl ?_
                            refine wb_gf4 61 rfl (wy_pr rfl) wt_61 wf_4_0 (v := 14) wl_61_0 ?_
                            refine wa_cv 14 rfl (wy_pr rfl) wt_14 (M2 := fun _ => False) rfl at_XR_next ⟨_, rfl⟩ rfl rfl ⟨trivial, trivial, trivial, (Or.inr ⟨wy_pr rfl, fun q => q⟩), trivial, trivial⟩ trivial (fun _ _ q => False.elim q) (nx_c (S := S) (hx_T hx) (show cx_P T n c (i) S from ⟨(hpos4), hg0⟩) rfl hI (by omega)) (fun oq26 Sq26 hp27 q26 => ?_)
                            rcases q26 with ⟨rfl, rfl⟩
                            show wJ _ _ _ _ _ _ _ _ _ _
                            have hg1 : pg T n c (i + 1) := pg_next (i := i) hT hg0 (by omega) (by omega)
                            have hA1 := pg_at hT hg1
                            have h16_1 := hA1.1
                            have h15_1 := hA1.2.1
                            have hpr1 := hA1.2.2
                            have hkr1 := kg_rg T n (tp T n 1 (i + 1))
                            have hic1 := hg1.1
                            have hlt1 := tp_lt (i := i) hT hg0 (by omega) (by omega)
                            refine wa_iload_n (n := 3) rfl ?_
                            refine wa_ifeq (w_rg0 (by omega) (by omega)) ⟨_, rfl⟩ (fun c28 => ?_) (fun c28 => ?_)
                            · skip
                              refine wa_aload_n (n := 0) rfl ?_
                              refine wa_iload_n (n := 1) rfl ?_
                              refine wa_iload (n := 4) rfl ?_
                              refine wa_cv 61 rfl (wy_pr rfl) wt_61 (M2 := fun _ => False) rfl at_XT_readName ⟨_, rfl⟩ rfl rfl ⟨trivial, trivial, trivial, (Or.inr ⟨wy_pr rfl, fun q => q⟩), trivial, trivial⟩ trivial (fun _ _ q => False.elim q) ?_ (fun _ _ _ q => q)
                              refine wa_aload_n (n := 0) rfl ?_
                              refine wa_cv 61 rfl (wy_pr rfl) wt_61 (M2 := fun _ => False) rfl at_XT_wordHere ⟨_, rfl⟩ rfl rfl ⟨(Or.inr ⟨wy_pr rfl, fun q => q⟩), trivial, trivial, trivial⟩ trivial (fun _ _ q => False.elim q) (wh_c (S := (w_up S 14 4 ((i + 1 : Nat) : Int))) (hx_T (hx_up hx (by unfold hx_o; omega))) (show cx_P T n c (i + 1) (w_up S 14 4 ((i + 1 : Nat) : Int)) from ⟨(w_up_same _ _ _ _), hg1⟩) rfl (gI_up hI (by omega) (by omega) (by omega))) (fun oq31 Sq31 hp32 q31 => ?_)
                              rcases q31 with ⟨hw29, rfl, rfl⟩ | ⟨hw29, v, rfl, hrz⟩
                              · skip
                                show wJ _ _ _ _ _ _ _ _ _ _
                                show wJ _ _ _ _ _ _ _ ((0, S 17 ((i + 1 : Nat) : Int)) :: _) _ _
                                have hnt1 : nt_I S 163 T n (tp T n 1 (i + 1)) (S 17 ((i + 1 : Nat) : Int)) := pg_nt hT hg1 hw29
                                have hnv1 := hnt1.2.1
                                refine wa_istore_n (n := 3) rfl ?_
                                refine wa_iload_n (n := 3) rfl ?_
                                refine wa_bipush (w_rg2 (by omega) (by omega)) ?_
                                refine wa_icmpge (w_rg0 (by omega) (by omega)) (w_rg0 (by omega) (by omega)) ⟨_, rfl⟩ (fun c33 => ?_) (fun c33 => ?_)
                                · skip
                                  refine wa_aload_n (n := 0) rfl ?_
                                  refine wb_gf4 61 rfl (wy_pr rfl) wt_61 wf_4_0 (v := 14) wl_61_0 ?_
                                  refine wa_cv 14 rfl (wy_pr rfl) wt_14 (M2 := fun _ => False) rfl at_XR_kindBehind ⟨_, rfl⟩ rfl rfl ⟨trivial, (Or.inr ⟨wy_pr rfl, fun q => q⟩), trivial, trivial, trivial⟩ trivial (fun _ _ q => False.elim q) (kb_c (S := (w_up S 14 4 ((i + 1 : Nat) : Int))) (hx_T (hx_up hx (by unfold hx_o; omega))) (show cx_P T n c (i + 1) (w_up S 14 4 ((i + 1 : Nat) : Int)) from ⟨(w_up_same _ _ _ _), hg1⟩) (by omega) (by omega)) (fun oq34 Sq34 hp35 q34 => ?_)
                                  rcases q34 with ⟨rfl, rfl⟩
                                  show wJ _ _ _ _ _ _ _ _ _ _
                                  have hkrb := kg_rg T n (tp T n 1 (i + 1 + 1))
                                  refine wa_bipush (w_rg2 (by omega) (by omega)) ?_
                                  refine wa_icmpne (w_rg0 (by omega) (by omega)) (w_rg0 (by omega) (by omega)) ⟨_, rfl⟩ (fun c36 => ?_) (fun c36 => ?_)
                                  · skip
                                    refine wa_iconst ?_
                                    refine wa_fall ⟨_, rfl⟩ ?_
                                    refine wa_istore (n := 4) rfl ?_
                                    refine wa_iload (n := 4) rfl ?_
                                    refine wa_ifeq (w_rg0 (by omega) (by omega)) ⟨_, rfl⟩ (fun c37 => ?_) (fun c37 => ?_)
                                    · skip
                                      refine wa_iload (n := 4) rfl ?_
                                      refine wa_ifeq (w_rg0 (by omega) (by omega)) ⟨_, rfl⟩ (fun c38 => ?_) (fun c38 => ?_)
                                      · skip
                                        refine wa_aload_n (n := 0) rfl ?_
                                        refine wb_gf4 61 rfl (wy_pr rfl) wt_61 wf_4_0 (v := 14) wl_61_0 ?_
                                        refine wa_cv 14 rfl (wy_pr rfl) wt_14 (M2 := fun _ => False) rfl at_XR_next ⟨_, rfl⟩ rfl rfl ⟨trivial, trivial, (Or.inr ⟨wy_pr rfl, fun q => q⟩), trivial, trivial, trivial⟩ trivial (fun _ _ q => False.elim q) (nx_c (S := (w_up S 14 4 ((i + 1 : Nat) : Int))) (hx_T (hx_up hx (by unfold hx_o; omega))) (show cx_P T n c (i + 1) (w_up S 14 4 ((i + 1 : Nat) : Int)) from ⟨(w_up_same _ _ _ _), hg1⟩) rfl (gI_up hI (by omega) (by omega) (by omega)) (by omega)) (fun oq39 Sq39 hp40 q39 => ?_)
                                        rcases q39 with ⟨rfl, rfl⟩
                                        show wJ _ _ _ _ _ _ _ _ _ _
                                        have hg2 : pg T n c (i + 1 + 1) := pg_next (i := i + 1) hT hg1 (by omega) (by omega)
                                        have hA2 := pg_at hT hg2
                                        have h16_2 := hA2.1
                                        have h15_2 := hA2.2.1
                                        have hpr2 := hA2.2.2
                                        have hkr2 := kg_rg T n (tp T n 1 (i + 1 + 1))
                                        have hic2 := hg2.1
                                        have hlt2 := tp_lt (i := i + 1) hT hg1 (by omega) (by omega)
                                        refine wa_aload_n (n := 0) rfl ?_
                                        refine wb_gf5 61 rfl (wy_pr rfl) wt_61 wf_4_1 (v := 162) ((w_up_slot (by decide)).trans ((w_up_slot (by decide)).trans (hH))) (fun r41 => ?_)
                                        refine wa_iload (n := 4) rfl ?_
                                        refine wa_ifeq (w_rg0 (by omega) (by omega)) ⟨_, rfl⟩ (fun c42 => ?_) (fun c42 => ?_)
                                        · skip
                                          refine wa_iconst ?_
                                          refine wa_fall ⟨_, rfl⟩ ?_
                                          refine wa_iload_n (n := 2) rfl ?_
                                          refine wa_iload_n (n := 3) rfl ?_
                                          refine wa_cv 162 rfl (wy_pr rfl) wt_162 (M2 := fun _ => False) rfl at_XO_addMember ⟨_, rfl⟩ rfl rfl ⟨trivial, trivial, (Or.inr ⟨wy_pr rfl, fun q => q⟩), trivial, trivial, trivial⟩ trivial (fun _ _ q => False.elim q) ?_ (fun _ _ _ q => q)
                                          refine wa_aload_n (n := 0) rfl ?_
                                          refine wb_gfi 162 rfl (wy_pr rfl) wt_162 wf_3_4 (v := (ms.length : Int)) ((w_up_slot (by decide)).trans ((w_up_slot (by decide)).trans (hmc))) (fun r43 => ?_)
                                          refine wa_istore (n := 4) rfl ?_
                                          refine wa_aload_n (n := 0) rfl ?_
                                          refine wb_gf4 162 rfl (wy_pr rfl) wt_162 wf_3_3 (v := 185) wl_162_3 ?_
                                          refine wa_iconst ?_
                                          refine wb_aald5 185 0 rfl rfl (wy_pr rfl) wt_185 (by rw [show _ = _ from ((w_up_slot (by decide)).trans ((w_up_slot (by decide)).trans ((cl_185 hC))))]; omega) wl_185_0 ?_
                                          refine wa_iload (n := 4) rfl ?_
                                          refine wa_aload_n (n := 0) rfl ?_
                                          refine wb_gfi 162 rfl (wy_pr rfl) wt_162 wf_3_2 (v := (kc + 1)) ((w_up_slot (by decide)).trans ((w_up_slot (by decide)).trans (hkc1))) (fun r44 => ?_)
                                          refine wa_iconst ?_
                                          refine wa_isub ?_
                                          rw [show (((kc + 1) - 1) : Int) = kc by omega]
                                          refine wb_iast 186 rfl (wy_pr rfl) wt_186 (n := 400) ((w_up_slot (by decide)).trans ((w_up_slot (by decide)).trans ((cl_186 hC)))) (by omega) (by omega) ⟨(by omega), (by omega)⟩ ?_
                                          refine wa_aload_n (n := 0) rfl ?_
                                          refine wb_gf4 162 rfl (wy_pr rfl) wt_162 wf_3_3 (v := 185) wl_162_3 ?_
                                          refine wa_iconst ?_
                                          refine wb_aald5 185 1 rfl rfl (wy_pr rfl) wt_185 (by rw [show _ = _ from ((w_up_slot (by decide)).trans ((w_up_slot (by decide)).trans ((w_up_slot (by decide)).trans ((cl_185 hC)))))]; omega) wl_185_1 ?_
                                          refine wa_iload (n := 4) rfl ?_
                                          refine wa_iload_n (n := 1) rfl ?_
                                          refine wb_iast 187 rfl (wy_pr rfl) wt_187 (n := 400) ((w_up_slot (by decide)).trans ((w_up_slot (by decide)).trans ((w_up_slot (by decide)).trans ((cl_187 hC))))) (by omega) (by omega) ⟨(by omega), (by omega)⟩ ?_
                                          refine wa_aload_n (n := 0) rfl ?_
                                          refine wb_gf4 162 rfl (wy_pr rfl) wt_162 wf_3_3 (v := 185) wl_162_3 ?_
                                          refine wa_iconst ?_
                                          refine wb_aald5 185 3 rfl rfl (wy_pr rfl) wt_185 (by rw [show _ = _ from ((w_up_slot (by decide)).trans ((w_up_slot (by decide)).trans ((w_up_slot (by decide)).trans ((w_up_slot (by decide)).trans ((cl_185 hC))))))]; omega) wl_185_3 ?_
                                          refine wa_iload (n := 4) rfl ?_
                                          refine wa_iload_n (n := 2) rfl ?_
                                          refine wb_iast 189 rfl (wy_pr rfl) wt_189 (n := 400) ((w_up_slot (by decide)).trans ((w_up_slot (by decide)).trans ((w_up_slot (by decide)).trans ((w_up_slot (by decide)).trans ((cl_189 hC)))))) (by omega) (by omega) ⟨(by omega), (by omega)⟩ ?_
                                          refine wa_aload_n (n := 0) rfl ?_
                                          refine wb_gf4 162 rfl (wy_pr rfl) wt_162 wf_3_3 (v := 185) wl_162_3 ?_
                                          refine wa_iconst ?_
                                          refine wb_aald5 185 4 rfl rfl (wy_pr rfl) wt_185 (by rw [show _ = _ from ((w_up_slot (by decide)).trans ((w_up_slot (by decide)).trans ((w_up_slot (by decide)).trans ((w_up_slot (by decide)).trans ((w_up_slot (by decide)).trans ((cl_185 hC)))))))]; omega) wl_185_4 ?_
                                          refine wa_iload (n := 4) rfl ?_
                                          refine wa_iconst ?_
                                          refine wb_iast 190 rfl (wy_pr rfl) wt_190 (n := 400) ((w_up_slot (by decide)).trans ((w_up_slot (by decide)).trans ((w_up_slot (by decide)).trans ((w_up_slot (by decide)).trans ((w_up_slot (by decide)).trans ((cl_190 hC))))))) (by omega) (by omega) ⟨(by omega), (by omega)⟩ ?_
                                          refine wa_aload_n (n := 0) rfl ?_
                                          refine wb_gf4 162 rfl (wy_pr rfl) wt_162 wf_3_3 (v := 185) wl_162_3 ?_
                                          refine wa_iconst ?_
                                          refine wb_aald5 185 5 rfl rfl (wy_pr rfl) wt_185 (by rw [show _ = _ from ((w_up_slot (by decide)).trans ((w_up_slot (by decide)).trans ((w_up_slot (by decide)).trans ((w_up_slot (by decide)).trans ((w_up_slot (by decide)).trans ((w_up_slot (by decide)).trans ((cl_185 hC))))))))]; omega) wl_185_5 ?_
                                          refine wa_iload (n := 4) rfl ?_
                                          refine wa_iconst ?_
                                          refine wb_iast 191 rfl (wy_pr rfl) wt_191 (n := 400) ((w_up_slot (by decide)).trans ((w_up_slot (by decide)).trans ((w_up_slot (by decide)).trans ((w_up_slot (by decide)).trans ((w_up_slot (by decide)).trans ((w_up_slot (by decide)).trans ((cl_191 hC)))))))) (by omega) (by omega) ⟨(by omega), (by omega)⟩ ?_
                                          refine wa_aload_n (n := 0) rfl ?_
                                          refine wb_gf4 162 rfl (wy_pr rfl) wt_162 wf_3_3 (v := 185) wl_162_3 ?_
                                          refine wa_bipush (w_rg2 (by omega) (by omega)) ?_
                                          refine wb_aald5 185 14 rfl rfl (wy_pr rfl) wt_185 (by rw [show _ = _ from ((w_up_slot (by decide)).trans ((w_up_slot (by decide)).trans ((w_up_slot (by decide)).trans ((w_up_slot (by decide)).trans ((w_up_slot (by decide)).trans ((w_up_slot (by decide)).trans ((w_up_slot (by decide)).trans ((cl_185 hC)))))))))]; omega) wl_185_14 ?_
                                          refine wa_iload (n := 4) rfl ?_
                                          refine wa_iload_n (n := 3) rfl ?_
                                          refine wb_iast 200 rfl (wy_pr rfl) wt_200 (n := 400) ((w_up_slot (by decide)).trans ((w_up_slot (by decide)).trans ((w_up_slot (by decide)).trans ((w_up_slot (by decide)).trans ((w_up_slot (by decide)).trans ((w_up_slot (by decide)).trans ((w_up_slot (by decide)).trans ((cl_200 hC))))))))) (by omega) (by omega) ⟨(by omega), (by omega)⟩ ?_
                                          refine wa_aload_n (n := 0) rfl ?_
                                          refine wb_gf4 162 rfl (wy_pr rfl) wt_162 wf_3_3 (v := 185) wl_162_3 ?_
                                          refine wa_bipush (w_rg2 (by omega) (by omega)) ?_
                                          refine wb_aald5 185 15 rfl rfl (wy_pr rfl) wt_185 (by rw [show _ = _ from ((w_up_slot (by decide)).trans ((w_up_slot (by decide)).trans ((w_up_slot (by decide)).trans ((w_up_slot (by decide)).trans ((w_up_slot (by decide)).trans ((w_up_slot (by decide)).trans ((w_up_slot (by decide)).trans ((w_up_slot (by decide)).trans ((cl_185 hC))))))))))]; omega) wl_185_15 ?_
                                          refine wa_iload (n := 4) rfl ?_
                                          refine wa_iconst ?_
                                          refine wb_iast 201 rfl (wy_pr rfl) wt_201 (n := 400) ((w_up_slot (by decide)).trans ((w_up_slot (by decide)).trans ((w_up_slot (by decide)).trans ((w_up_slot (by decide)).trans ((w_up_slot (by decide)).trans ((w_up_slot (by decide)).trans ((w_up_slot (by decide)).trans ((w_up_slot (by decide)).trans ((cl_201 hC)))))))))) (by omega) (by omega) ⟨(by omega), (by omega)⟩ ?_
                                          refine wa_aload_n (n := 0) rfl ?_
                                          refine wa_dup (by decide) ?_
                                          refine wb_gfi 162 rfl (wy_pr rfl) wt_162 wf_3_4 (v := (ms.length : Int)) ((w_up_slot (by decide)).trans ((w_up_slot (by decide)).trans ((w_up_slot (by decide)).trans ((w_up_slot (by decide)).trans ((w_up_slot (by decide)).trans ((w_up_slot (by decide)).trans ((w_up_slot (by decide)).trans ((w_up_slot (by decide)).trans ((w_up_slot (by decide)).trans (hmc)))))))))) (fun r45 => ?_)
                                          refine wa_iconst ?_
                                          refine wa_iadd ?_
                                          refine wb_pfi 162 rfl (wy_pr rfl) wt_162 wf_3_4 (n := 4) rfl ⟨(by omega), (by omega)⟩ ?_
                                          refine wa_aload_n (n := 0) rfl ?_
                                          refine wb_gf4 162 rfl (wy_pr rfl) wt_162 wf_3_1 (v := 175) wl_162_1 ?_
                                          refine wa_iconst ?_
                                          refine wb_aald5 175 3 rfl rfl (wy_pr rfl) wt_175 (by rw [show _ = _ from ((w_up_slot (by decide)).trans ((w_up_slot (by decide)).trans ((w_up_slot (by decide)).trans ((w_up_slot (by decide)).trans ((w_up_slot (by decide)).trans ((w_up_slot (by decide)).trans ((w_up_slot (by decide)).trans ((w_up_slot (by decide)).trans ((w_up_slot (by decide)).trans ((w_up_slot (by decide)).trans ((cl_175 hC))))))))))))]; omega) wl_175_3 ?_
                                          refine wa_aload_n (n := 0) rfl ?_
                                          refine wb_gfi 162 rfl (wy_pr rfl) wt_162 wf_3_2 (v := (kc + 1)) ((w_up_at (by decide)).trans ((w_up_slot (by decide)).trans ((w_up_slot (by decide)).trans ((w_up_slot (by decide)).trans ((w_up_slot (by decide)).trans ((w_up_slot (by decide)).trans ((w_up_slot (by decide)).trans ((w_up_slot (by decide)).trans ((w_up_slot (by decide)).trans ((w_up_slot (by decide)).trans (hkc1))))))))))) (fun r46 => ?_)
                                          refine wa_iconst ?_
                                          refine wa_isub ?_
                                          rw [show (((kc + 1) - 1) : Int) = kc by omega]
                                          refine wa_dup2 (by decide) (by decide) ?_
                                          refine wb_iald 179 rfl (wy_pr rfl) wt_179 (n := 60) ((w_up_slot (by decide)).trans ((w_up_slot (by decide)).trans ((w_up_slot (by decide)).trans ((w_up_slot (by decide)).trans ((w_up_slot (by decide)).trans ((w_up_slot (by decide)).trans ((w_up_slot (by decide)).trans ((w_up_slot (by decide)).trans ((w_up_slot (by decide)).trans ((w_up_slot (by decide)).trans ((cl_179 hC)))))))))))) (by omega) (by omega) (v := ((ms.length : Int) - (fi : Int))) ((w_up_slot (by decide)).trans ((w_up_slot (by decide)).trans ((w_up_slot (by decide)).trans ((w_up_slot (by decide)).trans ((w_up_slot (by decide)).trans ((w_up_slot (by decide)).trans ((w_up_slot (by decide)).trans ((w_up_slot (by decide)).trans ((w_up_slot (by decide)).trans ((w_up_slot (by decide)).trans (ht3))))))))))) (fun r47 => ?_)
                                          refine wa_iconst ?_
                                          refine wa_iadd ?_
                                          refine wb_iast 179 rfl (wy_pr rfl) wt_179 (n := 60) ((w_up_slot (by decide)).trans ((w_up_slot (by decide)).trans ((w_up_slot (by decide)).trans ((w_up_slot (by decide)).trans ((w_up_slot (by decide)).trans ((w_up_slot (by decide)).trans ((w_up_slot (by decide)).trans ((w_up_slot (by decide)).trans ((w_up_slot (by decide)).trans ((w_up_slot (by decide)).trans ((cl_179 hC)))))))))))) (by omega) (by omega) ⟨(by omega), (by omega)⟩ ?_
                                          refine wa_return rfl ?_
                                          show wJ _ _ _ _ _ _ _ _ _ _
                                          refine wa_return rfl ?_
                                          show wJ _ _ _ _ _ _ _ _ _ _
                                          refine wa_fall ⟨_, rfl⟩ ?_
                                          refine wa_aload_n (n := 0) rfl ?_
                                          refine wb_gf5 61 rfl (wy_pr rfl) wt_61 wf_4_1 (v := 162) ((w_up_slot (by decide)).trans ((w_up_slot (by decide)).trans ((w_up_slot (by decide)).trans ((w_up_slot (by decide)).trans ((w_up_slot (by decide)).trans ((w_up_slot (by decide)).trans ((w_up_slot (by decide)).trans ((w_up_slot (by decide)).trans ((w_up_slot (by decide)).trans ((w_up_slot (by decide)).trans ((w_up_slot (by decide)).trans (hH)))))))))))) (fun r48 => ?_)
                                          refine wb_gf4 162 rfl (wy_pr rfl) wt_162 wf_3_3 (v := 185) wl_162_3 ?_
                                          refine wa_iconst ?_
                                          refine wb_aald5 185 2 rfl rfl (wy_pr rfl) wt_185 (by rw [show _ = _ from ((w_up_slot (by decide)).trans ((w_up_slot (by decide)).trans ((w_up_slot (by decide)).trans ((w_up_slot (by decide)).trans ((w_up_slot (by decide)).trans ((w_up_slot (by decide)).trans ((w_up_slot (by decide)).trans ((w_up_slot (by decide)).trans ((w_up_slot (by decide)).trans ((w_up_slot (by decide)).trans ((w_up_slot (by decide)).trans ((cl_185 hC)))))))))))))]; omega) wl_185_2 ?_
                                          refine wa_aload_n (n := 0) rfl ?_
                                          refine wb_gf5 61 rfl (wy_pr rfl) wt_61 wf_4_1 (v := 162) ((w_up_slot (by decide)).trans ((w_up_slot (by decide)).trans ((w_up_slot (by decide)).trans ((w_up_slot (by decide)).trans ((w_up_slot (by decide)).trans ((w_up_slot (by decide)).trans ((w_up_slot (by decide)).trans ((w_up_slot (by decide)).trans ((w_up_slot (by decide)).trans ((w_up_slot (by decide)).trans ((w_up_slot (by decide)).trans (hH)))))))))))) (fun r49 => ?_)
                                          refine wb_gfi 162 rfl (wy_pr rfl) wt_162 wf_3_4 (v := ((ms.length : Int) + 1)) ((w_up_slot (by decide)).trans (w_up_same _ _ _ _)) (fun r50 => ?_)
                                          refine wa_iconst ?_
                                          refine wa_isub ?_
                                          rw [show ((((ms.length : Int) + 1) - 1) : Int) = (ms.length : Int) by omega]
                                          refine wa_iload_n (n := 2) rfl ?_
                                          refine wa_ifeq (w_rg0 (by omega) (by omega)) ⟨_, rfl⟩ (fun c51 => ?_) (fun c51 => ?_)
                                          · skip
                                            refine wa_iconst ?_
                                            refine wa_fall ⟨_, rfl⟩ ?_
                                            refine wb_iast 188 rfl (wy_pr rfl) wt_188 (n := 400) ((w_up_slot (by decide)).trans ((w_up_slot (by decide)).trans ((w_up_slot (by decide)).trans ((w_up_slot (by decide)).trans ((w_up_slot (by decide)).trans ((w_up_slot (by decide)).trans ((w_up_slot (by decide)).trans ((w_up_slot (by decide)).trans ((w_up_slot (by decide)).trans ((w_up_slot (by decide)).trans ((w_up_slot (by decide)).trans ((cl_188 hC))))))))))))) (by omega) (by omega) ⟨(by omega), (by omega)⟩ ?_
                                            refine wa_return rfl ?_
                                            show wJ _ _ _ _ _ _ _ _ _ _
                                            refine wa_aload_n (n := 0) rfl ?_
                                            refine wb_gf5 61 rfl (wy_pr rfl) wt_61 wf_4_1 (v := 162) ((w_up_slot (by decide)).trans ((w_up_slot (by decide)).trans ((w_up_slot (by decide)).trans ((w_up_slot (by decide)).trans ((w_up_slot (by decide)).trans ((w_up_slot (by decide)).trans ((w_up_slot (by decide)).trans ((w_up_slot (by decide)).trans ((w_up_slot (by decide)).trans ((w_up_slot (by decide)).trans ((w_up_slot (by decide)).trans ((w_up_slot (by decide)).trans (hH))))))))))))) (fun r52 => ?_)
                                            refine wb_gfi 162 rfl (wy_pr rfl) wt_162 wf_3_4 (v := ((ms.length : Int) + 1)) ((w_up_slot (by decide)).trans ((w_up_slot (by decide)).trans (w_up_same _ _ _ _))) (fun r53 => ?_)
                                            refine wa_iconst ?_
                                            refine wa_isub ?_
                                            rw [show ((((ms.length : Int) + 1) - 1) : Int) = (ms.length : Int) by omega]
                                            refine wa_istore (n := 5) rfl ?_
                                            refine wa_aload_n (n := 0) rfl ?_
                                            refine wb_gf5 61 rfl (wy_pr rfl) wt_61 wf_4_1 (v := 162) ((w_up_slot (by decide)).trans ((w_up_slot (by decide)).trans ((w_up_slot (by decide)).trans ((w_up_slot (by decide)).trans ((w_up_slot (by decide)).trans ((w_up_slot (by decide)).trans ((w_up_slot (by decide)).trans ((w_up_slot (by decide)).trans ((w_up_slot (by decide)).trans ((w_up_slot (by decide)).trans ((w_up_slot (by decide)).trans ((w_up_slot (by decide)).trans (hH))))))))))))) (fun r54 => ?_)
                                            refine wb_gf4 162 rfl (wy_pr rfl) wt_162 wf_3_3 (v := 185) wl_162_3 ?_
                                            refine wa_iconst ?_
                                            refine wb_aald5 185 1 rfl rfl (wy_pr rfl) wt_185 (by rw [show _ = _ from ((w_up_slot (by decide)).trans ((w_up_slot (by decide)).trans ((w_up_slot (by decide)).trans ((w_up_slot (by decide)).trans ((w_up_slot (by decide)).trans ((w_up_slot (by decide)).trans ((w_up_slot (by decide)).trans ((w_up_slot (by decide)).trans ((w_up_slot (by decide)).trans ((w_up_slot (by decide)).trans ((w_up_slot (by decide)).trans ((w_up_slot (by decide)).trans ((cl_185 hC))))))))))))))]; omega) wl_185_1 ?_
                                            refine wa_iload (n := 5) rfl ?_
                                            refine wb_iald 187 rfl (wy_pr rfl) wt_187 (n := 400) ((w_up_slot (by decide)).trans ((w_up_slot (by decide)).trans ((w_up_slot (by decide)).trans ((w_up_slot (by decide)).trans ((w_up_slot (by decide)).trans ((w_up_slot (by decide)).trans ((w_up_slot (by decide)).trans ((w_up_slot (by decide)).trans ((w_up_at (by omega)).trans ((w_up_slot (by decide)).trans ((w_up_slot (by decide)).trans ((w_up_slot (by decide)).trans ((cl_187 hC)))))))))))))) (by omega) (by omega) (v := 1) ((w_up_slot (by decide)).trans ((w_up_slot (by decide)).trans ((w_up_slot (by decide)).trans ((w_up_slot (by decide)).trans ((w_up_slot (by decide)).trans ((w_up_slot (by decide)).trans ((w_up_slot (by decide)).trans ((w_up_slot (by decide)).trans (w_up_same _ _ _ _))))))))) (fun r55 => ?_)
                                            refine wa_ifeq (w_rg0 (by omega) (by omega)) ⟨_, rfl⟩ (fun c56 => ?_) (fun c56 => ?_)
                                            · skip
                                              exact absurd c56 (by omega)
                                            · skip
                                              refine wa_aload_n (n := 0) rfl ?_
                                              refine wa_iload (n := 5) rfl ?_
                                              have hmsx : mr_all 186 163 T (w_up (w_up (w_up (w_up (w_up (w_up (w_up (w_up (w_up (w_up (w_up (w_up S 14 4 ((i + 1 : Nat) : Int)) 14 4 ((i + 1 + 1 : Nat) : Int)) 186 (ms.length : Int) kc) 187 (ms.length : Int) 1) 189 (ms.length : Int) y) 190 (ms.length : Int) 0) 191 (ms.length : Int) 0) 200 (ms.length : Int) (S 17 ((i + 1 : Nat) : Int))) 201 (ms.length : Int) (-1)) 162 4 ((ms.length : Int) + 1)) 179 kc (((ms.length : Int) - (fi : Int)) + 1)) 188 (ms.length : Int) 0) ms := (mr_all_up (mr_all_up (mr_all_up (mr_all_up (mr_all_up (mr_all_up (mr_all_up (mr_all_up (mr_all_up (mr_all_up (mr_all_up (mr_all_up hms (by omega) (by omega)) (by omega) (by omega)) (by omega) (by omega)) (by omega) (by omega)) (by omega) (by omega)) (by omega) (by omega)) (by omega) (by omega)) (by omega) (by omega)) (by omega) (by omega)) (by omega) (by omega)) (by omega) (by omega)) (by omega) (by omega))
                                              have hhd : mr_hd 186 163 T (w_up (w_up (w_up (w_up (w_up (w_up (w_up (w_up (w_up (w_up (w_up (w_up S 14 4 ((i + 1 : Nat) : Int)) 14 4 ((i + 1 + 1 : Nat) : Int)) 186 (ms.length : Int) kc) 187 (ms.length : Int) 1) 189 (ms.length : Int) y) 190 (ms.length : Int) 0) 191 (ms.length : Int) 0) 200 (ms.length : Int) (S 17 ((i + 1 : Nat) : Int))) 201 (ms.length : Int) (-1)) 162 4 ((ms.length : Int) + 1)) 179 kc (((ms.length : Int) - (fi : Int)) + 1)) 188 (ms.length : Int) 0) (ms.length : Int) kc 1 0 y (tp T n 1 (i + 1)) (lx_en T n 1 (tp T n 1 (i + 1))) := ⟨⟨((w_up_slot (by decide)).trans ((w_up_slot (by decide)).trans ((w_up_slot (by decide)).trans ((w_up_slot (by decide)).trans ((w_up_slot (by decide)).trans ((w_up_slot (by decide)).trans ((w_up_slot (by decide)).trans ((w_up_slot (by decide)).trans ((w_up_slot (by decide)).trans (w_up_same _ _ _ _)))))))))), ((w_up_slot (by decide)).trans ((w_up_slot (by decide)).trans ((w_up_slot (by decide)).trans ((w_up_slot (by decide)).trans ((w_up_slot (by decide)).trans ((w_up_slot (by decide)).trans ((w_up_slot (by decide)).trans ((w_up_slot (by decide)).trans (w_up_same _ _ _ _))))))))), (w_up_same _ _ _ _), ((w_up_slot (by decide)).trans ((w_up_slot (by decide)).trans ((w_up_slot (by decide)).trans ((w_up_slot (by decide)).trans ((w_up_slot (by decide)).trans ((w_up_slot (by decide)).trans ((w_up_slot (by decide)).trans (w_up_same _ _ _ _))))))))⟩, ⟨by decide, by decide⟩, fun z => absurd z (by decide), fun _ => ⟨⟨by rw [show (w_up (w_up (w_up (w_up (w_up (w_up (w_up (w_up (w_up (w_up (w_up (w_up S 14 4 ((i + 1 : Nat) : Int)) 14 4 ((i + 1 + 1 : Nat) : Int)) 186 (ms.length : Int) kc) 187 (ms.length : Int) 1) 189 (ms.length : Int) y) 190 (ms.length : Int) 0) 191 (ms.length : Int) 0) 200 (ms.length : Int) (S 17 ((i + 1 : Nat) : Int))) 201 (ms.length : Int) (-1)) 162 4 ((ms.length : Int) + 1)) 179 kc (((ms.length : Int) - (fi : Int)) + 1)) 188 (ms.length : Int) 0) (186 + 14) (ms.length : Int) = _ from ((w_up_slot (by decide)).trans ((w_up_slot (by decide)).trans ((w_up_slot (by decide)).trans ((w_up_slot (by decide)).trans (w_up_same _ _ _ _)))))]; omega, by rw [show (w_up (w_up (w_up (w_up (w_up (w_up (w_up (w_up (w_up (w_up (w_up (w_up S 14 4 ((i + 1 : Nat) : Int)) 14 4 ((i + 1 + 1 : Nat) : Int)) 186 (ms.length : Int) kc) 187 (ms.length : Int) 1) 189 (ms.length : Int) y) 190 (ms.length : Int) 0) 191 (ms.length : Int) 0) 200 (ms.length : Int) (S 17 ((i + 1 : Nat) : Int))) 201 (ms.length : Int) (-1)) 162 4 ((ms.length : Int) + 1)) 179 kc (((ms.length : Int) - (fi : Int)) + 1)) 188 (ms.length : Int) 0) (186 + 14) (ms.length : Int) = _ from ((w_up_slot (by decide)).trans ((w_up_slot (by decide)).trans ((w_up_slot (by decide)).trans ((w_up_slot (by decide)).trans (w_up_same _ _ _ _)))))]; show _ < S 163 7; omega⟩, by rw [show (w_up (w_up (w_up (w_up (w_up (w_up (w_up (w_up (w_up (w_up (w_up (w_up S 14 4 ((i + 1 : Nat) : Int)) 14 4 ((i + 1 + 1 : Nat) : Int)) 186 (ms.length : Int) kc) 187 (ms.length : Int) 1) 189 (ms.length : Int) y) 190 (ms.length : Int) 0) 191 (ms.length : Int) 0) 200 (ms.length : Int) (S 17 ((i + 1 : Nat) : Int))) 201 (ms.length : Int) (-1)) 162 4 ((ms.length : Int) + 1)) 179 kc (((ms.length : Int) - (fi : Int)) + 1)) 188 (ms.length : Int) 0) (186 + 14) (ms.length : Int) = _ from ((w_up_slot (by decide)).trans ((w_up_slot (by decide)).trans ((w_up_slot (by decide)).trans ((w_up_slot (by decide)).trans (w_up_same _ _ _ _)))))]; exact hnt1.2.2⟩⟩
                                              have hpm0 : pm_I 186 (w_up (w_up (w_up (w_up (w_up (w_up (w_up (w_up (w_up (w_up (w_up (w_up S 14 4 ((i + 1 : Nat) : Int)) 14 4 ((i + 1 + 1 : Nat) : Int)) 186 (ms.length : Int) kc) 187 (ms.length : Int) 1) 189 (ms.length : Int) y) 190 (ms.length : Int) 0) 191 (ms.length : Int) 0) 200 (ms.length : Int) (S 17 ((i + 1 : Nat) : Int))) 201 (ms.length : Int) (-1)) 162 4 ((ms.length : Int) + 1)) 179 kc (((ms.length : Int) - (fi : Int)) + 1)) 188 (ms.length : Int) 0) (ms.length : Int) [] 0 := ⟨((w_up_slot (by decide)).trans ((w_up_slot (by decide)).trans ((w_up_slot (by decide)).trans ((w_up_slot (by decide)).trans ((w_up_slot (by decide)).trans ((w_up_slot (by decide)).trans (w_up_same _ _ _ _))))))), ((w_up_slot (by decide)).trans ((w_up_slot (by decide)).trans ((w_up_slot (by decide)).trans ((w_up_slot (by decide)).trans ((w_up_slot (by decide)).trans (w_up_same _ _ _ _)))))), by decide, fun q hq => absurd hq (Nat.not_lt_zero _)⟩
                                              have hn := lx_w_k (k := 12) hB hW hrw (by decide) hwc.1 hnt0
                                              rw [show hwl 12 = tx_25 from rfl] at hn
                                              have z1 : zq B (tp T n 1 i) 237 6 = 1 := by rw [zT_6 hB]; exact hnt0.1
                                              have hs := lx_w_k (k := 11) hB hW hrw (by decide) hwc.1 hnt0
                                              rw [show hwl 11 = tx_23 from rfl] at hs
                                              have hrm0 : rm_L B 261 kc itf (ms.drop fi) ms.length (tp T n 1 i) = rb_L B 261 kc itf (ms.drop fi) ms.length (tp T n 1 i) 0 := rm_o (fun z => absurd (hs.1 z) (by omega))
                                              have hyh := ty_hy (av := 1) hyy0 (Or.inr (by decide))
                                              rw [tp_ne (i := i) hB] at hyh
                                              have hrm1 : rm_L B 261 kc itf (ms.drop fi) ms.length (tp T n 1 i) = rb_name B 261 itf (ms.drop fi) y (tp T n 1 (i + 1)) 0 := hrm0.trans (rb_t z1 (fun z => absurd (hn.1 z) (by omega)) hyh.2.2.1 (by omega) hyh.1)
                                              have z2 : zq B (tp T n 1 (i + 1)) 237 6 = 1 := by rw [zT_6 hB]; exact hnt1.1
                                              have hoo := oo_21 hB hW hrw hwc.1 hnt1
                                              have h59 := lx_is_kg (i := i + 1 + 1) hB (k := 17) (ch := 59) (by decide) sk_17
                                              have hrm3 := hrm1.trans (rn_m z2 (fun z => absurd (hoo.1 z) (by omega)) (by rw [tp_ne (i := i + 1) hB]; rintro ⟨q1, q2⟩; have := h59.1 q1; omega))
                                              rw [tp_ne (i := i + 1) hB, zT_8 hB] at hrm3
                                              have h40 := lx_is_kg (i := i + 1 + 1) hB (k := 10) (ch := 40) (by decide) sk_10
                                              have hpar : rm_par2 B 261 1 (tp T n 1 (i + 1)) (lx_en T n 1 (tp T n 1 (i + 1))) (ms.drop fi) (tp T n 1 (i + 1 + 1)) = (if kg T n (tp T n 1 (i + 1 + 1)) = 10 then pk_L B 1 (tp T n 1 (i + 1)) (lx_en T n 1 (tp T n 1 (i + 1))) (ms.drop fi) (pq_r B 261 (tp T n 1 (i + 1 + 1 + 1))) else .inl (1, (tp T n 1 (i + 1 + 1)))) := by
                                                unfold rm_par2
                                                by_cases hq : kg T n (tp T n 1 (i + 1 + 1)) = 10
                                                · rw [if_pos (h40.2 hq), if_pos hq, tp_ne (i := i + 1 + 1) hB]
                                                · rw [if_neg (fun z => hq (h40.1 z)), if_neg hq]
                                              rw [hpar] at hrm3
                                              generalize hRR : (if kg T n (tp T n 1 (i + 1 + 1)) = 10 then pk_L B 1 (tp T n 1 (i + 1)) (lx_en T n 1 (tp T n 1 (i + 1))) (ms.drop fi) (pq_r B 261 (tp T n 1 (i + 1 + 1 + 1))) else .inl (1, (tp T n 1 (i + 1 + 1)))) = RR at hrm3
                                              have hrp := rp_162 (xs := xs) (M := fun _ => False) (d := d + 1) (S := (w_up (w_up (w_up (w_up (w_up (w_up (w_up (w_up (w_up (w_up (w_up (w_up S 14 4 ((i + 1 : Nat) : Int)) 14 4 ((i + 1 + 1 : Nat) : Int)) 186 (ms.length : Int) kc) 187 (ms.length : Int) 1) 189 (ms.length : Int) y) 190 (ms.length : Int) 0) 191 (ms.length : Int) 0) 200 (ms.length : Int) (S 17 ((i + 1 : Nat) : Int))) 201 (ms.length : Int) (-1)) 162 4 ((ms.length : Int) + 1)) 179 kc (((ms.length : Int) - (fi : Int)) + 1)) 188 (ms.length : Int) 0)) (i := i + 1 + 1) (ms := ms) (kc := kc) (so := 1) (st := 0) (ty := y) (f0 := (tp T n 1 (i + 1))) (e0 := (lx_en T n 1 (tp T n 1 (i + 1)))) (fi := fi) (hx_up (hx_up (hx_up (hx_up (hx_up (hx_up (hx_up (hx_up (hx_up (hx_up (hx_up (hx_up hx (by unfold hx_o; omega)) (by unfold hx_o; omega)) (by unfold hx_o; omega)) (by unfold hx_o; omega)) (by unfold hx_o; omega)) (by unfold hx_o; omega)) (by unfold hx_o; omega)) (by unfold hx_o; omega)) (by unfold hx_o; omega)) (by unfold hx_o; omega)) (by unfold hx_o; omega)) (by unfold hx_o; omega)) (show cx_P T n c (i + 1 + 1) (w_up (w_up (w_up (w_up (w_up (w_up (w_up (w_up (w_up (w_up (w_up (w_up S 14 4 ((i + 1 : Nat) : Int)) 14 4 ((i + 1 + 1 : Nat) : Int)) 186 (ms.length : Int) kc) 187 (ms.length : Int) 1) 189 (ms.length : Int) y) 190 (ms.length : Int) 0) 191 (ms.length : Int) 0) 200 (ms.length : Int) (S 17 ((i + 1 : Nat) : Int))) 201 (ms.length : Int) (-1)) 162 4 ((ms.length : Int) + 1)) 179 kc (((ms.length : Int) - (fi : Int)) + 1)) 188 (ms.length : Int) 0) from ⟨((w_up_slot (by decide)).trans ((w_up_slot (by decide)).trans ((w_up_slot (by decide)).trans ((w_up_slot (by decide)).trans ((w_up_slot (by decide)).trans ((w_up_slot (by decide)).trans ((w_up_slot (by decide)).trans ((w_up_slot (by decide)).trans ((w_up_slot (by decide)).trans ((w_up_slot (by decide)).trans (w_up_same _ _ _ _))))))))))), hg2⟩) hmsx (by omega) hhd (by decide) hkc ⟨(((w_up_slot (by decide)).trans ((w_up_slot (by decide)).trans ((w_up_slot (by decide)).trans ((w_up_slot (by decide)).trans ((w_up_slot (by decide)).trans ((w_up_slot (by decide)).trans ((w_up_slot (by decide)).trans ((w_up_slot (by decide)).trans ((w_up_slot (by decide)).trans ((w_up_slot (by decide)).trans ((w_up_slot (by decide)).trans (w_up_slot (by decide)))))))))))))).trans hfi.1, hfi.2⟩ hpm0
                                              rw [hRR] at hrp
                                              refine wa_cv 61 rfl (wy_pr rfl) wt_61 (M2 := fun _ => False) rfl at_XT_readParameters ⟨_, rfl⟩ rfl rfl ⟨trivial, (Or.inr ⟨wy_pr rfl, fun q => q⟩), trivial, trivial, trivial⟩ trivial (fun _ _ q => False.elim q) (hrp) (fun oq57 Sq57 hp58 q57 => ?_)
                                              match RR, hrm3, q57 with
                                              | .inl (e, qq), hrm3, hrq =>
                                                obtain ⟨v, Z0, rfl, g1, g2⟩ := hrq
                                                refine ⟨rfl, ?_⟩
                                                exact hf e qq v Z0 _ (by rw [mb_f_s, if_neg (fun z => absurd (h125.1 z) (by omega)), hrm3]; rfl) (fun j x a1 a2 a3 a4 => (g1 j x a1 (by omega)).trans ((fun j x a1 a2 a3 a4 => (w_up_no (by omega)).trans ((w_up_no (by omega)).trans ((w_up_no (by omega)).trans ((w_up_no (by omega)).trans ((w_up_no (by omega)).trans ((w_up_no (by omega)).trans ((w_up_no (by omega)).trans ((w_up_no (by omega)).trans ((w_up_no (by omega)).trans ((w_up_no (by omega)).trans ((w_up_no (by omega)).trans ((w_up_no (by omega)).trans (rfl))))))))))))) j x a1 a2 a3 a4)) g2
                                              | .inr (qq, l, vv), hrm3, hrq =>
                                                obtain ⟨rfl, g1, ⟨i2, g2, rfl⟩, g3⟩ := hrq
                                                show wJ _ _ _ _ _ _ _ _ _ _
                                                refine wa_fall ⟨_, rfl⟩ ?_
                                                have hxz : hx_I 261 162 176 181 163 T n c B Sq57 := hx_ag (hx_up (hx_up (hx_up (hx_up (hx_up (hx_up (hx_up (hx_up (hx_up (hx_up (hx_up (hx_up hx (by unfold hx_o; omega)) (by unfold hx_o; omega)) (by unfold hx_o; omega)) (by unfold hx_o; omega)) (by unfold hx_o; omega)) (by unfold hx_o; omega)) (by unfold hx_o; omega)) (by unfold hx_o; omega)) (by unfold hx_o; omega)) (by unfold hx_o; omega)) (by unfold hx_o; omega)) (by unfold hx_o; omega)) (by decide) (g1 14 3 (by omega) (by omega)) (gI_ag2 (gI_up (gI_up (gI_up (gI_up (gI_up (gI_up (gI_up (gI_up (gI_up (gI_up (gI_up (gI_up hI (by omega) (by omega) (by omega)) (by omega) (by omega) (by omega)) (by omega) (by omega) (by omega)) (by omega) (by omega) (by omega)) (by omega) (by omega) (by omega)) (by omega) (by omega) (by omega)) (by omega) (by omega) (by omega)) (by omega) (by omega) (by omega)) (by omega) (by omega) (by omega)) (by omega) (by omega) (by omega)) (by omega) (by omega) (by omega)) (by omega) (by omega) (by omega)) (fun j hj => g1 j (-1) (by omega) (by omega)) (fun x hx => g1 238 x (by omega) (by omega)) (g1 14 5 (by omega) (by omega))) (fun j hj => funext fun x => g1 j x (by omega) (by omega)) (g1 162 2 (by omega) (by omega)) (g1 61 1 (by omega) (by omega)) (fun z hz => (g1 z.1 (-1) (by omega) (by omega)).trans ((hx_R (hx_up (hx_up (hx_up (hx_up (hx_up (hx_up (hx_up (hx_up (hx_up (hx_up (hx_up (hx_up hx (by unfold hx_o; omega)) (by unfold hx_o; omega)) (by unfold hx_o; omega)) (by unfold hx_o; omega)) (by unfold hx_o; omega)) (by unfold hx_o; omega)) (by unfold hx_o; omega)) (by unfold hx_o; omega)) (by unfold hx_o; omega)) (by unfold hx_o; omega)) (by unfold hx_o; omega)) (by unfold hx_o; omega))).2.2.1 z hz))
                                                refine wJ_S (htail Sq57 i2 1 0 y vv (tp T n 1 (i + 1)) (lx_en T n 1 (tp T n 1 (i + 1))) l hxz g2 (mr_all_pp hmsx g1 (by decide)) (by omega) (mr_of (mr_hd_ag hhd (fun x hx => g1 _ _ (by omega) (by omega)) (fun x hx => funext fun y => g1 _ _ (by omega) (by omega))) g3) (fun j x a1 a2 a3 a4 => (g1 j x a1 (by omega)).trans ((fun j x a1 a2 a3 a4 => (w_up_no (by omega)).trans ((w_up_no (by omega)).trans ((w_up_no (by omega)).trans ((w_up_no (by omega)).trans ((w_up_no (by omega)).trans ((w_up_no (by omega)).trans ((w_up_no (by omega)).trans ((w_up_no (by omega)).trans ((w_up_no (by omega)).trans ((w_up_no (by omega)).trans ((w_up_no (by omega)).trans ((w_up_no (by omega)).trans (rfl))))))))))))) j x a1 a2 a3 a4)) ((g1 162 4 (by omega) (by omega)).trans (((w_up_slot (by decide)).trans ((w_up_slot (by decide)).trans (w_up_same _ _ _ _))))) ((g1 179 kc (by omega) (by omega)).trans (((w_up_slot (by decide)).trans (w_up_same _ _ _ _)))) ((g1 180 kc (by omega) (by omega)).trans ((((w_up_slot (by decide)).trans ((w_up_slot (by decide)).trans ((w_up_slot (by decide)).trans ((w_up_slot (by decide)).trans ((w_up_slot (by decide)).trans ((w_up_slot (by decide)).trans ((w_up_slot (by decide)).trans ((w_up_slot (by decide)).trans ((w_up_slot (by decide)).trans ((w_up_slot (by decide)).trans ((w_up_slot (by decide)).trans (w_up_slot (by decide)))))))))))))).trans hfi.1)) hrm3 (by omega)) ⟨rfl, rfl, rfl, trivial⟩
                                          · skip
                                            exact absurd c51 (by omega)
                                        · skip
                                          exact absurd c42 (by omega)
                                      · skip
                                        exact absurd c38 (by omega)
                                    · skip
                                      exact absurd c37 (by omega)
                                  · skip
                                    refine wa_iload_n (n := 2) rfl ?_
                                    refine wa_ifeq (w_rg0 (by omega) (by omega)) ⟨_, rfl⟩ (fun c59 => ?_) (fun c59 => ?_)
                                    · skip
                                      refine wa_iconst ?_
                                      refine wa_fall ⟨_, rfl⟩ ?_
                                      refine wa_istore (n := 4) rfl ?_
                                      refine wa_iload (n := 4) rfl ?_
                                      refine wa_ifeq (w_rg0 (by omega) (by omega)) ⟨_, rfl⟩ (fun c60 => ?_) (fun c60 => ?_)
                                      · skip
                                        refine wa_iload (n := 4) rfl ?_
                                        refine wa_ifeq (w_rg0 (by omega) (by omega)) ⟨_, rfl⟩ (fun c61 => ?_) (fun c61 => ?_)
                                        · skip
                                          refine wa_aload_n (n := 0) rfl ?_
                                          refine wb_gf4 61 rfl (wy_pr rfl) wt_61 wf_4_0 (v := 14) wl_61_0 ?_
                                          refine wa_cv 14 rfl (wy_pr rfl) wt_14 (M2 := fun _ => False) rfl at_XR_next ⟨_, rfl⟩ rfl rfl ⟨trivial, trivial, (Or.inr ⟨wy_pr rfl, fun q => q⟩), trivial, trivial, trivial⟩ trivial (fun _ _ q => False.elim q) (nx_c (S := (w_up S 14 4 ((i + 1 : Nat) : Int))) (hx_T (hx_up hx (by unfold hx_o; omega))) (show cx_P T n c (i + 1) (w_up S 14 4 ((i + 1 : Nat) : Int)) from ⟨(w_up_same _ _ _ _), hg1⟩) rfl (gI_up hI (by omega) (by omega) (by omega)) (by omega)) (fun oq62 Sq62 hp63 q62 => ?_)
                                          rcases q62 with ⟨rfl, rfl⟩
                                          show wJ _ _ _ _ _ _ _ _ _ _
                                          have hg2 : pg T n c (i + 1 + 1) := pg_next (i := i + 1) hT hg1 (by omega) (by omega)
                                          have hA2 := pg_at hT hg2
                                          have h16_2 := hA2.1
                                          have h15_2 := hA2.2.1
                                          have hpr2 := hA2.2.2
                                          have hkr2 := kg_rg T n (tp T n 1 (i + 1 + 1))
                                          have hic2 := hg2.1
                                          have hlt2 := tp_lt (i := i + 1) hT hg1 (by omega) (by omega)
                                          refine wa_aload_n (n := 0) rfl ?_
                                          refine wb_gf5 61 rfl (wy_pr rfl) wt_61 wf_4_1 (v := 162) ((w_up_slot (by decide)).trans ((w_up_slot (by decide)).trans (hH))) (fun r64 => ?_)
                                          refine wa_iload (n := 4) rfl ?_
                                          refine wa_ifeq (w_rg0 (by omega) (by omega)) ⟨_, rfl⟩ (fun c65 => ?_) (fun c65 => ?_)
                                          · skip
                                            refine wa_iconst ?_
                                            refine wa_fall ⟨_, rfl⟩ ?_
                                            refine wa_iload_n (n := 2) rfl ?_
                                            refine wa_iload_n (n := 3) rfl ?_
                                            refine wa_cv 162 rfl (wy_pr rfl) wt_162 (M2 := fun _ => False) rfl at_XO_addMember ⟨_, rfl⟩ rfl rfl ⟨trivial, trivial, (Or.inr ⟨wy_pr rfl, fun q => q⟩), trivial, trivial, trivial⟩ trivial (fun _ _ q => False.elim q) ?_ (fun _ _ _ q => q)
                                            refine wa_aload_n (n := 0) rfl ?_
                                            refine wb_gfi 162 rfl (wy_pr rfl) wt_162 wf_3_4 (v := (ms.length : Int)) ((w_up_slot (by decide)).trans ((w_up_slot (by decide)).trans (hmc))) (fun r66 => ?_)
                                            refine wa_istore (n := 4) rfl ?_
                                            refine wa_aload_n (n := 0) rfl ?_
                                            refine wb_gf4 162 rfl (wy_pr rfl) wt_162 wf_3_3 (v := 185) wl_162_3 ?_
                                            refine wa_iconst ?_
                                            refine wb_aald5 185 0 rfl rfl (wy_pr rfl) wt_185 (by rw [show _ = _ from ((w_up_slot (by decide)).trans ((w_up_slot (by decide)).trans ((cl_185 hC))))]; omega) wl_185_0 ?_
                                            refine wa_iload (n := 4) rfl ?_
                                            refine wa_aload_n (n := 0) rfl ?_
                                            refine wb_gfi 162 rfl (wy_pr rfl) wt_162 wf_3_2 (v := (kc + 1)) ((w_up_slot (by decide)).trans ((w_up_slot (by decide)).trans (hkc1))) (fun r67 => ?_)
                                            refine wa_iconst ?_
                                            refine wa_isub ?_
                                            rw [show (((kc + 1) - 1) : Int) = kc by omega]
                                            refine wb_iast 186 rfl (wy_pr rfl) wt_186 (n := 400) ((w_up_slot (by decide)).trans ((w_up_slot (by decide)).trans ((cl_186 hC)))) (by omega) (by omega) ⟨(by omega), (by omega)⟩ ?_
                                            refine wa_aload_n (n := 0) rfl ?_
                                            refine wb_gf4 162 rfl (wy_pr rfl) wt_162 wf_3_3 (v := 185) wl_162_3 ?_
                                            refine wa_iconst ?_
                                            refine wb_aald5 185 1 rfl rfl (wy_pr rfl) wt_185 (by rw [show _ = _ from ((w_up_slot (by decide)).trans ((w_up_slot (by decide)).trans ((w_up_slot (by decide)).trans ((cl_185 hC)))))]; omega) wl_185_1 ?_
                                            refine wa_iload (n := 4) rfl ?_
                                            refine wa_iload_n (n := 1) rfl ?_
                                            refine wb_iast 187 rfl (wy_pr rfl) wt_187 (n := 400) ((w_up_slot (by decide)).trans ((w_up_slot (by decide)).trans ((w_up_slot (by decide)).trans ((cl_187 hC))))) (by omega) (by omega) ⟨(by omega), (by omega)⟩ ?_
                                            refine wa_aload_n (n := 0) rfl ?_
                                            refine wb_gf4 162 rfl (wy_pr rfl) wt_162 wf_3_3 (v := 185) wl_162_3 ?_
                                            refine wa_iconst ?_
                                            refine wb_aald5 185 3 rfl rfl (wy_pr rfl) wt_185 (by rw [show _ = _ from ((w_up_slot (by decide)).trans ((w_up_slot (by decide)).trans ((w_up_slot (by decide)).trans ((w_up_slot (by decide)).trans ((cl_185 hC))))))]; omega) wl_185_3 ?_
                                            refine wa_iload (n := 4) rfl ?_
                                            refine wa_iload_n (n := 2) rfl ?_
                                            refine wb_iast 189 rfl (wy_pr rfl) wt_189 (n := 400) ((w_up_slot (by decide)).trans ((w_up_slot (by decide)).trans ((w_up_slot (by decide)).trans ((w_up_slot (by decide)).trans ((cl_189 hC)))))) (by omega) (by omega) ⟨(by omega), (by omega)⟩ ?_
                                            refine wa_aload_n (n := 0) rfl ?_
                                            refine wb_gf4 162 rfl (wy_pr rfl) wt_162 wf_3_3 (v := 185) wl_162_3 ?_
                                            refine wa_iconst ?_
                                            refine wb_aald5 185 4 rfl rfl (wy_pr rfl) wt_185 (by rw [show _ = _ from ((w_up_slot (by decide)).trans ((w_up_slot (by decide)).trans ((w_up_slot (by decide)).trans ((w_up_slot (by decide)).trans ((w_up_slot (by decide)).trans ((cl_185 hC)))))))]; omega) wl_185_4 ?_
                                            refine wa_iload (n := 4) rfl ?_
                                            refine wa_iconst ?_
                                            refine wb_iast 190 rfl (wy_pr rfl) wt_190 (n := 400) ((w_up_slot (by decide)).trans ((w_up_slot (by decide)).trans ((w_up_slot (by decide)).trans ((w_up_slot (by decide)).trans ((w_up_slot (by decide)).trans ((cl_190 hC))))))) (by omega) (by omega) ⟨(by omega), (by omega)⟩ ?_
                                            refine wa_aload_n (n := 0) rfl ?_
                                            refine wb_gf4 162 rfl (wy_pr rfl) wt_162 wf_3_3 (v := 185) wl_162_3 ?_
                                            refine wa_iconst ?_
                                            refine wb_aald5 185 5 rfl rfl (wy_pr rfl) wt_185 (by rw [show _ = _ from ((w_up_slot (by decide)).trans ((w_up_slot (by decide)).trans ((w_up_slot (by decide)).trans ((w_up_slot (by decide)).trans ((w_up_slot (by decide)).trans ((w_up_slot (by decide)).trans ((cl_185 hC))))))))]; omega) wl_185_5 ?_
                                            refine wa_iload (n := 4) rfl ?_
                                            refine wa_iconst ?_
                                            refine wb_iast 191 rfl (wy_pr rfl) wt_191 (n := 400) ((w_up_slot (by decide)).trans ((w_up_slot (by decide)).trans ((w_up_slot (by decide)).trans ((w_up_slot (by decide)).trans ((w_up_slot (by decide)).trans ((w_up_slot (by decide)).trans ((cl_191 hC)))))))) (by omega) (by omega) ⟨(by omega), (by omega)⟩ ?_
                                            refine wa_aload_n (n := 0) rfl ?_
                                            refine wb_gf4 162 rfl (wy_pr rfl) wt_162 wf_3_3 (v := 185) wl_162_3 ?_
                                            refine wa_bipush (w_rg2 (by omega) (by omega)) ?_
                                            refine wb_aald5 185 14 rfl rfl (wy_pr rfl) wt_185 (by rw [show _ = _ from ((w_up_slot (by decide)).trans ((w_up_slot (by decide)).trans ((w_up_slot (by decide)).trans ((w_up_slot (by decide)).trans ((w_up_slot (by decide)).trans ((w_up_slot (by decide)).trans ((w_up_slot (by decide)).trans ((cl_185 hC)))))))))]; omega) wl_185_14 ?_
                                            refine wa_iload (n := 4) rfl ?_
                                            refine wa_iload_n (n := 3) rfl ?_
                                            refine wb_iast 200 rfl (wy_pr rfl) wt_200 (n := 400) ((w_up_slot (by decide)).trans ((w_up_slot (by decide)).trans ((w_up_slot (by decide)).trans ((w_up_slot (by decide)).trans ((w_up_slot (by decide)).trans ((w_up_slot (by decide)).trans ((w_up_slot (by decide)).trans ((cl_200 hC))))))))) (by omega) (by omega) ⟨(by omega), (by omega)⟩ ?_
                                            refine wa_aload_n (n := 0) rfl ?_
                                            refine wb_gf4 162 rfl (wy_pr rfl) wt_162 wf_3_3 (v := 185) wl_162_3 ?_
                                            refine wa_bipush (w_rg2 (by omega) (by omega)) ?_
                                            refine wb_aald5 185 15 rfl rfl (wy_pr rfl) wt_185 (by rw [show _ = _ from ((w_up_slot (by decide)).trans ((w_up_slot (by decide)).trans ((w_up_slot (by decide)).trans ((w_up_slot (by decide)).trans ((w_up_slot (by decide)).trans ((w_up_slot (by decide)).trans ((w_up_slot (by decide)).trans ((w_up_slot (by decide)).trans ((cl_185 hC))))))))))]; omega) wl_185_15 ?_
                                            refine wa_iload (n := 4) rfl ?_
                                            refine wa_iconst ?_
                                            refine wb_iast 201 rfl (wy_pr rfl) wt_201 (n := 400) ((w_up_slot (by decide)).trans ((w_up_slot (by decide)).trans ((w_up_slot (by decide)).trans ((w_up_slot (by decide)).trans ((w_up_slot (by decide)).trans ((w_up_slot (by decide)).trans ((w_up_slot (by decide)).trans ((w_up_slot (by decide)).trans ((cl_201 hC)))))))))) (by omega) (by omega) ⟨(by omega), (by omega)⟩ ?_
                                            refine wa_aload_n (n := 0) rfl ?_
                                            refine wa_dup (by decide) ?_
                                            refine wb_gfi 162 rfl (wy_pr rfl) wt_162 wf_3_4 (v := (ms.length : Int)) ((w_up_slot (by decide)).trans ((w_up_slot (by decide)).trans ((w_up_slot (by decide)).trans ((w_up_slot (by decide)).trans ((w_up_slot (by decide)).trans ((w_up_slot (by decide)).trans ((w_up_slot (by decide)).trans ((w_up_slot (by decide)).trans ((w_up_slot (by decide)).trans (hmc)))))))))) (fun r68 => ?_)
                                            refine wa_iconst ?_
                                            refine wa_iadd ?_
                                            refine wb_pfi 162 rfl (wy_pr rfl) wt_162 wf_3_4 (n := 4) rfl ⟨(by omega), (by omega)⟩ ?_
                                            refine wa_aload_n (n := 0) rfl ?_
                                            refine wb_gf4 162 rfl (wy_pr rfl) wt_162 wf_3_1 (v := 175) wl_162_1 ?_
                                            refine wa_iconst ?_
                                            refine wb_aald5 175 3 rfl rfl (wy_pr rfl) wt_175 (by rw [show _ = _ from ((w_up_slot (by decide)).trans ((w_up_slot (by decide)).trans ((w_up_slot (by decide)).trans ((w_up_slot (by decide)).trans ((w_up_slot (by decide)).trans ((w_up_slot (by decide)).trans ((w_up_slot (by decide)).trans ((w_up_slot (by decide)).trans ((w_up_slot (by decide)).trans ((w_up_slot (by decide)).trans ((cl_175 hC))))))))))))]; omega) wl_175_3 ?_
                                            refine wa_aload_n (n := 0) rfl ?_
                                            refine wb_gfi 162 rfl (wy_pr rfl) wt_162 wf_3_2 (v := (kc + 1)) ((w_up_at (by decide)).trans ((w_up_slot (by decide)).trans ((w_up_slot (by decide)).trans ((w_up_slot (by decide)).trans ((w_up_slot (by decide)).trans ((w_up_slot (by decide)).trans ((w_up_slot (by decide)).trans ((w_up_slot (by decide)).trans ((w_up_slot (by decide)).trans ((w_up_slot (by decide)).trans (hkc1))))))))))) (fun r69 => ?_)
                                            refine wa_iconst ?_
                                            refine wa_isub ?_
                                            rw [show (((kc + 1) - 1) : Int) = kc by omega]
                                            refine wa_dup2 (by decide) (by decide) ?_
                                            refine wb_iald 179 rfl (wy_pr rfl) wt_179 (n := 60) ((w_up_slot (by decide)).trans ((w_up_slot (by decide)).trans ((w_up_slot (by decide)).trans ((w_up_slot (by decide)).trans ((w_up_slot (by decide)).trans ((w_up_slot (by decide)).trans ((w_up_slot (by decide)).trans ((w_up_slot (by decide)).trans ((w_up_slot (by decide)).trans ((w_up_slot (by decide)).trans ((cl_179 hC)))))))))))) (by omega) (by omega) (v := ((ms.length : Int) - (fi : Int))) ((w_up_slot (by decide)).trans ((w_up_slot (by decide)).trans ((w_up_slot (by decide)).trans ((w_up_slot (by decide)).trans ((w_up_slot (by decide)).trans ((w_up_slot (by decide)).trans ((w_up_slot (by decide)).trans ((w_up_slot (by decide)).trans ((w_up_slot (by decide)).trans ((w_up_slot (by decide)).trans (ht3))))))))))) (fun r70 => ?_)
                                            refine wa_iconst ?_
                                            refine wa_iadd ?_
                                            refine wb_iast 179 rfl (wy_pr rfl) wt_179 (n := 60) ((w_up_slot (by decide)).trans ((w_up_slot (by decide)).trans ((w_up_slot (by decide)).trans ((w_up_slot (by decide)).trans ((w_up_slot (by decide)).trans ((w_up_slot (by decide)).trans ((w_up_slot (by decide)).trans ((w_up_slot (by decide)).trans ((w_up_slot (by decide)).trans ((w_up_slot (by decide)).trans ((cl_179 hC)))))))))))) (by omega) (by omega) ⟨(by omega), (by omega)⟩ ?_
                                            refine wa_return rfl ?_
                                            show wJ _ _ _ _ _ _ _ _ _ _
                                            refine wa_return rfl ?_
                                            show wJ _ _ _ _ _ _ _ _ _ _
                                            refine wa_fall ⟨_, rfl⟩ ?_
                                            refine wa_aload_n (n := 0) rfl ?_
                                            refine wb_gf5 61 rfl (wy_pr rfl) wt_61 wf_4_1 (v := 162) ((w_up_slot (by decide)).trans ((w_up_slot (by decide)).trans ((w_up_slot (by decide)).trans ((w_up_slot (by decide)).trans ((w_up_slot (by decide)).trans ((w_up_slot (by decide)).trans ((w_up_slot (by decide)).trans ((w_up_slot (by decide)).trans ((w_up_slot (by decide)).trans ((w_up_slot (by decide)).trans ((w_up_slot (by decide)).trans (hH)))))))))))) (fun r71 => ?_)
                                            refine wb_gf4 162 rfl (wy_pr rfl) wt_162 wf_3_3 (v := 185) wl_162_3 ?_
                                            refine wa_iconst ?_
                                            refine wb_aald5 185 2 rfl rfl (wy_pr rfl) wt_185 (by rw [show _ = _ from ((w_up_slot (by decide)).trans ((w_up_slot (by decide)).trans ((w_up_slot (by decide)).trans ((w_up_slot (by decide)).trans ((w_up_slot (by decide)).trans ((w_up_slot (by decide)).trans ((w_up_slot (by decide)).trans ((w_up_slot (by decide)).trans ((w_up_slot (by decide)).trans ((w_up_slot (by decide)).trans ((w_up_slot (by decide)).trans ((cl_185 hC)))))))))))))]; omega) wl_185_2 ?_
                                            refine wa_aload_n (n := 0) rfl ?_
                                            refine wb_gf5 61 rfl (wy_pr rfl) wt_61 wf_4_1 (v := 162) ((w_up_slot (by decide)).trans ((w_up_slot (by decide)).trans ((w_up_slot (by decide)).trans ((w_up_slot (by decide)).trans ((w_up_slot (by decide)).trans ((w_up_slot (by decide)).trans ((w_up_slot (by decide)).trans ((w_up_slot (by decide)).trans ((w_up_slot (by decide)).trans ((w_up_slot (by decide)).trans ((w_up_slot (by decide)).trans (hH)))))))))))) (fun r72 => ?_)
                                            refine wb_gfi 162 rfl (wy_pr rfl) wt_162 wf_3_4 (v := ((ms.length : Int) + 1)) ((w_up_slot (by decide)).trans (w_up_same _ _ _ _)) (fun r73 => ?_)
                                            refine wa_iconst ?_
                                            refine wa_isub ?_
                                            rw [show ((((ms.length : Int) + 1) - 1) : Int) = (ms.length : Int) by omega]
                                            refine wa_iload_n (n := 2) rfl ?_
                                            refine wa_ifeq (w_rg0 (by omega) (by omega)) ⟨_, rfl⟩ (fun c74 => ?_) (fun c74 => ?_)
                                            · skip
                                              refine wa_iconst ?_
                                              refine wa_fall ⟨_, rfl⟩ ?_
                                              refine wb_iast 188 rfl (wy_pr rfl) wt_188 (n := 400) ((w_up_slot (by decide)).trans ((w_up_slot (by decide)).trans ((w_up_slot (by decide)).trans ((w_up_slot (by decide)).trans ((w_up_slot (by decide)).trans ((w_up_slot (by decide)).trans ((w_up_slot (by decide)).trans ((w_up_slot (by decide)).trans ((w_up_slot (by decide)).trans ((w_up_slot (by decide)).trans ((w_up_slot (by decide)).trans ((cl_188 hC))))))))))))) (by omega) (by omega) ⟨(by omega), (by omega)⟩ ?_
                                              refine wa_return rfl ?_
                                              show wJ _ _ _ _ _ _ _ _ _ _
                                              refine wa_aload_n (n := 0) rfl ?_
                                              refine wb_gf5 61 rfl (wy_pr rfl) wt_61 wf_4_1 (v := 162) ((w_up_slot (by decide)).trans ((w_up_slot (by decide)).trans ((w_up_slot (by decide)).trans ((w_up_slot (by decide)).trans ((w_up_slot (by decide)).trans ((w_up_slot (by decide)).trans ((w_up_slot (by decide)).trans ((w_up_slot (by decide)).trans ((w_up_slot (by decide)).trans ((w_up_slot (by decide)).trans ((w_up_slot (by decide)).trans ((w_up_slot (by decide)).trans (hH))))))))))))) (fun r75 => ?_)
                                              refine wb_gfi 162 rfl (wy_pr rfl) wt_162 wf_3_4 (v := ((ms.length : Int) + 1)) ((w_up_slot (by decide)).trans ((w_up_slot (by decide)).trans (w_up_same _ _ _ _))) (fun r76 => ?_)
                                              refine wa_iconst ?_
                                              refine wa_isub ?_
                                              rw [show ((((ms.length : Int) + 1) - 1) : Int) = (ms.length : Int) by omega]
                                              refine wa_istore (n := 5) rfl ?_
                                              refine wa_aload_n (n := 0) rfl ?_
                                              refine wb_gf5 61 rfl (wy_pr rfl) wt_61 wf_4_1 (v := 162) ((w_up_slot (by decide)).trans ((w_up_slot (by decide)).trans ((w_up_slot (by decide)).trans ((w_up_slot (by decide)).trans ((w_up_slot (by decide)).trans ((w_up_slot (by decide)).trans ((w_up_slot (by decide)).trans ((w_up_slot (by decide)).trans ((w_up_slot (by decide)).trans ((w_up_slot (by decide)).trans ((w_up_slot (by decide)).trans ((w_up_slot (by decide)).trans (hH))))))))))))) (fun r77 => ?_)
                                              refine wb_gf4 162 rfl (wy_pr rfl) wt_162 wf_3_3 (v := 185) wl_162_3 ?_
                                              refine wa_iconst ?_
                                              refine wb_aald5 185 1 rfl rfl (wy_pr rfl) wt_185 (by rw [show _ = _ from ((w_up_slot (by decide)).trans ((w_up_slot (by decide)).trans ((w_up_slot (by decide)).trans ((w_up_slot (by decide)).trans ((w_up_slot (by decide)).trans ((w_up_slot (by decide)).trans ((w_up_slot (by decide)).trans ((w_up_slot (by decide)).trans ((w_up_slot (by decide)).trans ((w_up_slot (by decide)).trans ((w_up_slot (by decide)).trans ((w_up_slot (by decide)).trans ((cl_185 hC))))))))))))))]; omega) wl_185_1 ?_
                                              refine wa_iload (n := 5) rfl ?_
                                              refine wb_iald 187 rfl (wy_pr rfl) wt_187 (n := 400) ((w_up_slot (by decide)).trans ((w_up_slot (by decide)).trans ((w_up_slot (by decide)).trans ((w_up_slot (by decide)).trans ((w_up_slot (by decide)).trans ((w_up_slot (by decide)).trans ((w_up_slot (by decide)).trans ((w_up_slot (by decide)).trans ((w_up_at (by omega)).trans ((w_up_slot (by decide)).trans ((w_up_slot (by decide)).trans ((w_up_slot (by decide)).trans ((cl_187 hC)))))))))))))) (by omega) (by omega) (v := 1) ((w_up_slot (by decide)).trans ((w_up_slot (by decide)).trans ((w_up_slot (by decide)).trans ((w_up_slot (by decide)).trans ((w_up_slot (by decide)).trans ((w_up_slot (by decide)).trans ((w_up_slot (by decide)).trans ((w_up_slot (by decide)).trans (w_up_same _ _ _ _))))))))) (fun r78 => ?_)
                                              refine wa_ifeq (w_rg0 (by omega) (by omega)) ⟨_, rfl⟩ (fun c79 => ?_) (fun c79 => ?_)
                                              · skip
                                                exact absurd c79 (by omega)
                                              · skip
                                                refine wa_aload_n (n := 0) rfl ?_
                                                refine wa_iload (n := 5) rfl ?_
                                                have hmsx : mr_all 186 163 T (w_up (w_up (w_up (w_up (w_up (w_up (w_up (w_up (w_up (w_up (w_up (w_up S 14 4 ((i + 1 : Nat) : Int)) 14 4 ((i + 1 + 1 : Nat) : Int)) 186 (ms.length : Int) kc) 187 (ms.length : Int) 1) 189 (ms.length : Int) y) 190 (ms.length : Int) 0) 191 (ms.length : Int) 0) 200 (ms.length : Int) (S 17 ((i + 1 : Nat) : Int))) 201 (ms.length : Int) (-1)) 162 4 ((ms.length : Int) + 1)) 179 kc (((ms.length : Int) - (fi : Int)) + 1)) 188 (ms.length : Int) 0) ms := (mr_all_up (mr_all_up (mr_all_up (mr_all_up (mr_all_up (mr_all_up (mr_all_up (mr_all_up (mr_all_up (mr_all_up (mr_all_up (mr_all_up hms (by omega) (by omega)) (by omega) (by omega)) (by omega) (by omega)) (by omega) (by omega)) (by omega) (by omega)) (by omega) (by omega)) (by omega) (by omega)) (by omega) (by omega)) (by omega) (by omega)) (by omega) (by omega)) (by omega) (by omega)) (by omega) (by omega))
                                                have hhd : mr_hd 186 163 T (w_up (w_up (w_up (w_up (w_up (w_up (w_up (w_up (w_up (w_up (w_up (w_up S 14 4 ((i + 1 : Nat) : Int)) 14 4 ((i + 1 + 1 : Nat) : Int)) 186 (ms.length : Int) kc) 187 (ms.length : Int) 1) 189 (ms.length : Int) y) 190 (ms.length : Int) 0) 191 (ms.length : Int) 0) 200 (ms.length : Int) (S 17 ((i + 1 : Nat) : Int))) 201 (ms.length : Int) (-1)) 162 4 ((ms.length : Int) + 1)) 179 kc (((ms.length : Int) - (fi : Int)) + 1)) 188 (ms.length : Int) 0) (ms.length : Int) kc 1 0 y (tp T n 1 (i + 1)) (lx_en T n 1 (tp T n 1 (i + 1))) := ⟨⟨((w_up_slot (by decide)).trans ((w_up_slot (by decide)).trans ((w_up_slot (by decide)).trans ((w_up_slot (by decide)).trans ((w_up_slot (by decide)).trans ((w_up_slot (by decide)).trans ((w_up_slot (by decide)).trans ((w_up_slot (by decide)).trans ((w_up_slot (by decide)).trans (w_up_same _ _ _ _)))))))))), ((w_up_slot (by decide)).trans ((w_up_slot (by decide)).trans ((w_up_slot (by decide)).trans ((w_up_slot (by decide)).trans ((w_up_slot (by decide)).trans ((w_up_slot (by decide)).trans ((w_up_slot (by decide)).trans ((w_up_slot (by decide)).trans (w_up_same _ _ _ _))))))))), (w_up_same _ _ _ _), ((w_up_slot (by decide)).trans ((w_up_slot (by decide)).trans ((w_up_slot (by decide)).trans ((w_up_slot (by decide)).trans ((w_up_slot (by decide)).trans ((w_up_slot (by decide)).trans ((w_up_slot (by decide)).trans (w_up_same _ _ _ _))))))))⟩, ⟨by decide, by decide⟩, fun z => absurd z (by decide), fun _ => ⟨⟨by rw [show (w_up (w_up (w_up (w_up (w_up (w_up (w_up (w_up (w_up (w_up (w_up (w_up S 14 4 ((i + 1 : Nat) : Int)) 14 4 ((i + 1 + 1 : Nat) : Int)) 186 (ms.length : Int) kc) 187 (ms.length : Int) 1) 189 (ms.length : Int) y) 190 (ms.length : Int) 0) 191 (ms.length : Int) 0) 200 (ms.length : Int) (S 17 ((i + 1 : Nat) : Int))) 201 (ms.length : Int) (-1)) 162 4 ((ms.length : Int) + 1)) 179 kc (((ms.length : Int) - (fi : Int)) + 1)) 188 (ms.length : Int) 0) (186 + 14) (ms.length : Int) = _ from ((w_up_slot (by decide)).trans ((w_up_slot (by decide)).trans ((w_up_slot (by decide)).trans ((w_up_slot (by decide)).trans (w_up_same _ _ _ _)))))]; omega, by rw [show (w_up (w_up (w_up (w_up (w_up (w_up (w_up (w_up (w_up (w_up (w_up (w_up S 14 4 ((i + 1 : Nat) : Int)) 14 4 ((i + 1 + 1 : Nat) : Int)) 186 (ms.length : Int) kc) 187 (ms.length : Int) 1) 189 (ms.length : Int) y) 190 (ms.length : Int) 0) 191 (ms.length : Int) 0) 200 (ms.length : Int) (S 17 ((i + 1 : Nat) : Int))) 201 (ms.length : Int) (-1)) 162 4 ((ms.length : Int) + 1)) 179 kc (((ms.length : Int) - (fi : Int)) + 1)) 188 (ms.length : Int) 0) (186 + 14) (ms.length : Int) = _ from ((w_up_slot (by decide)).trans ((w_up_slot (by decide)).trans ((w_up_slot (by decide)).trans ((w_up_slot (by decide)).trans (w_up_same _ _ _ _)))))]; show _ < S 163 7; omega⟩, by rw [show (w_up (w_up (w_up (w_up (w_up (w_up (w_up (w_up (w_up (w_up (w_up (w_up S 14 4 ((i + 1 : Nat) : Int)) 14 4 ((i + 1 + 1 : Nat) : Int)) 186 (ms.length : Int) kc) 187 (ms.length : Int) 1) 189 (ms.length : Int) y) 190 (ms.length : Int) 0) 191 (ms.length : Int) 0) 200 (ms.length : Int) (S 17 ((i + 1 : Nat) : Int))) 201 (ms.length : Int) (-1)) 162 4 ((ms.length : Int) + 1)) 179 kc (((ms.length : Int) - (fi : Int)) + 1)) 188 (ms.length : Int) 0) (186 + 14) (ms.length : Int) = _ from ((w_up_slot (by decide)).trans ((w_up_slot (by decide)).trans ((w_up_slot (by decide)).trans ((w_up_slot (by decide)).trans (w_up_same _ _ _ _)))))]; exact hnt1.2.2⟩⟩
                                                have hpm0 : pm_I 186 (w_up (w_up (w_up (w_up (w_up (w_up (w_up (w_up (w_up (w_up (w_up (w_up S 14 4 ((i + 1 : Nat) : Int)) 14 4 ((i + 1 + 1 : Nat) : Int)) 186 (ms.length : Int) kc) 187 (ms.length : Int) 1) 189 (ms.length : Int) y) 190 (ms.length : Int) 0) 191 (ms.length : Int) 0) 200 (ms.length : Int) (S 17 ((i + 1 : Nat) : Int))) 201 (ms.length : Int) (-1)) 162 4 ((ms.length : Int) + 1)) 179 kc (((ms.length : Int) - (fi : Int)) + 1)) 188 (ms.length : Int) 0) (ms.length : Int) [] 0 := ⟨((w_up_slot (by decide)).trans ((w_up_slot (by decide)).trans ((w_up_slot (by decide)).trans ((w_up_slot (by decide)).trans ((w_up_slot (by decide)).trans ((w_up_slot (by decide)).trans (w_up_same _ _ _ _))))))), ((w_up_slot (by decide)).trans ((w_up_slot (by decide)).trans ((w_up_slot (by decide)).trans ((w_up_slot (by decide)).trans ((w_up_slot (by decide)).trans (w_up_same _ _ _ _)))))), by decide, fun q hq => absurd hq (Nat.not_lt_zero _)⟩
                                                have hn := lx_w_k (k := 12) hB hW hrw (by decide) hwc.1 hnt0
                                                rw [show hwl 12 = tx_25 from rfl] at hn
                                                have z1 : zq B (tp T n 1 i) 237 6 = 1 := by rw [zT_6 hB]; exact hnt0.1
                                                have hs := lx_w_k (k := 11) hB hW hrw (by decide) hwc.1 hnt0
                                                rw [show hwl 11 = tx_23 from rfl] at hs
                                                have hrm0 : rm_L B 261 kc itf (ms.drop fi) ms.length (tp T n 1 i) = rb_L B 261 kc itf (ms.drop fi) ms.length (tp T n 1 i) 0 := rm_o (fun z => absurd (hs.1 z) (by omega))
                                                have hyh := ty_hy (av := 1) hyy0 (Or.inr (by decide))
                                                rw [tp_ne (i := i) hB] at hyh
                                                have hrm1 : rm_L B 261 kc itf (ms.drop fi) ms.length (tp T n 1 i) = rb_name B 261 itf (ms.drop fi) y (tp T n 1 (i + 1)) 0 := hrm0.trans (rb_t z1 (fun z => absurd (hn.1 z) (by omega)) hyh.2.2.1 (by omega) hyh.1)
                                                have z2 : zq B (tp T n 1 (i + 1)) 237 6 = 1 := by rw [zT_6 hB]; exact hnt1.1
                                                have hoo := oo_21 hB hW hrw hwc.1 hnt1
                                                have h59 := lx_is_kg (i := i + 1 + 1) hB (k := 17) (ch := 59) (by decide) sk_17
                                                have hrm3 := hrm1.trans (rn_m z2 (fun z => absurd (hoo.1 z) (by omega)) (by rw [tp_ne (i := i + 1) hB]; rintro ⟨q1, q2⟩; have := h59.1 q1; omega))
                                                rw [tp_ne (i := i + 1) hB, zT_8 hB] at hrm3
                                                have h40 := lx_is_kg (i := i + 1 + 1) hB (k := 10) (ch := 40) (by decide) sk_10
                                                have hpar : rm_par2 B 261 1 (tp T n 1 (i + 1)) (lx_en T n 1 (tp T n 1 (i + 1))) (ms.drop fi) (tp T n 1 (i + 1 + 1)) = (if kg T n (tp T n 1 (i + 1 + 1)) = 10 then pk_L B 1 (tp T n 1 (i + 1)) (lx_en T n 1 (tp T n 1 (i + 1))) (ms.drop fi) (pq_r B 261 (tp T n 1 (i + 1 + 1 + 1))) else .inl (1, (tp T n 1 (i + 1 + 1)))) := by
                                                  unfold rm_par2
                                                  by_cases hq : kg T n (tp T n 1 (i + 1 + 1)) = 10
                                                  · rw [if_pos (h40.2 hq), if_pos hq, tp_ne (i := i + 1 + 1) hB]
                                                  · rw [if_neg (fun z => hq (h40.1 z)), if_neg hq]
                                                rw [hpar] at hrm3
                                                generalize hRR : (if kg T n (tp T n 1 (i + 1 + 1)) = 10 then pk_L B 1 (tp T n 1 (i + 1)) (lx_en T n 1 (tp T n 1 (i + 1))) (ms.drop fi) (pq_r B 261 (tp T n 1 (i + 1 + 1 + 1))) else .inl (1, (tp T n 1 (i + 1 + 1)))) = RR at hrm3
                                                have hrp := rp_162 (xs := xs) (M := fun _ => False) (d := d + 1) (S := (w_up (w_up (w_up (w_up (w_up (w_up (w_up (w_up (w_up (w_up (w_up (w_up S 14 4 ((i + 1 : Nat) : Int)) 14 4 ((i + 1 + 1 : Nat) : Int)) 186 (ms.length : Int) kc) 187 (ms.length : Int) 1) 189 (ms.length : Int) y) 190 (ms.length : Int) 0) 191 (ms.length : Int) 0) 200 (ms.length : Int) (S 17 ((i + 1 : Nat) : Int))) 201 (ms.length : Int) (-1)) 162 4 ((ms.length : Int) + 1)) 179 kc (((ms.length : Int) - (fi : Int)) + 1)) 188 (ms.length : Int) 0)) (i := i + 1 + 1) (ms := ms) (kc := kc) (so := 1) (st := 0) (ty := y) (f0 := (tp T n 1 (i + 1))) (e0 := (lx_en T n 1 (tp T n 1 (i + 1)))) (fi := fi) (hx_up (hx_up (hx_up (hx_up (hx_up (hx_up (hx_up (hx_up (hx_up (hx_up (hx_up (hx_up hx (by unfold hx_o; omega)) (by unfold hx_o; omega)) (by unfold hx_o; omega)) (by unfold hx_o; omega)) (by unfold hx_o; omega)) (by unfold hx_o; omega)) (by unfold hx_o; omega)) (by unfold hx_o; omega)) (by unfold hx_o; omega)) (by unfold hx_o; omega)) (by unfold hx_o; omega)) (by unfold hx_o; omega)) (show cx_P T n c (i + 1 + 1) (w_up (w_up (w_up (w_up (w_up (w_up (w_up (w_up (w_up (w_up (w_up (w_up S 14 4 ((i + 1 : Nat) : Int)) 14 4 ((i + 1 + 1 : Nat) : Int)) 186 (ms.length : Int) kc) 187 (ms.length : Int) 1) 189 (ms.length : Int) y) 190 (ms.length : Int) 0) 191 (ms.length : Int) 0) 200 (ms.length : Int) (S 17 ((i + 1 : Nat) : Int))) 201 (ms.length : Int) (-1)) 162 4 ((ms.length : Int) + 1)) 179 kc (((ms.length : Int) - (fi : Int)) + 1)) 188 (ms.length : Int) 0) from ⟨((w_up_slot (by decide)).trans ((w_up_slot (by decide)).trans ((w_up_slot (by decide)).trans ((w_up_slot (by decide)).trans ((w_up_slot (by decide)).trans ((w_up_slot (by decide)).trans ((w_up_slot (by decide)).trans ((w_up_slot (by decide)).trans ((w_up_slot (by decide)).trans ((w_up_slot (by decide)).trans (w_up_same _ _ _ _))))))))))), hg2⟩) hmsx (by omega) hhd (by decide) hkc ⟨(((w_up_slot (by decide)).trans ((w_up_slot (by decide)).trans ((w_up_slot (by decide)).trans ((w_up_slot (by decide)).trans ((w_up_slot (by decide)).trans ((w_up_slot (by decide)).trans ((w_up_slot (by decide)).trans ((w_up_slot (by decide)).trans ((w_up_slot (by decide)).trans ((w_up_slot (by decide)).trans ((w_up_slot (by decide)).trans (w_up_slot (by decide)))))))))))))).trans hfi.1, hfi.2⟩ hpm0
                                                rw [hRR] at hrp
                                                refine wa_cv 61 rfl (wy_pr rfl) wt_61 (M2 := fun _ => False) rfl at_XT_readParameters ⟨_, rfl⟩ rfl rfl ⟨trivial, (Or.inr ⟨wy_pr rfl, fun q => q⟩), trivial, trivial, trivial⟩ trivial (fun _ _ q => False.elim q) (hrp) (fun oq80 Sq80 hp81 q80 => ?_)
                                                match RR, hrm3, q80 with
                                                | .inl (e, qq), hrm3, hrq =>
                                                  obtain ⟨v, Z0, rfl, g1, g2⟩ := hrq
                                                  refine ⟨rfl, ?_⟩
                                                  exact hf e qq v Z0 _ (by rw [mb_f_s, if_neg (fun z => absurd (h125.1 z) (by omega)), hrm3]; rfl) (fun j x a1 a2 a3 a4 => (g1 j x a1 (by omega)).trans ((fun j x a1 a2 a3 a4 => (w_up_no (by omega)).trans ((w_up_no (by omega)).trans ((w_up_no (by omega)).trans ((w_up_no (by omega)).trans ((w_up_no (by omega)).trans ((w_up_no (by omega)).trans ((w_up_no (by omega)).trans ((w_up_no (by omega)).trans ((w_up_no (by omega)).trans ((w_up_no (by omega)).trans ((w_up_no (by omega)).trans ((w_up_no (by omega)).trans (rfl))))))))))))) j x a1 a2 a3 a4)) g2
                                                | .inr (qq, l, vv), hrm3, hrq =>
                                                  obtain ⟨rfl, g1, ⟨i2, g2, rfl⟩, g3⟩ := hrq
                                                  show wJ _ _ _ _ _ _ _ _ _ _
                                                  refine wa_fall ⟨_, rfl⟩ ?_
                                                  have hxz : hx_I 261 162 176 181 163 T n c B Sq80 := hx_ag (hx_up (hx_up (hx_up (hx_up (hx_up (hx_up (hx_up (hx_up (hx_up (hx_up (hx_up (hx_up hx (by unfold hx_o; omega)) (by unfold hx_o; omega)) (by unfold hx_o; omega)) (by unfold hx_o; omega)) (by unfold hx_o; omega)) (by unfold hx_o; omega)) (by unfold hx_o; omega)) (by unfold hx_o; omega)) (by unfold hx_o; omega)) (by unfold hx_o; omega)) (by unfold hx_o; omega)) (by unfold hx_o; omega)) (by decide) (g1 14 3 (by omega) (by omega)) (gI_ag2 (gI_up (gI_up (gI_up (gI_up (gI_up (gI_up (gI_up (gI_up (gI_up (gI_up (gI_up (gI_up hI (by omega) (by omega) (by omega)) (by omega) (by omega) (by omega)) (by omega) (by omega) (by omega)) (by omega) (by omega) (by omega)) (by omega) (by omega) (by omega)) (by omega) (by omega) (by omega)) (by omega) (by omega) (by omega)) (by omega) (by omega) (by omega)) (by omega) (by omega) (by omega)) (by omega) (by omega) (by omega)) (by omega) (by omega) (by omega)) (by omega) (by omega) (by omega)) (fun j hj => g1 j (-1) (by omega) (by omega)) (fun x hx => g1 238 x (by omega) (by omega)) (g1 14 5 (by omega) (by omega))) (fun j hj => funext fun x => g1 j x (by omega) (by omega)) (g1 162 2 (by omega) (by omega)) (g1 61 1 (by omega) (by omega)) (fun z hz => (g1 z.1 (-1) (by omega) (by omega)).trans ((hx_R (hx_up (hx_up (hx_up (hx_up (hx_up (hx_up (hx_up (hx_up (hx_up (hx_up (hx_up (hx_up hx (by unfold hx_o; omega)) (by unfold hx_o; omega)) (by unfold hx_o; omega)) (by unfold hx_o; omega)) (by unfold hx_o; omega)) (by unfold hx_o; omega)) (by unfold hx_o; omega)) (by unfold hx_o; omega)) (by unfold hx_o; omega)) (by unfold hx_o; omega)) (by unfold hx_o; omega)) (by unfold hx_o; omega))).2.2.1 z hz))
                                                  refine wJ_S (htail Sq80 i2 1 0 y vv (tp T n 1 (i + 1)) (lx_en T n 1 (tp T n 1 (i + 1))) l hxz g2 (mr_all_pp hmsx g1 (by decide)) (by omega) (mr_of (mr_hd_ag hhd (fun x hx => g1 _ _ (by omega) (by omega)) (fun x hx => funext fun y => g1 _ _ (by omega) (by omega))) g3) (fun j x a1 a2 a3 a4 => (g1 j x a1 (by omega)).trans ((fun j x a1 a2 a3 a4 => (w_up_no (by omega)).trans ((w_up_no (by omega)).trans ((w_up_no (by omega)).trans ((w_up_no (by omega)).trans ((w_up_no (by omega)).trans ((w_up_no (by omega)).trans ((w_up_no (by omega)).trans ((w_up_no (by omega)).trans ((w_up_no (by omega)).trans ((w_up_no (by omega)).trans ((w_up_no (by omega)).trans ((w_up_no (by omega)).trans (rfl))))))))))))) j x a1 a2 a3 a4)) ((g1 162 4 (by omega) (by omega)).trans (((w_up_slot (by decide)).trans ((w_up_slot (by decide)).trans (w_up_same _ _ _ _))))) ((g1 179 kc (by omega) (by omega)).trans (((w_up_slot (by decide)).trans (w_up_same _ _ _ _)))) ((g1 180 kc (by omega) (by omega)).trans ((((w_up_slot (by decide)).trans ((w_up_slot (by decide)).trans ((w_up_slot (by decide)).trans ((w_up_slot (by decide)).trans ((w_up_slot (by decide)).trans ((w_up_slot (by decide)).trans ((w_up_slot (by decide)).trans ((w_up_slot (by decide)).trans ((w_up_slot (by decide)).trans ((w_up_slot (by decide)).trans ((w_up_slot (by decide)).trans (w_up_slot (by decide)))))))))))))).trans hfi.1)) hrm3 (by omega)) ⟨rfl, rfl, rfl, trivial⟩
                                            · skip
                                              exact absurd c74 (by omega)
                                          · skip
                                            exact absurd c65 (by omega)
                                        · skip
                                          exact absurd c61 (by omega)
                                      · skip
                                        exact absurd c60 (by omega)
                                    · skip
                                      refine wa_iconst ?_
                                      refine wa_goto ⟨_, rfl⟩ ?_
                                      refine wa_istore (n := 4) rfl ?_
                                      refine wa_iload (n := 4) rfl ?_
                                      refine wa_ifeq (w_rg0 (by omega) (by omega)) ⟨_, rfl⟩ (fun c82 => ?_) (fun c82 => ?_)
                                      · skip
                                        exact absurd c82 (by omega)
                                      · skip
                                        refine wa_aload_n (n := 0) rfl ?_
                                        refine wb_gf5 61 rfl (wy_pr rfl) wt_61 wf_4_1 (v := 162) ((w_up_slot (by decide)).trans (hH)) (fun r83 => ?_)
                                        refine wa_iload_n (n := 3) rfl ?_
                                        refine wa_cv 162 rfl (wy_pr rfl) wt_162 (M2 := fun _ => False) rfl at_XO_hasOwnField ⟨_, rfl⟩ rfl rfl ⟨trivial, trivial, (Or.inr ⟨wy_pr rfl, fun q => q⟩), trivial, trivial, trivial⟩ trivial (fun _ _ q => False.elim q) (of_162 (S := (w_up S 14 4 ((i + 1 : Nat) : Int))) (ms := ms) (f0 := (tp T n 1 (i + 1))) (e0 := lx_en T n 1 (tp T n 1 (i + 1))) (kc := kc) (fi := fi) (hx_R (hx_up hx (by unfold hx_o; omega))).2.2.1 (hx_W (hx_up hx (by unfold hx_o; omega))) (mr_all_up hms (by omega) (by omega)) (((w_up_slot (by decide)).trans (hmc))) ⟨by omega, by show (S 17 ((i + 1 : Nat) : Int)) < S 163 7; omega, by omega⟩ (show wq ((w_up S 14 4 ((i + 1 : Nat) : Int)) 164) ((w_up S 14 4 ((i + 1 : Nat) : Int)) 165) ((w_up S 14 4 ((i + 1 : Nat) : Int)) 166) T (tp T n 1 (i + 1)) (lx_en T n 1 (tp T n 1 (i + 1)) - (tp T n 1 (i + 1))) (S 17 ((i + 1 : Nat) : Int)) from hnt1.2.2) ⟨((w_up_slot (by decide)).trans (hkc1)), hkc.2⟩ ⟨(w_up_slot (by decide)).trans hfi.1, hfi.2⟩) (fun oq85 Sq85 hp86 q85 => ?_)
                                        rcases q85 with ⟨rfl, ⟨rfl, ho84⟩ | ⟨rfl, ho84⟩⟩
                                        · skip
                                          show wJ _ _ _ _ _ _ _ _ _ _
                                          have hdf := ho84
                                          refine wa_ifeq (w_rg0 (by omega) (by omega)) ⟨_, rfl⟩ (fun c87 => ?_) (fun c87 => ?_)
                                          · skip
                                            exact absurd c87 (by omega)
                                          · skip
                                            refine wa_aload_n (n := 0) rfl ?_
                                            refine wa_iconst ?_
                                            refine wa_cv 61 rfl (wy_pr rfl) wt_61 (M2 := fun _ => False) rfl at_XT_refuse ⟨_, rfl⟩ rfl rfl ⟨trivial, trivial, (Or.inr ⟨wy_pr rfl, fun q => q⟩), trivial, trivial, trivial⟩ trivial (fun _ _ q => False.elim q) (rf_c (S := (w_up S 14 4 ((i + 1 : Nat) : Int))) (k := 2) (p := (tp T n 1 (i + 1))) (i := ((i + 1 : Nat) : Int)) (gI_up hI (by omega) (by omega) (by omega)) (w_up_same _ _ _ _) ((w_up_slot (by decide)).trans (h16_1)) ⟨by omega, by have e : (w_up S 14 4 ((i + 1 : Nat) : Int)) 16 (-1) = S 16 (-1) := (w_up_slot (by decide)); omega⟩ ⟨by omega, by omega⟩ ⟨by omega, by omega⟩) (fun oq89 Sq89 hp90 q89 => ?_)
                                            rcases q89 with ⟨v, rfl, rz88⟩
                                            have hrz := rz88
                                            have hkind : (2 : Int) = 2 := rfl
                                            refine ⟨rfl, ?_⟩
                                            refine ⟨rfl, ?_⟩
                                            refine ⟨rfl, ?_⟩
                                            have hn := lx_w_k (k := 12) hB hW hrw (by decide) hwc.1 hnt0
                                            rw [show hwl 12 = tx_25 from rfl] at hn
                                            have z1 : zq B (tp T n 1 i) 237 6 = 1 := by rw [zT_6 hB]; exact hnt0.1
                                            have hs := lx_w_k (k := 11) hB hW hrw (by decide) hwc.1 hnt0
                                            rw [show hwl 11 = tx_23 from rfl] at hs
                                            have hrm0 : rm_L B 261 kc itf (ms.drop fi) ms.length (tp T n 1 i) = rb_L B 261 kc itf (ms.drop fi) ms.length (tp T n 1 i) 0 := rm_o (fun z => absurd (hs.1 z) (by omega))
                                            have hyh := ty_hy (av := 1) hyy0 (Or.inr (by decide))
                                            rw [tp_ne (i := i) hB] at hyh
                                            have hrm1 : rm_L B 261 kc itf (ms.drop fi) ms.length (tp T n 1 i) = rb_name B 261 itf (ms.drop fi) y (tp T n 1 (i + 1)) 0 := hrm0.trans (rb_t z1 (fun z => absurd (hn.1 z) (by omega)) hyh.2.2.1 (by omega) hyh.1)
                                            have z2 : zq B (tp T n 1 (i + 1)) 237 6 = 1 := by rw [zT_6 hB]; exact hnt1.1
                                            have hoo := oo_21 hB hW hrw hwc.1 hnt1
                                            have h59 := lx_is_kg (i := i + 1 + 1) hB (k := 17) (ch := 59) (by decide) sk_17
                                            have h40 := lx_is_kg (i := i + 1 + 1) hB (k := 10) (ch := 40) (by decide) sk_10
                                            have hrm2 := rn_f (b := 261) (itf := itf) (rs := ms.drop fi) (t := y) (st := 0) z2 (fun z => absurd (hoo.1 z) (by omega)) (by rw [tp_ne (i := i + 1) hB]; exact fun z => absurd (h40.1 z) (by omega)) (by rw [tp_ne (i := i + 1) hB]; exact ⟨h59.2 (by omega), by omega⟩)
                                            rw [hBT, zT_8 hB] at hrm2
                                            have hr : rm_L B 261 kc itf (ms.drop fi) ms.length (tp T n 1 i) = .inl (2, (tp T n 1 (i + 1))) := hrm1.trans (hrm2.trans (by rw [if_pos hdf]))
                                            exact hf 2 _ v _ _ (by rw [mb_f_s, if_neg (fun z => absurd (h125.1 z) (by omega)), hr]) (fun j x a1 a2 a3 a4 => (w_up_no (by omega)).trans (rfl)) hrz
                                        · skip
                                          show wJ _ _ _ _ _ _ _ _ _ _
                                          have hdf := ho84
                                          refine wa_ifeq (w_rg0 (by omega) (by omega)) ⟨_, rfl⟩ (fun c91 => ?_) (fun c91 => ?_)
                                          · skip
                                            refine wa_iload (n := 4) rfl ?_
                                            refine wa_ifeq (w_rg0 (by omega) (by omega)) ⟨_, rfl⟩ (fun c92 => ?_) (fun c92 => ?_)
                                            · skip
                                              exact absurd c92 (by omega)
                                            · skip
                                              refine wa_iload_n (n := 1) rfl ?_
                                              refine wa_ifeq (w_rg0 (by omega) (by omega)) ⟨_, rfl⟩ (fun c93 => ?_) (fun c93 => ?_)
                                              · skip
                                                refine wa_aload_n (n := 0) rfl ?_
                                                refine wb_gf4 61 rfl (wy_pr rfl) wt_61 wf_4_0 (v := 14) wl_61_0 ?_
                                                refine wa_cv 14 rfl (wy_pr rfl) wt_14 (M2 := fun _ => False) rfl at_XR_next ⟨_, rfl⟩ rfl rfl ⟨trivial, trivial, (Or.inr ⟨wy_pr rfl, fun q => q⟩), trivial, trivial, trivial⟩ trivial (fun _ _ q => False.elim q) (nx_c (S := (w_up S 14 4 ((i + 1 : Nat) : Int))) (hx_T (hx_up hx (by unfold hx_o; omega))) (show cx_P T n c (i + 1) (w_up S 14 4 ((i + 1 : Nat) : Int)) from ⟨(w_up_same _ _ _ _), hg1⟩) rfl (gI_up hI (by omega) (by omega) (by omega)) (by omega)) (fun oq94 Sq94 hp95 q94 => ?_)
                                                rcases q94 with ⟨rfl, rfl⟩
                                                show wJ _ _ _ _ _ _ _ _ _ _
                                                have hg2 : pg T n c (i + 1 + 1) := pg_next (i := i + 1) hT hg1 (by omega) (by omega)
                                                have hA2 := pg_at hT hg2
                                                have h16_2 := hA2.1
                                                have h15_2 := hA2.2.1
                                                have hpr2 := hA2.2.2
                                                have hkr2 := kg_rg T n (tp T n 1 (i + 1 + 1))
                                                have hic2 := hg2.1
                                                have hlt2 := tp_lt (i := i + 1) hT hg1 (by omega) (by omega)
                                                refine wa_aload_n (n := 0) rfl ?_
                                                refine wb_gf5 61 rfl (wy_pr rfl) wt_61 wf_4_1 (v := 162) ((w_up_slot (by decide)).trans ((w_up_slot (by decide)).trans (hH))) (fun r96 => ?_)
                                                refine wa_iload (n := 4) rfl ?_
                                                refine wa_ifeq (w_rg0 (by omega) (by omega)) ⟨_, rfl⟩ (fun c97 => ?_) (fun c97 => ?_)
                                                · skip
                                                  exact absurd c97 (by omega)
                                                · skip
                                                  refine wa_iconst ?_
                                                  refine wa_goto ⟨_, rfl⟩ ?_
                                                  refine wa_iload_n (n := 2) rfl ?_
                                                  refine wa_iload_n (n := 3) rfl ?_
                                                  refine wa_cv 162 rfl (wy_pr rfl) wt_162 (M2 := fun _ => False) rfl at_XO_addMember ⟨_, rfl⟩ rfl rfl ⟨trivial, trivial, (Or.inr ⟨wy_pr rfl, fun q => q⟩), trivial, trivial, trivial⟩ trivial (fun _ _ q => False.elim q) ?_ (fun _ _ _ q => q)
                                                  refine wa_aload_n (n := 0) rfl ?_
                                                  refine wb_gfi 162 rfl (wy_pr rfl) wt_162 wf_3_4 (v := (ms.length : Int)) ((w_up_slot (by decide)).trans ((w_up_slot (by decide)).trans (hmc))) (fun r98 => ?_)
                                                  refine wa_istore (n := 4) rfl ?_
                                                  refine wa_aload_n (n := 0) rfl ?_
                                                  refine wb_gf4 162 rfl (wy_pr rfl) wt_162 wf_3_3 (v := 185) wl_162_3 ?_
                                                  refine wa_iconst ?_
                                                  refine wb_aald5 185 0 rfl rfl (wy_pr rfl) wt_185 (by rw [show _ = _ from ((w_up_slot (by decide)).trans ((w_up_slot (by decide)).trans ((cl_185 hC))))]; omega) wl_185_0 ?_
                                                  refine wa_iload (n := 4) rfl ?_
                                                  refine wa_aload_n (n := 0) rfl ?_
                                                  refine wb_gfi 162 rfl (wy_pr rfl) wt_162 wf_3_2 (v := (kc + 1)) ((w_up_slot (by decide)).trans ((w_up_slot (by decide)).trans (hkc1))) (fun r99 => ?_)
                                                  refine wa_iconst ?_
                                                  refine wa_isub ?_
                                                  rw [show (((kc + 1) - 1) : Int) = kc by omega]
                                                  refine wb_iast 186 rfl (wy_pr rfl) wt_186 (n := 400) ((w_up_slot (by decide)).trans ((w_up_slot (by decide)).trans ((cl_186 hC)))) (by omega) (by omega) ⟨(by omega), (by omega)⟩ ?_
                                                  refine wa_aload_n (n := 0) rfl ?_
                                                  refine wb_gf4 162 rfl (wy_pr rfl) wt_162 wf_3_3 (v := 185) wl_162_3 ?_
                                                  refine wa_iconst ?_
                                                  refine wb_aald5 185 1 rfl rfl (wy_pr rfl) wt_185 (by rw [show _ = _ from ((w_up_slot (by decide)).trans ((w_up_slot (by decide)).trans ((w_up_slot (by decide)).trans ((cl_185 hC)))))]; omega) wl_185_1 ?_
                                                  refine wa_iload (n := 4) rfl ?_
                                                  refine wa_iload_n (n := 1) rfl ?_
                                                  refine wb_iast 187 rfl (wy_pr rfl) wt_187 (n := 400) ((w_up_slot (by decide)).trans ((w_up_slot (by decide)).trans ((w_up_slot (by decide)).trans ((cl_187 hC))))) (by omega) (by omega) ⟨(by omega), (by omega)⟩ ?_
                                                  refine wa_aload_n (n := 0) rfl ?_
                                                  refine wb_gf4 162 rfl (wy_pr rfl) wt_162 wf_3_3 (v := 185) wl_162_3 ?_
                                                  refine wa_iconst ?_
                                                  refine wb_aald5 185 3 rfl rfl (wy_pr rfl) wt_185 (by rw [show _ = _ from ((w_up_slot (by decide)).trans ((w_up_slot (by decide)).trans ((w_up_slot (by decide)).trans ((w_up_slot (by decide)).trans ((cl_185 hC))))))]; omega) wl_185_3 ?_
                                                  refine wa_iload (n := 4) rfl ?_
                                                  refine wa_iload_n (n := 2) rfl ?_
                                                  refine wb_iast 189 rfl (wy_pr rfl) wt_189 (n := 400) ((w_up_slot (by decide)).trans ((w_up_slot (by decide)).trans ((w_up_slot (by decide)).trans ((w_up_slot (by decide)).trans ((cl_189 hC)))))) (by omega) (by omega) ⟨(by omega), (by omega)⟩ ?_
                                                  refine wa_aload_n (n := 0) rfl ?_
                                                  refine wb_gf4 162 rfl (wy_pr rfl) wt_162 wf_3_3 (v := 185) wl_162_3 ?_
                                                  refine wa_iconst ?_
                                                  refine wb_aald5 185 4 rfl rfl (wy_pr rfl) wt_185 (by rw [show _ = _ from ((w_up_slot (by decide)).trans ((w_up_slot (by decide)).trans ((w_up_slot (by decide)).trans ((w_up_slot (by decide)).trans ((w_up_slot (by decide)).trans ((cl_185 hC)))))))]; omega) wl_185_4 ?_
                                                  refine wa_iload (n := 4) rfl ?_
                                                  refine wa_iconst ?_
                                                  refine wb_iast 190 rfl (wy_pr rfl) wt_190 (n := 400) ((w_up_slot (by decide)).trans ((w_up_slot (by decide)).trans ((w_up_slot (by decide)).trans ((w_up_slot (by decide)).trans ((w_up_slot (by decide)).trans ((cl_190 hC))))))) (by omega) (by omega) ⟨(by omega), (by omega)⟩ ?_
                                                  refine wa_aload_n (n := 0) rfl ?_
                                                  refine wb_gf4 162 rfl (wy_pr rfl) wt_162 wf_3_3 (v := 185) wl_162_3 ?_
                                                  refine wa_iconst ?_
                                                  refine wb_aald5 185 5 rfl rfl (wy_pr rfl) wt_185 (by rw [show _ = _ from ((w_up_slot (by decide)).trans ((w_up_slot (by decide)).trans ((w_up_slot (by decide)).trans ((w_up_slot (by decide)).trans ((w_up_slot (by decide)).trans ((w_up_slot (by decide)).trans ((cl_185 hC))))))))]; omega) wl_185_5 ?_
                                                  refine wa_iload (n := 4) rfl ?_
                                                  refine wa_iconst ?_
                                                  refine wb_iast 191 rfl (wy_pr rfl) wt_191 (n := 400) ((w_up_slot (by decide)).trans ((w_up_slot (by decide)).trans ((w_up_slot (by decide)).trans ((w_up_slot (by decide)).trans ((w_up_slot (by decide)).trans ((w_up_slot (by decide)).trans ((cl_191 hC)))))))) (by omega) (by omega) ⟨(by omega), (by omega)⟩ ?_
                                                  refine wa_aload_n (n := 0) rfl ?_
                                                  refine wb_gf4 162 rfl (wy_pr rfl) wt_162 wf_3_3 (v := 185) wl_162_3 ?_
                                                  refine wa_bipush (w_rg2 (by omega) (by omega)) ?_
                                                  refine wb_aald5 185 14 rfl rfl (wy_pr rfl) wt_185 (by rw [show _ = _ from ((w_up_slot (by decide)).trans ((w_up_slot (by decide)).trans ((w_up_slot (by decide)).trans ((w_up_slot (by decide)).trans ((w_up_slot (by decide)).trans ((w_up_slot (by decide)).trans ((w_up_slot (by decide)).trans ((cl_185 hC)))))))))]; omega) wl_185_14 ?_
                                                  refine wa_iload (n := 4) rfl ?_
                                                  refine wa_iload_n (n := 3) rfl ?_
                                                  refine wb_iast 200 rfl (wy_pr rfl) wt_200 (n := 400) ((w_up_slot (by decide)).trans ((w_up_slot (by decide)).trans ((w_up_slot (by decide)).trans ((w_up_slot (by decide)).trans ((w_up_slot (by decide)).trans ((w_up_slot (by decide)).trans ((w_up_slot (by decide)).trans ((cl_200 hC))))))))) (by omega) (by omega) ⟨(by omega), (by omega)⟩ ?_
                                                  refine wa_aload_n (n := 0) rfl ?_
                                                  refine wb_gf4 162 rfl (wy_pr rfl) wt_162 wf_3_3 (v := 185) wl_162_3 ?_
                                                  refine wa_bipush (w_rg2 (by omega) (by omega)) ?_
                                                  refine wb_aald5 185 15 rfl rfl (wy_pr rfl) wt_185 (by rw [show _ = _ from ((w_up_slot (by decide)).trans ((w_up_slot (by decide)).trans ((w_up_slot (by decide)).trans ((w_up_slot (by decide)).trans ((w_up_slot (by decide)).trans ((w_up_slot (by decide)).trans ((w_up_slot (by decide)).trans ((w_up_slot (by decide)).trans ((cl_185 hC))))))))))]; omega) wl_185_15 ?_
                                                  refine wa_iload (n := 4) rfl ?_
                                                  refine wa_iconst ?_
                                                  refine wb_iast 201 rfl (wy_pr rfl) wt_201 (n := 400) ((w_up_slot (by decide)).trans ((w_up_slot (by decide)).trans ((w_up_slot (by decide)).trans ((w_up_slot (by decide)).trans ((w_up_slot (by decide)).trans ((w_up_slot (by decide)).trans ((w_up_slot (by decide)).trans ((w_up_slot (by decide)).trans ((cl_201 hC)))))))))) (by omega) (by omega) ⟨(by omega), (by omega)⟩ ?_
                                                  refine wa_aload_n (n := 0) rfl ?_
                                                  refine wa_dup (by decide) ?_
                                                  refine wb_gfi 162 rfl (wy_pr rfl) wt_162 wf_3_4 (v := (ms.length : Int)) ((w_up_slot (by decide)).trans ((w_up_slot (by decide)).trans ((w_up_slot (by decide)).trans ((w_up_slot (by decide)).trans ((w_up_slot (by decide)).trans ((w_up_slot (by decide)).trans ((w_up_slot (by decide)).trans ((w_up_slot (by decide)).trans ((w_up_slot (by decide)).trans (hmc)))))))))) (fun r100 => ?_)
                                                  refine wa_iconst ?_
                                                  refine wa_iadd ?_
                                                  refine wb_pfi 162 rfl (wy_pr rfl) wt_162 wf_3_4 (n := 4) rfl ⟨(by omega), (by omega)⟩ ?_
                                                  refine wa_aload_n (n := 0) rfl ?_
                                                  refine wb_gf4 162 rfl (wy_pr rfl) wt_162 wf_3_1 (v := 175) wl_162_1 ?_
                                                  refine wa_iconst ?_
                                                  refine wb_aald5 175 3 rfl rfl (wy_pr rfl) wt_175 (by rw [show _ = _ from ((w_up_slot (by decide)).trans ((w_up_slot (by decide)).trans ((w_up_slot (by decide)).trans ((w_up_slot (by decide)).trans ((w_up_slot (by decide)).trans ((w_up_slot (by decide)).trans ((w_up_slot (by decide)).trans ((w_up_slot (by decide)).trans ((w_up_slot (by decide)).trans ((w_up_slot (by decide)).trans ((cl_175 hC))))))))))))]; omega) wl_175_3 ?_
                                                  refine wa_aload_n (n := 0) rfl ?_
                                                  refine wb_gfi 162 rfl (wy_pr rfl) wt_162 wf_3_2 (v := (kc + 1)) ((w_up_at (by decide)).trans ((w_up_slot (by decide)).trans ((w_up_slot (by decide)).trans ((w_up_slot (by decide)).trans ((w_up_slot (by decide)).trans ((w_up_slot (by decide)).trans ((w_up_slot (by decide)).trans ((w_up_slot (by decide)).trans ((w_up_slot (by decide)).trans ((w_up_slot (by decide)).trans (hkc1))))))))))) (fun r101 => ?_)
                                                  refine wa_iconst ?_
                                                  refine wa_isub ?_
                                                  rw [show (((kc + 1) - 1) : Int) = kc by omega]
                                                  refine wa_dup2 (by decide) (by decide) ?_
                                                  refine wb_iald 179 rfl (wy_pr rfl) wt_179 (n := 60) ((w_up_slot (by decide)).trans ((w_up_slot (by decide)).trans ((w_up_slot (by decide)).trans ((w_up_slot (by decide)).trans ((w_up_slot (by decide)).trans ((w_up_slot (by decide)).trans ((w_up_slot (by decide)).trans ((w_up_slot (by decide)).trans ((w_up_slot (by decide)).trans ((w_up_slot (by decide)).trans ((cl_179 hC)))))))))))) (by omega) (by omega) (v := ((ms.length : Int) - (fi : Int))) ((w_up_slot (by decide)).trans ((w_up_slot (by decide)).trans ((w_up_slot (by decide)).trans ((w_up_slot (by decide)).trans ((w_up_slot (by decide)).trans ((w_up_slot (by decide)).trans ((w_up_slot (by decide)).trans ((w_up_slot (by decide)).trans ((w_up_slot (by decide)).trans ((w_up_slot (by decide)).trans (ht3))))))))))) (fun r102 => ?_)
                                                  refine wa_iconst ?_
                                                  refine wa_iadd ?_
                                                  refine wb_iast 179 rfl (wy_pr rfl) wt_179 (n := 60) ((w_up_slot (by decide)).trans ((w_up_slot (by decide)).trans ((w_up_slot (by decide)).trans ((w_up_slot (by decide)).trans ((w_up_slot (by decide)).trans ((w_up_slot (by decide)).trans ((w_up_slot (by decide)).trans ((w_up_slot (by decide)).trans ((w_up_slot (by decide)).trans ((w_up_slot (by decide)).trans ((cl_179 hC)))))))))))) (by omega) (by omega) ⟨(by omega), (by omega)⟩ ?_
                                                  refine wa_return rfl ?_
                                                  show wJ _ _ _ _ _ _ _ _ _ _
                                                  refine wa_return rfl ?_
                                                  show wJ _ _ _ _ _ _ _ _ _ _
                                                  refine wa_fall ⟨_, rfl⟩ ?_
                                                  refine wa_aload_n (n := 0) rfl ?_
                                                  refine wb_gf5 61 rfl (wy_pr rfl) wt_61 wf_4_1 (v := 162) ((w_up_slot (by decide)).trans ((w_up_slot (by decide)).trans ((w_up_slot (by decide)).trans ((w_up_slot (by decide)).trans ((w_up_slot (by decide)).trans ((w_up_slot (by decide)).trans ((w_up_slot (by decide)).trans ((w_up_slot (by decide)).trans ((w_up_slot (by decide)).trans ((w_up_slot (by decide)).trans ((w_up_slot (by decide)).trans (hH)))))))))))) (fun r103 => ?_)
                                                  refine wb_gf4 162 rfl (wy_pr rfl) wt_162 wf_3_3 (v := 185) wl_162_3 ?_
                                                  refine wa_iconst ?_
                                                  refine wb_aald5 185 2 rfl rfl (wy_pr rfl) wt_185 (by rw [show _ = _ from ((w_up_slot (by decide)).trans ((w_up_slot (by decide)).trans ((w_up_slot (by decide)).trans ((w_up_slot (by decide)).trans ((w_up_slot (by decide)).trans ((w_up_slot (by decide)).trans ((w_up_slot (by decide)).trans ((w_up_slot (by decide)).trans ((w_up_slot (by decide)).trans ((w_up_slot (by decide)).trans ((w_up_slot (by decide)).trans ((cl_185 hC)))))))))))))]; omega) wl_185_2 ?_
                                                  refine wa_aload_n (n := 0) rfl ?_
                                                  refine wb_gf5 61 rfl (wy_pr rfl) wt_61 wf_4_1 (v := 162) ((w_up_slot (by decide)).trans ((w_up_slot (by decide)).trans ((w_up_slot (by decide)).trans ((w_up_slot (by decide)).trans ((w_up_slot (by decide)).trans ((w_up_slot (by decide)).trans ((w_up_slot (by decide)).trans ((w_up_slot (by decide)).trans ((w_up_slot (by decide)).trans ((w_up_slot (by decide)).trans ((w_up_slot (by decide)).trans (hH)))))))))))) (fun r104 => ?_)
                                                  refine wb_gfi 162 rfl (wy_pr rfl) wt_162 wf_3_4 (v := ((ms.length : Int) + 1)) ((w_up_slot (by decide)).trans (w_up_same _ _ _ _)) (fun r105 => ?_)
                                                  refine wa_iconst ?_
                                                  refine wa_isub ?_
                                                  rw [show ((((ms.length : Int) + 1) - 1) : Int) = (ms.length : Int) by omega]
                                                  refine wa_iload_n (n := 2) rfl ?_
                                                  refine wa_ifeq (w_rg0 (by omega) (by omega)) ⟨_, rfl⟩ (fun c106 => ?_) (fun c106 => ?_)
                                                  · skip
                                                    refine wa_iconst ?_
                                                    refine wa_fall ⟨_, rfl⟩ ?_
                                                    refine wb_iast 188 rfl (wy_pr rfl) wt_188 (n := 400) ((w_up_slot (by decide)).trans ((w_up_slot (by decide)).trans ((w_up_slot (by decide)).trans ((w_up_slot (by decide)).trans ((w_up_slot (by decide)).trans ((w_up_slot (by decide)).trans ((w_up_slot (by decide)).trans ((w_up_slot (by decide)).trans ((w_up_slot (by decide)).trans ((w_up_slot (by decide)).trans ((w_up_slot (by decide)).trans ((cl_188 hC))))))))))))) (by omega) (by omega) ⟨(by omega), (by omega)⟩ ?_
                                                    refine wa_return rfl ?_
                                                    show wJ _ _ _ _ _ _ _ _ _ _
                                                    refine wa_aload_n (n := 0) rfl ?_
                                                    refine wb_gf5 61 rfl (wy_pr rfl) wt_61 wf_4_1 (v := 162) ((w_up_slot (by decide)).trans ((w_up_slot (by decide)).trans ((w_up_slot (by decide)).trans ((w_up_slot (by decide)).trans ((w_up_slot (by decide)).trans ((w_up_slot (by decide)).trans ((w_up_slot (by decide)).trans ((w_up_slot (by decide)).trans ((w_up_slot (by decide)).trans ((w_up_slot (by decide)).trans ((w_up_slot (by decide)).trans ((w_up_slot (by decide)).trans (hH))))))))))))) (fun r107 => ?_)
                                                    refine wb_gfi 162 rfl (wy_pr rfl) wt_162 wf_3_4 (v := ((ms.length : Int) + 1)) ((w_up_slot (by decide)).trans ((w_up_slot (by decide)).trans (w_up_same _ _ _ _))) (fun r108 => ?_)
                                                    refine wa_iconst ?_
                                                    refine wa_isub ?_
                                                    rw [show ((((ms.length : Int) + 1) - 1) : Int) = (ms.length : Int) by omega]
                                                    refine wa_istore (n := 5) rfl ?_
                                                    refine wa_aload_n (n := 0) rfl ?_
                                                    refine wb_gf5 61 rfl (wy_pr rfl) wt_61 wf_4_1 (v := 162) ((w_up_slot (by decide)).trans ((w_up_slot (by decide)).trans ((w_up_slot (by decide)).trans ((w_up_slot (by decide)).trans ((w_up_slot (by decide)).trans ((w_up_slot (by decide)).trans ((w_up_slot (by decide)).trans ((w_up_slot (by decide)).trans ((w_up_slot (by decide)).trans ((w_up_slot (by decide)).trans ((w_up_slot (by decide)).trans ((w_up_slot (by decide)).trans (hH))))))))))))) (fun r109 => ?_)
                                                    refine wb_gf4 162 rfl (wy_pr rfl) wt_162 wf_3_3 (v := 185) wl_162_3 ?_
                                                    refine wa_iconst ?_
                                                    refine wb_aald5 185 1 rfl rfl (wy_pr rfl) wt_185 (by rw [show _ = _ from ((w_up_slot (by decide)).trans ((w_up_slot (by decide)).trans ((w_up_slot (by decide)).trans ((w_up_slot (by decide)).trans ((w_up_slot (by decide)).trans ((w_up_slot (by decide)).trans ((w_up_slot (by decide)).trans ((w_up_slot (by decide)).trans ((w_up_slot (by decide)).trans ((w_up_slot (by decide)).trans ((w_up_slot (by decide)).trans ((w_up_slot (by decide)).trans ((cl_185 hC))))))))))))))]; omega) wl_185_1 ?_
                                                    refine wa_iload (n := 5) rfl ?_
                                                    refine wb_iald 187 rfl (wy_pr rfl) wt_187 (n := 400) ((w_up_slot (by decide)).trans ((w_up_slot (by decide)).trans ((w_up_slot (by decide)).trans ((w_up_slot (by decide)).trans ((w_up_slot (by decide)).trans ((w_up_slot (by decide)).trans ((w_up_slot (by decide)).trans ((w_up_slot (by decide)).trans ((w_up_at (by omega)).trans ((w_up_slot (by decide)).trans ((w_up_slot (by decide)).trans ((w_up_slot (by decide)).trans ((cl_187 hC)))))))))))))) (by omega) (by omega) (v := 0) ((w_up_slot (by decide)).trans ((w_up_slot (by decide)).trans ((w_up_slot (by decide)).trans ((w_up_slot (by decide)).trans ((w_up_slot (by decide)).trans ((w_up_slot (by decide)).trans ((w_up_slot (by decide)).trans ((w_up_slot (by decide)).trans (w_up_same _ _ _ _))))))))) (fun r110 => ?_)
                                                    refine wa_ifeq (w_rg0 (by omega) (by omega)) ⟨_, rfl⟩ (fun c111 => ?_) (fun c111 => ?_)
                                                    · skip
                                                      have hn := lx_w_k (k := 12) hB hW hrw (by decide) hwc.1 hnt0
                                                      rw [show hwl 12 = tx_25 from rfl] at hn
                                                      have z1 : zq B (tp T n 1 i) 237 6 = 1 := by rw [zT_6 hB]; exact hnt0.1
                                                      have hs := lx_w_k (k := 11) hB hW hrw (by decide) hwc.1 hnt0
                                                      rw [show hwl 11 = tx_23 from rfl] at hs
                                                      have hrm0 : rm_L B 261 kc itf (ms.drop fi) ms.length (tp T n 1 i) = rb_L B 261 kc itf (ms.drop fi) ms.length (tp T n 1 i) 0 := rm_o (fun z => absurd (hs.1 z) (by omega))
                                                      have hyh := ty_hy (av := 1) hyy0 (Or.inr (by decide))
                                                      rw [tp_ne (i := i) hB] at hyh
                                                      have hrm1 : rm_L B 261 kc itf (ms.drop fi) ms.length (tp T n 1 i) = rb_name B 261 itf (ms.drop fi) y (tp T n 1 (i + 1)) 0 := hrm0.trans (rb_t z1 (fun z => absurd (hn.1 z) (by omega)) hyh.2.2.1 (by omega) hyh.1)
                                                      have z2 : zq B (tp T n 1 (i + 1)) 237 6 = 1 := by rw [zT_6 hB]; exact hnt1.1
                                                      have hoo := oo_21 hB hW hrw hwc.1 hnt1
                                                      have h59 := lx_is_kg (i := i + 1 + 1) hB (k := 17) (ch := 59) (by decide) sk_17
                                                      have h40 := lx_is_kg (i := i + 1 + 1) hB (k := 10) (ch := 40) (by decide) sk_10
                                                      have hrm2 := rn_f (b := 261) (itf := itf) (rs := ms.drop fi) (t := y) (st := 0) z2 (fun z => absurd (hoo.1 z) (by omega)) (by rw [tp_ne (i := i + 1) hB]; exact fun z => absurd (h40.1 z) (by omega)) (by rw [tp_ne (i := i + 1) hB]; exact ⟨h59.2 (by omega), by omega⟩)
                                                      rw [hBT, zT_8 hB, tp_ne (i := i + 1) hB, if_neg (by rw [hdf]; decide), if_pos (by omega)] at hrm2
                                                      have hmsx : mr_all 186 163 T (w_up (w_up (w_up (w_up (w_up (w_up (w_up (w_up (w_up (w_up (w_up (w_up S 14 4 ((i + 1 : Nat) : Int)) 14 4 ((i + 1 + 1 : Nat) : Int)) 186 (ms.length : Int) kc) 187 (ms.length : Int) 0) 189 (ms.length : Int) y) 190 (ms.length : Int) 0) 191 (ms.length : Int) 0) 200 (ms.length : Int) (S 17 ((i + 1 : Nat) : Int))) 201 (ms.length : Int) (-1)) 162 4 ((ms.length : Int) + 1)) 179 kc (((ms.length : Int) - (fi : Int)) + 1)) 188 (ms.length : Int) 0) ms := (mr_all_up (mr_all_up (mr_all_up (mr_all_up (mr_all_up (mr_all_up (mr_all_up (mr_all_up (mr_all_up (mr_all_up (mr_all_up (mr_all_up hms (by omega) (by omega)) (by omega) (by omega)) (by omega) (by omega)) (by omega) (by omega)) (by omega) (by omega)) (by omega) (by omega)) (by omega) (by omega)) (by omega) (by omega)) (by omega) (by omega)) (by omega) (by omega)) (by omega) (by omega)) (by omega) (by omega))
                                                      have hhd : mr_hd 186 163 T (w_up (w_up (w_up (w_up (w_up (w_up (w_up (w_up (w_up (w_up (w_up (w_up S 14 4 ((i + 1 : Nat) : Int)) 14 4 ((i + 1 + 1 : Nat) : Int)) 186 (ms.length : Int) kc) 187 (ms.length : Int) 0) 189 (ms.length : Int) y) 190 (ms.length : Int) 0) 191 (ms.length : Int) 0) 200 (ms.length : Int) (S 17 ((i + 1 : Nat) : Int))) 201 (ms.length : Int) (-1)) 162 4 ((ms.length : Int) + 1)) 179 kc (((ms.length : Int) - (fi : Int)) + 1)) 188 (ms.length : Int) 0) (ms.length : Int) kc 0 0 y (tp T n 1 (i + 1)) (lx_en T n 1 (tp T n 1 (i + 1))) := ⟨⟨((w_up_slot (by decide)).trans ((w_up_slot (by decide)).trans ((w_up_slot (by decide)).trans ((w_up_slot (by decide)).trans ((w_up_slot (by decide)).trans ((w_up_slot (by decide)).trans ((w_up_slot (by decide)).trans ((w_up_slot (by decide)).trans ((w_up_slot (by decide)).trans (w_up_same _ _ _ _)))))))))), ((w_up_slot (by decide)).trans ((w_up_slot (by decide)).trans ((w_up_slot (by decide)).trans ((w_up_slot (by decide)).trans ((w_up_slot (by decide)).trans ((w_up_slot (by decide)).trans ((w_up_slot (by decide)).trans ((w_up_slot (by decide)).trans (w_up_same _ _ _ _))))))))), (w_up_same _ _ _ _), ((w_up_slot (by decide)).trans ((w_up_slot (by decide)).trans ((w_up_slot (by decide)).trans ((w_up_slot (by decide)).trans ((w_up_slot (by decide)).trans ((w_up_slot (by decide)).trans ((w_up_slot (by decide)).trans (w_up_same _ _ _ _))))))))⟩, ⟨by decide, by decide⟩, fun z => absurd z (by decide), fun _ => ⟨⟨by rw [show (w_up (w_up (w_up (w_up (w_up (w_up (w_up (w_up (w_up (w_up (w_up (w_up S 14 4 ((i + 1 : Nat) : Int)) 14 4 ((i + 1 + 1 : Nat) : Int)) 186 (ms.length : Int) kc) 187 (ms.length : Int) 0) 189 (ms.length : Int) y) 190 (ms.length : Int) 0) 191 (ms.length : Int) 0) 200 (ms.length : Int) (S 17 ((i + 1 : Nat) : Int))) 201 (ms.length : Int) (-1)) 162 4 ((ms.length : Int) + 1)) 179 kc (((ms.length : Int) - (fi : Int)) + 1)) 188 (ms.length : Int) 0) (186 + 14) (ms.length : Int) = _ from ((w_up_slot (by decide)).trans ((w_up_slot (by decide)).trans ((w_up_slot (by decide)).trans ((w_up_slot (by decide)).trans (w_up_same _ _ _ _)))))]; omega, by rw [show (w_up (w_up (w_up (w_up (w_up (w_up (w_up (w_up (w_up (w_up (w_up (w_up S 14 4 ((i + 1 : Nat) : Int)) 14 4 ((i + 1 + 1 : Nat) : Int)) 186 (ms.length : Int) kc) 187 (ms.length : Int) 0) 189 (ms.length : Int) y) 190 (ms.length : Int) 0) 191 (ms.length : Int) 0) 200 (ms.length : Int) (S 17 ((i + 1 : Nat) : Int))) 201 (ms.length : Int) (-1)) 162 4 ((ms.length : Int) + 1)) 179 kc (((ms.length : Int) - (fi : Int)) + 1)) 188 (ms.length : Int) 0) (186 + 14) (ms.length : Int) = _ from ((w_up_slot (by decide)).trans ((w_up_slot (by decide)).trans ((w_up_slot (by decide)).trans ((w_up_slot (by decide)).trans (w_up_same _ _ _ _)))))]; show _ < S 163 7; omega⟩, by rw [show (w_up (w_up (w_up (w_up (w_up (w_up (w_up (w_up (w_up (w_up (w_up (w_up S 14 4 ((i + 1 : Nat) : Int)) 14 4 ((i + 1 + 1 : Nat) : Int)) 186 (ms.length : Int) kc) 187 (ms.length : Int) 0) 189 (ms.length : Int) y) 190 (ms.length : Int) 0) 191 (ms.length : Int) 0) 200 (ms.length : Int) (S 17 ((i + 1 : Nat) : Int))) 201 (ms.length : Int) (-1)) 162 4 ((ms.length : Int) + 1)) 179 kc (((ms.length : Int) - (fi : Int)) + 1)) 188 (ms.length : Int) 0) (186 + 14) (ms.length : Int) = _ from ((w_up_slot (by decide)).trans ((w_up_slot (by decide)).trans ((w_up_slot (by decide)).trans ((w_up_slot (by decide)).trans (w_up_same _ _ _ _)))))]; exact hnt1.2.2⟩⟩
                                                      have hpm0 : pm_I 186 (w_up (w_up (w_up (w_up (w_up (w_up (w_up (w_up (w_up (w_up (w_up (w_up S 14 4 ((i + 1 : Nat) : Int)) 14 4 ((i + 1 + 1 : Nat) : Int)) 186 (ms.length : Int) kc) 187 (ms.length : Int) 0) 189 (ms.length : Int) y) 190 (ms.length : Int) 0) 191 (ms.length : Int) 0) 200 (ms.length : Int) (S 17 ((i + 1 : Nat) : Int))) 201 (ms.length : Int) (-1)) 162 4 ((ms.length : Int) + 1)) 179 kc (((ms.length : Int) - (fi : Int)) + 1)) 188 (ms.length : Int) 0) (ms.length : Int) [] 0 := ⟨((w_up_slot (by decide)).trans ((w_up_slot (by decide)).trans ((w_up_slot (by decide)).trans ((w_up_slot (by decide)).trans ((w_up_slot (by decide)).trans ((w_up_slot (by decide)).trans (w_up_same _ _ _ _))))))), ((w_up_slot (by decide)).trans ((w_up_slot (by decide)).trans ((w_up_slot (by decide)).trans ((w_up_slot (by decide)).trans ((w_up_slot (by decide)).trans (w_up_same _ _ _ _)))))), by decide, fun q hq => absurd hq (Nat.not_lt_zero _)⟩
                                                      exact wJ_S (htail (w_up (w_up (w_up (w_up (w_up (w_up (w_up (w_up (w_up (w_up (w_up (w_up S 14 4 ((i + 1 : Nat) : Int)) 14 4 ((i + 1 + 1 : Nat) : Int)) 186 (ms.length : Int) kc) 187 (ms.length : Int) 0) 189 (ms.length : Int) y) 190 (ms.length : Int) 0) 191 (ms.length : Int) 0) 200 (ms.length : Int) (S 17 ((i + 1 : Nat) : Int))) 201 (ms.length : Int) (-1)) 162 4 ((ms.length : Int) + 1)) 179 kc (((ms.length : Int) - (fi : Int)) + 1)) 188 (ms.length : Int) 0) (i + 1 + 1) 0 0 y 0 (tp T n 1 (i + 1)) (lx_en T n 1 (tp T n 1 (i + 1))) [] (hx_up (hx_up (hx_up (hx_up (hx_up (hx_up (hx_up (hx_up (hx_up (hx_up (hx_up (hx_up hx (by unfold hx_o; omega)) (by unfold hx_o; omega)) (by unfold hx_o; omega)) (by unfold hx_o; omega)) (by unfold hx_o; omega)) (by unfold hx_o; omega)) (by unfold hx_o; omega)) (by unfold hx_o; omega)) (by unfold hx_o; omega)) (by unfold hx_o; omega)) (by unfold hx_o; omega)) (by unfold hx_o; omega)) (show cx_P T n c (i + 1 + 1) (w_up (w_up (w_up (w_up (w_up (w_up (w_up (w_up (w_up (w_up (w_up (w_up S 14 4 ((i + 1 : Nat) : Int)) 14 4 ((i + 1 + 1 : Nat) : Int)) 186 (ms.length : Int) kc) 187 (ms.length : Int) 0) 189 (ms.length : Int) y) 190 (ms.length : Int) 0) 191 (ms.length : Int) 0) 200 (ms.length : Int) (S 17 ((i + 1 : Nat) : Int))) 201 (ms.length : Int) (-1)) 162 4 ((ms.length : Int) + 1)) 179 kc (((ms.length : Int) - (fi : Int)) + 1)) 188 (ms.length : Int) 0) from ⟨((w_up_slot (by decide)).trans ((w_up_slot (by decide)).trans ((w_up_slot (by decide)).trans ((w_up_slot (by decide)).trans ((w_up_slot (by decide)).trans ((w_up_slot (by decide)).trans ((w_up_slot (by decide)).trans ((w_up_slot (by decide)).trans ((w_up_slot (by decide)).trans ((w_up_slot (by decide)).trans (w_up_same _ _ _ _))))))))))), hg2⟩) hmsx (by omega) (mr_of hhd hpm0) (fun j x a1 a2 a3 a4 => (w_up_no (by omega)).trans ((w_up_no (by omega)).trans ((w_up_no (by omega)).trans ((w_up_no (by omega)).trans ((w_up_no (by omega)).trans ((w_up_no (by omega)).trans ((w_up_no (by omega)).trans ((w_up_no (by omega)).trans ((w_up_no (by omega)).trans ((w_up_no (by omega)).trans ((w_up_no (by omega)).trans ((w_up_no (by omega)).trans (rfl))))))))))))) (((w_up_slot (by decide)).trans ((w_up_slot (by decide)).trans (w_up_same _ _ _ _)))) (((w_up_slot (by decide)).trans (w_up_same _ _ _ _))) ((((w_up_slot (by decide)).trans ((w_up_slot (by decide)).trans ((w_up_slot (by decide)).trans ((w_up_slot (by decide)).trans ((w_up_slot (by decide)).trans ((w_up_slot (by decide)).trans ((w_up_slot (by decide)).trans ((w_up_slot (by decide)).trans ((w_up_slot (by decide)).trans ((w_up_slot (by decide)).trans ((w_up_slot (by decide)).trans (w_up_slot (by decide)))))))))))))).trans hfi.1) (hrm1.trans hrm2) (by omega)) ⟨rfl, rfl, rfl, trivial⟩
                                                    · skip
                                                      exact absurd c111 (by omega)
                                                  · skip
                                                    exact absurd c106 (by omega)
                                              · skip
                                                refine wa_aload_n (n := 0) rfl ?_
                                                refine wa_bipush (w_rg2 (by omega) (by omega)) ?_
                                                refine wa_cv 61 rfl (wy_pr rfl) wt_61 (M2 := fun _ => False) rfl at_XT_refuse ⟨_, rfl⟩ rfl rfl ⟨trivial, trivial, (Or.inr ⟨wy_pr rfl, fun q => q⟩), trivial, trivial, trivial⟩ trivial (fun _ _ q => False.elim q) (rf_c (S := (w_up S 14 4 ((i + 1 : Nat) : Int))) (k := 6) (p := (tp T n 1 (i + 1))) (i := ((i + 1 : Nat) : Int)) (gI_up hI (by omega) (by omega) (by omega)) (w_up_same _ _ _ _) ((w_up_slot (by decide)).trans (h16_1)) ⟨by omega, by have e : (w_up S 14 4 ((i + 1 : Nat) : Int)) 16 (-1) = S 16 (-1) := (w_up_slot (by decide)); omega⟩ ⟨by omega, by omega⟩ ⟨by omega, by omega⟩) (fun oq113 Sq113 hp114 q113 => ?_)
                                                rcases q113 with ⟨v, rfl, rz112⟩
                                                have hrz := rz112
                                                have hkind : (6 : Int) = 6 := rfl
                                                refine ⟨rfl, ?_⟩
                                                refine ⟨rfl, ?_⟩
                                                refine ⟨rfl, ?_⟩
                                                have hn := lx_w_k (k := 12) hB hW hrw (by decide) hwc.1 hnt0
                                                rw [show hwl 12 = tx_25 from rfl] at hn
                                                have z1 : zq B (tp T n 1 i) 237 6 = 1 := by rw [zT_6 hB]; exact hnt0.1
                                                have hs := lx_w_k (k := 11) hB hW hrw (by decide) hwc.1 hnt0
                                                rw [show hwl 11 = tx_23 from rfl] at hs
                                                have hrm0 : rm_L B 261 kc itf (ms.drop fi) ms.length (tp T n 1 i) = rb_L B 261 kc itf (ms.drop fi) ms.length (tp T n 1 i) 0 := rm_o (fun z => absurd (hs.1 z) (by omega))
                                                have hyh := ty_hy (av := 1) hyy0 (Or.inr (by decide))
                                                rw [tp_ne (i := i) hB] at hyh
                                                have hrm1 : rm_L B 261 kc itf (ms.drop fi) ms.length (tp T n 1 i) = rb_name B 261 itf (ms.drop fi) y (tp T n 1 (i + 1)) 0 := hrm0.trans (rb_t z1 (fun z => absurd (hn.1 z) (by omega)) hyh.2.2.1 (by omega) hyh.1)
                                                have z2 : zq B (tp T n 1 (i + 1)) 237 6 = 1 := by rw [zT_6 hB]; exact hnt1.1
                                                have hoo := oo_21 hB hW hrw hwc.1 hnt1
                                                have h59 := lx_is_kg (i := i + 1 + 1) hB (k := 17) (ch := 59) (by decide) sk_17
                                                have h40 := lx_is_kg (i := i + 1 + 1) hB (k := 10) (ch := 40) (by decide) sk_10
                                                have hrm2 := rn_f (b := 261) (itf := itf) (rs := ms.drop fi) (t := y) (st := 0) z2 (fun z => absurd (hoo.1 z) (by omega)) (by rw [tp_ne (i := i + 1) hB]; exact fun z => absurd (h40.1 z) (by omega)) (by rw [tp_ne (i := i + 1) hB]; exact ⟨h59.2 (by omega), by omega⟩)
                                                rw [hBT, zT_8 hB] at hrm2
                                                have hr : rm_L B 261 kc itf (ms.drop fi) ms.length (tp T n 1 i) = .inl (6, (tp T n 1 (i + 1))) := hrm1.trans (hrm2.trans (by rw [if_neg (by rw [hdf]; decide), if_neg (by omega)]))
                                                exact hf 6 _ v _ _ (by rw [mb_f_s, if_neg (fun z => absurd (h125.1 z) (by omega)), hr]) (fun j x a1 a2 a3 a4 => (w_up_no (by omega)).trans (rfl)) hrz
                                          · skip
                                            exact absurd c91 (by omega)
                                · skip
                                  refine wa_aload_n (n := 0) rfl ?_
                                  refine wa_iconst ?_
                                  refine wa_cv 61 rfl (wy_pr rfl) wt_61 (M2 := fun _ => False) rfl at_XT_refuse ⟨_, rfl⟩ rfl rfl ⟨trivial, (Or.inr ⟨wy_pr rfl, fun q => q⟩), trivial, trivial, trivial⟩ trivial (fun _ _ q => False.elim q) (rf_c (S := (w_up S 14 4 ((i + 1 : Nat) : Int))) (k := 2) (p := (tp T n 1 (i + 1))) (i := ((i + 1 : Nat) : Int)) (gI_up hI (by omega) (by omega) (by omega)) (w_up_same _ _ _ _) ((w_up_slot (by decide)).trans (h16_1)) ⟨by omega, by have e : (w_up S 14 4 ((i + 1 : Nat) : Int)) 16 (-1) = S 16 (-1) := (w_up_slot (by decide)); omega⟩ ⟨by omega, by omega⟩ ⟨by omega, by omega⟩) (fun oq116 Sq116 hp117 q116 => ?_)
                                  rcases q116 with ⟨v, rfl, rz115⟩
                                  have hrz := rz115
                                  have hkind : (2 : Int) = 2 := rfl
                                  refine ⟨rfl, ?_⟩
                                  refine ⟨rfl, ?_⟩
                                  refine ⟨rfl, ?_⟩
                                  have hn := lx_w_k (k := 12) hB hW hrw (by decide) hwc.1 hnt0
                                  rw [show hwl 12 = tx_25 from rfl] at hn
                                  have z1 : zq B (tp T n 1 i) 237 6 = 1 := by rw [zT_6 hB]; exact hnt0.1
                                  have hs := lx_w_k (k := 11) hB hW hrw (by decide) hwc.1 hnt0
                                  rw [show hwl 11 = tx_23 from rfl] at hs
                                  have hrm0 : rm_L B 261 kc itf (ms.drop fi) ms.length (tp T n 1 i) = rb_L B 261 kc itf (ms.drop fi) ms.length (tp T n 1 i) 0 := rm_o (fun z => absurd (hs.1 z) (by omega))
                                  have hyh := ty_hy (av := 1) hyy0 (Or.inr (by decide))
                                  rw [tp_ne (i := i) hB] at hyh
                                  have hrm1 : rm_L B 261 kc itf (ms.drop fi) ms.length (tp T n 1 i) = rb_name B 261 itf (ms.drop fi) y (tp T n 1 (i + 1)) 0 := hrm0.trans (rb_t z1 (fun z => absurd (hn.1 z) (by omega)) hyh.2.2.1 (by omega) hyh.1)
                                  have z2 : zq B (tp T n 1 (i + 1)) 237 6 = 1 := by rw [zT_6 hB]; exact hnt1.1
                                  have hoo := oo_21 hB hW hrw hwc.1 hnt1
                                  have hr : rm_L B 261 kc itf (ms.drop fi) ms.length (tp T n 1 i) = .inl (2, (tp T n 1 (i + 1))) := hrm1.trans (rn_2 z2 (hoo.2 (by omega)))
                                  exact hf 2 _ v _ _ (by rw [mb_f_s, if_neg (fun z => absurd (h125.1 z) (by omega)), hr]) (fun j x a1 a2 a3 a4 => (w_up_no (by omega)).trans (rfl)) hrz
                              · skip
                                have hkg := hw29
                                refine ⟨rfl, ?_⟩
                                refine ⟨rfl, ?_⟩
                                refine ⟨rfl, ?_⟩
                                have hn := lx_w_k (k := 12) hB hW hrw (by decide) hwc.1 hnt0
                                rw [show hwl 12 = tx_25 from rfl] at hn
                                have z1 : zq B (tp T n 1 i) 237 6 = 1 := by rw [zT_6 hB]; exact hnt0.1
                                have hs := lx_w_k (k := 11) hB hW hrw (by decide) hwc.1 hnt0
                                rw [show hwl 11 = tx_23 from rfl] at hs
                                have hrm0 : rm_L B 261 kc itf (ms.drop fi) ms.length (tp T n 1 i) = rb_L B 261 kc itf (ms.drop fi) ms.length (tp T n 1 i) 0 := rm_o (fun z => absurd (hs.1 z) (by omega))
                                have hyh := ty_hy (av := 1) hyy0 (Or.inr (by decide))
                                rw [tp_ne (i := i) hB] at hyh
                                have hrm1 : rm_L B 261 kc itf (ms.drop fi) ms.length (tp T n 1 i) = rb_name B 261 itf (ms.drop fi) y (tp T n 1 (i + 1)) 0 := hrm0.trans (rb_t z1 (fun z => absurd (hn.1 z) (by omega)) hyh.2.2.1 (by omega) hyh.1)
                                have z2 : zq B (tp T n 1 (i + 1)) 237 6 ≠ 1 := by rw [zT_6 hB]; exact fun z => hkg ((kg_5 T n _).2 z)
                                have hr : rm_L B 261 kc itf (ms.drop fi) ms.length (tp T n 1 i) = .inl (1, (tp T n 1 (i + 1))) := hrm1.trans (rn_1 z2)
                                exact hf 1 _ v _ _ (by rw [mb_f_s, if_neg (fun z => absurd (h125.1 z) (by omega)), hr]) (fun j x a1 a2 a3 a4 => (w_up_no (by omega)).trans (rfl)) hrz
                            · skip
                              exact absurd c28 (by omega)
                          · skip
                            exact absurd c25 (by omega)
                        · skip
                          refine wa_aload_n (n := 0) rfl ?_
                          refine wa_iconst ?_
                          refine wa_cv 61 rfl (wy_pr rfl) wt_61 (M2 := fun _ => False) rfl at_XT_refuse ⟨_, rfl⟩ rfl rfl ⟨trivial, trivial, trivial, (Or.inr ⟨wy_pr rfl, fun q => q⟩), trivial, trivial⟩ trivial (fun _ _ q => False.elim q) (rf_c (S := S) (k := 5) (p := (tp T n 1 i)) (i := (i : Int)) hI (hpos4) (h16_0) ⟨by omega, by have e : S 16 (-1) = S 16 (-1) := rfl; omega⟩ ⟨by omega, by omega⟩ ⟨by omega, by omega⟩) (fun oq119 Sq119 hp120 q119 => ?_)
                          rcases q119 with ⟨v, rfl, rz118⟩
                          have hrz := rz118
                          have hkind : (5 : Int) = 5 := rfl
                          refine ⟨rfl, ?_⟩
                          refine ⟨rfl, ?_⟩
                          have hn := lx_w_k (k := 12) hB hW hrw (by decide) hwc.1 hnt0
                          rw [show hwl 12 = tx_25 from rfl] at hn
                          have z1 : zq B (tp T n 1 i) 237 6 = 1 := by rw [zT_6 hB]; exact hnt0.1
                          have hs := lx_w_k (k := 11) hB hW hrw (by decide) hwc.1 hnt0
                          rw [show hwl 11 = tx_23 from rfl] at hs
                          have hrm0 : rm_L B 261 kc itf (ms.drop fi) ms.length (tp T n 1 i) = rb_L B 261 kc itf (ms.drop fi) ms.length (tp T n 1 i) 0 := rm_o (fun z => absurd (hs.1 z) (by omega))
                          have hkk : lx_w (zq B (tp T n 1 i)) tx_25 = true ∨ (0 ≤ pl_of (zq B (tp T n 1 i)) tx_27 ∨ 0 ≤ ch_of (zq B (tp T n 1 i)) 261) := by first | exact Or.inl (hn.2 (by omega)) | exact Or.inr (ty_hy (av := 1) hyy0 (Or.inr (by decide))).2.2.1
                          have hr : rm_L B 261 kc itf (ms.drop fi) ms.length (tp T n 1 i) = .inl (5, (tp T n 1 i)) := hrm0.trans (rb_5 z1 (fun z => by have := hn.1 z.2; omega) hkk (by omega))
                          exact hf 5 _ v _ _ (by rw [mb_f_s, if_neg (fun z => absurd (h125.1 z) (by omega)), hr]) (fun j x a1 a2 a3 a4 => rfl) hrz
                      · skip
                        have hyy := hy19
                        refine ⟨rfl, ?_⟩
                        refine ⟨rfl, ?_⟩
                        have hn := lx_w_k (k := 12) hB hW hrw (by decide) hwc.1 hnt0
                        rw [show hwl 12 = tx_25 from rfl] at hn
                        have z1 : zq B (tp T n 1 i) 237 6 = 1 := by rw [zT_6 hB]; exact hnt0.1
                        have hs := lx_w_k (k := 11) hB hW hrw (by decide) hwc.1 hnt0
                        rw [show hwl 11 = tx_23 from rfl] at hs
                        have hrm0 : rm_L B 261 kc itf (ms.drop fi) ms.length (tp T n 1 i) = rb_L B 261 kc itf (ms.drop fi) ms.length (tp T n 1 i) 0 := rm_o (fun z => absurd (hs.1 z) (by omega))
                        rcases ty_in hyy with ⟨rfl, q1⟩ | ⟨rfl, q1, q2⟩
                        · exact absurd z1 q1
                        have hr : rm_L B 261 kc itf (ms.drop fi) ms.length (tp T n 1 i) = .inl (3, (tp T n 1 i)) := hrm0.trans (rb_3 z1 (fun z => absurd (hn.1 z) (by omega)) q2)
                        exact hf 3 _ v _ _ (by rw [mb_f_s, if_neg (fun z => absurd (h125.1 z) (by omega)), hr]) (fun j x a1 a2 a3 a4 => rfl) hrz
                    · skip
                      exact absurd c18 (by omega)
                  · skip
                    exact absurd c17 (by omega)
                · skip
                  refine wa_iconst ?_
                  refine wa_goto ⟨_, rfl⟩ ?_
                  refine wa_istore_n (n := 3) rfl ?_
                  refine wa_iload_n (n := 3) rfl ?_
                  refine wa_ifeq (w_rg0 (by omega) (by omega)) ⟨_, rfl⟩ (fun c121 => ?_) (fun c121 => ?_)
                  · skip
                    exact absurd c121 (by omega)
                  · skip
                    refine wa_iload_n (n := 2) rfl ?_
                    refine wa_ifeq (w_rg0 (by omega) (by omega)) ⟨_, rfl⟩ (fun c122 => ?_) (fun c122 => ?_)
                    · skip
                      refine wa_iload_n (n := 3) rfl ?_
                      refine wa_ifeq (w_rg0 (by omega) (by omega)) ⟨_, rfl⟩ (fun c123 => ?_) (fun c123 => ?_)
                      · skip
                        exact absurd c123 (by omega)
                      · skip
                        refine wa_bipush (w_rg2 (by omega) (by omega)) ?_
                        refine wa_aload_n (n := 0) rfl ?_
                        refine wb_gf5 61 rfl (wy_pr rfl) wt_61 wf_4_1 (v := 162) (hH) (fun r124 => ?_)
                        refine wb_gfi 162 rfl (wy_pr rfl) wt_162 wf_3_2 (v := (kc + 1)) (hkc1) (fun r125 => ?_)
                        refine wa_iadd ?_
                        refine wa_iconst ?_
                        refine wa_isub ?_
                        rw [show (((9 + (kc + 1)) - 1) : Int) = (9 + kc) by omega]
                        refine wa_goto ⟨_, rfl⟩ ?_
                        refine wa_istore (n := 4) rfl ?_
                        refine wa_aload_n (n := 0) rfl ?_
                        refine wb_gf5 61 rfl (wy_pr rfl) wt_61 wf_4_1 (v := 162) (hH) (fun r126 => ?_)
                        refine wb_gfi 162 rfl (wy_pr rfl) wt_162 wf_3_4 (v := (ms.length : Int)) (hmc) (fun r127 => ?_)
                        refine wa_sipush (by omega) ?_
                        refine wa_icmpne (w_rg0 (by omega) (by omega)) (w_rg0 (by omega) (by omega)) ⟨_, rfl⟩ (fun c128 => ?_) (fun c128 => ?_)
                        · skip
                          refine wa_iload_n (n := 3) rfl ?_
                          refine wa_ifeq (w_rg0 (by omega) (by omega)) ⟨_, rfl⟩ (fun c129 => ?_) (fun c129 => ?_)
                          · skip
                            exact absurd c129 (by omega)
                          · skip
                            refine wa_iload_n (n := 1) rfl ?_
                            refine wa_ifeq (w_rg0 (by omega) (by omega)) ⟨_, rfl⟩ (fun c130 => ?_) (fun c130 => ?_)
                            · skip
                              refine wa_aload_n (n := 0) rfl ?_
                              refine wb_gf4 61 rfl (wy_pr rfl) wt_61 wf_4_0 (v := 14) wl_61_0 ?_
                              refine wa_cv 14 rfl (wy_pr rfl) wt_14 (M2 := fun _ => False) rfl at_XR_next ⟨_, rfl⟩ rfl rfl ⟨trivial, trivial, trivial, (Or.inr ⟨wy_pr rfl, fun q => q⟩), trivial, trivial⟩ trivial (fun _ _ q => False.elim q) (nx_c (S := S) (hx_T hx) (show cx_P T n c (i) S from ⟨(hpos4), hg0⟩) rfl hI (by omega)) (fun oq131 Sq131 hp132 q131 => ?_)
                              rcases q131 with ⟨rfl, rfl⟩
                              show wJ _ _ _ _ _ _ _ _ _ _
                              have hg1 : pg T n c (i + 1) := pg_next (i := i) hT hg0 (by omega) (by omega)
                              have hA1 := pg_at hT hg1
                              have h16_1 := hA1.1
                              have h15_1 := hA1.2.1
                              have hpr1 := hA1.2.2
                              have hkr1 := kg_rg T n (tp T n 1 (i + 1))
                              have hic1 := hg1.1
                              have hlt1 := tp_lt (i := i) hT hg0 (by omega) (by omega)
                              refine wa_iload_n (n := 3) rfl ?_
                              refine wa_ifeq (w_rg0 (by omega) (by omega)) ⟨_, rfl⟩ (fun c133 => ?_) (fun c133 => ?_)
                              · skip
                                exact absurd c133 (by omega)
                              · skip
                                refine wa_aload_n (n := 0) rfl ?_
                                refine wb_gf5 61 rfl (wy_pr rfl) wt_61 wf_4_1 (v := 162) ((w_up_slot (by decide)).trans (hH)) (fun r134 => ?_)
                                refine wa_iconst ?_
                                refine wa_iload (n := 4) rfl ?_
                                refine wa_bipush (w_rg2 (by omega) (by omega)) ?_
                                refine wa_cv 162 rfl (wy_pr rfl) wt_162 (M2 := fun _ => False) rfl at_XO_addMember ⟨_, rfl⟩ rfl rfl ⟨trivial, trivial, trivial, (Or.inr ⟨wy_pr rfl, fun q => q⟩), trivial, trivial⟩ trivial (fun _ _ q => False.elim q) ?_ (fun _ _ _ q => q)
                                refine wa_aload_n (n := 0) rfl ?_
                                refine wb_gfi 162 rfl (wy_pr rfl) wt_162 wf_3_4 (v := (ms.length : Int)) ((w_up_slot (by decide)).trans (hmc)) (fun r135 => ?_)
                                refine wa_istore (n := 4) rfl ?_
                                refine wa_aload_n (n := 0) rfl ?_
                                refine wb_gf4 162 rfl (wy_pr rfl) wt_162 wf_3_3 (v := 185) wl_162_3 ?_
                                refine wa_iconst ?_
                                refine wb_aald5 185 0 rfl rfl (wy_pr rfl) wt_185 (by rw [show _ = _ from ((w_up_slot (by decide)).trans ((cl_185 hC)))]; omega) wl_185_0 ?_
                                refine wa_iload (n := 4) rfl ?_
                                refine wa_aload_n (n := 0) rfl ?_
                                refine wb_gfi 162 rfl (wy_pr rfl) wt_162 wf_3_2 (v := (kc + 1)) ((w_up_slot (by decide)).trans (hkc1)) (fun r136 => ?_)
                                refine wa_iconst ?_
                                refine wa_isub ?_
                                rw [show (((kc + 1) - 1) : Int) = kc by omega]
                                refine wb_iast 186 rfl (wy_pr rfl) wt_186 (n := 400) ((w_up_slot (by decide)).trans ((cl_186 hC))) (by omega) (by omega) ⟨(by omega), (by omega)⟩ ?_
                                refine wa_aload_n (n := 0) rfl ?_
                                refine wb_gf4 162 rfl (wy_pr rfl) wt_162 wf_3_3 (v := 185) wl_162_3 ?_
                                refine wa_iconst ?_
                                refine wb_aald5 185 1 rfl rfl (wy_pr rfl) wt_185 (by rw [show _ = _ from ((w_up_slot (by decide)).trans ((w_up_slot (by decide)).trans ((cl_185 hC))))]; omega) wl_185_1 ?_
                                refine wa_iload (n := 4) rfl ?_
                                refine wa_iload_n (n := 1) rfl ?_
                                refine wb_iast 187 rfl (wy_pr rfl) wt_187 (n := 400) ((w_up_slot (by decide)).trans ((w_up_slot (by decide)).trans ((cl_187 hC)))) (by omega) (by omega) ⟨(by omega), (by omega)⟩ ?_
                                refine wa_aload_n (n := 0) rfl ?_
                                refine wb_gf4 162 rfl (wy_pr rfl) wt_162 wf_3_3 (v := 185) wl_162_3 ?_
                                refine wa_iconst ?_
                                refine wb_aald5 185 3 rfl rfl (wy_pr rfl) wt_185 (by rw [show _ = _ from ((w_up_slot (by decide)).trans ((w_up_slot (by decide)).trans ((w_up_slot (by decide)).trans ((cl_185 hC)))))]; omega) wl_185_3 ?_
                                refine wa_iload (n := 4) rfl ?_
                                refine wa_iload_n (n := 2) rfl ?_
                                refine wb_iast 189 rfl (wy_pr rfl) wt_189 (n := 400) ((w_up_slot (by decide)).trans ((w_up_slot (by decide)).trans ((w_up_slot (by decide)).trans ((cl_189 hC))))) (by omega) (by omega) ⟨(by omega), (by omega)⟩ ?_
                                refine wa_aload_n (n := 0) rfl ?_
                                refine wb_gf4 162 rfl (wy_pr rfl) wt_162 wf_3_3 (v := 185) wl_162_3 ?_
                                refine wa_iconst ?_
                                refine wb_aald5 185 4 rfl rfl (wy_pr rfl) wt_185 (by rw [show _ = _ from ((w_up_slot (by decide)).trans ((w_up_slot (by decide)).trans ((w_up_slot (by decide)).trans ((w_up_slot (by decide)).trans ((cl_185 hC))))))]; omega) wl_185_4 ?_
                                refine wa_iload (n := 4) rfl ?_
                                refine wa_iconst ?_
                                refine wb_iast 190 rfl (wy_pr rfl) wt_190 (n := 400) ((w_up_slot (by decide)).trans ((w_up_slot (by decide)).trans ((w_up_slot (by decide)).trans ((w_up_slot (by decide)).trans ((cl_190 hC)))))) (by omega) (by omega) ⟨(by omega), (by omega)⟩ ?_
                                refine wa_aload_n (n := 0) rfl ?_
                                refine wb_gf4 162 rfl (wy_pr rfl) wt_162 wf_3_3 (v := 185) wl_162_3 ?_
                                refine wa_iconst ?_
                                refine wb_aald5 185 5 rfl rfl (wy_pr rfl) wt_185 (by rw [show _ = _ from ((w_up_slot (by decide)).trans ((w_up_slot (by decide)).trans ((w_up_slot (by decide)).trans ((w_up_slot (by decide)).trans ((w_up_slot (by decide)).trans ((cl_185 hC)))))))]; omega) wl_185_5 ?_
                                refine wa_iload (n := 4) rfl ?_
                                refine wa_iconst ?_
                                refine wb_iast 191 rfl (wy_pr rfl) wt_191 (n := 400) ((w_up_slot (by decide)).trans ((w_up_slot (by decide)).trans ((w_up_slot (by decide)).trans ((w_up_slot (by decide)).trans ((w_up_slot (by decide)).trans ((cl_191 hC))))))) (by omega) (by omega) ⟨(by omega), (by omega)⟩ ?_
                                refine wa_aload_n (n := 0) rfl ?_
                                refine wb_gf4 162 rfl (wy_pr rfl) wt_162 wf_3_3 (v := 185) wl_162_3 ?_
                                refine wa_bipush (w_rg2 (by omega) (by omega)) ?_
                                refine wb_aald5 185 14 rfl rfl (wy_pr rfl) wt_185 (by rw [show _ = _ from ((w_up_slot (by decide)).trans ((w_up_slot (by decide)).trans ((w_up_slot (by decide)).trans ((w_up_slot (by decide)).trans ((w_up_slot (by decide)).trans ((w_up_slot (by decide)).trans ((cl_185 hC))))))))]; omega) wl_185_14 ?_
                                refine wa_iload (n := 4) rfl ?_
                                refine wa_iload_n (n := 3) rfl ?_
                                refine wb_iast 200 rfl (wy_pr rfl) wt_200 (n := 400) ((w_up_slot (by decide)).trans ((w_up_slot (by decide)).trans ((w_up_slot (by decide)).trans ((w_up_slot (by decide)).trans ((w_up_slot (by decide)).trans ((w_up_slot (by decide)).trans ((cl_200 hC)))))))) (by omega) (by omega) ⟨(by omega), (by omega)⟩ ?_
                                refine wa_aload_n (n := 0) rfl ?_
                                refine wb_gf4 162 rfl (wy_pr rfl) wt_162 wf_3_3 (v := 185) wl_162_3 ?_
                                refine wa_bipush (w_rg2 (by omega) (by omega)) ?_
                                refine wb_aald5 185 15 rfl rfl (wy_pr rfl) wt_185 (by rw [show _ = _ from ((w_up_slot (by decide)).trans ((w_up_slot (by decide)).trans ((w_up_slot (by decide)).trans ((w_up_slot (by decide)).trans ((w_up_slot (by decide)).trans ((w_up_slot (by decide)).trans ((w_up_slot (by decide)).trans ((cl_185 hC)))))))))]; omega) wl_185_15 ?_
                                refine wa_iload (n := 4) rfl ?_
                                refine wa_iconst ?_
                                refine wb_iast 201 rfl (wy_pr rfl) wt_201 (n := 400) ((w_up_slot (by decide)).trans ((w_up_slot (by decide)).trans ((w_up_slot (by decide)).trans ((w_up_slot (by decide)).trans ((w_up_slot (by decide)).trans ((w_up_slot (by decide)).trans ((w_up_slot (by decide)).trans ((cl_201 hC))))))))) (by omega) (by omega) ⟨(by omega), (by omega)⟩ ?_
                                refine wa_aload_n (n := 0) rfl ?_
                                refine wa_dup (by decide) ?_
                                refine wb_gfi 162 rfl (wy_pr rfl) wt_162 wf_3_4 (v := (ms.length : Int)) ((w_up_slot (by decide)).trans ((w_up_slot (by decide)).trans ((w_up_slot (by decide)).trans ((w_up_slot (by decide)).trans ((w_up_slot (by decide)).trans ((w_up_slot (by decide)).trans ((w_up_slot (by decide)).trans ((w_up_slot (by decide)).trans (hmc))))))))) (fun r137 => ?_)
                                refine wa_iconst ?_
                                refine wa_iadd ?_
                                refine wb_pfi 162 rfl (wy_pr rfl) wt_162 wf_3_4 (n := 4) rfl ⟨(by omega), (by omega)⟩ ?_
                                refine wa_aload_n (n := 0) rfl ?_
                                refine wb_gf4 162 rfl (wy_pr rfl) wt_162 wf_3_1 (v := 175) wl_162_1 ?_
                                refine wa_iconst ?_
                                refine wb_aald5 175 3 rfl rfl (wy_pr rfl) wt_175 (by rw [show _ = _ from ((w_up_slot (by decide)).trans ((w_up_slot (by decide)).trans ((w_up_slot (by decide)).trans ((w_up_slot (by decide)).trans ((w_up_slot (by decide)).trans ((w_up_slot (by decide)).trans ((w_up_slot (by decide)).trans ((w_up_slot (by decide)).trans ((w_up_slot (by decide)).trans ((cl_175 hC)))))))))))]; omega) wl_175_3 ?_
                                refine wa_aload_n (n := 0) rfl ?_
                                refine wb_gfi 162 rfl (wy_pr rfl) wt_162 wf_3_2 (v := (kc + 1)) ((w_up_at (by decide)).trans ((w_up_slot (by decide)).trans ((w_up_slot (by decide)).trans ((w_up_slot (by decide)).trans ((w_up_slot (by decide)).trans ((w_up_slot (by decide)).trans ((w_up_slot (by decide)).trans ((w_up_slot (by decide)).trans ((w_up_slot (by decide)).trans (hkc1)))))))))) (fun r138 => ?_)
                                refine wa_iconst ?_
                                refine wa_isub ?_
                                rw [show (((kc + 1) - 1) : Int) = kc by omega]
                                refine wa_dup2 (by decide) (by decide) ?_
                                refine wb_iald 179 rfl (wy_pr rfl) wt_179 (n := 60) ((w_up_slot (by decide)).trans ((w_up_slot (by decide)).trans ((w_up_slot (by decide)).trans ((w_up_slot (by decide)).trans ((w_up_slot (by decide)).trans ((w_up_slot (by decide)).trans ((w_up_slot (by decide)).trans ((w_up_slot (by decide)).trans ((w_up_slot (by decide)).trans ((cl_179 hC))))))))))) (by omega) (by omega) (v := ((ms.length : Int) - (fi : Int))) ((w_up_slot (by decide)).trans ((w_up_slot (by decide)).trans ((w_up_slot (by decide)).trans ((w_up_slot (by decide)).trans ((w_up_slot (by decide)).trans ((w_up_slot (by decide)).trans ((w_up_slot (by decide)).trans ((w_up_slot (by decide)).trans ((w_up_slot (by decide)).trans (ht3)))))))))) (fun r139 => ?_)
                                refine wa_iconst ?_
                                refine wa_iadd ?_
                                refine wb_iast 179 rfl (wy_pr rfl) wt_179 (n := 60) ((w_up_slot (by decide)).trans ((w_up_slot (by decide)).trans ((w_up_slot (by decide)).trans ((w_up_slot (by decide)).trans ((w_up_slot (by decide)).trans ((w_up_slot (by decide)).trans ((w_up_slot (by decide)).trans ((w_up_slot (by decide)).trans ((w_up_slot (by decide)).trans ((cl_179 hC))))))))))) (by omega) (by omega) ⟨(by omega), (by omega)⟩ ?_
                                refine wa_return rfl ?_
                                show wJ _ _ _ _ _ _ _ _ _ _
                                refine wa_goto ⟨_, rfl⟩ ?_
                                refine wa_aload_n (n := 0) rfl ?_
                                refine wb_gf5 61 rfl (wy_pr rfl) wt_61 wf_4_1 (v := 162) ((w_up_slot (by decide)).trans ((w_up_slot (by decide)).trans ((w_up_slot (by decide)).trans ((w_up_slot (by decide)).trans ((w_up_slot (by decide)).trans ((w_up_slot (by decide)).trans ((w_up_slot (by decide)).trans ((w_up_slot (by decide)).trans ((w_up_slot (by decide)).trans ((w_up_slot (by decide)).trans (hH))))))))))) (fun r140 => ?_)
                                refine wb_gf4 162 rfl (wy_pr rfl) wt_162 wf_3_3 (v := 185) wl_162_3 ?_
                                refine wa_iconst ?_
                                refine wb_aald5 185 2 rfl rfl (wy_pr rfl) wt_185 (by rw [show _ = _ from ((w_up_slot (by decide)).trans ((w_up_slot (by decide)).trans ((w_up_slot (by decide)).trans ((w_up_slot (by decide)).trans ((w_up_slot (by decide)).trans ((w_up_slot (by decide)).trans ((w_up_slot (by decide)).trans ((w_up_slot (by decide)).trans ((w_up_slot (by decide)).trans ((w_up_slot (by decide)).trans ((cl_185 hC))))))))))))]; omega) wl_185_2 ?_
                                refine wa_aload_n (n := 0) rfl ?_
                                refine wb_gf5 61 rfl (wy_pr rfl) wt_61 wf_4_1 (v := 162) ((w_up_slot (by decide)).trans ((w_up_slot (by decide)).trans ((w_up_slot (by decide)).trans ((w_up_slot (by decide)).trans ((w_up_slot (by decide)).trans ((w_up_slot (by decide)).trans ((w_up_slot (by decide)).trans ((w_up_slot (by decide)).trans ((w_up_slot (by decide)).trans ((w_up_slot (by decide)).trans (hH))))))))))) (fun r141 => ?_)
                                refine wb_gfi 162 rfl (wy_pr rfl) wt_162 wf_3_4 (v := ((ms.length : Int) + 1)) ((w_up_slot (by decide)).trans (w_up_same _ _ _ _)) (fun r142 => ?_)
                                refine wa_iconst ?_
                                refine wa_isub ?_
                                rw [show ((((ms.length : Int) + 1) - 1) : Int) = (ms.length : Int) by omega]
                                refine wa_iload_n (n := 2) rfl ?_
                                refine wa_ifeq (w_rg0 (by omega) (by omega)) ⟨_, rfl⟩ (fun c143 => ?_) (fun c143 => ?_)
                                · skip
                                  refine wa_iconst ?_
                                  refine wa_fall ⟨_, rfl⟩ ?_
                                  refine wb_iast 188 rfl (wy_pr rfl) wt_188 (n := 400) ((w_up_slot (by decide)).trans ((w_up_slot (by decide)).trans ((w_up_slot (by decide)).trans ((w_up_slot (by decide)).trans ((w_up_slot (by decide)).trans ((w_up_slot (by decide)).trans ((w_up_slot (by decide)).trans ((w_up_slot (by decide)).trans ((w_up_slot (by decide)).trans ((w_up_slot (by decide)).trans ((cl_188 hC)))))))))))) (by omega) (by omega) ⟨(by omega), (by omega)⟩ ?_
                                  refine wa_return rfl ?_
                                  show wJ _ _ _ _ _ _ _ _ _ _
                                  refine wa_aload_n (n := 0) rfl ?_
                                  refine wb_gf5 61 rfl (wy_pr rfl) wt_61 wf_4_1 (v := 162) ((w_up_slot (by decide)).trans ((w_up_slot (by decide)).trans ((w_up_slot (by decide)).trans ((w_up_slot (by decide)).trans ((w_up_slot (by decide)).trans ((w_up_slot (by decide)).trans ((w_up_slot (by decide)).trans ((w_up_slot (by decide)).trans ((w_up_slot (by decide)).trans ((w_up_slot (by decide)).trans ((w_up_slot (by decide)).trans (hH)))))))))))) (fun r144 => ?_)
                                  refine wb_gfi 162 rfl (wy_pr rfl) wt_162 wf_3_4 (v := ((ms.length : Int) + 1)) ((w_up_slot (by decide)).trans ((w_up_slot (by decide)).trans (w_up_same _ _ _ _))) (fun r145 => ?_)
                                  refine wa_iconst ?_
                                  refine wa_isub ?_
                                  rw [show ((((ms.length : Int) + 1) - 1) : Int) = (ms.length : Int) by omega]
                                  refine wa_istore (n := 5) rfl ?_
                                  refine wa_aload_n (n := 0) rfl ?_
                                  refine wb_gf5 61 rfl (wy_pr rfl) wt_61 wf_4_1 (v := 162) ((w_up_slot (by decide)).trans ((w_up_slot (by decide)).trans ((w_up_slot (by decide)).trans ((w_up_slot (by decide)).trans ((w_up_slot (by decide)).trans ((w_up_slot (by decide)).trans ((w_up_slot (by decide)).trans ((w_up_slot (by decide)).trans ((w_up_slot (by decide)).trans ((w_up_slot (by decide)).trans ((w_up_slot (by decide)).trans (hH)))))))))))) (fun r146 => ?_)
                                  refine wb_gf4 162 rfl (wy_pr rfl) wt_162 wf_3_3 (v := 185) wl_162_3 ?_
                                  refine wa_iconst ?_
                                  refine wb_aald5 185 1 rfl rfl (wy_pr rfl) wt_185 (by rw [show _ = _ from ((w_up_slot (by decide)).trans ((w_up_slot (by decide)).trans ((w_up_slot (by decide)).trans ((w_up_slot (by decide)).trans ((w_up_slot (by decide)).trans ((w_up_slot (by decide)).trans ((w_up_slot (by decide)).trans ((w_up_slot (by decide)).trans ((w_up_slot (by decide)).trans ((w_up_slot (by decide)).trans ((w_up_slot (by decide)).trans ((cl_185 hC)))))))))))))]; omega) wl_185_1 ?_
                                  refine wa_iload (n := 5) rfl ?_
                                  refine wb_iald 187 rfl (wy_pr rfl) wt_187 (n := 400) ((w_up_slot (by decide)).trans ((w_up_slot (by decide)).trans ((w_up_slot (by decide)).trans ((w_up_slot (by decide)).trans ((w_up_slot (by decide)).trans ((w_up_slot (by decide)).trans ((w_up_slot (by decide)).trans ((w_up_slot (by decide)).trans ((w_up_at (by omega)).trans ((w_up_slot (by decide)).trans ((w_up_slot (by decide)).trans ((cl_187 hC))))))))))))) (by omega) (by omega) (v := 2) ((w_up_slot (by decide)).trans ((w_up_slot (by decide)).trans ((w_up_slot (by decide)).trans ((w_up_slot (by decide)).trans ((w_up_slot (by decide)).trans ((w_up_slot (by decide)).trans ((w_up_slot (by decide)).trans ((w_up_slot (by decide)).trans (w_up_same _ _ _ _))))))))) (fun r147 => ?_)
                                  refine wa_ifeq (w_rg0 (by omega) (by omega)) ⟨_, rfl⟩ (fun c148 => ?_) (fun c148 => ?_)
                                  · skip
                                    exact absurd c148 (by omega)
                                  · skip
                                    refine wa_aload_n (n := 0) rfl ?_
                                    refine wa_iload (n := 5) rfl ?_
                                    have hmsx : mr_all 186 163 T (w_up (w_up (w_up (w_up (w_up (w_up (w_up (w_up (w_up (w_up (w_up S 14 4 ((i + 1 : Nat) : Int)) 186 (ms.length : Int) kc) 187 (ms.length : Int) 2) 189 (ms.length : Int) (9 + kc)) 190 (ms.length : Int) 0) 191 (ms.length : Int) 0) 200 (ms.length : Int) 12) 201 (ms.length : Int) (-1)) 162 4 ((ms.length : Int) + 1)) 179 kc (((ms.length : Int) - (fi : Int)) + 1)) 188 (ms.length : Int) 0) ms := (mr_all_up (mr_all_up (mr_all_up (mr_all_up (mr_all_up (mr_all_up (mr_all_up (mr_all_up (mr_all_up (mr_all_up (mr_all_up hms (by omega) (by omega)) (by omega) (by omega)) (by omega) (by omega)) (by omega) (by omega)) (by omega) (by omega)) (by omega) (by omega)) (by omega) (by omega)) (by omega) (by omega)) (by omega) (by omega)) (by omega) (by omega)) (by omega) (by omega))
                                    have hhd : mr_hd 186 163 T (w_up (w_up (w_up (w_up (w_up (w_up (w_up (w_up (w_up (w_up (w_up S 14 4 ((i + 1 : Nat) : Int)) 186 (ms.length : Int) kc) 187 (ms.length : Int) 2) 189 (ms.length : Int) (9 + kc)) 190 (ms.length : Int) 0) 191 (ms.length : Int) 0) 200 (ms.length : Int) 12) 201 (ms.length : Int) (-1)) 162 4 ((ms.length : Int) + 1)) 179 kc (((ms.length : Int) - (fi : Int)) + 1)) 188 (ms.length : Int) 0) (ms.length : Int) kc 2 0 (9 + kc) (tp T n 1 i) (tp T n 1 i) := ⟨⟨((w_up_slot (by decide)).trans ((w_up_slot (by decide)).trans ((w_up_slot (by decide)).trans ((w_up_slot (by decide)).trans ((w_up_slot (by decide)).trans ((w_up_slot (by decide)).trans ((w_up_slot (by decide)).trans ((w_up_slot (by decide)).trans ((w_up_slot (by decide)).trans (w_up_same _ _ _ _)))))))))), ((w_up_slot (by decide)).trans ((w_up_slot (by decide)).trans ((w_up_slot (by decide)).trans ((w_up_slot (by decide)).trans ((w_up_slot (by decide)).trans ((w_up_slot (by decide)).trans ((w_up_slot (by decide)).trans ((w_up_slot (by decide)).trans (w_up_same _ _ _ _))))))))), (w_up_same _ _ _ _), ((w_up_slot (by decide)).trans ((w_up_slot (by decide)).trans ((w_up_slot (by decide)).trans ((w_up_slot (by decide)).trans ((w_up_slot (by decide)).trans ((w_up_slot (by decide)).trans ((w_up_slot (by decide)).trans (w_up_same _ _ _ _))))))))⟩, ⟨by decide, by decide⟩, fun _ => ⟨((w_up_slot (by decide)).trans ((w_up_slot (by decide)).trans ((w_up_slot (by decide)).trans ((w_up_slot (by decide)).trans (w_up_same _ _ _ _))))), rfl⟩, fun z => absurd rfl z⟩
                                    have hpm0 : pm_I 186 (w_up (w_up (w_up (w_up (w_up (w_up (w_up (w_up (w_up (w_up (w_up S 14 4 ((i + 1 : Nat) : Int)) 186 (ms.length : Int) kc) 187 (ms.length : Int) 2) 189 (ms.length : Int) (9 + kc)) 190 (ms.length : Int) 0) 191 (ms.length : Int) 0) 200 (ms.length : Int) 12) 201 (ms.length : Int) (-1)) 162 4 ((ms.length : Int) + 1)) 179 kc (((ms.length : Int) - (fi : Int)) + 1)) 188 (ms.length : Int) 0) (ms.length : Int) [] 0 := ⟨((w_up_slot (by decide)).trans ((w_up_slot (by decide)).trans ((w_up_slot (by decide)).trans ((w_up_slot (by decide)).trans ((w_up_slot (by decide)).trans ((w_up_slot (by decide)).trans (w_up_same _ _ _ _))))))), ((w_up_slot (by decide)).trans ((w_up_slot (by decide)).trans ((w_up_slot (by decide)).trans ((w_up_slot (by decide)).trans ((w_up_slot (by decide)).trans (w_up_same _ _ _ _)))))), by decide, fun q hq => absurd hq (Nat.not_lt_zero _)⟩
                                    have hn := lx_w_k (k := 12) hB hW hrw (by decide) hwc.1 hnt0
                                    rw [show hwl 12 = tx_25 from rfl] at hn
                                    have z1 : zq B (tp T n 1 i) 237 6 = 1 := by rw [zT_6 hB]; exact hnt0.1
                                    have hs := lx_w_k (k := 11) hB hW hrw (by decide) hwc.1 hnt0
                                    rw [show hwl 11 = tx_23 from rfl] at hs
                                    have hrm0 : rm_L B 261 kc itf (ms.drop fi) ms.length (tp T n 1 i) = rb_L B 261 kc itf (ms.drop fi) ms.length (tp T n 1 i) 0 := rm_o (fun z => absurd (hs.1 z) (by omega))
                                    have hrm3 := hrm0.trans (rb_n z1 (by decide) (hn.2 (by omega)) (by omega) (by omega))
                                    rw [tp_ne (i := i) hB] at hrm3
                                    have h40 := lx_is_kg (i := i + 1) hB (k := 10) (ch := 40) (by decide) sk_10
                                    have hpar : rm_par2 B 261 2 (tp T n 1 i) (tp T n 1 i) (ms.drop fi) (tp T n 1 (i + 1)) = (if kg T n (tp T n 1 (i + 1)) = 10 then pk_L B 2 (tp T n 1 i) (tp T n 1 i) (ms.drop fi) (pq_r B 261 (tp T n 1 (i + 1 + 1))) else .inl (1, (tp T n 1 (i + 1)))) := by
                                      unfold rm_par2
                                      by_cases hq : kg T n (tp T n 1 (i + 1)) = 10
                                      · rw [if_pos (h40.2 hq), if_pos hq, tp_ne (i := i + 1) hB]
                                      · rw [if_neg (fun z => hq (h40.1 z)), if_neg hq]
                                    rw [hpar] at hrm3
                                    generalize hRR : (if kg T n (tp T n 1 (i + 1)) = 10 then pk_L B 2 (tp T n 1 i) (tp T n 1 i) (ms.drop fi) (pq_r B 261 (tp T n 1 (i + 1 + 1))) else .inl (1, (tp T n 1 (i + 1)))) = RR at hrm3
                                    have hrp := rp_162 (xs := xs) (M := fun _ => False) (d := d + 1) (S := (w_up (w_up (w_up (w_up (w_up (w_up (w_up (w_up (w_up (w_up (w_up S 14 4 ((i + 1 : Nat) : Int)) 186 (ms.length : Int) kc) 187 (ms.length : Int) 2) 189 (ms.length : Int) (9 + kc)) 190 (ms.length : Int) 0) 191 (ms.length : Int) 0) 200 (ms.length : Int) 12) 201 (ms.length : Int) (-1)) 162 4 ((ms.length : Int) + 1)) 179 kc (((ms.length : Int) - (fi : Int)) + 1)) 188 (ms.length : Int) 0)) (i := i + 1) (ms := ms) (kc := kc) (so := 2) (st := 0) (ty := (9 + kc)) (f0 := (tp T n 1 i)) (e0 := (tp T n 1 i)) (fi := fi) (hx_up (hx_up (hx_up (hx_up (hx_up (hx_up (hx_up (hx_up (hx_up (hx_up (hx_up hx (by unfold hx_o; omega)) (by unfold hx_o; omega)) (by unfold hx_o; omega)) (by unfold hx_o; omega)) (by unfold hx_o; omega)) (by unfold hx_o; omega)) (by unfold hx_o; omega)) (by unfold hx_o; omega)) (by unfold hx_o; omega)) (by unfold hx_o; omega)) (by unfold hx_o; omega)) (show cx_P T n c (i + 1) (w_up (w_up (w_up (w_up (w_up (w_up (w_up (w_up (w_up (w_up (w_up S 14 4 ((i + 1 : Nat) : Int)) 186 (ms.length : Int) kc) 187 (ms.length : Int) 2) 189 (ms.length : Int) (9 + kc)) 190 (ms.length : Int) 0) 191 (ms.length : Int) 0) 200 (ms.length : Int) 12) 201 (ms.length : Int) (-1)) 162 4 ((ms.length : Int) + 1)) 179 kc (((ms.length : Int) - (fi : Int)) + 1)) 188 (ms.length : Int) 0) from ⟨((w_up_slot (by decide)).trans ((w_up_slot (by decide)).trans ((w_up_slot (by decide)).trans ((w_up_slot (by decide)).trans ((w_up_slot (by decide)).trans ((w_up_slot (by decide)).trans ((w_up_slot (by decide)).trans ((w_up_slot (by decide)).trans ((w_up_slot (by decide)).trans ((w_up_slot (by decide)).trans (w_up_same _ _ _ _))))))))))), hg1⟩) hmsx (by omega) hhd (by decide) hkc ⟨(((w_up_slot (by decide)).trans ((w_up_slot (by decide)).trans ((w_up_slot (by decide)).trans ((w_up_slot (by decide)).trans ((w_up_slot (by decide)).trans ((w_up_slot (by decide)).trans ((w_up_slot (by decide)).trans ((w_up_slot (by decide)).trans ((w_up_slot (by decide)).trans ((w_up_slot (by decide)).trans (w_up_slot (by decide))))))))))))).trans hfi.1, hfi.2⟩ hpm0
                                    rw [hRR] at hrp
                                    refine wa_cv 61 rfl (wy_pr rfl) wt_61 (M2 := fun _ => False) rfl at_XT_readParameters ⟨_, rfl⟩ rfl rfl ⟨trivial, (Or.inr ⟨wy_pr rfl, fun q => q⟩), trivial, trivial, trivial⟩ trivial (fun _ _ q => False.elim q) (hrp) (fun oq149 Sq149 hp150 q149 => ?_)
                                    match RR, hrm3, q149 with
                                    | .inl (e, qq), hrm3, hrq =>
                                      obtain ⟨v, Z0, rfl, g1, g2⟩ := hrq
                                      refine ⟨rfl, ?_⟩
                                      exact hf e qq v Z0 _ (by rw [mb_f_s, if_neg (fun z => absurd (h125.1 z) (by omega)), hrm3]; rfl) (fun j x a1 a2 a3 a4 => (g1 j x a1 (by omega)).trans ((fun j x a1 a2 a3 a4 => (w_up_no (by omega)).trans ((w_up_no (by omega)).trans ((w_up_no (by omega)).trans ((w_up_no (by omega)).trans ((w_up_no (by omega)).trans ((w_up_no (by omega)).trans ((w_up_no (by omega)).trans ((w_up_no (by omega)).trans ((w_up_no (by omega)).trans ((w_up_no (by omega)).trans ((w_up_no (by omega)).trans (rfl)))))))))))) j x a1 a2 a3 a4)) g2
                                    | .inr (qq, l, vv), hrm3, hrq =>
                                      obtain ⟨rfl, g1, ⟨i2, g2, rfl⟩, g3⟩ := hrq
                                      show wJ _ _ _ _ _ _ _ _ _ _
                                      refine wa_fall ⟨_, rfl⟩ ?_
                                      have hxz : hx_I 261 162 176 181 163 T n c B Sq149 := hx_ag (hx_up (hx_up (hx_up (hx_up (hx_up (hx_up (hx_up (hx_up (hx_up (hx_up (hx_up hx (by unfold hx_o; omega)) (by unfold hx_o; omega)) (by unfold hx_o; omega)) (by unfold hx_o; omega)) (by unfold hx_o; omega)) (by unfold hx_o; omega)) (by unfold hx_o; omega)) (by unfold hx_o; omega)) (by unfold hx_o; omega)) (by unfold hx_o; omega)) (by unfold hx_o; omega)) (by decide) (g1 14 3 (by omega) (by omega)) (gI_ag2 (gI_up (gI_up (gI_up (gI_up (gI_up (gI_up (gI_up (gI_up (gI_up (gI_up (gI_up hI (by omega) (by omega) (by omega)) (by omega) (by omega) (by omega)) (by omega) (by omega) (by omega)) (by omega) (by omega) (by omega)) (by omega) (by omega) (by omega)) (by omega) (by omega) (by omega)) (by omega) (by omega) (by omega)) (by omega) (by omega) (by omega)) (by omega) (by omega) (by omega)) (by omega) (by omega) (by omega)) (by omega) (by omega) (by omega)) (fun j hj => g1 j (-1) (by omega) (by omega)) (fun x hx => g1 238 x (by omega) (by omega)) (g1 14 5 (by omega) (by omega))) (fun j hj => funext fun x => g1 j x (by omega) (by omega)) (g1 162 2 (by omega) (by omega)) (g1 61 1 (by omega) (by omega)) (fun z hz => (g1 z.1 (-1) (by omega) (by omega)).trans ((hx_R (hx_up (hx_up (hx_up (hx_up (hx_up (hx_up (hx_up (hx_up (hx_up (hx_up (hx_up hx (by unfold hx_o; omega)) (by unfold hx_o; omega)) (by unfold hx_o; omega)) (by unfold hx_o; omega)) (by unfold hx_o; omega)) (by unfold hx_o; omega)) (by unfold hx_o; omega)) (by unfold hx_o; omega)) (by unfold hx_o; omega)) (by unfold hx_o; omega)) (by unfold hx_o; omega))).2.2.1 z hz))
                                      refine wJ_S (htail Sq149 i2 2 0 (9 + kc) vv (tp T n 1 i) (tp T n 1 i) l hxz g2 (mr_all_pp hmsx g1 (by decide)) (by omega) (mr_of (mr_hd_ag hhd (fun x hx => g1 _ _ (by omega) (by omega)) (fun x hx => funext fun y => g1 _ _ (by omega) (by omega))) g3) (fun j x a1 a2 a3 a4 => (g1 j x a1 (by omega)).trans ((fun j x a1 a2 a3 a4 => (w_up_no (by omega)).trans ((w_up_no (by omega)).trans ((w_up_no (by omega)).trans ((w_up_no (by omega)).trans ((w_up_no (by omega)).trans ((w_up_no (by omega)).trans ((w_up_no (by omega)).trans ((w_up_no (by omega)).trans ((w_up_no (by omega)).trans ((w_up_no (by omega)).trans ((w_up_no (by omega)).trans (rfl)))))))))))) j x a1 a2 a3 a4)) ((g1 162 4 (by omega) (by omega)).trans (((w_up_slot (by decide)).trans ((w_up_slot (by decide)).trans (w_up_same _ _ _ _))))) ((g1 179 kc (by omega) (by omega)).trans (((w_up_slot (by decide)).trans (w_up_same _ _ _ _)))) ((g1 180 kc (by omega) (by omega)).trans ((((w_up_slot (by decide)).trans ((w_up_slot (by decide)).trans ((w_up_slot (by decide)).trans ((w_up_slot (by decide)).trans ((w_up_slot (by decide)).trans ((w_up_slot (by decide)).trans ((w_up_slot (by decide)).trans ((w_up_slot (by decide)).trans ((w_up_slot (by decide)).trans ((w_up_slot (by decide)).trans (w_up_slot (by decide))))))))))))).trans hfi.1)) hrm3 (by omega)) ⟨rfl, rfl, rfl, trivial⟩
                                · skip
                                  exact absurd c143 (by omega)
                            · skip
                              refine wa_aload_n (n := 0) rfl ?_
                              refine wa_bipush (w_rg2 (by omega) (by omega)) ?_
                              refine wa_cv 61 rfl (wy_pr rfl) wt_61 (M2 := fun _ => False) rfl at_XT_refuse ⟨_, rfl⟩ rfl rfl ⟨trivial, trivial, trivial, (Or.inr ⟨wy_pr rfl, fun q => q⟩), trivial, trivial⟩ trivial (fun _ _ q => False.elim q) (rf_c (S := S) (k := 6) (p := (tp T n 1 i)) (i := (i : Int)) hI (hpos4) (h16_0) ⟨by omega, by have e : S 16 (-1) = S 16 (-1) := rfl; omega⟩ ⟨by omega, by omega⟩ ⟨by omega, by omega⟩) (fun oq152 Sq152 hp153 q152 => ?_)
                              rcases q152 with ⟨v, rfl, rz151⟩
                              have hrz := rz151
                              have hkind : (6 : Int) = 6 := rfl
                              refine ⟨rfl, ?_⟩
                              refine ⟨rfl, ?_⟩
                              have hn := lx_w_k (k := 12) hB hW hrw (by decide) hwc.1 hnt0
                              rw [show hwl 12 = tx_25 from rfl] at hn
                              have z1 : zq B (tp T n 1 i) 237 6 = 1 := by rw [zT_6 hB]; exact hnt0.1
                              have hs := lx_w_k (k := 11) hB hW hrw (by decide) hwc.1 hnt0
                              rw [show hwl 11 = tx_23 from rfl] at hs
                              have hrm0 : rm_L B 261 kc itf (ms.drop fi) ms.length (tp T n 1 i) = rb_L B 261 kc itf (ms.drop fi) ms.length (tp T n 1 i) 0 := rm_o (fun z => absurd (hs.1 z) (by omega))
                              have hr : rm_L B 261 kc itf (ms.drop fi) ms.length (tp T n 1 i) = .inl (6, (tp T n 1 i)) := hrm0.trans (rb_6 z1 (by omega) (hn.2 (by omega)) (by omega) (by omega))
                              exact hf 6 _ v _ _ (by rw [mb_f_s, if_neg (fun z => absurd (h125.1 z) (by omega)), hr]) (fun j x a1 a2 a3 a4 => rfl) hrz
                        · skip
                          refine wa_aload_n (n := 0) rfl ?_
                          refine wa_iconst ?_
                          refine wa_cv 61 rfl (wy_pr rfl) wt_61 (M2 := fun _ => False) rfl at_XT_refuse ⟨_, rfl⟩ rfl rfl ⟨trivial, trivial, trivial, (Or.inr ⟨wy_pr rfl, fun q => q⟩), trivial, trivial⟩ trivial (fun _ _ q => False.elim q) (rf_c (S := S) (k := 5) (p := (tp T n 1 i)) (i := (i : Int)) hI (hpos4) (h16_0) ⟨by omega, by have e : S 16 (-1) = S 16 (-1) := rfl; omega⟩ ⟨by omega, by omega⟩ ⟨by omega, by omega⟩) (fun oq155 Sq155 hp156 q155 => ?_)
                          rcases q155 with ⟨v, rfl, rz154⟩
                          have hrz := rz154
                          have hkind : (5 : Int) = 5 := rfl
                          refine ⟨rfl, ?_⟩
                          refine ⟨rfl, ?_⟩
                          have hn := lx_w_k (k := 12) hB hW hrw (by decide) hwc.1 hnt0
                          rw [show hwl 12 = tx_25 from rfl] at hn
                          have z1 : zq B (tp T n 1 i) 237 6 = 1 := by rw [zT_6 hB]; exact hnt0.1
                          have hs := lx_w_k (k := 11) hB hW hrw (by decide) hwc.1 hnt0
                          rw [show hwl 11 = tx_23 from rfl] at hs
                          have hrm0 : rm_L B 261 kc itf (ms.drop fi) ms.length (tp T n 1 i) = rb_L B 261 kc itf (ms.drop fi) ms.length (tp T n 1 i) 0 := rm_o (fun z => absurd (hs.1 z) (by omega))
                          have hkk : lx_w (zq B (tp T n 1 i)) tx_25 = true ∨ (0 ≤ pl_of (zq B (tp T n 1 i)) tx_27 ∨ 0 ≤ ch_of (zq B (tp T n 1 i)) 261) := by first | exact Or.inl (hn.2 (by omega)) | exact Or.inr (ty_hy (av := 1) hyy0 (Or.inr (by decide))).2.2.1
                          have hr : rm_L B 261 kc itf (ms.drop fi) ms.length (tp T n 1 i) = .inl (5, (tp T n 1 i)) := hrm0.trans (rb_5 z1 (fun z => by have := hn.1 z.2; omega) hkk (by omega))
                          exact hf 5 _ v _ _ (by rw [mb_f_s, if_neg (fun z => absurd (h125.1 z) (by omega)), hr]) (fun j x a1 a2 a3 a4 => rfl) hrz
                    · skip
                      exact absurd c122 (by omega)
              · skip
                have hkg := hw12
                refine ⟨rfl, ?_⟩
                refine ⟨rfl, ?_⟩
                exfalso; omega
            · skip
              exact absurd c11 (by omega)
          · skip
            refine wa_iconst ?_
            refine wa_goto ⟨_, rfl⟩ ?_
            refine wa_istore_n (n := 2) rfl ?_
            refine wa_iload_n (n := 2) rfl ?_
            refine wa_ifeq (w_rg0 (by omega) (by omega)) ⟨_, rfl⟩ (fun c157 => ?_) (fun c157 => ?_)
            · skip
              exact absurd c157 (by omega)
            · skip
              refine wa_iload_n (n := 1) rfl ?_
              refine wa_ifeq (w_rg0 (by omega) (by omega)) ⟨_, rfl⟩ (fun c158 => ?_) (fun c158 => ?_)
              · skip
                refine wa_aload_n (n := 0) rfl ?_
                refine wb_gf4 61 rfl (wy_pr rfl) wt_61 wf_4_0 (v := 14) wl_61_0 ?_
                refine wa_cv 14 rfl (wy_pr rfl) wt_14 (M2 := fun _ => False) rfl at_XR_next ⟨_, rfl⟩ rfl rfl ⟨trivial, (Or.inr ⟨wy_pr rfl, fun q => q⟩), trivial, trivial⟩ trivial (fun _ _ q => False.elim q) (nx_c (S := S) (hx_T hx) (show cx_P T n c (i) S from ⟨(hpos4), hg0⟩) rfl hI (by omega)) (fun oq159 Sq159 hp160 q159 => ?_)
                rcases q159 with ⟨rfl, rfl⟩
                show wJ _ _ _ _ _ _ _ _ _ _
                have hg1 : pg T n c (i + 1) := pg_next (i := i) hT hg0 (by omega) (by omega)
                have hA1 := pg_at hT hg1
                have h16_1 := hA1.1
                have h15_1 := hA1.2.1
                have hpr1 := hA1.2.2
                have hkr1 := kg_rg T n (tp T n 1 (i + 1))
                have hic1 := hg1.1
                have hlt1 := tp_lt (i := i) hT hg0 (by omega) (by omega)
                refine wa_fall ⟨_, rfl⟩ ?_
                refine wa_aload_n (n := 0) rfl ?_
                refine wa_cv 61 rfl (wy_pr rfl) wt_61 (M2 := fun _ => False) rfl at_XT_wordHere ⟨_, rfl⟩ rfl rfl ⟨trivial, (Or.inr ⟨wy_pr rfl, fun q => q⟩), trivial, trivial⟩ trivial (fun _ _ q => False.elim q) (wh_c (S := (w_up S 14 4 ((i + 1 : Nat) : Int))) (hx_T (hx_up hx (by unfold hx_o; omega))) (show cx_P T n c (i + 1) (w_up S 14 4 ((i + 1 : Nat) : Int)) from ⟨(w_up_same _ _ _ _), hg1⟩) rfl (gI_up hI (by omega) (by omega) (by omega))) (fun oq163 Sq163 hp164 q163 => ?_)
                rcases q163 with ⟨hw161, rfl, rfl⟩ | ⟨hw161, v, rfl, hrz⟩
                · skip
                  show wJ _ _ _ _ _ _ _ _ _ _
                  show wJ _ _ _ _ _ _ _ ((0, S 17 ((i + 1 : Nat) : Int)) :: _) _ _
                  have hnt1 : nt_I S 163 T n (tp T n 1 (i + 1)) (S 17 ((i + 1 : Nat) : Int)) := pg_nt hT hg1 hw161
                  have hnv1 := hnt1.2.1
                  refine wa_bipush (w_rg2 (by omega) (by omega)) ?_
                  refine wa_icmpne (w_rg0 (by omega) (by omega)) (w_rg0 (by omega) (by omega)) ⟨_, rfl⟩ (fun c165 => ?_) (fun c165 => ?_)
                  · skip
                    refine wa_iconst ?_
                    refine wa_fall ⟨_, rfl⟩ ?_
                    refine wa_istore_n (n := 3) rfl ?_
                    refine wa_iload_n (n := 3) rfl ?_
                    refine wa_ifeq (w_rg0 (by omega) (by omega)) ⟨_, rfl⟩ (fun c166 => ?_) (fun c166 => ?_)
                    · skip
                      refine wa_iload_n (n := 3) rfl ?_
                      refine wa_ifeq (w_rg0 (by omega) (by omega)) ⟨_, rfl⟩ (fun c167 => ?_) (fun c167 => ?_)
                      · skip
                        refine wa_aload_n (n := 0) rfl ?_
                        refine wa_cv 61 rfl (wy_pr rfl) wt_61 (M2 := fun _ => False) rfl at_XT_typeHere ⟨_, rfl⟩ rfl rfl ⟨trivial, trivial, (Or.inr ⟨wy_pr rfl, fun q => q⟩), trivial, trivial⟩ trivial (fun _ _ q => False.elim q) (th_162 (S := (w_up S 14 4 ((i + 1 : Nat) : Int))) (B := B) (hx_up hx (by unfold hx_o; omega)) (show cx_P T n c (i + 1) (w_up S 14 4 ((i + 1 : Nat) : Int)) from ⟨(w_up_same _ _ _ _), hg1⟩)) (fun oq169 Sq169 hp170 q169 => ?_)
                        rcases q169 with ⟨y, hy168, rfl, hy2, rfl⟩ | ⟨e, hy168, v, rfl, hrz⟩
                        · skip
                          show wJ _ _ _ _ _ _ _ _ _ _
                          have hyy1 := hy168
                          have hkg5_1 := hy2
                          refine wa_fall ⟨_, rfl⟩ ?_
                          refine wa_istore (n := 4) rfl ?_
                          refine wa_aload_n (n := 0) rfl ?_
                          refine wb_gf5 61 rfl (wy_pr rfl) wt_61 wf_4_1 (v := 162) ((w_up_slot (by decide)).trans (hH)) (fun r171 => ?_)
                          refine wb_gfi 162 rfl (wy_pr rfl) wt_162 wf_3_4 (v := (ms.length : Int)) ((w_up_slot (by decide)).trans (hmc)) (fun r172 => ?_)
                          refine wa_sipush (by omega) ?_
                          refine wa_icmpne (w_rg0 (by omega) (by omega)) (w_rg0 (by omega) (by omega)) ⟨_, rfl⟩ (fun c173 => ?_) (fun c173 => ?_)
                          · skip
                            refine wa_iload_n (n := 3) rfl ?_
                            refine wa_ifeq (w_rg0 (by omega) (by omega)) ⟨_, rfl⟩ (fun c174 => ?_) (fun c174 => ?_)
                            · skip
                              refine wa_aload_n (n := 0) rfl ?_
                              refine wb_gf4 61 rfl (wy_pr rfl) wt_61 wf_4_0 (v := 14) wl_61_0 ?_
                              refine wa_cv 14 rfl (wy_pr rfl) wt_14 (M2 := fun _ => False) rfl at_XR_next ⟨_, rfl⟩ rfl rfl ⟨trivial, trivial, trivial, (Or.inr ⟨wy_pr rfl, fun q => q⟩), trivial, trivial⟩ trivial (fun _ _ q => False.elim q) (nx_c (S := (w_up S 14 4 ((i + 1 : Nat) : Int))) (hx_T (hx_up hx (by unfold hx_o; omega))) (show cx_P T n c (i + 1) (w_up S 14 4 ((i + 1 : Nat) : Int)) from ⟨(w_up_same _ _ _ _), hg1⟩) rfl (gI_up hI (by omega) (by omega) (by omega)) (by omega)) (fun oq175 Sq175 hp176 q175 => ?_)
                              rcases q175 with ⟨rfl, rfl⟩
                              show wJ _ _ _ _ _ _ _ _ _ _
                              have hg2 : pg T n c (i + 1 + 1) := pg_next (i := i + 1) hT hg1 (by omega) (by omega)
                              have hA2 := pg_at hT hg2
                              have h16_2 := hA2.1
                              have h15_2 := hA2.2.1
                              have hpr2 := hA2.2.2
                              have hkr2 := kg_rg T n (tp T n 1 (i + 1 + 1))
                              have hic2 := hg2.1
                              have hlt2 := tp_lt (i := i + 1) hT hg1 (by omega) (by omega)
                              refine wa_iload_n (n := 3) rfl ?_
                              refine wa_ifeq (w_rg0 (by omega) (by omega)) ⟨_, rfl⟩ (fun c177 => ?_) (fun c177 => ?_)
                              · skip
                                refine wa_aload_n (n := 0) rfl ?_
                                refine wa_iload_n (n := 1) rfl ?_
                                refine wa_iload (n := 4) rfl ?_
                                refine wa_cv 61 rfl (wy_pr rfl) wt_61 (M2 := fun _ => False) rfl at_XT_readName ⟨_, rfl⟩ rfl rfl ⟨trivial, trivial, trivial, (Or.inr ⟨wy_pr rfl, fun q => q⟩), trivial, trivial⟩ trivial (fun _ _ q => False.elim q) ?_ (fun _ _ _ q => q)
                                refine wa_aload_n (n := 0) rfl ?_
                                refine wa_cv 61 rfl (wy_pr rfl) wt_61 (M2 := fun _ => False) rfl at_XT_wordHere ⟨_, rfl⟩ rfl rfl ⟨(Or.inr ⟨wy_pr rfl, fun q => q⟩), trivial, trivial, trivial⟩ trivial (fun _ _ q => False.elim q) (wh_c (S := (w_up (w_up S 14 4 ((i + 1 : Nat) : Int)) 14 4 ((i + 1 + 1 : Nat) : Int))) (hx_T (hx_up (hx_up hx (by unfold hx_o; omega)) (by unfold hx_o; omega))) (show cx_P T n c (i + 1 + 1) (w_up (w_up S 14 4 ((i + 1 : Nat) : Int)) 14 4 ((i + 1 + 1 : Nat) : Int)) from ⟨(w_up_same _ _ _ _), hg2⟩) rfl (gI_up (gI_up hI (by omega) (by omega) (by omega)) (by omega) (by omega) (by omega))) (fun oq180 Sq180 hp181 q180 => ?_)
                                rcases q180 with ⟨hw178, rfl, rfl⟩ | ⟨hw178, v, rfl, hrz⟩
                                · skip
                                  show wJ _ _ _ _ _ _ _ _ _ _
                                  show wJ _ _ _ _ _ _ _ ((0, S 17 ((i + 1 + 1 : Nat) : Int)) :: _) _ _
                                  have hnt2 : nt_I S 163 T n (tp T n 1 (i + 1 + 1)) (S 17 ((i + 1 + 1 : Nat) : Int)) := pg_nt hT hg2 hw178
                                  have hnv2 := hnt2.2.1
                                  refine wa_istore_n (n := 3) rfl ?_
                                  refine wa_iload_n (n := 3) rfl ?_
                                  refine wa_bipush (w_rg2 (by omega) (by omega)) ?_
                                  refine wa_icmpge (w_rg0 (by omega) (by omega)) (w_rg0 (by omega) (by omega)) ⟨_, rfl⟩ (fun c182 => ?_) (fun c182 => ?_)
                                  · skip
                                    refine wa_aload_n (n := 0) rfl ?_
                                    refine wb_gf4 61 rfl (wy_pr rfl) wt_61 wf_4_0 (v := 14) wl_61_0 ?_
                                    refine wa_cv 14 rfl (wy_pr rfl) wt_14 (M2 := fun _ => False) rfl at_XR_kindBehind ⟨_, rfl⟩ rfl rfl ⟨trivial, (Or.inr ⟨wy_pr rfl, fun q => q⟩), trivial, trivial, trivial⟩ trivial (fun _ _ q => False.elim q) (kb_c (S := (w_up (w_up S 14 4 ((i + 1 : Nat) : Int)) 14 4 ((i + 1 + 1 : Nat) : Int))) (hx_T (hx_up (hx_up hx (by unfold hx_o; omega)) (by unfold hx_o; omega))) (show cx_P T n c (i + 1 + 1) (w_up (w_up S 14 4 ((i + 1 : Nat) : Int)) 14 4 ((i + 1 + 1 : Nat) : Int)) from ⟨(w_up_same _ _ _ _), hg2⟩) (by omega) (by omega)) (fun oq183 Sq183 hp184 q183 => ?_)
                                    rcases q183 with ⟨rfl, rfl⟩
                                    show wJ _ _ _ _ _ _ _ _ _ _
                                    have hkrb := kg_rg T n (tp T n 1 (i + 1 + 1 + 1))
                                    refine wa_bipush (w_rg2 (by omega) (by omega)) ?_
                                    refine wa_icmpne (w_rg0 (by omega) (by omega)) (w_rg0 (by omega) (by omega)) ⟨_, rfl⟩ (fun c185 => ?_) (fun c185 => ?_)
                                    · skip
                                      refine wa_iconst ?_
                                      refine wa_fall ⟨_, rfl⟩ ?_
                                      refine wa_istore (n := 4) rfl ?_
                                      refine wa_iload (n := 4) rfl ?_
                                      refine wa_ifeq (w_rg0 (by omega) (by omega)) ⟨_, rfl⟩ (fun c186 => ?_) (fun c186 => ?_)
                                      · skip
                                        refine wa_iload (n := 4) rfl ?_
                                        refine wa_ifeq (w_rg0 (by omega) (by omega)) ⟨_, rfl⟩ (fun c187 => ?_) (fun c187 => ?_)
                                        · skip
                                          refine wa_aload_n (n := 0) rfl ?_
                                          refine wb_gf4 61 rfl (wy_pr rfl) wt_61 wf_4_0 (v := 14) wl_61_0 ?_
                                          refine wa_cv 14 rfl (wy_pr rfl) wt_14 (M2 := fun _ => False) rfl at_XR_next ⟨_, rfl⟩ rfl rfl ⟨trivial, trivial, (Or.inr ⟨wy_pr rfl, fun q => q⟩), trivial, trivial, trivial⟩ trivial (fun _ _ q => False.elim q) (nx_c (S := (w_up (w_up S 14 4 ((i + 1 : Nat) : Int)) 14 4 ((i + 1 + 1 : Nat) : Int))) (hx_T (hx_up (hx_up hx (by unfold hx_o; omega)) (by unfold hx_o; omega))) (show cx_P T n c (i + 1 + 1) (w_up (w_up S 14 4 ((i + 1 : Nat) : Int)) 14 4 ((i + 1 + 1 : Nat) : Int)) from ⟨(w_up_same _ _ _ _), hg2⟩) rfl (gI_up (gI_up hI (by omega) (by omega) (by omega)) (by omega) (by omega) (by omega)) (by omega)) (fun oq188 Sq188 hp189 q188 => ?_)
                                          rcases q188 with ⟨rfl, rfl⟩
                                          show wJ _ _ _ _ _ _ _ _ _ _
                                          have hg3 : pg T n c (i + 1 + 1 + 1) := pg_next (i := i + 1 + 1) hT hg2 (by omega) (by omega)
                                          have hA3 := pg_at hT hg3
                                          have h16_3 := hA3.1
                                          have h15_3 := hA3.2.1
                                          have hpr3 := hA3.2.2
                                          have hkr3 := kg_rg T n (tp T n 1 (i + 1 + 1 + 1))
                                          have hic3 := hg3.1
                                          have hlt3 := tp_lt (i := i + 1 + 1) hT hg2 (by omega) (by omega)
                                          refine wa_aload_n (n := 0) rfl ?_
                                          refine wb_gf5 61 rfl (wy_pr rfl) wt_61 wf_4_1 (v := 162) ((w_up_slot (by decide)).trans ((w_up_slot (by decide)).trans ((w_up_slot (by decide)).trans (hH)))) (fun r190 => ?_)
                                          refine wa_iload (n := 4) rfl ?_
                                          refine wa_ifeq (w_rg0 (by omega) (by omega)) ⟨_, rfl⟩ (fun c191 => ?_) (fun c191 => ?_)
                                          · skip
                                            refine wa_iconst ?_
                                            refine wa_fall ⟨_, rfl⟩ ?_
                                            refine wa_iload_n (n := 2) rfl ?_
                                            refine wa_iload_n (n := 3) rfl ?_
                                            refine wa_cv 162 rfl (wy_pr rfl) wt_162 (M2 := fun _ => False) rfl at_XO_addMember ⟨_, rfl⟩ rfl rfl ⟨trivial, trivial, (Or.inr ⟨wy_pr rfl, fun q => q⟩), trivial, trivial, trivial⟩ trivial (fun _ _ q => False.elim q) ?_ (fun _ _ _ q => q)
                                            refine wa_aload_n (n := 0) rfl ?_
                                            refine wb_gfi 162 rfl (wy_pr rfl) wt_162 wf_3_4 (v := (ms.length : Int)) ((w_up_slot (by decide)).trans ((w_up_slot (by decide)).trans ((w_up_slot (by decide)).trans (hmc)))) (fun r192 => ?_)
                                            refine wa_istore (n := 4) rfl ?_
                                            refine wa_aload_n (n := 0) rfl ?_
                                            refine wb_gf4 162 rfl (wy_pr rfl) wt_162 wf_3_3 (v := 185) wl_162_3 ?_
                                            refine wa_iconst ?_
                                            refine wb_aald5 185 0 rfl rfl (wy_pr rfl) wt_185 (by rw [show _ = _ from ((w_up_slot (by decide)).trans ((w_up_slot (by decide)).trans ((w_up_slot (by decide)).trans ((cl_185 hC)))))]; omega) wl_185_0 ?_
                                            refine wa_iload (n := 4) rfl ?_
                                            refine wa_aload_n (n := 0) rfl ?_
                                            refine wb_gfi 162 rfl (wy_pr rfl) wt_162 wf_3_2 (v := (kc + 1)) ((w_up_slot (by decide)).trans ((w_up_slot (by decide)).trans ((w_up_slot (by decide)).trans (hkc1)))) (fun r193 => ?_)
                                            refine wa_iconst ?_
                                            refine wa_isub ?_
                                            rw [show (((kc + 1) - 1) : Int) = kc by omega]
                                            refine wb_iast 186 rfl (wy_pr rfl) wt_186 (n := 400) ((w_up_slot (by decide)).trans ((w_up_slot (by decide)).trans ((w_up_slot (by decide)).trans ((cl_186 hC))))) (by omega) (by omega) ⟨(by omega), (by omega)⟩ ?_
                                            refine wa_aload_n (n := 0) rfl ?_
                                            refine wb_gf4 162 rfl (wy_pr rfl) wt_162 wf_3_3 (v := 185) wl_162_3 ?_
                                            refine wa_iconst ?_
                                            refine wb_aald5 185 1 rfl rfl (wy_pr rfl) wt_185 (by rw [show _ = _ from ((w_up_slot (by decide)).trans ((w_up_slot (by decide)).trans ((w_up_slot (by decide)).trans ((w_up_slot (by decide)).trans ((cl_185 hC))))))]; omega) wl_185_1 ?_
                                            refine wa_iload (n := 4) rfl ?_
                                            refine wa_iload_n (n := 1) rfl ?_
                                            refine wb_iast 187 rfl (wy_pr rfl) wt_187 (n := 400) ((w_up_slot (by decide)).trans ((w_up_slot (by decide)).trans ((w_up_slot (by decide)).trans ((w_up_slot (by decide)).trans ((cl_187 hC)))))) (by omega) (by omega) ⟨(by omega), (by omega)⟩ ?_
                                            refine wa_aload_n (n := 0) rfl ?_
                                            refine wb_gf4 162 rfl (wy_pr rfl) wt_162 wf_3_3 (v := 185) wl_162_3 ?_
                                            refine wa_iconst ?_
                                            refine wb_aald5 185 3 rfl rfl (wy_pr rfl) wt_185 (by rw [show _ = _ from ((w_up_slot (by decide)).trans ((w_up_slot (by decide)).trans ((w_up_slot (by decide)).trans ((w_up_slot (by decide)).trans ((w_up_slot (by decide)).trans ((cl_185 hC)))))))]; omega) wl_185_3 ?_
                                            refine wa_iload (n := 4) rfl ?_
                                            refine wa_iload_n (n := 2) rfl ?_
                                            refine wb_iast 189 rfl (wy_pr rfl) wt_189 (n := 400) ((w_up_slot (by decide)).trans ((w_up_slot (by decide)).trans ((w_up_slot (by decide)).trans ((w_up_slot (by decide)).trans ((w_up_slot (by decide)).trans ((cl_189 hC))))))) (by omega) (by omega) ⟨(by omega), (by omega)⟩ ?_
                                            refine wa_aload_n (n := 0) rfl ?_
                                            refine wb_gf4 162 rfl (wy_pr rfl) wt_162 wf_3_3 (v := 185) wl_162_3 ?_
                                            refine wa_iconst ?_
                                            refine wb_aald5 185 4 rfl rfl (wy_pr rfl) wt_185 (by rw [show _ = _ from ((w_up_slot (by decide)).trans ((w_up_slot (by decide)).trans ((w_up_slot (by decide)).trans ((w_up_slot (by decide)).trans ((w_up_slot (by decide)).trans ((w_up_slot (by decide)).trans ((cl_185 hC))))))))]; omega) wl_185_4 ?_
                                            refine wa_iload (n := 4) rfl ?_
                                            refine wa_iconst ?_
                                            refine wb_iast 190 rfl (wy_pr rfl) wt_190 (n := 400) ((w_up_slot (by decide)).trans ((w_up_slot (by decide)).trans ((w_up_slot (by decide)).trans ((w_up_slot (by decide)).trans ((w_up_slot (by decide)).trans ((w_up_slot (by decide)).trans ((cl_190 hC)))))))) (by omega) (by omega) ⟨(by omega), (by omega)⟩ ?_
                                            refine wa_aload_n (n := 0) rfl ?_
                                            refine wb_gf4 162 rfl (wy_pr rfl) wt_162 wf_3_3 (v := 185) wl_162_3 ?_
                                            refine wa_iconst ?_
                                            refine wb_aald5 185 5 rfl rfl (wy_pr rfl) wt_185 (by rw [show _ = _ from ((w_up_slot (by decide)).trans ((w_up_slot (by decide)).trans ((w_up_slot (by decide)).trans ((w_up_slot (by decide)).trans ((w_up_slot (by decide)).trans ((w_up_slot (by decide)).trans ((w_up_slot (by decide)).trans ((cl_185 hC)))))))))]; omega) wl_185_5 ?_
                                            refine wa_iload (n := 4) rfl ?_
                                            refine wa_iconst ?_
                                            refine wb_iast 191 rfl (wy_pr rfl) wt_191 (n := 400) ((w_up_slot (by decide)).trans ((w_up_slot (by decide)).trans ((w_up_slot (by decide)).trans ((w_up_slot (by decide)).trans ((w_up_slot (by decide)).trans ((w_up_slot (by decide)).trans ((w_up_slot (by decide)).trans ((cl_191 hC))))))))) (by omega) (by omega) ⟨(by omega), (by omega)⟩ ?_
                                            refine wa_aload_n (n := 0) rfl ?_
                                            refine wb_gf4 162 rfl (wy_pr rfl) wt_162 wf_3_3 (v := 185) wl_162_3 ?_
                                            refine wa_bipush (w_rg2 (by omega) (by omega)) ?_
                                            refine wb_aald5 185 14 rfl rfl (wy_pr rfl) wt_185 (by rw [show _ = _ from ((w_up_slot (by decide)).trans ((w_up_slot (by decide)).trans ((w_up_slot (by decide)).trans ((w_up_slot (by decide)).trans ((w_up_slot (by decide)).trans ((w_up_slot (by decide)).trans ((w_up_slot (by decide)).trans ((w_up_slot (by decide)).trans ((cl_185 hC))))))))))]; omega) wl_185_14 ?_
                                            refine wa_iload (n := 4) rfl ?_
                                            refine wa_iload_n (n := 3) rfl ?_
                                            refine wb_iast 200 rfl (wy_pr rfl) wt_200 (n := 400) ((w_up_slot (by decide)).trans ((w_up_slot (by decide)).trans ((w_up_slot (by decide)).trans ((w_up_slot (by decide)).trans ((w_up_slot (by decide)).trans ((w_up_slot (by decide)).trans ((w_up_slot (by decide)).trans ((w_up_slot (by decide)).trans ((cl_200 hC)))))))))) (by omega) (by omega) ⟨(by omega), (by omega)⟩ ?_
                                            refine wa_aload_n (n := 0) rfl ?_
                                            refine wb_gf4 162 rfl (wy_pr rfl) wt_162 wf_3_3 (v := 185) wl_162_3 ?_
                                            refine wa_bipush (w_rg2 (by omega) (by omega)) ?_
                                            refine wb_aald5 185 15 rfl rfl (wy_pr rfl) wt_185 (by rw [show _ = _ from ((w_up_slot (by decide)).trans ((w_up_slot (by decide)).trans ((w_up_slot (by decide)).trans ((w_up_slot (by decide)).trans ((w_up_slot (by decide)).trans ((w_up_slot (by decide)).trans ((w_up_slot (by decide)).trans ((w_up_slot (by decide)).trans ((w_up_slot (by decide)).trans ((cl_185 hC)))))))))))]; omega) wl_185_15 ?_
                                            refine wa_iload (n := 4) rfl ?_
                                            refine wa_iconst ?_
                                            refine wb_iast 201 rfl (wy_pr rfl) wt_201 (n := 400) ((w_up_slot (by decide)).trans ((w_up_slot (by decide)).trans ((w_up_slot (by decide)).trans ((w_up_slot (by decide)).trans ((w_up_slot (by decide)).trans ((w_up_slot (by decide)).trans ((w_up_slot (by decide)).trans ((w_up_slot (by decide)).trans ((w_up_slot (by decide)).trans ((cl_201 hC))))))))))) (by omega) (by omega) ⟨(by omega), (by omega)⟩ ?_
                                            refine wa_aload_n (n := 0) rfl ?_
                                            refine wa_dup (by decide) ?_
                                            refine wb_gfi 162 rfl (wy_pr rfl) wt_162 wf_3_4 (v := (ms.length : Int)) ((w_up_slot (by decide)).trans ((w_up_slot (by decide)).trans ((w_up_slot (by decide)).trans ((w_up_slot (by decide)).trans ((w_up_slot (by decide)).trans ((w_up_slot (by decide)).trans ((w_up_slot (by decide)).trans ((w_up_slot (by decide)).trans ((w_up_slot (by decide)).trans ((w_up_slot (by decide)).trans (hmc))))))))))) (fun r194 => ?_)
                                            refine wa_iconst ?_
                                            refine wa_iadd ?_
                                            refine wb_pfi 162 rfl (wy_pr rfl) wt_162 wf_3_4 (n := 4) rfl ⟨(by omega), (by omega)⟩ ?_
                                            refine wa_aload_n (n := 0) rfl ?_
                                            refine wb_gf4 162 rfl (wy_pr rfl) wt_162 wf_3_1 (v := 175) wl_162_1 ?_
                                            refine wa_iconst ?_
                                            refine wb_aald5 175 3 rfl rfl (wy_pr rfl) wt_175 (by rw [show _ = _ from ((w_up_slot (by decide)).trans ((w_up_slot (by decide)).trans ((w_up_slot (by decide)).trans ((w_up_slot (by decide)).trans ((w_up_slot (by decide)).trans ((w_up_slot (by decide)).trans ((w_up_slot (by decide)).trans ((w_up_slot (by decide)).trans ((w_up_slot (by decide)).trans ((w_up_slot (by decide)).trans ((w_up_slot (by decide)).trans ((cl_175 hC)))))))))))))]; omega) wl_175_3 ?_
                                            refine wa_aload_n (n := 0) rfl ?_
                                            refine wb_gfi 162 rfl (wy_pr rfl) wt_162 wf_3_2 (v := (kc + 1)) ((w_up_at (by decide)).trans ((w_up_slot (by decide)).trans ((w_up_slot (by decide)).trans ((w_up_slot (by decide)).trans ((w_up_slot (by decide)).trans ((w_up_slot (by decide)).trans ((w_up_slot (by decide)).trans ((w_up_slot (by decide)).trans ((w_up_slot (by decide)).trans ((w_up_slot (by decide)).trans ((w_up_slot (by decide)).trans (hkc1)))))))))))) (fun r195 => ?_)
                                            refine wa_iconst ?_
                                            refine wa_isub ?_
                                            rw [show (((kc + 1) - 1) : Int) = kc by omega]
                                            refine wa_dup2 (by decide) (by decide) ?_
                                            refine wb_iald 179 rfl (wy_pr rfl) wt_179 (n := 60) ((w_up_slot (by decide)).trans ((w_up_slot (by decide)).trans ((w_up_slot (by decide)).trans ((w_up_slot (by decide)).trans ((w_up_slot (by decide)).trans ((w_up_slot (by decide)).trans ((w_up_slot (by decide)).trans ((w_up_slot (by decide)).trans ((w_up_slot (by decide)).trans ((w_up_slot (by decide)).trans ((w_up_slot (by decide)).trans ((cl_179 hC))))))))))))) (by omega) (by omega) (v := ((ms.length : Int) - (fi : Int))) ((w_up_slot (by decide)).trans ((w_up_slot (by decide)).trans ((w_up_slot (by decide)).trans ((w_up_slot (by decide)).trans ((w_up_slot (by decide)).trans ((w_up_slot (by decide)).trans ((w_up_slot (by decide)).trans ((w_up_slot (by decide)).trans ((w_up_slot (by decide)).trans ((w_up_slot (by decide)).trans ((w_up_slot (by decide)).trans (ht3)))))))))))) (fun r196 => ?_)
                                            refine wa_iconst ?_
                                            refine wa_iadd ?_
                                            refine wb_iast 179 rfl (wy_pr rfl) wt_179 (n := 60) ((w_up_slot (by decide)).trans ((w_up_slot (by decide)).trans ((w_up_slot (by decide)).trans ((w_up_slot (by decide)).trans ((w_up_slot (by decide)).trans ((w_up_slot (by decide)).trans ((w_up_slot (by decide)).trans ((w_up_slot (by decide)).trans ((w_up_slot (by decide)).trans ((w_up_slot (by decide)).trans ((w_up_slot (by decide)).trans ((cl_179 hC))))))))))))) (by omega) (by omega) ⟨(by omega), (by omega)⟩ ?_
                                            refine wa_return rfl ?_
                                            show wJ _ _ _ _ _ _ _ _ _ _
                                            refine wa_return rfl ?_
                                            show wJ _ _ _ _ _ _ _ _ _ _
                                            refine wa_fall ⟨_, rfl⟩ ?_
                                            refine wa_aload_n (n := 0) rfl ?_
                                            refine wb_gf5 61 rfl (wy_pr rfl) wt_61 wf_4_1 (v := 162) ((w_up_slot (by decide)).trans ((w_up_slot (by decide)).trans ((w_up_slot (by decide)).trans ((w_up_slot (by decide)).trans ((w_up_slot (by decide)).trans ((w_up_slot (by decide)).trans ((w_up_slot (by decide)).trans ((w_up_slot (by decide)).trans ((w_up_slot (by decide)).trans ((w_up_slot (by decide)).trans ((w_up_slot (by decide)).trans ((w_up_slot (by decide)).trans (hH))))))))))))) (fun r197 => ?_)
                                            refine wb_gf4 162 rfl (wy_pr rfl) wt_162 wf_3_3 (v := 185) wl_162_3 ?_
                                            refine wa_iconst ?_
                                            refine wb_aald5 185 2 rfl rfl (wy_pr rfl) wt_185 (by rw [show _ = _ from ((w_up_slot (by decide)).trans ((w_up_slot (by decide)).trans ((w_up_slot (by decide)).trans ((w_up_slot (by decide)).trans ((w_up_slot (by decide)).trans ((w_up_slot (by decide)).trans ((w_up_slot (by decide)).trans ((w_up_slot (by decide)).trans ((w_up_slot (by decide)).trans ((w_up_slot (by decide)).trans ((w_up_slot (by decide)).trans ((w_up_slot (by decide)).trans ((cl_185 hC))))))))))))))]; omega) wl_185_2 ?_
                                            refine wa_aload_n (n := 0) rfl ?_
                                            refine wb_gf5 61 rfl (wy_pr rfl) wt_61 wf_4_1 (v := 162) ((w_up_slot (by decide)).trans ((w_up_slot (by decide)).trans ((w_up_slot (by decide)).trans ((w_up_slot (by decide)).trans ((w_up_slot (by decide)).trans ((w_up_slot (by decide)).trans ((w_up_slot (by decide)).trans ((w_up_slot (by decide)).trans ((w_up_slot (by decide)).trans ((w_up_slot (by decide)).trans ((w_up_slot (by decide)).trans ((w_up_slot (by decide)).trans (hH))))))))))))) (fun r198 => ?_)
                                            refine wb_gfi 162 rfl (wy_pr rfl) wt_162 wf_3_4 (v := ((ms.length : Int) + 1)) ((w_up_slot (by decide)).trans (w_up_same _ _ _ _)) (fun r199 => ?_)
                                            refine wa_iconst ?_
                                            refine wa_isub ?_
                                            rw [show ((((ms.length : Int) + 1) - 1) : Int) = (ms.length : Int) by omega]
                                            refine wa_iload_n (n := 2) rfl ?_
                                            refine wa_ifeq (w_rg0 (by omega) (by omega)) ⟨_, rfl⟩ (fun c200 => ?_) (fun c200 => ?_)
                                            · skip
                                              exact absurd c200 (by omega)
                                            · skip
                                              refine wa_iconst ?_
                                              refine wa_goto ⟨_, rfl⟩ ?_
                                              refine wb_iast 188 rfl (wy_pr rfl) wt_188 (n := 400) ((w_up_slot (by decide)).trans ((w_up_slot (by decide)).trans ((w_up_slot (by decide)).trans ((w_up_slot (by decide)).trans ((w_up_slot (by decide)).trans ((w_up_slot (by decide)).trans ((w_up_slot (by decide)).trans ((w_up_slot (by decide)).trans ((w_up_slot (by decide)).trans ((w_up_slot (by decide)).trans ((w_up_slot (by decide)).trans ((w_up_slot (by decide)).trans ((cl_188 hC)))))))))))))) (by omega) (by omega) ⟨(by omega), (by omega)⟩ ?_
                                              refine wa_return rfl ?_
                                              show wJ _ _ _ _ _ _ _ _ _ _
                                              refine wa_aload_n (n := 0) rfl ?_
                                              refine wb_gf5 61 rfl (wy_pr rfl) wt_61 wf_4_1 (v := 162) ((w_up_slot (by decide)).trans ((w_up_slot (by decide)).trans ((w_up_slot (by decide)).trans ((w_up_slot (by decide)).trans ((w_up_slot (by decide)).trans ((w_up_slot (by decide)).trans ((w_up_slot (by decide)).trans ((w_up_slot (by decide)).trans ((w_up_slot (by decide)).trans ((w_up_slot (by decide)).trans ((w_up_slot (by decide)).trans ((w_up_slot (by decide)).trans ((w_up_slot (by decide)).trans (hH)))))))))))))) (fun r201 => ?_)
                                              refine wb_gfi 162 rfl (wy_pr rfl) wt_162 wf_3_4 (v := ((ms.length : Int) + 1)) ((w_up_slot (by decide)).trans ((w_up_slot (by decide)).trans (w_up_same _ _ _ _))) (fun r202 => ?_)
                                              refine wa_iconst ?_
                                              refine wa_isub ?_
                                              rw [show ((((ms.length : Int) + 1) - 1) : Int) = (ms.length : Int) by omega]
                                              refine wa_istore (n := 5) rfl ?_
                                              refine wa_aload_n (n := 0) rfl ?_
                                              refine wb_gf5 61 rfl (wy_pr rfl) wt_61 wf_4_1 (v := 162) ((w_up_slot (by decide)).trans ((w_up_slot (by decide)).trans ((w_up_slot (by decide)).trans ((w_up_slot (by decide)).trans ((w_up_slot (by decide)).trans ((w_up_slot (by decide)).trans ((w_up_slot (by decide)).trans ((w_up_slot (by decide)).trans ((w_up_slot (by decide)).trans ((w_up_slot (by decide)).trans ((w_up_slot (by decide)).trans ((w_up_slot (by decide)).trans ((w_up_slot (by decide)).trans (hH)))))))))))))) (fun r203 => ?_)
                                              refine wb_gf4 162 rfl (wy_pr rfl) wt_162 wf_3_3 (v := 185) wl_162_3 ?_
                                              refine wa_iconst ?_
                                              refine wb_aald5 185 1 rfl rfl (wy_pr rfl) wt_185 (by rw [show _ = _ from ((w_up_slot (by decide)).trans ((w_up_slot (by decide)).trans ((w_up_slot (by decide)).trans ((w_up_slot (by decide)).trans ((w_up_slot (by decide)).trans ((w_up_slot (by decide)).trans ((w_up_slot (by decide)).trans ((w_up_slot (by decide)).trans ((w_up_slot (by decide)).trans ((w_up_slot (by decide)).trans ((w_up_slot (by decide)).trans ((w_up_slot (by decide)).trans ((w_up_slot (by decide)).trans ((cl_185 hC)))))))))))))))]; omega) wl_185_1 ?_
                                              refine wa_iload (n := 5) rfl ?_
                                              refine wb_iald 187 rfl (wy_pr rfl) wt_187 (n := 400) ((w_up_slot (by decide)).trans ((w_up_slot (by decide)).trans ((w_up_slot (by decide)).trans ((w_up_slot (by decide)).trans ((w_up_slot (by decide)).trans ((w_up_slot (by decide)).trans ((w_up_slot (by decide)).trans ((w_up_slot (by decide)).trans ((w_up_at (by omega)).trans ((w_up_slot (by decide)).trans ((w_up_slot (by decide)).trans ((w_up_slot (by decide)).trans ((w_up_slot (by decide)).trans ((cl_187 hC))))))))))))))) (by omega) (by omega) (v := 1) ((w_up_slot (by decide)).trans ((w_up_slot (by decide)).trans ((w_up_slot (by decide)).trans ((w_up_slot (by decide)).trans ((w_up_slot (by decide)).trans ((w_up_slot (by decide)).trans ((w_up_slot (by decide)).trans ((w_up_slot (by decide)).trans (w_up_same _ _ _ _))))))))) (fun r204 => ?_)
                                              refine wa_ifeq (w_rg0 (by omega) (by omega)) ⟨_, rfl⟩ (fun c205 => ?_) (fun c205 => ?_)
                                              · skip
                                                exact absurd c205 (by omega)
                                              · skip
                                                refine wa_aload_n (n := 0) rfl ?_
                                                refine wa_iload (n := 5) rfl ?_
                                                have hmsx : mr_all 186 163 T (w_up (w_up (w_up (w_up (w_up (w_up (w_up (w_up (w_up (w_up (w_up (w_up (w_up S 14 4 ((i + 1 : Nat) : Int)) 14 4 ((i + 1 + 1 : Nat) : Int)) 14 4 ((i + 1 + 1 + 1 : Nat) : Int)) 186 (ms.length : Int) kc) 187 (ms.length : Int) 1) 189 (ms.length : Int) y) 190 (ms.length : Int) 0) 191 (ms.length : Int) 0) 200 (ms.length : Int) (S 17 ((i + 1 + 1 : Nat) : Int))) 201 (ms.length : Int) (-1)) 162 4 ((ms.length : Int) + 1)) 179 kc (((ms.length : Int) - (fi : Int)) + 1)) 188 (ms.length : Int) 1) ms := (mr_all_up (mr_all_up (mr_all_up (mr_all_up (mr_all_up (mr_all_up (mr_all_up (mr_all_up (mr_all_up (mr_all_up (mr_all_up (mr_all_up (mr_all_up hms (by omega) (by omega)) (by omega) (by omega)) (by omega) (by omega)) (by omega) (by omega)) (by omega) (by omega)) (by omega) (by omega)) (by omega) (by omega)) (by omega) (by omega)) (by omega) (by omega)) (by omega) (by omega)) (by omega) (by omega)) (by omega) (by omega)) (by omega) (by omega))
                                                have hhd : mr_hd 186 163 T (w_up (w_up (w_up (w_up (w_up (w_up (w_up (w_up (w_up (w_up (w_up (w_up (w_up S 14 4 ((i + 1 : Nat) : Int)) 14 4 ((i + 1 + 1 : Nat) : Int)) 14 4 ((i + 1 + 1 + 1 : Nat) : Int)) 186 (ms.length : Int) kc) 187 (ms.length : Int) 1) 189 (ms.length : Int) y) 190 (ms.length : Int) 0) 191 (ms.length : Int) 0) 200 (ms.length : Int) (S 17 ((i + 1 + 1 : Nat) : Int))) 201 (ms.length : Int) (-1)) 162 4 ((ms.length : Int) + 1)) 179 kc (((ms.length : Int) - (fi : Int)) + 1)) 188 (ms.length : Int) 1) (ms.length : Int) kc 1 1 y (tp T n 1 (i + 1 + 1)) (lx_en T n 1 (tp T n 1 (i + 1 + 1))) := ⟨⟨((w_up_slot (by decide)).trans ((w_up_slot (by decide)).trans ((w_up_slot (by decide)).trans ((w_up_slot (by decide)).trans ((w_up_slot (by decide)).trans ((w_up_slot (by decide)).trans ((w_up_slot (by decide)).trans ((w_up_slot (by decide)).trans ((w_up_slot (by decide)).trans (w_up_same _ _ _ _)))))))))), ((w_up_slot (by decide)).trans ((w_up_slot (by decide)).trans ((w_up_slot (by decide)).trans ((w_up_slot (by decide)).trans ((w_up_slot (by decide)).trans ((w_up_slot (by decide)).trans ((w_up_slot (by decide)).trans ((w_up_slot (by decide)).trans (w_up_same _ _ _ _))))))))), (w_up_same _ _ _ _), ((w_up_slot (by decide)).trans ((w_up_slot (by decide)).trans ((w_up_slot (by decide)).trans ((w_up_slot (by decide)).trans ((w_up_slot (by decide)).trans ((w_up_slot (by decide)).trans ((w_up_slot (by decide)).trans (w_up_same _ _ _ _))))))))⟩, ⟨by decide, by decide⟩, fun z => absurd z (by decide), fun _ => ⟨⟨by rw [show (w_up (w_up (w_up (w_up (w_up (w_up (w_up (w_up (w_up (w_up (w_up (w_up (w_up S 14 4 ((i + 1 : Nat) : Int)) 14 4 ((i + 1 + 1 : Nat) : Int)) 14 4 ((i + 1 + 1 + 1 : Nat) : Int)) 186 (ms.length : Int) kc) 187 (ms.length : Int) 1) 189 (ms.length : Int) y) 190 (ms.length : Int) 0) 191 (ms.length : Int) 0) 200 (ms.length : Int) (S 17 ((i + 1 + 1 : Nat) : Int))) 201 (ms.length : Int) (-1)) 162 4 ((ms.length : Int) + 1)) 179 kc (((ms.length : Int) - (fi : Int)) + 1)) 188 (ms.length : Int) 1) (186 + 14) (ms.length : Int) = _ from ((w_up_slot (by decide)).trans ((w_up_slot (by decide)).trans ((w_up_slot (by decide)).trans ((w_up_slot (by decide)).trans (w_up_same _ _ _ _)))))]; omega, by rw [show (w_up (w_up (w_up (w_up (w_up (w_up (w_up (w_up (w_up (w_up (w_up (w_up (w_up S 14 4 ((i + 1 : Nat) : Int)) 14 4 ((i + 1 + 1 : Nat) : Int)) 14 4 ((i + 1 + 1 + 1 : Nat) : Int)) 186 (ms.length : Int) kc) 187 (ms.length : Int) 1) 189 (ms.length : Int) y) 190 (ms.length : Int) 0) 191 (ms.length : Int) 0) 200 (ms.length : Int) (S 17 ((i + 1 + 1 : Nat) : Int))) 201 (ms.length : Int) (-1)) 162 4 ((ms.length : Int) + 1)) 179 kc (((ms.length : Int) - (fi : Int)) + 1)) 188 (ms.length : Int) 1) (186 + 14) (ms.length : Int) = _ from ((w_up_slot (by decide)).trans ((w_up_slot (by decide)).trans ((w_up_slot (by decide)).trans ((w_up_slot (by decide)).trans (w_up_same _ _ _ _)))))]; show _ < S 163 7; omega⟩, by rw [show (w_up (w_up (w_up (w_up (w_up (w_up (w_up (w_up (w_up (w_up (w_up (w_up (w_up S 14 4 ((i + 1 : Nat) : Int)) 14 4 ((i + 1 + 1 : Nat) : Int)) 14 4 ((i + 1 + 1 + 1 : Nat) : Int)) 186 (ms.length : Int) kc) 187 (ms.length : Int) 1) 189 (ms.length : Int) y) 190 (ms.length : Int) 0) 191 (ms.length : Int) 0) 200 (ms.length : Int) (S 17 ((i + 1 + 1 : Nat) : Int))) 201 (ms.length : Int) (-1)) 162 4 ((ms.length : Int) + 1)) 179 kc (((ms.length : Int) - (fi : Int)) + 1)) 188 (ms.length : Int) 1) (186 + 14) (ms.length : Int) = _ from ((w_up_slot (by decide)).trans ((w_up_slot (by decide)).trans ((w_up_slot (by decide)).trans ((w_up_slot (by decide)).trans (w_up_same _ _ _ _)))))]; exact hnt2.2.2⟩⟩
                                                have hpm0 : pm_I 186 (w_up (w_up (w_up (w_up (w_up (w_up (w_up (w_up (w_up (w_up (w_up (w_up (w_up S 14 4 ((i + 1 : Nat) : Int)) 14 4 ((i + 1 + 1 : Nat) : Int)) 14 4 ((i + 1 + 1 + 1 : Nat) : Int)) 186 (ms.length : Int) kc) 187 (ms.length : Int) 1) 189 (ms.length : Int) y) 190 (ms.length : Int) 0) 191 (ms.length : Int) 0) 200 (ms.length : Int) (S 17 ((i + 1 + 1 : Nat) : Int))) 201 (ms.length : Int) (-1)) 162 4 ((ms.length : Int) + 1)) 179 kc (((ms.length : Int) - (fi : Int)) + 1)) 188 (ms.length : Int) 1) (ms.length : Int) [] 0 := ⟨((w_up_slot (by decide)).trans ((w_up_slot (by decide)).trans ((w_up_slot (by decide)).trans ((w_up_slot (by decide)).trans ((w_up_slot (by decide)).trans ((w_up_slot (by decide)).trans (w_up_same _ _ _ _))))))), ((w_up_slot (by decide)).trans ((w_up_slot (by decide)).trans ((w_up_slot (by decide)).trans ((w_up_slot (by decide)).trans ((w_up_slot (by decide)).trans (w_up_same _ _ _ _)))))), by decide, fun q hq => absurd hq (Nat.not_lt_zero _)⟩
                                                have hn := lx_w_k (k := 12) hB hW hrw (by decide) hwc.1 hnt1
                                                rw [show hwl 12 = tx_25 from rfl] at hn
                                                have z1 : zq B (tp T n 1 (i + 1)) 237 6 = 1 := by rw [zT_6 hB]; exact hnt1.1
                                                have hs := lx_w_k (k := 11) hB hW hrw (by decide) hwc.1 hnt0
                                                rw [show hwl 11 = tx_23 from rfl] at hs
                                                have hrm0 : rm_L B 261 kc itf (ms.drop fi) ms.length (tp T n 1 i) = rb_L B 261 kc itf (ms.drop fi) ms.length (tp T n 1 (i + 1)) 1 := (rm_s (hs.2 (by omega)) (by omega)).trans (by rw [tp_ne (i := i) hB])
                                                have hyh := ty_hy (av := 1) hyy1 (Or.inr (by decide))
                                                rw [tp_ne (i := i + 1) hB] at hyh
                                                have hrm1 : rm_L B 261 kc itf (ms.drop fi) ms.length (tp T n 1 i) = rb_name B 261 itf (ms.drop fi) y (tp T n 1 (i + 1 + 1)) 1 := hrm0.trans (rb_t z1 (fun z => absurd (hn.1 z) (by omega)) hyh.2.2.1 (by omega) hyh.1)
                                                have z2 : zq B (tp T n 1 (i + 1 + 1)) 237 6 = 1 := by rw [zT_6 hB]; exact hnt2.1
                                                have hoo := oo_21 hB hW hrw hwc.1 hnt2
                                                have h59 := lx_is_kg (i := i + 1 + 1 + 1) hB (k := 17) (ch := 59) (by decide) sk_17
                                                have hrm3 := hrm1.trans (rn_m z2 (fun z => absurd (hoo.1 z) (by omega)) (by rw [tp_ne (i := i + 1 + 1) hB]; rintro ⟨q1, q2⟩; have := h59.1 q1; omega))
                                                rw [tp_ne (i := i + 1 + 1) hB, zT_8 hB] at hrm3
                                                have h40 := lx_is_kg (i := i + 1 + 1 + 1) hB (k := 10) (ch := 40) (by decide) sk_10
                                                have hpar : rm_par2 B 261 1 (tp T n 1 (i + 1 + 1)) (lx_en T n 1 (tp T n 1 (i + 1 + 1))) (ms.drop fi) (tp T n 1 (i + 1 + 1 + 1)) = (if kg T n (tp T n 1 (i + 1 + 1 + 1)) = 10 then pk_L B 1 (tp T n 1 (i + 1 + 1)) (lx_en T n 1 (tp T n 1 (i + 1 + 1))) (ms.drop fi) (pq_r B 261 (tp T n 1 (i + 1 + 1 + 1 + 1))) else .inl (1, (tp T n 1 (i + 1 + 1 + 1)))) := by
                                                  unfold rm_par2
                                                  by_cases hq : kg T n (tp T n 1 (i + 1 + 1 + 1)) = 10
                                                  · rw [if_pos (h40.2 hq), if_pos hq, tp_ne (i := i + 1 + 1 + 1) hB]
                                                  · rw [if_neg (fun z => hq (h40.1 z)), if_neg hq]
                                                rw [hpar] at hrm3
                                                generalize hRR : (if kg T n (tp T n 1 (i + 1 + 1 + 1)) = 10 then pk_L B 1 (tp T n 1 (i + 1 + 1)) (lx_en T n 1 (tp T n 1 (i + 1 + 1))) (ms.drop fi) (pq_r B 261 (tp T n 1 (i + 1 + 1 + 1 + 1))) else .inl (1, (tp T n 1 (i + 1 + 1 + 1)))) = RR at hrm3
                                                have hrp := rp_162 (xs := xs) (M := fun _ => False) (d := d + 1) (S := (w_up (w_up (w_up (w_up (w_up (w_up (w_up (w_up (w_up (w_up (w_up (w_up (w_up S 14 4 ((i + 1 : Nat) : Int)) 14 4 ((i + 1 + 1 : Nat) : Int)) 14 4 ((i + 1 + 1 + 1 : Nat) : Int)) 186 (ms.length : Int) kc) 187 (ms.length : Int) 1) 189 (ms.length : Int) y) 190 (ms.length : Int) 0) 191 (ms.length : Int) 0) 200 (ms.length : Int) (S 17 ((i + 1 + 1 : Nat) : Int))) 201 (ms.length : Int) (-1)) 162 4 ((ms.length : Int) + 1)) 179 kc (((ms.length : Int) - (fi : Int)) + 1)) 188 (ms.length : Int) 1)) (i := i + 1 + 1 + 1) (ms := ms) (kc := kc) (so := 1) (st := 1) (ty := y) (f0 := (tp T n 1 (i + 1 + 1))) (e0 := (lx_en T n 1 (tp T n 1 (i + 1 + 1)))) (fi := fi) (hx_up (hx_up (hx_up (hx_up (hx_up (hx_up (hx_up (hx_up (hx_up (hx_up (hx_up (hx_up (hx_up hx (by unfold hx_o; omega)) (by unfold hx_o; omega)) (by unfold hx_o; omega)) (by unfold hx_o; omega)) (by unfold hx_o; omega)) (by unfold hx_o; omega)) (by unfold hx_o; omega)) (by unfold hx_o; omega)) (by unfold hx_o; omega)) (by unfold hx_o; omega)) (by unfold hx_o; omega)) (by unfold hx_o; omega)) (by unfold hx_o; omega)) (show cx_P T n c (i + 1 + 1 + 1) (w_up (w_up (w_up (w_up (w_up (w_up (w_up (w_up (w_up (w_up (w_up (w_up (w_up S 14 4 ((i + 1 : Nat) : Int)) 14 4 ((i + 1 + 1 : Nat) : Int)) 14 4 ((i + 1 + 1 + 1 : Nat) : Int)) 186 (ms.length : Int) kc) 187 (ms.length : Int) 1) 189 (ms.length : Int) y) 190 (ms.length : Int) 0) 191 (ms.length : Int) 0) 200 (ms.length : Int) (S 17 ((i + 1 + 1 : Nat) : Int))) 201 (ms.length : Int) (-1)) 162 4 ((ms.length : Int) + 1)) 179 kc (((ms.length : Int) - (fi : Int)) + 1)) 188 (ms.length : Int) 1) from ⟨((w_up_slot (by decide)).trans ((w_up_slot (by decide)).trans ((w_up_slot (by decide)).trans ((w_up_slot (by decide)).trans ((w_up_slot (by decide)).trans ((w_up_slot (by decide)).trans ((w_up_slot (by decide)).trans ((w_up_slot (by decide)).trans ((w_up_slot (by decide)).trans ((w_up_slot (by decide)).trans (w_up_same _ _ _ _))))))))))), hg3⟩) hmsx (by omega) hhd (by decide) hkc ⟨(((w_up_slot (by decide)).trans ((w_up_slot (by decide)).trans ((w_up_slot (by decide)).trans ((w_up_slot (by decide)).trans ((w_up_slot (by decide)).trans ((w_up_slot (by decide)).trans ((w_up_slot (by decide)).trans ((w_up_slot (by decide)).trans ((w_up_slot (by decide)).trans ((w_up_slot (by decide)).trans ((w_up_slot (by decide)).trans ((w_up_slot (by decide)).trans (w_up_slot (by decide))))))))))))))).trans hfi.1, hfi.2⟩ hpm0
                                                rw [hRR] at hrp
                                                refine wa_cv 61 rfl (wy_pr rfl) wt_61 (M2 := fun _ => False) rfl at_XT_readParameters ⟨_, rfl⟩ rfl rfl ⟨trivial, (Or.inr ⟨wy_pr rfl, fun q => q⟩), trivial, trivial, trivial⟩ trivial (fun _ _ q => False.elim q) (hrp) (fun oq206 Sq206 hp207 q206 => ?_)
                                                match RR, hrm3, q206 with
                                                | .inl (e, qq), hrm3, hrq =>
                                                  obtain ⟨v, Z0, rfl, g1, g2⟩ := hrq
                                                  refine ⟨rfl, ?_⟩
                                                  exact hf e qq v Z0 _ (by rw [mb_f_s, if_neg (fun z => absurd (h125.1 z) (by omega)), hrm3]; rfl) (fun j x a1 a2 a3 a4 => (g1 j x a1 (by omega)).trans ((fun j x a1 a2 a3 a4 => (w_up_no (by omega)).trans ((w_up_no (by omega)).trans ((w_up_no (by omega)).trans ((w_up_no (by omega)).trans ((w_up_no (by omega)).trans ((w_up_no (by omega)).trans ((w_up_no (by omega)).trans ((w_up_no (by omega)).trans ((w_up_no (by omega)).trans ((w_up_no (by omega)).trans ((w_up_no (by omega)).trans ((w_up_no (by omega)).trans ((w_up_no (by omega)).trans (rfl)))))))))))))) j x a1 a2 a3 a4)) g2
                                                | .inr (qq, l, vv), hrm3, hrq =>
                                                  obtain ⟨rfl, g1, ⟨i2, g2, rfl⟩, g3⟩ := hrq
                                                  show wJ _ _ _ _ _ _ _ _ _ _
                                                  refine wa_fall ⟨_, rfl⟩ ?_
                                                  have hxz : hx_I 261 162 176 181 163 T n c B Sq206 := hx_ag (hx_up (hx_up (hx_up (hx_up (hx_up (hx_up (hx_up (hx_up (hx_up (hx_up (hx_up (hx_up (hx_up hx (by unfold hx_o; omega)) (by unfold hx_o; omega)) (by unfold hx_o; omega)) (by unfold hx_o; omega)) (by unfold hx_o; omega)) (by unfold hx_o; omega)) (by unfold hx_o; omega)) (by unfold hx_o; omega)) (by unfold hx_o; omega)) (by unfold hx_o; omega)) (by unfold hx_o; omega)) (by unfold hx_o; omega)) (by unfold hx_o; omega)) (by decide) (g1 14 3 (by omega) (by omega)) (gI_ag2 (gI_up (gI_up (gI_up (gI_up (gI_up (gI_up (gI_up (gI_up (gI_up (gI_up (gI_up (gI_up (gI_up hI (by omega) (by omega) (by omega)) (by omega) (by omega) (by omega)) (by omega) (by omega) (by omega)) (by omega) (by omega) (by omega)) (by omega) (by omega) (by omega)) (by omega) (by omega) (by omega)) (by omega) (by omega) (by omega)) (by omega) (by omega) (by omega)) (by omega) (by omega) (by omega)) (by omega) (by omega) (by omega)) (by omega) (by omega) (by omega)) (by omega) (by omega) (by omega)) (by omega) (by omega) (by omega)) (fun j hj => g1 j (-1) (by omega) (by omega)) (fun x hx => g1 238 x (by omega) (by omega)) (g1 14 5 (by omega) (by omega))) (fun j hj => funext fun x => g1 j x (by omega) (by omega)) (g1 162 2 (by omega) (by omega)) (g1 61 1 (by omega) (by omega)) (fun z hz => (g1 z.1 (-1) (by omega) (by omega)).trans ((hx_R (hx_up (hx_up (hx_up (hx_up (hx_up (hx_up (hx_up (hx_up (hx_up (hx_up (hx_up (hx_up (hx_up hx (by unfold hx_o; omega)) (by unfold hx_o; omega)) (by unfold hx_o; omega)) (by unfold hx_o; omega)) (by unfold hx_o; omega)) (by unfold hx_o; omega)) (by unfold hx_o; omega)) (by unfold hx_o; omega)) (by unfold hx_o; omega)) (by unfold hx_o; omega)) (by unfold hx_o; omega)) (by unfold hx_o; omega)) (by unfold hx_o; omega))).2.2.1 z hz))
                                                  refine wJ_S (htail Sq206 i2 1 1 y vv (tp T n 1 (i + 1 + 1)) (lx_en T n 1 (tp T n 1 (i + 1 + 1))) l hxz g2 (mr_all_pp hmsx g1 (by decide)) (by omega) (mr_of (mr_hd_ag hhd (fun x hx => g1 _ _ (by omega) (by omega)) (fun x hx => funext fun y => g1 _ _ (by omega) (by omega))) g3) (fun j x a1 a2 a3 a4 => (g1 j x a1 (by omega)).trans ((fun j x a1 a2 a3 a4 => (w_up_no (by omega)).trans ((w_up_no (by omega)).trans ((w_up_no (by omega)).trans ((w_up_no (by omega)).trans ((w_up_no (by omega)).trans ((w_up_no (by omega)).trans ((w_up_no (by omega)).trans ((w_up_no (by omega)).trans ((w_up_no (by omega)).trans ((w_up_no (by omega)).trans ((w_up_no (by omega)).trans ((w_up_no (by omega)).trans ((w_up_no (by omega)).trans (rfl)))))))))))))) j x a1 a2 a3 a4)) ((g1 162 4 (by omega) (by omega)).trans (((w_up_slot (by decide)).trans ((w_up_slot (by decide)).trans (w_up_same _ _ _ _))))) ((g1 179 kc (by omega) (by omega)).trans (((w_up_slot (by decide)).trans (w_up_same _ _ _ _)))) ((g1 180 kc (by omega) (by omega)).trans ((((w_up_slot (by decide)).trans ((w_up_slot (by decide)).trans ((w_up_slot (by decide)).trans ((w_up_slot (by decide)).trans ((w_up_slot (by decide)).trans ((w_up_slot (by decide)).trans ((w_up_slot (by decide)).trans ((w_up_slot (by decide)).trans ((w_up_slot (by decide)).trans ((w_up_slot (by decide)).trans ((w_up_slot (by decide)).trans ((w_up_slot (by decide)).trans (w_up_slot (by decide))))))))))))))).trans hfi.1)) hrm3 (by omega)) ⟨rfl, rfl, rfl, trivial⟩
                                          · skip
                                            exact absurd c191 (by omega)
                                        · skip
                                          exact absurd c187 (by omega)
                                      · skip
                                        exact absurd c186 (by omega)
                                    · skip
                                      refine wa_iload_n (n := 2) rfl ?_
                                      refine wa_ifeq (w_rg0 (by omega) (by omega)) ⟨_, rfl⟩ (fun c208 => ?_) (fun c208 => ?_)
                                      · skip
                                        refine wa_iconst ?_
                                        refine wa_fall ⟨_, rfl⟩ ?_
                                        refine wa_istore (n := 4) rfl ?_
                                        refine wa_iload (n := 4) rfl ?_
                                        refine wa_ifeq (w_rg0 (by omega) (by omega)) ⟨_, rfl⟩ (fun c209 => ?_) (fun c209 => ?_)
                                        · skip
                                          refine wa_iload (n := 4) rfl ?_
                                          refine wa_ifeq (w_rg0 (by omega) (by omega)) ⟨_, rfl⟩ (fun c210 => ?_) (fun c210 => ?_)
                                          · skip
                                            refine wa_aload_n (n := 0) rfl ?_
                                            refine wb_gf4 61 rfl (wy_pr rfl) wt_61 wf_4_0 (v := 14) wl_61_0 ?_
                                            refine wa_cv 14 rfl (wy_pr rfl) wt_14 (M2 := fun _ => False) rfl at_XR_next ⟨_, rfl⟩ rfl rfl ⟨trivial, trivial, (Or.inr ⟨wy_pr rfl, fun q => q⟩), trivial, trivial, trivial⟩ trivial (fun _ _ q => False.elim q) (nx_c (S := (w_up (w_up S 14 4 ((i + 1 : Nat) : Int)) 14 4 ((i + 1 + 1 : Nat) : Int))) (hx_T (hx_up (hx_up hx (by unfold hx_o; omega)) (by unfold hx_o; omega))) (show cx_P T n c (i + 1 + 1) (w_up (w_up S 14 4 ((i + 1 : Nat) : Int)) 14 4 ((i + 1 + 1 : Nat) : Int)) from ⟨(w_up_same _ _ _ _), hg2⟩) rfl (gI_up (gI_up hI (by omega) (by omega) (by omega)) (by omega) (by omega) (by omega)) (by omega)) (fun oq211 Sq211 hp212 q211 => ?_)
                                            rcases q211 with ⟨rfl, rfl⟩
                                            show wJ _ _ _ _ _ _ _ _ _ _
                                            have hg3 : pg T n c (i + 1 + 1 + 1) := pg_next (i := i + 1 + 1) hT hg2 (by omega) (by omega)
                                            have hA3 := pg_at hT hg3
                                            have h16_3 := hA3.1
                                            have h15_3 := hA3.2.1
                                            have hpr3 := hA3.2.2
                                            have hkr3 := kg_rg T n (tp T n 1 (i + 1 + 1 + 1))
                                            have hic3 := hg3.1
                                            have hlt3 := tp_lt (i := i + 1 + 1) hT hg2 (by omega) (by omega)
                                            refine wa_aload_n (n := 0) rfl ?_
                                            refine wb_gf5 61 rfl (wy_pr rfl) wt_61 wf_4_1 (v := 162) ((w_up_slot (by decide)).trans ((w_up_slot (by decide)).trans ((w_up_slot (by decide)).trans (hH)))) (fun r213 => ?_)
                                            refine wa_iload (n := 4) rfl ?_
                                            refine wa_ifeq (w_rg0 (by omega) (by omega)) ⟨_, rfl⟩ (fun c214 => ?_) (fun c214 => ?_)
                                            · skip
                                              refine wa_iconst ?_
                                              refine wa_fall ⟨_, rfl⟩ ?_
                                              refine wa_iload_n (n := 2) rfl ?_
                                              refine wa_iload_n (n := 3) rfl ?_
                                              refine wa_cv 162 rfl (wy_pr rfl) wt_162 (M2 := fun _ => False) rfl at_XO_addMember ⟨_, rfl⟩ rfl rfl ⟨trivial, trivial, (Or.inr ⟨wy_pr rfl, fun q => q⟩), trivial, trivial, trivial⟩ trivial (fun _ _ q => False.elim q) ?_ (fun _ _ _ q => q)
                                              refine wa_aload_n (n := 0) rfl ?_
                                              refine wb_gfi 162 rfl (wy_pr rfl) wt_162 wf_3_4 (v := (ms.length : Int)) ((w_up_slot (by decide)).trans ((w_up_slot (by decide)).trans ((w_up_slot (by decide)).trans (hmc)))) (fun r215 => ?_)
                                              refine wa_istore (n := 4) rfl ?_
                                              refine wa_aload_n (n := 0) rfl ?_
                                              refine wb_gf4 162 rfl (wy_pr rfl) wt_162 wf_3_3 (v := 185) wl_162_3 ?_
                                              refine wa_iconst ?_
                                              refine wb_aald5 185 0 rfl rfl (wy_pr rfl) wt_185 (by rw [show _ = _ from ((w_up_slot (by decide)).trans ((w_up_slot (by decide)).trans ((w_up_slot (by decide)).trans ((cl_185 hC)))))]; omega) wl_185_0 ?_
                                              refine wa_iload (n := 4) rfl ?_
                                              refine wa_aload_n (n := 0) rfl ?_
                                              refine wb_gfi 162 rfl (wy_pr rfl) wt_162 wf_3_2 (v := (kc + 1)) ((w_up_slot (by decide)).trans ((w_up_slot (by decide)).trans ((w_up_slot (by decide)).trans (hkc1)))) (fun r216 => ?_)
                                              refine wa_iconst ?_
                                              refine wa_isub ?_
                                              rw [show (((kc + 1) - 1) : Int) = kc by omega]
                                              refine wb_iast 186 rfl (wy_pr rfl) wt_186 (n := 400) ((w_up_slot (by decide)).trans ((w_up_slot (by decide)).trans ((w_up_slot (by decide)).trans ((cl_186 hC))))) (by omega) (by omega) ⟨(by omega), (by omega)⟩ ?_
                                              refine wa_aload_n (n := 0) rfl ?_
                                              refine wb_gf4 162 rfl (wy_pr rfl) wt_162 wf_3_3 (v := 185) wl_162_3 ?_
                                              refine wa_iconst ?_
                                              refine wb_aald5 185 1 rfl rfl (wy_pr rfl) wt_185 (by rw [show _ = _ from ((w_up_slot (by decide)).trans ((w_up_slot (by decide)).trans ((w_up_slot (by decide)).trans ((w_up_slot (by decide)).trans ((cl_185 hC))))))]; omega) wl_185_1 ?_
                                              refine wa_iload (n := 4) rfl ?_
                                              refine wa_iload_n (n := 1) rfl ?_
                                              refine wb_iast 187 rfl (wy_pr rfl) wt_187 (n := 400) ((w_up_slot (by decide)).trans ((w_up_slot (by decide)).trans ((w_up_slot (by decide)).trans ((w_up_slot (by decide)).trans ((cl_187 hC)))))) (by omega) (by omega) ⟨(by omega), (by omega)⟩ ?_
                                              refine wa_aload_n (n := 0) rfl ?_
                                              refine wb_gf4 162 rfl (wy_pr rfl) wt_162 wf_3_3 (v := 185) wl_162_3 ?_
                                              refine wa_iconst ?_
                                              refine wb_aald5 185 3 rfl rfl (wy_pr rfl) wt_185 (by rw [show _ = _ from ((w_up_slot (by decide)).trans ((w_up_slot (by decide)).trans ((w_up_slot (by decide)).trans ((w_up_slot (by decide)).trans ((w_up_slot (by decide)).trans ((cl_185 hC)))))))]; omega) wl_185_3 ?_
                                              refine wa_iload (n := 4) rfl ?_
                                              refine wa_iload_n (n := 2) rfl ?_
                                              refine wb_iast 189 rfl (wy_pr rfl) wt_189 (n := 400) ((w_up_slot (by decide)).trans ((w_up_slot (by decide)).trans ((w_up_slot (by decide)).trans ((w_up_slot (by decide)).trans ((w_up_slot (by decide)).trans ((cl_189 hC))))))) (by omega) (by omega) ⟨(by omega), (by omega)⟩ ?_
                                              refine wa_aload_n (n := 0) rfl ?_
                                              refine wb_gf4 162 rfl (wy_pr rfl) wt_162 wf_3_3 (v := 185) wl_162_3 ?_
                                              refine wa_iconst ?_
                                              refine wb_aald5 185 4 rfl rfl (wy_pr rfl) wt_185 (by rw [show _ = _ from ((w_up_slot (by decide)).trans ((w_up_slot (by decide)).trans ((w_up_slot (by decide)).trans ((w_up_slot (by decide)).trans ((w_up_slot (by decide)).trans ((w_up_slot (by decide)).trans ((cl_185 hC))))))))]; omega) wl_185_4 ?_
                                              refine wa_iload (n := 4) rfl ?_
                                              refine wa_iconst ?_
                                              refine wb_iast 190 rfl (wy_pr rfl) wt_190 (n := 400) ((w_up_slot (by decide)).trans ((w_up_slot (by decide)).trans ((w_up_slot (by decide)).trans ((w_up_slot (by decide)).trans ((w_up_slot (by decide)).trans ((w_up_slot (by decide)).trans ((cl_190 hC)))))))) (by omega) (by omega) ⟨(by omega), (by omega)⟩ ?_
                                              refine wa_aload_n (n := 0) rfl ?_
                                              refine wb_gf4 162 rfl (wy_pr rfl) wt_162 wf_3_3 (v := 185) wl_162_3 ?_
                                              refine wa_iconst ?_
                                              refine wb_aald5 185 5 rfl rfl (wy_pr rfl) wt_185 (by rw [show _ = _ from ((w_up_slot (by decide)).trans ((w_up_slot (by decide)).trans ((w_up_slot (by decide)).trans ((w_up_slot (by decide)).trans ((w_up_slot (by decide)).trans ((w_up_slot (by decide)).trans ((w_up_slot (by decide)).trans ((cl_185 hC)))))))))]; omega) wl_185_5 ?_
                                              refine wa_iload (n := 4) rfl ?_
                                              refine wa_iconst ?_
                                              refine wb_iast 191 rfl (wy_pr rfl) wt_191 (n := 400) ((w_up_slot (by decide)).trans ((w_up_slot (by decide)).trans ((w_up_slot (by decide)).trans ((w_up_slot (by decide)).trans ((w_up_slot (by decide)).trans ((w_up_slot (by decide)).trans ((w_up_slot (by decide)).trans ((cl_191 hC))))))))) (by omega) (by omega) ⟨(by omega), (by omega)⟩ ?_
                                              refine wa_aload_n (n := 0) rfl ?_
                                              refine wb_gf4 162 rfl (wy_pr rfl) wt_162 wf_3_3 (v := 185) wl_162_3 ?_
                                              refine wa_bipush (w_rg2 (by omega) (by omega)) ?_
                                              refine wb_aald5 185 14 rfl rfl (wy_pr rfl) wt_185 (by rw [show _ = _ from ((w_up_slot (by decide)).trans ((w_up_slot (by decide)).trans ((w_up_slot (by decide)).trans ((w_up_slot (by decide)).trans ((w_up_slot (by decide)).trans ((w_up_slot (by decide)).trans ((w_up_slot (by decide)).trans ((w_up_slot (by decide)).trans ((cl_185 hC))))))))))]; omega) wl_185_14 ?_
                                              refine wa_iload (n := 4) rfl ?_
                                              refine wa_iload_n (n := 3) rfl ?_
                                              refine wb_iast 200 rfl (wy_pr rfl) wt_200 (n := 400) ((w_up_slot (by decide)).trans ((w_up_slot (by decide)).trans ((w_up_slot (by decide)).trans ((w_up_slot (by decide)).trans ((w_up_slot (by decide)).trans ((w_up_slot (by decide)).trans ((w_up_slot (by decide)).trans ((w_up_slot (by decide)).trans ((cl_200 hC)))))))))) (by omega) (by omega) ⟨(by omega), (by omega)⟩ ?_
                                              refine wa_aload_n (n := 0) rfl ?_
                                              refine wb_gf4 162 rfl (wy_pr rfl) wt_162 wf_3_3 (v := 185) wl_162_3 ?_
                                              refine wa_bipush (w_rg2 (by omega) (by omega)) ?_
                                              refine wb_aald5 185 15 rfl rfl (wy_pr rfl) wt_185 (by rw [show _ = _ from ((w_up_slot (by decide)).trans ((w_up_slot (by decide)).trans ((w_up_slot (by decide)).trans ((w_up_slot (by decide)).trans ((w_up_slot (by decide)).trans ((w_up_slot (by decide)).trans ((w_up_slot (by decide)).trans ((w_up_slot (by decide)).trans ((w_up_slot (by decide)).trans ((cl_185 hC)))))))))))]; omega) wl_185_15 ?_
                                              refine wa_iload (n := 4) rfl ?_
                                              refine wa_iconst ?_
                                              refine wb_iast 201 rfl (wy_pr rfl) wt_201 (n := 400) ((w_up_slot (by decide)).trans ((w_up_slot (by decide)).trans ((w_up_slot (by decide)).trans ((w_up_slot (by decide)).trans ((w_up_slot (by decide)).trans ((w_up_slot (by decide)).trans ((w_up_slot (by decide)).trans ((w_up_slot (by decide)).trans ((w_up_slot (by decide)).trans ((cl_201 hC))))))))))) (by omega) (by omega) ⟨(by omega), (by omega)⟩ ?_
                                              refine wa_aload_n (n := 0) rfl ?_
                                              refine wa_dup (by decide) ?_
                                              refine wb_gfi 162 rfl (wy_pr rfl) wt_162 wf_3_4 (v := (ms.length : Int)) ((w_up_slot (by decide)).trans ((w_up_slot (by decide)).trans ((w_up_slot (by decide)).trans ((w_up_slot (by decide)).trans ((w_up_slot (by decide)).trans ((w_up_slot (by decide)).trans ((w_up_slot (by decide)).trans ((w_up_slot (by decide)).trans ((w_up_slot (by decide)).trans ((w_up_slot (by decide)).trans (hmc))))))))))) (fun r217 => ?_)
                                              refine wa_iconst ?_
                                              refine wa_iadd ?_
                                              refine wb_pfi 162 rfl (wy_pr rfl) wt_162 wf_3_4 (n := 4) rfl ⟨(by omega), (by omega)⟩ ?_
                                              refine wa_aload_n (n := 0) rfl ?_
                                              refine wb_gf4 162 rfl (wy_pr rfl) wt_162 wf_3_1 (v := 175) wl_162_1 ?_
                                              refine wa_iconst ?_
                                              refine wb_aald5 175 3 rfl rfl (wy_pr rfl) wt_175 (by rw [show _ = _ from ((w_up_slot (by decide)).trans ((w_up_slot (by decide)).trans ((w_up_slot (by decide)).trans ((w_up_slot (by decide)).trans ((w_up_slot (by decide)).trans ((w_up_slot (by decide)).trans ((w_up_slot (by decide)).trans ((w_up_slot (by decide)).trans ((w_up_slot (by decide)).trans ((w_up_slot (by decide)).trans ((w_up_slot (by decide)).trans ((cl_175 hC)))))))))))))]; omega) wl_175_3 ?_
                                              refine wa_aload_n (n := 0) rfl ?_
                                              refine wb_gfi 162 rfl (wy_pr rfl) wt_162 wf_3_2 (v := (kc + 1)) ((w_up_at (by decide)).trans ((w_up_slot (by decide)).trans ((w_up_slot (by decide)).trans ((w_up_slot (by decide)).trans ((w_up_slot (by decide)).trans ((w_up_slot (by decide)).trans ((w_up_slot (by decide)).trans ((w_up_slot (by decide)).trans ((w_up_slot (by decide)).trans ((w_up_slot (by decide)).trans ((w_up_slot (by decide)).trans (hkc1)))))))))))) (fun r218 => ?_)
                                              refine wa_iconst ?_
                                              refine wa_isub ?_
                                              rw [show (((kc + 1) - 1) : Int) = kc by omega]
                                              refine wa_dup2 (by decide) (by decide) ?_
                                              refine wb_iald 179 rfl (wy_pr rfl) wt_179 (n := 60) ((w_up_slot (by decide)).trans ((w_up_slot (by decide)).trans ((w_up_slot (by decide)).trans ((w_up_slot (by decide)).trans ((w_up_slot (by decide)).trans ((w_up_slot (by decide)).trans ((w_up_slot (by decide)).trans ((w_up_slot (by decide)).trans ((w_up_slot (by decide)).trans ((w_up_slot (by decide)).trans ((w_up_slot (by decide)).trans ((cl_179 hC))))))))))))) (by omega) (by omega) (v := ((ms.length : Int) - (fi : Int))) ((w_up_slot (by decide)).trans ((w_up_slot (by decide)).trans ((w_up_slot (by decide)).trans ((w_up_slot (by decide)).trans ((w_up_slot (by decide)).trans ((w_up_slot (by decide)).trans ((w_up_slot (by decide)).trans ((w_up_slot (by decide)).trans ((w_up_slot (by decide)).trans ((w_up_slot (by decide)).trans ((w_up_slot (by decide)).trans (ht3)))))))))))) (fun r219 => ?_)
                                              refine wa_iconst ?_
                                              refine wa_iadd ?_
                                              refine wb_iast 179 rfl (wy_pr rfl) wt_179 (n := 60) ((w_up_slot (by decide)).trans ((w_up_slot (by decide)).trans ((w_up_slot (by decide)).trans ((w_up_slot (by decide)).trans ((w_up_slot (by decide)).trans ((w_up_slot (by decide)).trans ((w_up_slot (by decide)).trans ((w_up_slot (by decide)).trans ((w_up_slot (by decide)).trans ((w_up_slot (by decide)).trans ((w_up_slot (by decide)).trans ((cl_179 hC))))))))))))) (by omega) (by omega) ⟨(by omega), (by omega)⟩ ?_
                                              refine wa_return rfl ?_
                                              show wJ _ _ _ _ _ _ _ _ _ _
                                              refine wa_return rfl ?_
                                              show wJ _ _ _ _ _ _ _ _ _ _
                                              refine wa_fall ⟨_, rfl⟩ ?_
                                              refine wa_aload_n (n := 0) rfl ?_
                                              refine wb_gf5 61 rfl (wy_pr rfl) wt_61 wf_4_1 (v := 162) ((w_up_slot (by decide)).trans ((w_up_slot (by decide)).trans ((w_up_slot (by decide)).trans ((w_up_slot (by decide)).trans ((w_up_slot (by decide)).trans ((w_up_slot (by decide)).trans ((w_up_slot (by decide)).trans ((w_up_slot (by decide)).trans ((w_up_slot (by decide)).trans ((w_up_slot (by decide)).trans ((w_up_slot (by decide)).trans ((w_up_slot (by decide)).trans (hH))))))))))))) (fun r220 => ?_)
                                              refine wb_gf4 162 rfl (wy_pr rfl) wt_162 wf_3_3 (v := 185) wl_162_3 ?_
                                              refine wa_iconst ?_
                                              refine wb_aald5 185 2 rfl rfl (wy_pr rfl) wt_185 (by rw [show _ = _ from ((w_up_slot (by decide)).trans ((w_up_slot (by decide)).trans ((w_up_slot (by decide)).trans ((w_up_slot (by decide)).trans ((w_up_slot (by decide)).trans ((w_up_slot (by decide)).trans ((w_up_slot (by decide)).trans ((w_up_slot (by decide)).trans ((w_up_slot (by decide)).trans ((w_up_slot (by decide)).trans ((w_up_slot (by decide)).trans ((w_up_slot (by decide)).trans ((cl_185 hC))))))))))))))]; omega) wl_185_2 ?_
                                              refine wa_aload_n (n := 0) rfl ?_
                                              refine wb_gf5 61 rfl (wy_pr rfl) wt_61 wf_4_1 (v := 162) ((w_up_slot (by decide)).trans ((w_up_slot (by decide)).trans ((w_up_slot (by decide)).trans ((w_up_slot (by decide)).trans ((w_up_slot (by decide)).trans ((w_up_slot (by decide)).trans ((w_up_slot (by decide)).trans ((w_up_slot (by decide)).trans ((w_up_slot (by decide)).trans ((w_up_slot (by decide)).trans ((w_up_slot (by decide)).trans ((w_up_slot (by decide)).trans (hH))))))))))))) (fun r221 => ?_)
                                              refine wb_gfi 162 rfl (wy_pr rfl) wt_162 wf_3_4 (v := ((ms.length : Int) + 1)) ((w_up_slot (by decide)).trans (w_up_same _ _ _ _)) (fun r222 => ?_)
                                              refine wa_iconst ?_
                                              refine wa_isub ?_
                                              rw [show ((((ms.length : Int) + 1) - 1) : Int) = (ms.length : Int) by omega]
                                              refine wa_iload_n (n := 2) rfl ?_
                                              refine wa_ifeq (w_rg0 (by omega) (by omega)) ⟨_, rfl⟩ (fun c223 => ?_) (fun c223 => ?_)
                                              · skip
                                                exact absurd c223 (by omega)
                                              · skip
                                                refine wa_iconst ?_
                                                refine wa_goto ⟨_, rfl⟩ ?_
                                                refine wb_iast 188 rfl (wy_pr rfl) wt_188 (n := 400) ((w_up_slot (by decide)).trans ((w_up_slot (by decide)).trans ((w_up_slot (by decide)).trans ((w_up_slot (by decide)).trans ((w_up_slot (by decide)).trans ((w_up_slot (by decide)).trans ((w_up_slot (by decide)).trans ((w_up_slot (by decide)).trans ((w_up_slot (by decide)).trans ((w_up_slot (by decide)).trans ((w_up_slot (by decide)).trans ((w_up_slot (by decide)).trans ((cl_188 hC)))))))))))))) (by omega) (by omega) ⟨(by omega), (by omega)⟩ ?_
                                                refine wa_return rfl ?_
                                                show wJ _ _ _ _ _ _ _ _ _ _
                                                refine wa_aload_n (n := 0) rfl ?_
                                                refine wb_gf5 61 rfl (wy_pr rfl) wt_61 wf_4_1 (v := 162) ((w_up_slot (by decide)).trans ((w_up_slot (by decide)).trans ((w_up_slot (by decide)).trans ((w_up_slot (by decide)).trans ((w_up_slot (by decide)).trans ((w_up_slot (by decide)).trans ((w_up_slot (by decide)).trans ((w_up_slot (by decide)).trans ((w_up_slot (by decide)).trans ((w_up_slot (by decide)).trans ((w_up_slot (by decide)).trans ((w_up_slot (by decide)).trans ((w_up_slot (by decide)).trans (hH)))))))))))))) (fun r224 => ?_)
                                                refine wb_gfi 162 rfl (wy_pr rfl) wt_162 wf_3_4 (v := ((ms.length : Int) + 1)) ((w_up_slot (by decide)).trans ((w_up_slot (by decide)).trans (w_up_same _ _ _ _))) (fun r225 => ?_)
                                                refine wa_iconst ?_
                                                refine wa_isub ?_
                                                rw [show ((((ms.length : Int) + 1) - 1) : Int) = (ms.length : Int) by omega]
                                                refine wa_istore (n := 5) rfl ?_
                                                refine wa_aload_n (n := 0) rfl ?_
                                                refine wb_gf5 61 rfl (wy_pr rfl) wt_61 wf_4_1 (v := 162) ((w_up_slot (by decide)).trans ((w_up_slot (by decide)).trans ((w_up_slot (by decide)).trans ((w_up_slot (by decide)).trans ((w_up_slot (by decide)).trans ((w_up_slot (by decide)).trans ((w_up_slot (by decide)).trans ((w_up_slot (by decide)).trans ((w_up_slot (by decide)).trans ((w_up_slot (by decide)).trans ((w_up_slot (by decide)).trans ((w_up_slot (by decide)).trans ((w_up_slot (by decide)).trans (hH)))))))))))))) (fun r226 => ?_)
                                                refine wb_gf4 162 rfl (wy_pr rfl) wt_162 wf_3_3 (v := 185) wl_162_3 ?_
                                                refine wa_iconst ?_
                                                refine wb_aald5 185 1 rfl rfl (wy_pr rfl) wt_185 (by rw [show _ = _ from ((w_up_slot (by decide)).trans ((w_up_slot (by decide)).trans ((w_up_slot (by decide)).trans ((w_up_slot (by decide)).trans ((w_up_slot (by decide)).trans ((w_up_slot (by decide)).trans ((w_up_slot (by decide)).trans ((w_up_slot (by decide)).trans ((w_up_slot (by decide)).trans ((w_up_slot (by decide)).trans ((w_up_slot (by decide)).trans ((w_up_slot (by decide)).trans ((w_up_slot (by decide)).trans ((cl_185 hC)))))))))))))))]; omega) wl_185_1 ?_
                                                refine wa_iload (n := 5) rfl ?_
                                                refine wb_iald 187 rfl (wy_pr rfl) wt_187 (n := 400) ((w_up_slot (by decide)).trans ((w_up_slot (by decide)).trans ((w_up_slot (by decide)).trans ((w_up_slot (by decide)).trans ((w_up_slot (by decide)).trans ((w_up_slot (by decide)).trans ((w_up_slot (by decide)).trans ((w_up_slot (by decide)).trans ((w_up_at (by omega)).trans ((w_up_slot (by decide)).trans ((w_up_slot (by decide)).trans ((w_up_slot (by decide)).trans ((w_up_slot (by decide)).trans ((cl_187 hC))))))))))))))) (by omega) (by omega) (v := 1) ((w_up_slot (by decide)).trans ((w_up_slot (by decide)).trans ((w_up_slot (by decide)).trans ((w_up_slot (by decide)).trans ((w_up_slot (by decide)).trans ((w_up_slot (by decide)).trans ((w_up_slot (by decide)).trans ((w_up_slot (by decide)).trans (w_up_same _ _ _ _))))))))) (fun r227 => ?_)
                                                refine wa_ifeq (w_rg0 (by omega) (by omega)) ⟨_, rfl⟩ (fun c228 => ?_) (fun c228 => ?_)
                                                · skip
                                                  exact absurd c228 (by omega)
                                                · skip
                                                  refine wa_aload_n (n := 0) rfl ?_
                                                  refine wa_iload (n := 5) rfl ?_
                                                  have hmsx : mr_all 186 163 T (w_up (w_up (w_up (w_up (w_up (w_up (w_up (w_up (w_up (w_up (w_up (w_up (w_up S 14 4 ((i + 1 : Nat) : Int)) 14 4 ((i + 1 + 1 : Nat) : Int)) 14 4 ((i + 1 + 1 + 1 : Nat) : Int)) 186 (ms.length : Int) kc) 187 (ms.length : Int) 1) 189 (ms.length : Int) y) 190 (ms.length : Int) 0) 191 (ms.length : Int) 0) 200 (ms.length : Int) (S 17 ((i + 1 + 1 : Nat) : Int))) 201 (ms.length : Int) (-1)) 162 4 ((ms.length : Int) + 1)) 179 kc (((ms.length : Int) - (fi : Int)) + 1)) 188 (ms.length : Int) 1) ms := (mr_all_up (mr_all_up (mr_all_up (mr_all_up (mr_all_up (mr_all_up (mr_all_up (mr_all_up (mr_all_up (mr_all_up (mr_all_up (mr_all_up (mr_all_up hms (by omega) (by omega)) (by omega) (by omega)) (by omega) (by omega)) (by omega) (by omega)) (by omega) (by omega)) (by omega) (by omega)) (by omega) (by omega)) (by omega) (by omega)) (by omega) (by omega)) (by omega) (by omega)) (by omega) (by omega)) (by omega) (by omega)) (by omega) (by omega))
                                                  have hhd : mr_hd 186 163 T (w_up (w_up (w_up (w_up (w_up (w_up (w_up (w_up (w_up (w_up (w_up (w_up (w_up S 14 4 ((i + 1 : Nat) : Int)) 14 4 ((i + 1 + 1 : Nat) : Int)) 14 4 ((i + 1 + 1 + 1 : Nat) : Int)) 186 (ms.length : Int) kc) 187 (ms.length : Int) 1) 189 (ms.length : Int) y) 190 (ms.length : Int) 0) 191 (ms.length : Int) 0) 200 (ms.length : Int) (S 17 ((i + 1 + 1 : Nat) : Int))) 201 (ms.length : Int) (-1)) 162 4 ((ms.length : Int) + 1)) 179 kc (((ms.length : Int) - (fi : Int)) + 1)) 188 (ms.length : Int) 1) (ms.length : Int) kc 1 1 y (tp T n 1 (i + 1 + 1)) (lx_en T n 1 (tp T n 1 (i + 1 + 1))) := ⟨⟨((w_up_slot (by decide)).trans ((w_up_slot (by decide)).trans ((w_up_slot (by decide)).trans ((w_up_slot (by decide)).trans ((w_up_slot (by decide)).trans ((w_up_slot (by decide)).trans ((w_up_slot (by decide)).trans ((w_up_slot (by decide)).trans ((w_up_slot (by decide)).trans (w_up_same _ _ _ _)))))))))), ((w_up_slot (by decide)).trans ((w_up_slot (by decide)).trans ((w_up_slot (by decide)).trans ((w_up_slot (by decide)).trans ((w_up_slot (by decide)).trans ((w_up_slot (by decide)).trans ((w_up_slot (by decide)).trans ((w_up_slot (by decide)).trans (w_up_same _ _ _ _))))))))), (w_up_same _ _ _ _), ((w_up_slot (by decide)).trans ((w_up_slot (by decide)).trans ((w_up_slot (by decide)).trans ((w_up_slot (by decide)).trans ((w_up_slot (by decide)).trans ((w_up_slot (by decide)).trans ((w_up_slot (by decide)).trans (w_up_same _ _ _ _))))))))⟩, ⟨by decide, by decide⟩, fun z => absurd z (by decide), fun _ => ⟨⟨by rw [show (w_up (w_up (w_up (w_up (w_up (w_up (w_up (w_up (w_up (w_up (w_up (w_up (w_up S 14 4 ((i + 1 : Nat) : Int)) 14 4 ((i + 1 + 1 : Nat) : Int)) 14 4 ((i + 1 + 1 + 1 : Nat) : Int)) 186 (ms.length : Int) kc) 187 (ms.length : Int) 1) 189 (ms.length : Int) y) 190 (ms.length : Int) 0) 191 (ms.length : Int) 0) 200 (ms.length : Int) (S 17 ((i + 1 + 1 : Nat) : Int))) 201 (ms.length : Int) (-1)) 162 4 ((ms.length : Int) + 1)) 179 kc (((ms.length : Int) - (fi : Int)) + 1)) 188 (ms.length : Int) 1) (186 + 14) (ms.length : Int) = _ from ((w_up_slot (by decide)).trans ((w_up_slot (by decide)).trans ((w_up_slot (by decide)).trans ((w_up_slot (by decide)).trans (w_up_same _ _ _ _)))))]; omega, by rw [show (w_up (w_up (w_up (w_up (w_up (w_up (w_up (w_up (w_up (w_up (w_up (w_up (w_up S 14 4 ((i + 1 : Nat) : Int)) 14 4 ((i + 1 + 1 : Nat) : Int)) 14 4 ((i + 1 + 1 + 1 : Nat) : Int)) 186 (ms.length : Int) kc) 187 (ms.length : Int) 1) 189 (ms.length : Int) y) 190 (ms.length : Int) 0) 191 (ms.length : Int) 0) 200 (ms.length : Int) (S 17 ((i + 1 + 1 : Nat) : Int))) 201 (ms.length : Int) (-1)) 162 4 ((ms.length : Int) + 1)) 179 kc (((ms.length : Int) - (fi : Int)) + 1)) 188 (ms.length : Int) 1) (186 + 14) (ms.length : Int) = _ from ((w_up_slot (by decide)).trans ((w_up_slot (by decide)).trans ((w_up_slot (by decide)).trans ((w_up_slot (by decide)).trans (w_up_same _ _ _ _)))))]; show _ < S 163 7; omega⟩, by rw [show (w_up (w_up (w_up (w_up (w_up (w_up (w_up (w_up (w_up (w_up (w_up (w_up (w_up S 14 4 ((i + 1 : Nat) : Int)) 14 4 ((i + 1 + 1 : Nat) : Int)) 14 4 ((i + 1 + 1 + 1 : Nat) : Int)) 186 (ms.length : Int) kc) 187 (ms.length : Int) 1) 189 (ms.length : Int) y) 190 (ms.length : Int) 0) 191 (ms.length : Int) 0) 200 (ms.length : Int) (S 17 ((i + 1 + 1 : Nat) : Int))) 201 (ms.length : Int) (-1)) 162 4 ((ms.length : Int) + 1)) 179 kc (((ms.length : Int) - (fi : Int)) + 1)) 188 (ms.length : Int) 1) (186 + 14) (ms.length : Int) = _ from ((w_up_slot (by decide)).trans ((w_up_slot (by decide)).trans ((w_up_slot (by decide)).trans ((w_up_slot (by decide)).trans (w_up_same _ _ _ _)))))]; exact hnt2.2.2⟩⟩
                                                  have hpm0 : pm_I 186 (w_up (w_up (w_up (w_up (w_up (w_up (w_up (w_up (w_up (w_up (w_up (w_up (w_up S 14 4 ((i + 1 : Nat) : Int)) 14 4 ((i + 1 + 1 : Nat) : Int)) 14 4 ((i + 1 + 1 + 1 : Nat) : Int)) 186 (ms.length : Int) kc) 187 (ms.length : Int) 1) 189 (ms.length : Int) y) 190 (ms.length : Int) 0) 191 (ms.length : Int) 0) 200 (ms.length : Int) (S 17 ((i + 1 + 1 : Nat) : Int))) 201 (ms.length : Int) (-1)) 162 4 ((ms.length : Int) + 1)) 179 kc (((ms.length : Int) - (fi : Int)) + 1)) 188 (ms.length : Int) 1) (ms.length : Int) [] 0 := ⟨((w_up_slot (by decide)).trans ((w_up_slot (by decide)).trans ((w_up_slot (by decide)).trans ((w_up_slot (by decide)).trans ((w_up_slot (by decide)).trans ((w_up_slot (by decide)).trans (w_up_same _ _ _ _))))))), ((w_up_slot (by decide)).trans ((w_up_slot (by decide)).trans ((w_up_slot (by decide)).trans ((w_up_slot (by decide)).trans ((w_up_slot (by decide)).trans (w_up_same _ _ _ _)))))), by decide, fun q hq => absurd hq (Nat.not_lt_zero _)⟩
                                                  have hn := lx_w_k (k := 12) hB hW hrw (by decide) hwc.1 hnt1
                                                  rw [show hwl 12 = tx_25 from rfl] at hn
                                                  have z1 : zq B (tp T n 1 (i + 1)) 237 6 = 1 := by rw [zT_6 hB]; exact hnt1.1
                                                  have hs := lx_w_k (k := 11) hB hW hrw (by decide) hwc.1 hnt0
                                                  rw [show hwl 11 = tx_23 from rfl] at hs
                                                  have hrm0 : rm_L B 261 kc itf (ms.drop fi) ms.length (tp T n 1 i) = rb_L B 261 kc itf (ms.drop fi) ms.length (tp T n 1 (i + 1)) 1 := (rm_s (hs.2 (by omega)) (by omega)).trans (by rw [tp_ne (i := i) hB])
                                                  have hyh := ty_hy (av := 1) hyy1 (Or.inr (by decide))
                                                  rw [tp_ne (i := i + 1) hB] at hyh
                                                  have hrm1 : rm_L B 261 kc itf (ms.drop fi) ms.length (tp T n 1 i) = rb_name B 261 itf (ms.drop fi) y (tp T n 1 (i + 1 + 1)) 1 := hrm0.trans (rb_t z1 (fun z => absurd (hn.1 z) (by omega)) hyh.2.2.1 (by omega) hyh.1)
                                                  have z2 : zq B (tp T n 1 (i + 1 + 1)) 237 6 = 1 := by rw [zT_6 hB]; exact hnt2.1
                                                  have hoo := oo_21 hB hW hrw hwc.1 hnt2
                                                  have h59 := lx_is_kg (i := i + 1 + 1 + 1) hB (k := 17) (ch := 59) (by decide) sk_17
                                                  have hrm3 := hrm1.trans (rn_m z2 (fun z => absurd (hoo.1 z) (by omega)) (by rw [tp_ne (i := i + 1 + 1) hB]; rintro ⟨q1, q2⟩; have := h59.1 q1; omega))
                                                  rw [tp_ne (i := i + 1 + 1) hB, zT_8 hB] at hrm3
                                                  have h40 := lx_is_kg (i := i + 1 + 1 + 1) hB (k := 10) (ch := 40) (by decide) sk_10
                                                  have hpar : rm_par2 B 261 1 (tp T n 1 (i + 1 + 1)) (lx_en T n 1 (tp T n 1 (i + 1 + 1))) (ms.drop fi) (tp T n 1 (i + 1 + 1 + 1)) = (if kg T n (tp T n 1 (i + 1 + 1 + 1)) = 10 then pk_L B 1 (tp T n 1 (i + 1 + 1)) (lx_en T n 1 (tp T n 1 (i + 1 + 1))) (ms.drop fi) (pq_r B 261 (tp T n 1 (i + 1 + 1 + 1 + 1))) else .inl (1, (tp T n 1 (i + 1 + 1 + 1)))) := by
                                                    unfold rm_par2
                                                    by_cases hq : kg T n (tp T n 1 (i + 1 + 1 + 1)) = 10
                                                    · rw [if_pos (h40.2 hq), if_pos hq, tp_ne (i := i + 1 + 1 + 1) hB]
                                                    · rw [if_neg (fun z => hq (h40.1 z)), if_neg hq]
                                                  rw [hpar] at hrm3
                                                  generalize hRR : (if kg T n (tp T n 1 (i + 1 + 1 + 1)) = 10 then pk_L B 1 (tp T n 1 (i + 1 + 1)) (lx_en T n 1 (tp T n 1 (i + 1 + 1))) (ms.drop fi) (pq_r B 261 (tp T n 1 (i + 1 + 1 + 1 + 1))) else .inl (1, (tp T n 1 (i + 1 + 1 + 1)))) = RR at hrm3
                                                  have hrp := rp_162 (xs := xs) (M := fun _ => False) (d := d + 1) (S := (w_up (w_up (w_up (w_up (w_up (w_up (w_up (w_up (w_up (w_up (w_up (w_up (w_up S 14 4 ((i + 1 : Nat) : Int)) 14 4 ((i + 1 + 1 : Nat) : Int)) 14 4 ((i + 1 + 1 + 1 : Nat) : Int)) 186 (ms.length : Int) kc) 187 (ms.length : Int) 1) 189 (ms.length : Int) y) 190 (ms.length : Int) 0) 191 (ms.length : Int) 0) 200 (ms.length : Int) (S 17 ((i + 1 + 1 : Nat) : Int))) 201 (ms.length : Int) (-1)) 162 4 ((ms.length : Int) + 1)) 179 kc (((ms.length : Int) - (fi : Int)) + 1)) 188 (ms.length : Int) 1)) (i := i + 1 + 1 + 1) (ms := ms) (kc := kc) (so := 1) (st := 1) (ty := y) (f0 := (tp T n 1 (i + 1 + 1))) (e0 := (lx_en T n 1 (tp T n 1 (i + 1 + 1)))) (fi := fi) (hx_up (hx_up (hx_up (hx_up (hx_up (hx_up (hx_up (hx_up (hx_up (hx_up (hx_up (hx_up (hx_up hx (by unfold hx_o; omega)) (by unfold hx_o; omega)) (by unfold hx_o; omega)) (by unfold hx_o; omega)) (by unfold hx_o; omega)) (by unfold hx_o; omega)) (by unfold hx_o; omega)) (by unfold hx_o; omega)) (by unfold hx_o; omega)) (by unfold hx_o; omega)) (by unfold hx_o; omega)) (by unfold hx_o; omega)) (by unfold hx_o; omega)) (show cx_P T n c (i + 1 + 1 + 1) (w_up (w_up (w_up (w_up (w_up (w_up (w_up (w_up (w_up (w_up (w_up (w_up (w_up S 14 4 ((i + 1 : Nat) : Int)) 14 4 ((i + 1 + 1 : Nat) : Int)) 14 4 ((i + 1 + 1 + 1 : Nat) : Int)) 186 (ms.length : Int) kc) 187 (ms.length : Int) 1) 189 (ms.length : Int) y) 190 (ms.length : Int) 0) 191 (ms.length : Int) 0) 200 (ms.length : Int) (S 17 ((i + 1 + 1 : Nat) : Int))) 201 (ms.length : Int) (-1)) 162 4 ((ms.length : Int) + 1)) 179 kc (((ms.length : Int) - (fi : Int)) + 1)) 188 (ms.length : Int) 1) from ⟨((w_up_slot (by decide)).trans ((w_up_slot (by decide)).trans ((w_up_slot (by decide)).trans ((w_up_slot (by decide)).trans ((w_up_slot (by decide)).trans ((w_up_slot (by decide)).trans ((w_up_slot (by decide)).trans ((w_up_slot (by decide)).trans ((w_up_slot (by decide)).trans ((w_up_slot (by decide)).trans (w_up_same _ _ _ _))))))))))), hg3⟩) hmsx (by omega) hhd (by decide) hkc ⟨(((w_up_slot (by decide)).trans ((w_up_slot (by decide)).trans ((w_up_slot (by decide)).trans ((w_up_slot (by decide)).trans ((w_up_slot (by decide)).trans ((w_up_slot (by decide)).trans ((w_up_slot (by decide)).trans ((w_up_slot (by decide)).trans ((w_up_slot (by decide)).trans ((w_up_slot (by decide)).trans ((w_up_slot (by decide)).trans ((w_up_slot (by decide)).trans (w_up_slot (by decide))))))))))))))).trans hfi.1, hfi.2⟩ hpm0
                                                  rw [hRR] at hrp
                                                  refine wa_cv 61 rfl (wy_pr rfl) wt_61 (M2 := fun _ => False) rfl at_XT_readParameters ⟨_, rfl⟩ rfl rfl ⟨trivial, (Or.inr ⟨wy_pr rfl, fun q => q⟩), trivial, trivial, trivial⟩ trivial (fun _ _ q => False.elim q) (hrp) (fun oq229 Sq229 hp230 q229 => ?_)
                                                  match RR, hrm3, q229 with
                                                  | .inl (e, qq), hrm3, hrq =>
                                                    obtain ⟨v, Z0, rfl, g1, g2⟩ := hrq
                                                    refine ⟨rfl, ?_⟩
                                                    exact hf e qq v Z0 _ (by rw [mb_f_s, if_neg (fun z => absurd (h125.1 z) (by omega)), hrm3]; rfl) (fun j x a1 a2 a3 a4 => (g1 j x a1 (by omega)).trans ((fun j x a1 a2 a3 a4 => (w_up_no (by omega)).trans ((w_up_no (by omega)).trans ((w_up_no (by omega)).trans ((w_up_no (by omega)).trans ((w_up_no (by omega)).trans ((w_up_no (by omega)).trans ((w_up_no (by omega)).trans ((w_up_no (by omega)).trans ((w_up_no (by omega)).trans ((w_up_no (by omega)).trans ((w_up_no (by omega)).trans ((w_up_no (by omega)).trans ((w_up_no (by omega)).trans (rfl)))))))))))))) j x a1 a2 a3 a4)) g2
                                                  | .inr (qq, l, vv), hrm3, hrq =>
                                                    obtain ⟨rfl, g1, ⟨i2, g2, rfl⟩, g3⟩ := hrq
                                                    show wJ _ _ _ _ _ _ _ _ _ _
                                                    refine wa_fall ⟨_, rfl⟩ ?_
                                                    have hxz : hx_I 261 162 176 181 163 T n c B Sq229 := hx_ag (hx_up (hx_up (hx_up (hx_up (hx_up (hx_up (hx_up (hx_up (hx_up (hx_up (hx_up (hx_up (hx_up hx (by unfold hx_o; omega)) (by unfold hx_o; omega)) (by unfold hx_o; omega)) (by unfold hx_o; omega)) (by unfold hx_o; omega)) (by unfold hx_o; omega)) (by unfold hx_o; omega)) (by unfold hx_o; omega)) (by unfold hx_o; omega)) (by unfold hx_o; omega)) (by unfold hx_o; omega)) (by unfold hx_o; omega)) (by unfold hx_o; omega)) (by decide) (g1 14 3 (by omega) (by omega)) (gI_ag2 (gI_up (gI_up (gI_up (gI_up (gI_up (gI_up (gI_up (gI_up (gI_up (gI_up (gI_up (gI_up (gI_up hI (by omega) (by omega) (by omega)) (by omega) (by omega) (by omega)) (by omega) (by omega) (by omega)) (by omega) (by omega) (by omega)) (by omega) (by omega) (by omega)) (by omega) (by omega) (by omega)) (by omega) (by omega) (by omega)) (by omega) (by omega) (by omega)) (by omega) (by omega) (by omega)) (by omega) (by omega) (by omega)) (by omega) (by omega) (by omega)) (by omega) (by omega) (by omega)) (by omega) (by omega) (by omega)) (fun j hj => g1 j (-1) (by omega) (by omega)) (fun x hx => g1 238 x (by omega) (by omega)) (g1 14 5 (by omega) (by omega))) (fun j hj => funext fun x => g1 j x (by omega) (by omega)) (g1 162 2 (by omega) (by omega)) (g1 61 1 (by omega) (by omega)) (fun z hz => (g1 z.1 (-1) (by omega) (by omega)).trans ((hx_R (hx_up (hx_up (hx_up (hx_up (hx_up (hx_up (hx_up (hx_up (hx_up (hx_up (hx_up (hx_up (hx_up hx (by unfold hx_o; omega)) (by unfold hx_o; omega)) (by unfold hx_o; omega)) (by unfold hx_o; omega)) (by unfold hx_o; omega)) (by unfold hx_o; omega)) (by unfold hx_o; omega)) (by unfold hx_o; omega)) (by unfold hx_o; omega)) (by unfold hx_o; omega)) (by unfold hx_o; omega)) (by unfold hx_o; omega)) (by unfold hx_o; omega))).2.2.1 z hz))
                                                    refine wJ_S (htail Sq229 i2 1 1 y vv (tp T n 1 (i + 1 + 1)) (lx_en T n 1 (tp T n 1 (i + 1 + 1))) l hxz g2 (mr_all_pp hmsx g1 (by decide)) (by omega) (mr_of (mr_hd_ag hhd (fun x hx => g1 _ _ (by omega) (by omega)) (fun x hx => funext fun y => g1 _ _ (by omega) (by omega))) g3) (fun j x a1 a2 a3 a4 => (g1 j x a1 (by omega)).trans ((fun j x a1 a2 a3 a4 => (w_up_no (by omega)).trans ((w_up_no (by omega)).trans ((w_up_no (by omega)).trans ((w_up_no (by omega)).trans ((w_up_no (by omega)).trans ((w_up_no (by omega)).trans ((w_up_no (by omega)).trans ((w_up_no (by omega)).trans ((w_up_no (by omega)).trans ((w_up_no (by omega)).trans ((w_up_no (by omega)).trans ((w_up_no (by omega)).trans ((w_up_no (by omega)).trans (rfl)))))))))))))) j x a1 a2 a3 a4)) ((g1 162 4 (by omega) (by omega)).trans (((w_up_slot (by decide)).trans ((w_up_slot (by decide)).trans (w_up_same _ _ _ _))))) ((g1 179 kc (by omega) (by omega)).trans (((w_up_slot (by decide)).trans (w_up_same _ _ _ _)))) ((g1 180 kc (by omega) (by omega)).trans ((((w_up_slot (by decide)).trans ((w_up_slot (by decide)).trans ((w_up_slot (by decide)).trans ((w_up_slot (by decide)).trans ((w_up_slot (by decide)).trans ((w_up_slot (by decide)).trans ((w_up_slot (by decide)).trans ((w_up_slot (by decide)).trans ((w_up_slot (by decide)).trans ((w_up_slot (by decide)).trans ((w_up_slot (by decide)).trans ((w_up_slot (by decide)).trans (w_up_slot (by decide))))))))))))))).trans hfi.1)) hrm3 (by omega)) ⟨rfl, rfl, rfl, trivial⟩
                                            · skip
                                              exact absurd c214 (by omega)
                                          · skip
                                            exact absurd c210 (by omega)
                                        · skip
                                          exact absurd c209 (by omega)
                                      · skip
                                        refine wa_iconst ?_
                                        refine wa_goto ⟨_, rfl⟩ ?_
                                        refine wa_istore (n := 4) rfl ?_
                                        refine wa_iload (n := 4) rfl ?_
                                        refine wa_ifeq (w_rg0 (by omega) (by omega)) ⟨_, rfl⟩ (fun c231 => ?_) (fun c231 => ?_)
                                        · skip
                                          exact absurd c231 (by omega)
                                        · skip
                                          refine wa_aload_n (n := 0) rfl ?_
                                          refine wb_gf5 61 rfl (wy_pr rfl) wt_61 wf_4_1 (v := 162) ((w_up_slot (by decide)).trans ((w_up_slot (by decide)).trans (hH))) (fun r232 => ?_)
                                          refine wa_iload_n (n := 3) rfl ?_
                                          refine wa_cv 162 rfl (wy_pr rfl) wt_162 (M2 := fun _ => False) rfl at_XO_hasOwnField ⟨_, rfl⟩ rfl rfl ⟨trivial, trivial, (Or.inr ⟨wy_pr rfl, fun q => q⟩), trivial, trivial, trivial⟩ trivial (fun _ _ q => False.elim q) (of_162 (S := (w_up (w_up S 14 4 ((i + 1 : Nat) : Int)) 14 4 ((i + 1 + 1 : Nat) : Int))) (ms := ms) (f0 := (tp T n 1 (i + 1 + 1))) (e0 := lx_en T n 1 (tp T n 1 (i + 1 + 1))) (kc := kc) (fi := fi) (hx_R (hx_up (hx_up hx (by unfold hx_o; omega)) (by unfold hx_o; omega))).2.2.1 (hx_W (hx_up (hx_up hx (by unfold hx_o; omega)) (by unfold hx_o; omega))) (mr_all_up (mr_all_up hms (by omega) (by omega)) (by omega) (by omega)) (((w_up_slot (by decide)).trans ((w_up_slot (by decide)).trans (hmc)))) ⟨by omega, by show (S 17 ((i + 1 + 1 : Nat) : Int)) < S 163 7; omega, by omega⟩ (show wq ((w_up (w_up S 14 4 ((i + 1 : Nat) : Int)) 14 4 ((i + 1 + 1 : Nat) : Int)) 164) ((w_up (w_up S 14 4 ((i + 1 : Nat) : Int)) 14 4 ((i + 1 + 1 : Nat) : Int)) 165) ((w_up (w_up S 14 4 ((i + 1 : Nat) : Int)) 14 4 ((i + 1 + 1 : Nat) : Int)) 166) T (tp T n 1 (i + 1 + 1)) (lx_en T n 1 (tp T n 1 (i + 1 + 1)) - (tp T n 1 (i + 1 + 1))) (S 17 ((i + 1 + 1 : Nat) : Int)) from hnt2.2.2) ⟨((w_up_slot (by decide)).trans ((w_up_slot (by decide)).trans (hkc1))), hkc.2⟩ ⟨((w_up_slot (by decide)).trans (w_up_slot (by decide))).trans hfi.1, hfi.2⟩) (fun oq234 Sq234 hp235 q234 => ?_)
                                          rcases q234 with ⟨rfl, ⟨rfl, ho233⟩ | ⟨rfl, ho233⟩⟩
                                          · skip
                                            show wJ _ _ _ _ _ _ _ _ _ _
                                            have hdf := ho233
                                            refine wa_ifeq (w_rg0 (by omega) (by omega)) ⟨_, rfl⟩ (fun c236 => ?_) (fun c236 => ?_)
                                            · skip
                                              exact absurd c236 (by omega)
                                            · skip
                                              refine wa_aload_n (n := 0) rfl ?_
                                              refine wa_iconst ?_
                                              refine wa_cv 61 rfl (wy_pr rfl) wt_61 (M2 := fun _ => False) rfl at_XT_refuse ⟨_, rfl⟩ rfl rfl ⟨trivial, trivial, (Or.inr ⟨wy_pr rfl, fun q => q⟩), trivial, trivial, trivial⟩ trivial (fun _ _ q => False.elim q) (rf_c (S := (w_up (w_up S 14 4 ((i + 1 : Nat) : Int)) 14 4 ((i + 1 + 1 : Nat) : Int))) (k := 2) (p := (tp T n 1 (i + 1 + 1))) (i := ((i + 1 + 1 : Nat) : Int)) (gI_up (gI_up hI (by omega) (by omega) (by omega)) (by omega) (by omega) (by omega)) (w_up_same _ _ _ _) ((w_up_slot (by decide)).trans ((w_up_slot (by decide)).trans (h16_2))) ⟨by omega, by have e : (w_up (w_up S 14 4 ((i + 1 : Nat) : Int)) 14 4 ((i + 1 + 1 : Nat) : Int)) 16 (-1) = S 16 (-1) := ((w_up_slot (by decide)).trans (w_up_slot (by decide))); omega⟩ ⟨by omega, by omega⟩ ⟨by omega, by omega⟩) (fun oq238 Sq238 hp239 q238 => ?_)
                                              rcases q238 with ⟨v, rfl, rz237⟩
                                              have hrz := rz237
                                              have hkind : (2 : Int) = 2 := rfl
                                              refine ⟨rfl, ?_⟩
                                              refine ⟨rfl, ?_⟩
                                              refine ⟨rfl, ?_⟩
                                              have hn := lx_w_k (k := 12) hB hW hrw (by decide) hwc.1 hnt1
                                              rw [show hwl 12 = tx_25 from rfl] at hn
                                              have z1 : zq B (tp T n 1 (i + 1)) 237 6 = 1 := by rw [zT_6 hB]; exact hnt1.1
                                              have hs := lx_w_k (k := 11) hB hW hrw (by decide) hwc.1 hnt0
                                              rw [show hwl 11 = tx_23 from rfl] at hs
                                              have hrm0 : rm_L B 261 kc itf (ms.drop fi) ms.length (tp T n 1 i) = rb_L B 261 kc itf (ms.drop fi) ms.length (tp T n 1 (i + 1)) 1 := (rm_s (hs.2 (by omega)) (by omega)).trans (by rw [tp_ne (i := i) hB])
                                              have hyh := ty_hy (av := 1) hyy1 (Or.inr (by decide))
                                              rw [tp_ne (i := i + 1) hB] at hyh
                                              have hrm1 : rm_L B 261 kc itf (ms.drop fi) ms.length (tp T n 1 i) = rb_name B 261 itf (ms.drop fi) y (tp T n 1 (i + 1 + 1)) 1 := hrm0.trans (rb_t z1 (fun z => absurd (hn.1 z) (by omega)) hyh.2.2.1 (by omega) hyh.1)
                                              have z2 : zq B (tp T n 1 (i + 1 + 1)) 237 6 = 1 := by rw [zT_6 hB]; exact hnt2.1
                                              have hoo := oo_21 hB hW hrw hwc.1 hnt2
                                              have h59 := lx_is_kg (i := i + 1 + 1 + 1) hB (k := 17) (ch := 59) (by decide) sk_17
                                              have h40 := lx_is_kg (i := i + 1 + 1 + 1) hB (k := 10) (ch := 40) (by decide) sk_10
                                              have hrm2 := rn_f (b := 261) (itf := itf) (rs := ms.drop fi) (t := y) (st := 1) z2 (fun z => absurd (hoo.1 z) (by omega)) (by rw [tp_ne (i := i + 1 + 1) hB]; exact fun z => absurd (h40.1 z) (by omega)) (by rw [tp_ne (i := i + 1 + 1) hB]; exact ⟨h59.2 (by omega), by omega⟩)
                                              rw [hBT, zT_8 hB] at hrm2
                                              have hr : rm_L B 261 kc itf (ms.drop fi) ms.length (tp T n 1 i) = .inl (2, (tp T n 1 (i + 1 + 1))) := hrm1.trans (hrm2.trans (by rw [if_pos hdf]))
                                              exact hf 2 _ v _ _ (by rw [mb_f_s, if_neg (fun z => absurd (h125.1 z) (by omega)), hr]) (fun j x a1 a2 a3 a4 => (w_up_no (by omega)).trans ((w_up_no (by omega)).trans (rfl))) hrz
                                          · skip
                                            show wJ _ _ _ _ _ _ _ _ _ _
                                            have hdf := ho233
                                            refine wa_ifeq (w_rg0 (by omega) (by omega)) ⟨_, rfl⟩ (fun c240 => ?_) (fun c240 => ?_)
                                            · skip
                                              refine wa_iload (n := 4) rfl ?_
                                              refine wa_ifeq (w_rg0 (by omega) (by omega)) ⟨_, rfl⟩ (fun c241 => ?_) (fun c241 => ?_)
                                              · skip
                                                exact absurd c241 (by omega)
                                              · skip
                                                refine wa_iload_n (n := 1) rfl ?_
                                                refine wa_ifeq (w_rg0 (by omega) (by omega)) ⟨_, rfl⟩ (fun c242 => ?_) (fun c242 => ?_)
                                                · skip
                                                  refine wa_aload_n (n := 0) rfl ?_
                                                  refine wb_gf4 61 rfl (wy_pr rfl) wt_61 wf_4_0 (v := 14) wl_61_0 ?_
                                                  refine wa_cv 14 rfl (wy_pr rfl) wt_14 (M2 := fun _ => False) rfl at_XR_next ⟨_, rfl⟩ rfl rfl ⟨trivial, trivial, (Or.inr ⟨wy_pr rfl, fun q => q⟩), trivial, trivial, trivial⟩ trivial (fun _ _ q => False.elim q) (nx_c (S := (w_up (w_up S 14 4 ((i + 1 : Nat) : Int)) 14 4 ((i + 1 + 1 : Nat) : Int))) (hx_T (hx_up (hx_up hx (by unfold hx_o; omega)) (by unfold hx_o; omega))) (show cx_P T n c (i + 1 + 1) (w_up (w_up S 14 4 ((i + 1 : Nat) : Int)) 14 4 ((i + 1 + 1 : Nat) : Int)) from ⟨(w_up_same _ _ _ _), hg2⟩) rfl (gI_up (gI_up hI (by omega) (by omega) (by omega)) (by omega) (by omega) (by omega)) (by omega)) (fun oq243 Sq243 hp244 q243 => ?_)
                                                  rcases q243 with ⟨rfl, rfl⟩
                                                  show wJ _ _ _ _ _ _ _ _ _ _
                                                  have hg3 : pg T n c (i + 1 + 1 + 1) := pg_next (i := i + 1 + 1) hT hg2 (by omega) (by omega)
                                                  have hA3 := pg_at hT hg3
                                                  have h16_3 := hA3.1
                                                  have h15_3 := hA3.2.1
                                                  have hpr3 := hA3.2.2
                                                  have hkr3 := kg_rg T n (tp T n 1 (i + 1 + 1 + 1))
                                                  have hic3 := hg3.1
                                                  have hlt3 := tp_lt (i := i + 1 + 1) hT hg2 (by omega) (by omega)
                                                  refine wa_aload_n (n := 0) rfl ?_
                                                  refine wb_gf5 61 rfl (wy_pr rfl) wt_61 wf_4_1 (v := 162) ((w_up_slot (by decide)).trans ((w_up_slot (by decide)).trans ((w_up_slot (by decide)).trans (hH)))) (fun r245 => ?_)
                                                  refine wa_iload (n := 4) rfl ?_
                                                  refine wa_ifeq (w_rg0 (by omega) (by omega)) ⟨_, rfl⟩ (fun c246 => ?_) (fun c246 => ?_)
                                                  · skip
                                                    exact absurd c246 (by omega)
                                                  · skip
                                                    refine wa_iconst ?_
                                                    refine wa_goto ⟨_, rfl⟩ ?_
                                                    refine wa_iload_n (n := 2) rfl ?_
                                                    refine wa_iload_n (n := 3) rfl ?_
                                                    refine wa_cv 162 rfl (wy_pr rfl) wt_162 (M2 := fun _ => False) rfl at_XO_addMember ⟨_, rfl⟩ rfl rfl ⟨trivial, trivial, (Or.inr ⟨wy_pr rfl, fun q => q⟩), trivial, trivial, trivial⟩ trivial (fun _ _ q => False.elim q) ?_ (fun _ _ _ q => q)
                                                    refine wa_aload_n (n := 0) rfl ?_
                                                    refine wb_gfi 162 rfl (wy_pr rfl) wt_162 wf_3_4 (v := (ms.length : Int)) ((w_up_slot (by decide)).trans ((w_up_slot (by decide)).trans ((w_up_slot (by decide)).trans (hmc)))) (fun r247 => ?_)
                                                    refine wa_istore (n := 4) rfl ?_
                                                    refine wa_aload_n (n := 0) rfl ?_
                                                    refine wb_gf4 162 rfl (wy_pr rfl) wt_162 wf_3_3 (v := 185) wl_162_3 ?_
                                                    refine wa_iconst ?_
                                                    refine wb_aald5 185 0 rfl rfl (wy_pr rfl) wt_185 (by rw [show _ = _ from ((w_up_slot (by decide)).trans ((w_up_slot (by decide)).trans ((w_up_slot (by decide)).trans ((cl_185 hC)))))]; omega) wl_185_0 ?_
                                                    refine wa_iload (n := 4) rfl ?_
                                                    refine wa_aload_n (n := 0) rfl ?_
                                                    refine wb_gfi 162 rfl (wy_pr rfl) wt_162 wf_3_2 (v := (kc + 1)) ((w_up_slot (by decide)).trans ((w_up_slot (by decide)).trans ((w_up_slot (by decide)).trans (hkc1)))) (fun r248 => ?_)
                                                    refine wa_iconst ?_
                                                    refine wa_isub ?_
                                                    rw [show (((kc + 1) - 1) : Int) = kc by omega]
                                                    refine wb_iast 186 rfl (wy_pr rfl) wt_186 (n := 400) ((w_up_slot (by decide)).trans ((w_up_slot (by decide)).trans ((w_up_slot (by decide)).trans ((cl_186 hC))))) (by omega) (by omega) ⟨(by omega), (by omega)⟩ ?_
                                                    refine wa_aload_n (n := 0) rfl ?_
                                                    refine wb_gf4 162 rfl (wy_pr rfl) wt_162 wf_3_3 (v := 185) wl_162_3 ?_
                                                    refine wa_iconst ?_
                                                    refine wb_aald5 185 1 rfl rfl (wy_pr rfl) wt_185 (by rw [show _ = _ from ((w_up_slot (by decide)).trans ((w_up_slot (by decide)).trans ((w_up_slot (by decide)).trans ((w_up_slot (by decide)).trans ((cl_185 hC))))))]; omega) wl_185_1 ?_
                                                    refine wa_iload (n := 4) rfl ?_
                                                    refine wa_iload_n (n := 1) rfl ?_
                                                    refine wb_iast 187 rfl (wy_pr rfl) wt_187 (n := 400) ((w_up_slot (by decide)).trans ((w_up_slot (by decide)).trans ((w_up_slot (by decide)).trans ((w_up_slot (by decide)).trans ((cl_187 hC)))))) (by omega) (by omega) ⟨(by omega), (by omega)⟩ ?_
                                                    refine wa_aload_n (n := 0) rfl ?_
                                                    refine wb_gf4 162 rfl (wy_pr rfl) wt_162 wf_3_3 (v := 185) wl_162_3 ?_
                                                    refine wa_iconst ?_
                                                    refine wb_aald5 185 3 rfl rfl (wy_pr rfl) wt_185 (by rw [show _ = _ from ((w_up_slot (by decide)).trans ((w_up_slot (by decide)).trans ((w_up_slot (by decide)).trans ((w_up_slot (by decide)).trans ((w_up_slot (by decide)).trans ((cl_185 hC)))))))]; omega) wl_185_3 ?_
                                                    refine wa_iload (n := 4) rfl ?_
                                                    refine wa_iload_n (n := 2) rfl ?_
                                                    refine wb_iast 189 rfl (wy_pr rfl) wt_189 (n := 400) ((w_up_slot (by decide)).trans ((w_up_slot (by decide)).trans ((w_up_slot (by decide)).trans ((w_up_slot (by decide)).trans ((w_up_slot (by decide)).trans ((cl_189 hC))))))) (by omega) (by omega) ⟨(by omega), (by omega)⟩ ?_
                                                    refine wa_aload_n (n := 0) rfl ?_
                                                    refine wb_gf4 162 rfl (wy_pr rfl) wt_162 wf_3_3 (v := 185) wl_162_3 ?_
                                                    refine wa_iconst ?_
                                                    refine wb_aald5 185 4 rfl rfl (wy_pr rfl) wt_185 (by rw [show _ = _ from ((w_up_slot (by decide)).trans ((w_up_slot (by decide)).trans ((w_up_slot (by decide)).trans ((w_up_slot (by decide)).trans ((w_up_slot (by decide)).trans ((w_up_slot (by decide)).trans ((cl_185 hC))))))))]; omega) wl_185_4 ?_
                                                    refine wa_iload (n := 4) rfl ?_
                                                    refine wa_iconst ?_
                                                    refine wb_iast 190 rfl (wy_pr rfl) wt_190 (n := 400) ((w_up_slot (by decide)).trans ((w_up_slot (by decide)).trans ((w_up_slot (by decide)).trans ((w_up_slot (by decide)).trans ((w_up_slot (by decide)).trans ((w_up_slot (by decide)).trans ((cl_190 hC)))))))) (by omega) (by omega) ⟨(by omega), (by omega)⟩ ?_
                                                    refine wa_aload_n (n := 0) rfl ?_
                                                    refine wb_gf4 162 rfl (wy_pr rfl) wt_162 wf_3_3 (v := 185) wl_162_3 ?_
                                                    refine wa_iconst ?_
                                                    refine wb_aald5 185 5 rfl rfl (wy_pr rfl) wt_185 (by rw [show _ = _ from ((w_up_slot (by decide)).trans ((w_up_slot (by decide)).trans ((w_up_slot (by decide)).trans ((w_up_slot (by decide)).trans ((w_up_slot (by decide)).trans ((w_up_slot (by decide)).trans ((w_up_slot (by decide)).trans ((cl_185 hC)))))))))]; omega) wl_185_5 ?_
                                                    refine wa_iload (n := 4) rfl ?_
                                                    refine wa_iconst ?_
                                                    refine wb_iast 191 rfl (wy_pr rfl) wt_191 (n := 400) ((w_up_slot (by decide)).trans ((w_up_slot (by decide)).trans ((w_up_slot (by decide)).trans ((w_up_slot (by decide)).trans ((w_up_slot (by decide)).trans ((w_up_slot (by decide)).trans ((w_up_slot (by decide)).trans ((cl_191 hC))))))))) (by omega) (by omega) ⟨(by omega), (by omega)⟩ ?_
                                                    refine wa_aload_n (n := 0) rfl ?_
                                                    refine wb_gf4 162 rfl (wy_pr rfl) wt_162 wf_3_3 (v := 185) wl_162_3 ?_
                                                    refine wa_bipush (w_rg2 (by omega) (by omega)) ?_
                                                    refine wb_aald5 185 14 rfl rfl (wy_pr rfl) wt_185 (by rw [show _ = _ from ((w_up_slot (by decide)).trans ((w_up_slot (by decide)).trans ((w_up_slot (by decide)).trans ((w_up_slot (by decide)).trans ((w_up_slot (by decide)).trans ((w_up_slot (by decide)).trans ((w_up_slot (by decide)).trans ((w_up_slot (by decide)).trans ((cl_185 hC))))))))))]; omega) wl_185_14 ?_
                                                    refine wa_iload (n := 4) rfl ?_
                                                    refine wa_iload_n (n := 3) rfl ?_
                                                    refine wb_iast 200 rfl (wy_pr rfl) wt_200 (n := 400) ((w_up_slot (by decide)).trans ((w_up_slot (by decide)).trans ((w_up_slot (by decide)).trans ((w_up_slot (by decide)).trans ((w_up_slot (by decide)).trans ((w_up_slot (by decide)).trans ((w_up_slot (by decide)).trans ((w_up_slot (by decide)).trans ((cl_200 hC)))))))))) (by omega) (by omega) ⟨(by omega), (by omega)⟩ ?_
                                                    refine wa_aload_n (n := 0) rfl ?_
                                                    refine wb_gf4 162 rfl (wy_pr rfl) wt_162 wf_3_3 (v := 185) wl_162_3 ?_
                                                    refine wa_bipush (w_rg2 (by omega) (by omega)) ?_
                                                    refine wb_aald5 185 15 rfl rfl (wy_pr rfl) wt_185 (by rw [show _ = _ from ((w_up_slot (by decide)).trans ((w_up_slot (by decide)).trans ((w_up_slot (by decide)).trans ((w_up_slot (by decide)).trans ((w_up_slot (by decide)).trans ((w_up_slot (by decide)).trans ((w_up_slot (by decide)).trans ((w_up_slot (by decide)).trans ((w_up_slot (by decide)).trans ((cl_185 hC)))))))))))]; omega) wl_185_15 ?_
                                                    refine wa_iload (n := 4) rfl ?_
                                                    refine wa_iconst ?_
                                                    refine wb_iast 201 rfl (wy_pr rfl) wt_201 (n := 400) ((w_up_slot (by decide)).trans ((w_up_slot (by decide)).trans ((w_up_slot (by decide)).trans ((w_up_slot (by decide)).trans ((w_up_slot (by decide)).trans ((w_up_slot (by decide)).trans ((w_up_slot (by decide)).trans ((w_up_slot (by decide)).trans ((w_up_slot (by decide)).trans ((cl_201 hC))))))))))) (by omega) (by omega) ⟨(by omega), (by omega)⟩ ?_
                                                    refine wa_aload_n (n := 0) rfl ?_
                                                    refine wa_dup (by decide) ?_
                                                    refine wb_gfi 162 rfl (wy_pr rfl) wt_162 wf_3_4 (v := (ms.length : Int)) ((w_up_slot (by decide)).trans ((w_up_slot (by decide)).trans ((w_up_slot (by decide)).trans ((w_up_slot (by decide)).trans ((w_up_slot (by decide)).trans ((w_up_slot (by decide)).trans ((w_up_slot (by decide)).trans ((w_up_slot (by decide)).trans ((w_up_slot (by decide)).trans ((w_up_slot (by decide)).trans (hmc))))))))))) (fun r249 => ?_)
                                                    refine wa_iconst ?_
                                                    refine wa_iadd ?_
                                                    refine wb_pfi 162 rfl (wy_pr rfl) wt_162 wf_3_4 (n := 4) rfl ⟨(by omega), (by omega)⟩ ?_
                                                    refine wa_aload_n (n := 0) rfl ?_
                                                    refine wb_gf4 162 rfl (wy_pr rfl) wt_162 wf_3_1 (v := 175) wl_162_1 ?_
                                                    refine wa_iconst ?_
                                                    refine wb_aald5 175 3 rfl rfl (wy_pr rfl) wt_175 (by rw [show _ = _ from ((w_up_slot (by decide)).trans ((w_up_slot (by decide)).trans ((w_up_slot (by decide)).trans ((w_up_slot (by decide)).trans ((w_up_slot (by decide)).trans ((w_up_slot (by decide)).trans ((w_up_slot (by decide)).trans ((w_up_slot (by decide)).trans ((w_up_slot (by decide)).trans ((w_up_slot (by decide)).trans ((w_up_slot (by decide)).trans ((cl_175 hC)))))))))))))]; omega) wl_175_3 ?_
                                                    refine wa_aload_n (n := 0) rfl ?_
                                                    refine wb_gfi 162 rfl (wy_pr rfl) wt_162 wf_3_2 (v := (kc + 1)) ((w_up_at (by decide)).trans ((w_up_slot (by decide)).trans ((w_up_slot (by decide)).trans ((w_up_slot (by decide)).trans ((w_up_slot (by decide)).trans ((w_up_slot (by decide)).trans ((w_up_slot (by decide)).trans ((w_up_slot (by decide)).trans ((w_up_slot (by decide)).trans ((w_up_slot (by decide)).trans ((w_up_slot (by decide)).trans (hkc1)))))))))))) (fun r250 => ?_)
                                                    refine wa_iconst ?_
                                                    refine wa_isub ?_
                                                    rw [show (((kc + 1) - 1) : Int) = kc by omega]
                                                    refine wa_dup2 (by decide) (by decide) ?_
                                                    refine wb_iald 179 rfl (wy_pr rfl) wt_179 (n := 60) ((w_up_slot (by decide)).trans ((w_up_slot (by decide)).trans ((w_up_slot (by decide)).trans ((w_up_slot (by decide)).trans ((w_up_slot (by decide)).trans ((w_up_slot (by decide)).trans ((w_up_slot (by decide)).trans ((w_up_slot (by decide)).trans ((w_up_slot (by decide)).trans ((w_up_slot (by decide)).trans ((w_up_slot (by decide)).trans ((cl_179 hC))))))))))))) (by omega) (by omega) (v := ((ms.length : Int) - (fi : Int))) ((w_up_slot (by decide)).trans ((w_up_slot (by decide)).trans ((w_up_slot (by decide)).trans ((w_up_slot (by decide)).trans ((w_up_slot (by decide)).trans ((w_up_slot (by decide)).trans ((w_up_slot (by decide)).trans ((w_up_slot (by decide)).trans ((w_up_slot (by decide)).trans ((w_up_slot (by decide)).trans ((w_up_slot (by decide)).trans (ht3)))))))))))) (fun r251 => ?_)
                                                    refine wa_iconst ?_
                                                    refine wa_iadd ?_
                                                    refine wb_iast 179 rfl (wy_pr rfl) wt_179 (n := 60) ((w_up_slot (by decide)).trans ((w_up_slot (by decide)).trans ((w_up_slot (by decide)).trans ((w_up_slot (by decide)).trans ((w_up_slot (by decide)).trans ((w_up_slot (by decide)).trans ((w_up_slot (by decide)).trans ((w_up_slot (by decide)).trans ((w_up_slot (by decide)).trans ((w_up_slot (by decide)).trans ((w_up_slot (by decide)).trans ((cl_179 hC))))))))))))) (by omega) (by omega) ⟨(by omega), (by omega)⟩ ?_
                                                    refine wa_return rfl ?_
                                                    show wJ _ _ _ _ _ _ _ _ _ _
                                                    refine wa_return rfl ?_
                                                    show wJ _ _ _ _ _ _ _ _ _ _
                                                    refine wa_fall ⟨_, rfl⟩ ?_
                                                    refine wa_aload_n (n := 0) rfl ?_
                                                    refine wb_gf5 61 rfl (wy_pr rfl) wt_61 wf_4_1 (v := 162) ((w_up_slot (by decide)).trans ((w_up_slot (by decide)).trans ((w_up_slot (by decide)).trans ((w_up_slot (by decide)).trans ((w_up_slot (by decide)).trans ((w_up_slot (by decide)).trans ((w_up_slot (by decide)).trans ((w_up_slot (by decide)).trans ((w_up_slot (by decide)).trans ((w_up_slot (by decide)).trans ((w_up_slot (by decide)).trans ((w_up_slot (by decide)).trans (hH))))))))))))) (fun r252 => ?_)
                                                    refine wb_gf4 162 rfl (wy_pr rfl) wt_162 wf_3_3 (v := 185) wl_162_3 ?_
                                                    refine wa_iconst ?_
                                                    refine wb_aald5 185 2 rfl rfl (wy_pr rfl) wt_185 (by rw [show _ = _ from ((w_up_slot (by decide)).trans ((w_up_slot (by decide)).trans ((w_up_slot (by decide)).trans ((w_up_slot (by decide)).trans ((w_up_slot (by decide)).trans ((w_up_slot (by decide)).trans ((w_up_slot (by decide)).trans ((w_up_slot (by decide)).trans ((w_up_slot (by decide)).trans ((w_up_slot (by decide)).trans ((w_up_slot (by decide)).trans ((w_up_slot (by decide)).trans ((cl_185 hC))))))))))))))]; omega) wl_185_2 ?_
                                                    refine wa_aload_n (n := 0) rfl ?_
                                                    refine wb_gf5 61 rfl (wy_pr rfl) wt_61 wf_4_1 (v := 162) ((w_up_slot (by decide)).trans ((w_up_slot (by decide)).trans ((w_up_slot (by decide)).trans ((w_up_slot (by decide)).trans ((w_up_slot (by decide)).trans ((w_up_slot (by decide)).trans ((w_up_slot (by decide)).trans ((w_up_slot (by decide)).trans ((w_up_slot (by decide)).trans ((w_up_slot (by decide)).trans ((w_up_slot (by decide)).trans ((w_up_slot (by decide)).trans (hH))))))))))))) (fun r253 => ?_)
                                                    refine wb_gfi 162 rfl (wy_pr rfl) wt_162 wf_3_4 (v := ((ms.length : Int) + 1)) ((w_up_slot (by decide)).trans (w_up_same _ _ _ _)) (fun r254 => ?_)
                                                    refine wa_iconst ?_
                                                    refine wa_isub ?_
                                                    rw [show ((((ms.length : Int) + 1) - 1) : Int) = (ms.length : Int) by omega]
                                                    refine wa_iload_n (n := 2) rfl ?_
                                                    refine wa_ifeq (w_rg0 (by omega) (by omega)) ⟨_, rfl⟩ (fun c255 => ?_) (fun c255 => ?_)
                                                    · skip
                                                      exact absurd c255 (by omega)
                                                    · skip
                                                      refine wa_iconst ?_
                                                      refine wa_goto ⟨_, rfl⟩ ?_
                                                      refine wb_iast 188 rfl (wy_pr rfl) wt_188 (n := 400) ((w_up_slot (by decide)).trans ((w_up_slot (by decide)).trans ((w_up_slot (by decide)).trans ((w_up_slot (by decide)).trans ((w_up_slot (by decide)).trans ((w_up_slot (by decide)).trans ((w_up_slot (by decide)).trans ((w_up_slot (by decide)).trans ((w_up_slot (by decide)).trans ((w_up_slot (by decide)).trans ((w_up_slot (by decide)).trans ((w_up_slot (by decide)).trans ((cl_188 hC)))))))))))))) (by omega) (by omega) ⟨(by omega), (by omega)⟩ ?_
                                                      refine wa_return rfl ?_
                                                      show wJ _ _ _ _ _ _ _ _ _ _
                                                      refine wa_aload_n (n := 0) rfl ?_
                                                      refine wb_gf5 61 rfl (wy_pr rfl) wt_61 wf_4_1 (v := 162) ((w_up_slot (by decide)).trans ((w_up_slot (by decide)).trans ((w_up_slot (by decide)).trans ((w_up_slot (by decide)).trans ((w_up_slot (by decide)).trans ((w_up_slot (by decide)).trans ((w_up_slot (by decide)).trans ((w_up_slot (by decide)).trans ((w_up_slot (by decide)).trans ((w_up_slot (by decide)).trans ((w_up_slot (by decide)).trans ((w_up_slot (by decide)).trans ((w_up_slot (by decide)).trans (hH)))))))))))))) (fun r256 => ?_)
                                                      refine wb_gfi 162 rfl (wy_pr rfl) wt_162 wf_3_4 (v := ((ms.length : Int) + 1)) ((w_up_slot (by decide)).trans ((w_up_slot (by decide)).trans (w_up_same _ _ _ _))) (fun r257 => ?_)
                                                      refine wa_iconst ?_
                                                      refine wa_isub ?_
                                                      rw [show ((((ms.length : Int) + 1) - 1) : Int) = (ms.length : Int) by omega]
                                                      refine wa_istore (n := 5) rfl ?_
                                                      refine wa_aload_n (n := 0) rfl ?_
                                                      refine wb_gf5 61 rfl (wy_pr rfl) wt_61 wf_4_1 (v := 162) ((w_up_slot (by decide)).trans ((w_up_slot (by decide)).trans ((w_up_slot (by decide)).trans ((w_up_slot (by decide)).trans ((w_up_slot (by decide)).trans ((w_up_slot (by decide)).trans ((w_up_slot (by decide)).trans ((w_up_slot (by decide)).trans ((w_up_slot (by decide)).trans ((w_up_slot (by decide)).trans ((w_up_slot (by decide)).trans ((w_up_slot (by decide)).trans ((w_up_slot (by decide)).trans (hH)))))))))))))) (fun r258 => ?_)
                                                      refine wb_gf4 162 rfl (wy_pr rfl) wt_162 wf_3_3 (v := 185) wl_162_3 ?_
                                                      refine wa_iconst ?_
                                                      refine wb_aald5 185 1 rfl rfl (wy_pr rfl) wt_185 (by rw [show _ = _ from ((w_up_slot (by decide)).trans ((w_up_slot (by decide)).trans ((w_up_slot (by decide)).trans ((w_up_slot (by decide)).trans ((w_up_slot (by decide)).trans ((w_up_slot (by decide)).trans ((w_up_slot (by decide)).trans ((w_up_slot (by decide)).trans ((w_up_slot (by decide)).trans ((w_up_slot (by decide)).trans ((w_up_slot (by decide)).trans ((w_up_slot (by decide)).trans ((w_up_slot (by decide)).trans ((cl_185 hC)))))))))))))))]; omega) wl_185_1 ?_
                                                      refine wa_iload (n := 5) rfl ?_
                                                      refine wb_iald 187 rfl (wy_pr rfl) wt_187 (n := 400) ((w_up_slot (by decide)).trans ((w_up_slot (by decide)).trans ((w_up_slot (by decide)).trans ((w_up_slot (by decide)).trans ((w_up_slot (by decide)).trans ((w_up_slot (by decide)).trans ((w_up_slot (by decide)).trans ((w_up_slot (by decide)).trans ((w_up_at (by omega)).trans ((w_up_slot (by decide)).trans ((w_up_slot (by decide)).trans ((w_up_slot (by decide)).trans ((w_up_slot (by decide)).trans ((cl_187 hC))))))))))))))) (by omega) (by omega) (v := 0) ((w_up_slot (by decide)).trans ((w_up_slot (by decide)).trans ((w_up_slot (by decide)).trans ((w_up_slot (by decide)).trans ((w_up_slot (by decide)).trans ((w_up_slot (by decide)).trans ((w_up_slot (by decide)).trans ((w_up_slot (by decide)).trans (w_up_same _ _ _ _))))))))) (fun r259 => ?_)
                                                      refine wa_ifeq (w_rg0 (by omega) (by omega)) ⟨_, rfl⟩ (fun c260 => ?_) (fun c260 => ?_)
                                                      · skip
                                                        have hn := lx_w_k (k := 12) hB hW hrw (by decide) hwc.1 hnt1
                                                        rw [show hwl 12 = tx_25 from rfl] at hn
                                                        have z1 : zq B (tp T n 1 (i + 1)) 237 6 = 1 := by rw [zT_6 hB]; exact hnt1.1
                                                        have hs := lx_w_k (k := 11) hB hW hrw (by decide) hwc.1 hnt0
                                                        rw [show hwl 11 = tx_23 from rfl] at hs
                                                        have hrm0 : rm_L B 261 kc itf (ms.drop fi) ms.length (tp T n 1 i) = rb_L B 261 kc itf (ms.drop fi) ms.length (tp T n 1 (i + 1)) 1 := (rm_s (hs.2 (by omega)) (by omega)).trans (by rw [tp_ne (i := i) hB])
                                                        have hyh := ty_hy (av := 1) hyy1 (Or.inr (by decide))
                                                        rw [tp_ne (i := i + 1) hB] at hyh
                                                        have hrm1 : rm_L B 261 kc itf (ms.drop fi) ms.length (tp T n 1 i) = rb_name B 261 itf (ms.drop fi) y (tp T n 1 (i + 1 + 1)) 1 := hrm0.trans (rb_t z1 (fun z => absurd (hn.1 z) (by omega)) hyh.2.2.1 (by omega) hyh.1)
                                                        have z2 : zq B (tp T n 1 (i + 1 + 1)) 237 6 = 1 := by rw [zT_6 hB]; exact hnt2.1
                                                        have hoo := oo_21 hB hW hrw hwc.1 hnt2
                                                        have h59 := lx_is_kg (i := i + 1 + 1 + 1) hB (k := 17) (ch := 59) (by decide) sk_17
                                                        have h40 := lx_is_kg (i := i + 1 + 1 + 1) hB (k := 10) (ch := 40) (by decide) sk_10
                                                        have hrm2 := rn_f (b := 261) (itf := itf) (rs := ms.drop fi) (t := y) (st := 1) z2 (fun z => absurd (hoo.1 z) (by omega)) (by rw [tp_ne (i := i + 1 + 1) hB]; exact fun z => absurd (h40.1 z) (by omega)) (by rw [tp_ne (i := i + 1 + 1) hB]; exact ⟨h59.2 (by omega), by omega⟩)
                                                        rw [hBT, zT_8 hB, tp_ne (i := i + 1 + 1) hB, if_neg (by rw [hdf]; decide), if_pos (by omega)] at hrm2
                                                        have hmsx : mr_all 186 163 T (w_up (w_up (w_up (w_up (w_up (w_up (w_up (w_up (w_up (w_up (w_up (w_up (w_up S 14 4 ((i + 1 : Nat) : Int)) 14 4 ((i + 1 + 1 : Nat) : Int)) 14 4 ((i + 1 + 1 + 1 : Nat) : Int)) 186 (ms.length : Int) kc) 187 (ms.length : Int) 0) 189 (ms.length : Int) y) 190 (ms.length : Int) 0) 191 (ms.length : Int) 0) 200 (ms.length : Int) (S 17 ((i + 1 + 1 : Nat) : Int))) 201 (ms.length : Int) (-1)) 162 4 ((ms.length : Int) + 1)) 179 kc (((ms.length : Int) - (fi : Int)) + 1)) 188 (ms.length : Int) 1) ms := (mr_all_up (mr_all_up (mr_all_up (mr_all_up (mr_all_up (mr_all_up (mr_all_up (mr_all_up (mr_all_up (mr_all_up (mr_all_up (mr_all_up (mr_all_up hms (by omega) (by omega)) (by omega) (by omega)) (by omega) (by omega)) (by omega) (by omega)) (by omega) (by omega)) (by omega) (by omega)) (by omega) (by omega)) (by omega) (by omega)) (by omega) (by omega)) (by omega) (by omega)) (by omega) (by omega)) (by omega) (by omega)) (by omega) (by omega))
                                                        have hhd : mr_hd 186 163 T (w_up (w_up (w_up (w_up (w_up (w_up (w_up (w_up (w_up (w_up (w_up (w_up (w_up S 14 4 ((i + 1 : Nat) : Int)) 14 4 ((i + 1 + 1 : Nat) : Int)) 14 4 ((i + 1 + 1 + 1 : Nat) : Int)) 186 (ms.length : Int) kc) 187 (ms.length : Int) 0) 189 (ms.length : Int) y) 190 (ms.length : Int) 0) 191 (ms.length : Int) 0) 200 (ms.length : Int) (S 17 ((i + 1 + 1 : Nat) : Int))) 201 (ms.length : Int) (-1)) 162 4 ((ms.length : Int) + 1)) 179 kc (((ms.length : Int) - (fi : Int)) + 1)) 188 (ms.length : Int) 1) (ms.length : Int) kc 0 1 y (tp T n 1 (i + 1 + 1)) (lx_en T n 1 (tp T n 1 (i + 1 + 1))) := ⟨⟨((w_up_slot (by decide)).trans ((w_up_slot (by decide)).trans ((w_up_slot (by decide)).trans ((w_up_slot (by decide)).trans ((w_up_slot (by decide)).trans ((w_up_slot (by decide)).trans ((w_up_slot (by decide)).trans ((w_up_slot (by decide)).trans ((w_up_slot (by decide)).trans (w_up_same _ _ _ _)))))))))), ((w_up_slot (by decide)).trans ((w_up_slot (by decide)).trans ((w_up_slot (by decide)).trans ((w_up_slot (by decide)).trans ((w_up_slot (by decide)).trans ((w_up_slot (by decide)).trans ((w_up_slot (by decide)).trans ((w_up_slot (by decide)).trans (w_up_same _ _ _ _))))))))), (w_up_same _ _ _ _), ((w_up_slot (by decide)).trans ((w_up_slot (by decide)).trans ((w_up_slot (by decide)).trans ((w_up_slot (by decide)).trans ((w_up_slot (by decide)).trans ((w_up_slot (by decide)).trans ((w_up_slot (by decide)).trans (w_up_same _ _ _ _))))))))⟩, ⟨by decide, by decide⟩, fun z => absurd z (by decide), fun _ => ⟨⟨by rw [show (w_up (w_up (w_up (w_up (w_up (w_up (w_up (w_up (w_up (w_up (w_up (w_up (w_up S 14 4 ((i + 1 : Nat) : Int)) 14 4 ((i + 1 + 1 : Nat) : Int)) 14 4 ((i + 1 + 1 + 1 : Nat) : Int)) 186 (ms.length : Int) kc) 187 (ms.length : Int) 0) 189 (ms.length : Int) y) 190 (ms.length : Int) 0) 191 (ms.length : Int) 0) 200 (ms.length : Int) (S 17 ((i + 1 + 1 : Nat) : Int))) 201 (ms.length : Int) (-1)) 162 4 ((ms.length : Int) + 1)) 179 kc (((ms.length : Int) - (fi : Int)) + 1)) 188 (ms.length : Int) 1) (186 + 14) (ms.length : Int) = _ from ((w_up_slot (by decide)).trans ((w_up_slot (by decide)).trans ((w_up_slot (by decide)).trans ((w_up_slot (by decide)).trans (w_up_same _ _ _ _)))))]; omega, by rw [show (w_up (w_up (w_up (w_up (w_up (w_up (w_up (w_up (w_up (w_up (w_up (w_up (w_up S 14 4 ((i + 1 : Nat) : Int)) 14 4 ((i + 1 + 1 : Nat) : Int)) 14 4 ((i + 1 + 1 + 1 : Nat) : Int)) 186 (ms.length : Int) kc) 187 (ms.length : Int) 0) 189 (ms.length : Int) y) 190 (ms.length : Int) 0) 191 (ms.length : Int) 0) 200 (ms.length : Int) (S 17 ((i + 1 + 1 : Nat) : Int))) 201 (ms.length : Int) (-1)) 162 4 ((ms.length : Int) + 1)) 179 kc (((ms.length : Int) - (fi : Int)) + 1)) 188 (ms.length : Int) 1) (186 + 14) (ms.length : Int) = _ from ((w_up_slot (by decide)).trans ((w_up_slot (by decide)).trans ((w_up_slot (by decide)).trans ((w_up_slot (by decide)).trans (w_up_same _ _ _ _)))))]; show _ < S 163 7; omega⟩, by rw [show (w_up (w_up (w_up (w_up (w_up (w_up (w_up (w_up (w_up (w_up (w_up (w_up (w_up S 14 4 ((i + 1 : Nat) : Int)) 14 4 ((i + 1 + 1 : Nat) : Int)) 14 4 ((i + 1 + 1 + 1 : Nat) : Int)) 186 (ms.length : Int) kc) 187 (ms.length : Int) 0) 189 (ms.length : Int) y) 190 (ms.length : Int) 0) 191 (ms.length : Int) 0) 200 (ms.length : Int) (S 17 ((i + 1 + 1 : Nat) : Int))) 201 (ms.length : Int) (-1)) 162 4 ((ms.length : Int) + 1)) 179 kc (((ms.length : Int) - (fi : Int)) + 1)) 188 (ms.length : Int) 1) (186 + 14) (ms.length : Int) = _ from ((w_up_slot (by decide)).trans ((w_up_slot (by decide)).trans ((w_up_slot (by decide)).trans ((w_up_slot (by decide)).trans (w_up_same _ _ _ _)))))]; exact hnt2.2.2⟩⟩
                                                        have hpm0 : pm_I 186 (w_up (w_up (w_up (w_up (w_up (w_up (w_up (w_up (w_up (w_up (w_up (w_up (w_up S 14 4 ((i + 1 : Nat) : Int)) 14 4 ((i + 1 + 1 : Nat) : Int)) 14 4 ((i + 1 + 1 + 1 : Nat) : Int)) 186 (ms.length : Int) kc) 187 (ms.length : Int) 0) 189 (ms.length : Int) y) 190 (ms.length : Int) 0) 191 (ms.length : Int) 0) 200 (ms.length : Int) (S 17 ((i + 1 + 1 : Nat) : Int))) 201 (ms.length : Int) (-1)) 162 4 ((ms.length : Int) + 1)) 179 kc (((ms.length : Int) - (fi : Int)) + 1)) 188 (ms.length : Int) 1) (ms.length : Int) [] 0 := ⟨((w_up_slot (by decide)).trans ((w_up_slot (by decide)).trans ((w_up_slot (by decide)).trans ((w_up_slot (by decide)).trans ((w_up_slot (by decide)).trans ((w_up_slot (by decide)).trans (w_up_same _ _ _ _))))))), ((w_up_slot (by decide)).trans ((w_up_slot (by decide)).trans ((w_up_slot (by decide)).trans ((w_up_slot (by decide)).trans ((w_up_slot (by decide)).trans (w_up_same _ _ _ _)))))), by decide, fun q hq => absurd hq (Nat.not_lt_zero _)⟩
                                                        exact wJ_S (htail (w_up (w_up (w_up (w_up (w_up (w_up (w_up (w_up (w_up (w_up (w_up (w_up (w_up S 14 4 ((i + 1 : Nat) : Int)) 14 4 ((i + 1 + 1 : Nat) : Int)) 14 4 ((i + 1 + 1 + 1 : Nat) : Int)) 186 (ms.length : Int) kc) 187 (ms.length : Int) 0) 189 (ms.length : Int) y) 190 (ms.length : Int) 0) 191 (ms.length : Int) 0) 200 (ms.length : Int) (S 17 ((i + 1 + 1 : Nat) : Int))) 201 (ms.length : Int) (-1)) 162 4 ((ms.length : Int) + 1)) 179 kc (((ms.length : Int) - (fi : Int)) + 1)) 188 (ms.length : Int) 1) (i + 1 + 1 + 1) 0 1 y 0 (tp T n 1 (i + 1 + 1)) (lx_en T n 1 (tp T n 1 (i + 1 + 1))) [] (hx_up (hx_up (hx_up (hx_up (hx_up (hx_up (hx_up (hx_up (hx_up (hx_up (hx_up (hx_up (hx_up hx (by unfold hx_o; omega)) (by unfold hx_o; omega)) (by unfold hx_o; omega)) (by unfold hx_o; omega)) (by unfold hx_o; omega)) (by unfold hx_o; omega)) (by unfold hx_o; omega)) (by unfold hx_o; omega)) (by unfold hx_o; omega)) (by unfold hx_o; omega)) (by unfold hx_o; omega)) (by unfold hx_o; omega)) (by unfold hx_o; omega)) (show cx_P T n c (i + 1 + 1 + 1) (w_up (w_up (w_up (w_up (w_up (w_up (w_up (w_up (w_up (w_up (w_up (w_up (w_up S 14 4 ((i + 1 : Nat) : Int)) 14 4 ((i + 1 + 1 : Nat) : Int)) 14 4 ((i + 1 + 1 + 1 : Nat) : Int)) 186 (ms.length : Int) kc) 187 (ms.length : Int) 0) 189 (ms.length : Int) y) 190 (ms.length : Int) 0) 191 (ms.length : Int) 0) 200 (ms.length : Int) (S 17 ((i + 1 + 1 : Nat) : Int))) 201 (ms.length : Int) (-1)) 162 4 ((ms.length : Int) + 1)) 179 kc (((ms.length : Int) - (fi : Int)) + 1)) 188 (ms.length : Int) 1) from ⟨((w_up_slot (by decide)).trans ((w_up_slot (by decide)).trans ((w_up_slot (by decide)).trans ((w_up_slot (by decide)).trans ((w_up_slot (by decide)).trans ((w_up_slot (by decide)).trans ((w_up_slot (by decide)).trans ((w_up_slot (by decide)).trans ((w_up_slot (by decide)).trans ((w_up_slot (by decide)).trans (w_up_same _ _ _ _))))))))))), hg3⟩) hmsx (by omega) (mr_of hhd hpm0) (fun j x a1 a2 a3 a4 => (w_up_no (by omega)).trans ((w_up_no (by omega)).trans ((w_up_no (by omega)).trans ((w_up_no (by omega)).trans ((w_up_no (by omega)).trans ((w_up_no (by omega)).trans ((w_up_no (by omega)).trans ((w_up_no (by omega)).trans ((w_up_no (by omega)).trans ((w_up_no (by omega)).trans ((w_up_no (by omega)).trans ((w_up_no (by omega)).trans ((w_up_no (by omega)).trans (rfl)))))))))))))) (((w_up_slot (by decide)).trans ((w_up_slot (by decide)).trans (w_up_same _ _ _ _)))) (((w_up_slot (by decide)).trans (w_up_same _ _ _ _))) ((((w_up_slot (by decide)).trans ((w_up_slot (by decide)).trans ((w_up_slot (by decide)).trans ((w_up_slot (by decide)).trans ((w_up_slot (by decide)).trans ((w_up_slot (by decide)).trans ((w_up_slot (by decide)).trans ((w_up_slot (by decide)).trans ((w_up_slot (by decide)).trans ((w_up_slot (by decide)).trans ((w_up_slot (by decide)).trans ((w_up_slot (by decide)).trans (w_up_slot (by decide))))))))))))))).trans hfi.1) (hrm1.trans hrm2) (by omega)) ⟨rfl, rfl, rfl, trivial⟩
                                                      · skip
                                                        exact absurd c260 (by omega)
                                                · skip
                                                  exact absurd c242 (by omega)
                                            · skip
                                              exact absurd c240 (by omega)
                                  · skip
                                    refine wa_aload_n (n := 0) rfl ?_
                                    refine wa_iconst ?_
                                    refine wa_cv 61 rfl (wy_pr rfl) wt_61 (M2 := fun _ => False) rfl at_XT_refuse ⟨_, rfl⟩ rfl rfl ⟨trivial, (Or.inr ⟨wy_pr rfl, fun q => q⟩), trivial, trivial, trivial⟩ trivial (fun _ _ q => False.elim q) (rf_c (S := (w_up (w_up S 14 4 ((i + 1 : Nat) : Int)) 14 4 ((i + 1 + 1 : Nat) : Int))) (k := 2) (p := (tp T n 1 (i + 1 + 1))) (i := ((i + 1 + 1 : Nat) : Int)) (gI_up (gI_up hI (by omega) (by omega) (by omega)) (by omega) (by omega) (by omega)) (w_up_same _ _ _ _) ((w_up_slot (by decide)).trans ((w_up_slot (by decide)).trans (h16_2))) ⟨by omega, by have e : (w_up (w_up S 14 4 ((i + 1 : Nat) : Int)) 14 4 ((i + 1 + 1 : Nat) : Int)) 16 (-1) = S 16 (-1) := ((w_up_slot (by decide)).trans (w_up_slot (by decide))); omega⟩ ⟨by omega, by omega⟩ ⟨by omega, by omega⟩) (fun oq262 Sq262 hp263 q262 => ?_)
                                    rcases q262 with ⟨v, rfl, rz261⟩
                                    have hrz := rz261
                                    have hkind : (2 : Int) = 2 := rfl
                                    refine ⟨rfl, ?_⟩
                                    refine ⟨rfl, ?_⟩
                                    refine ⟨rfl, ?_⟩
                                    have hn := lx_w_k (k := 12) hB hW hrw (by decide) hwc.1 hnt1
                                    rw [show hwl 12 = tx_25 from rfl] at hn
                                    have z1 : zq B (tp T n 1 (i + 1)) 237 6 = 1 := by rw [zT_6 hB]; exact hnt1.1
                                    have hs := lx_w_k (k := 11) hB hW hrw (by decide) hwc.1 hnt0
                                    rw [show hwl 11 = tx_23 from rfl] at hs
                                    have hrm0 : rm_L B 261 kc itf (ms.drop fi) ms.length (tp T n 1 i) = rb_L B 261 kc itf (ms.drop fi) ms.length (tp T n 1 (i + 1)) 1 := (rm_s (hs.2 (by omega)) (by omega)).trans (by rw [tp_ne (i := i) hB])
                                    have hyh := ty_hy (av := 1) hyy1 (Or.inr (by decide))
                                    rw [tp_ne (i := i + 1) hB] at hyh
                                    have hrm1 : rm_L B 261 kc itf (ms.drop fi) ms.length (tp T n 1 i) = rb_name B 261 itf (ms.drop fi) y (tp T n 1 (i + 1 + 1)) 1 := hrm0.trans (rb_t z1 (fun z => absurd (hn.1 z) (by omega)) hyh.2.2.1 (by omega) hyh.1)
                                    have z2 : zq B (tp T n 1 (i + 1 + 1)) 237 6 = 1 := by rw [zT_6 hB]; exact hnt2.1
                                    have hoo := oo_21 hB hW hrw hwc.1 hnt2
                                    have hr : rm_L B 261 kc itf (ms.drop fi) ms.length (tp T n 1 i) = .inl (2, (tp T n 1 (i + 1 + 1))) := hrm1.trans (rn_2 z2 (hoo.2 (by omega)))
                                    exact hf 2 _ v _ _ (by rw [mb_f_s, if_neg (fun z => absurd (h125.1 z) (by omega)), hr]) (fun j x a1 a2 a3 a4 => (w_up_no (by omega)).trans ((w_up_no (by omega)).trans (rfl))) hrz
                                · skip
                                  have hkg := hw178
                                  refine ⟨rfl, ?_⟩
                                  refine ⟨rfl, ?_⟩
                                  refine ⟨rfl, ?_⟩
                                  have hn := lx_w_k (k := 12) hB hW hrw (by decide) hwc.1 hnt1
                                  rw [show hwl 12 = tx_25 from rfl] at hn
                                  have z1 : zq B (tp T n 1 (i + 1)) 237 6 = 1 := by rw [zT_6 hB]; exact hnt1.1
                                  have hs := lx_w_k (k := 11) hB hW hrw (by decide) hwc.1 hnt0
                                  rw [show hwl 11 = tx_23 from rfl] at hs
                                  have hrm0 : rm_L B 261 kc itf (ms.drop fi) ms.length (tp T n 1 i) = rb_L B 261 kc itf (ms.drop fi) ms.length (tp T n 1 (i + 1)) 1 := (rm_s (hs.2 (by omega)) (by omega)).trans (by rw [tp_ne (i := i) hB])
                                  have hyh := ty_hy (av := 1) hyy1 (Or.inr (by decide))
                                  rw [tp_ne (i := i + 1) hB] at hyh
                                  have hrm1 : rm_L B 261 kc itf (ms.drop fi) ms.length (tp T n 1 i) = rb_name B 261 itf (ms.drop fi) y (tp T n 1 (i + 1 + 1)) 1 := hrm0.trans (rb_t z1 (fun z => absurd (hn.1 z) (by omega)) hyh.2.2.1 (by omega) hyh.1)
                                  have z2 : zq B (tp T n 1 (i + 1 + 1)) 237 6 ≠ 1 := by rw [zT_6 hB]; exact fun z => hkg ((kg_5 T n _).2 z)
                                  have hr : rm_L B 261 kc itf (ms.drop fi) ms.length (tp T n 1 i) = .inl (1, (tp T n 1 (i + 1 + 1))) := hrm1.trans (rn_1 z2)
                                  exact hf 1 _ v _ _ (by rw [mb_f_s, if_neg (fun z => absurd (h125.1 z) (by omega)), hr]) (fun j x a1 a2 a3 a4 => (w_up_no (by omega)).trans ((w_up_no (by omega)).trans (rfl))) hrz
                              · skip
                                exact absurd c177 (by omega)
                            · skip
                              exact absurd c174 (by omega)
                          · skip
                            refine wa_aload_n (n := 0) rfl ?_
                            refine wa_iconst ?_
                            refine wa_cv 61 rfl (wy_pr rfl) wt_61 (M2 := fun _ => False) rfl at_XT_refuse ⟨_, rfl⟩ rfl rfl ⟨trivial, trivial, trivial, (Or.inr ⟨wy_pr rfl, fun q => q⟩), trivial, trivial⟩ trivial (fun _ _ q => False.elim q) (rf_c (S := (w_up S 14 4 ((i + 1 : Nat) : Int))) (k := 5) (p := (tp T n 1 (i + 1))) (i := ((i + 1 : Nat) : Int)) (gI_up hI (by omega) (by omega) (by omega)) (w_up_same _ _ _ _) ((w_up_slot (by decide)).trans (h16_1)) ⟨by omega, by have e : (w_up S 14 4 ((i + 1 : Nat) : Int)) 16 (-1) = S 16 (-1) := (w_up_slot (by decide)); omega⟩ ⟨by omega, by omega⟩ ⟨by omega, by omega⟩) (fun oq265 Sq265 hp266 q265 => ?_)
                            rcases q265 with ⟨v, rfl, rz264⟩
                            have hrz := rz264
                            have hkind : (5 : Int) = 5 := rfl
                            refine ⟨rfl, ?_⟩
                            refine ⟨rfl, ?_⟩
                            have hn := lx_w_k (k := 12) hB hW hrw (by decide) hwc.1 hnt1
                            rw [show hwl 12 = tx_25 from rfl] at hn
                            have z1 : zq B (tp T n 1 (i + 1)) 237 6 = 1 := by rw [zT_6 hB]; exact hnt1.1
                            have hs := lx_w_k (k := 11) hB hW hrw (by decide) hwc.1 hnt0
                            rw [show hwl 11 = tx_23 from rfl] at hs
                            have hrm0 : rm_L B 261 kc itf (ms.drop fi) ms.length (tp T n 1 i) = rb_L B 261 kc itf (ms.drop fi) ms.length (tp T n 1 (i + 1)) 1 := (rm_s (hs.2 (by omega)) (by omega)).trans (by rw [tp_ne (i := i) hB])
                            have hkk : lx_w (zq B (tp T n 1 (i + 1))) tx_25 = true ∨ (0 ≤ pl_of (zq B (tp T n 1 (i + 1))) tx_27 ∨ 0 ≤ ch_of (zq B (tp T n 1 (i + 1))) 261) := by first | exact Or.inl (hn.2 (by omega)) | exact Or.inr (ty_hy (av := 1) hyy1 (Or.inr (by decide))).2.2.1
                            have hr : rm_L B 261 kc itf (ms.drop fi) ms.length (tp T n 1 i) = .inl (5, (tp T n 1 (i + 1))) := hrm0.trans (rb_5 z1 (fun z => by have := hn.1 z.2; omega) hkk (by omega))
                            exact hf 5 _ v _ _ (by rw [mb_f_s, if_neg (fun z => absurd (h125.1 z) (by omega)), hr]) (fun j x a1 a2 a3 a4 => (w_up_no (by omega)).trans (rfl)) hrz
                        · skip
                          have hyy := hy168
                          refine ⟨rfl, ?_⟩
                          refine ⟨rfl, ?_⟩
                          have hn := lx_w_k (k := 12) hB hW hrw (by decide) hwc.1 hnt1
                          rw [show hwl 12 = tx_25 from rfl] at hn
                          have z1 : zq B (tp T n 1 (i + 1)) 237 6 = 1 := by rw [zT_6 hB]; exact hnt1.1
                          have hs := lx_w_k (k := 11) hB hW hrw (by decide) hwc.1 hnt0
                          rw [show hwl 11 = tx_23 from rfl] at hs
                          have hrm0 : rm_L B 261 kc itf (ms.drop fi) ms.length (tp T n 1 i) = rb_L B 261 kc itf (ms.drop fi) ms.length (tp T n 1 (i + 1)) 1 := (rm_s (hs.2 (by omega)) (by omega)).trans (by rw [tp_ne (i := i) hB])
                          rcases ty_in hyy with ⟨rfl, q1⟩ | ⟨rfl, q1, q2⟩
                          · exact absurd z1 q1
                          have hr : rm_L B 261 kc itf (ms.drop fi) ms.length (tp T n 1 i) = .inl (3, (tp T n 1 (i + 1))) := hrm0.trans (rb_3 z1 (fun z => absurd (hn.1 z) (by omega)) q2)
                          exact hf 3 _ v _ _ (by rw [mb_f_s, if_neg (fun z => absurd (h125.1 z) (by omega)), hr]) (fun j x a1 a2 a3 a4 => (w_up_no (by omega)).trans (rfl)) hrz
                      · skip
                        exact absurd c167 (by omega)
                    · skip
                      exact absurd c166 (by omega)
                  · skip
                    refine wa_iconst ?_
                    refine wa_goto ⟨_, rfl⟩ ?_
                    refine wa_istore_n (n := 3) rfl ?_
                    refine wa_iload_n (n := 3) rfl ?_
                    refine wa_ifeq (w_rg0 (by omega) (by omega)) ⟨_, rfl⟩ (fun c267 => ?_) (fun c267 => ?_)
                    · skip
                      exact absurd c267 (by omega)
                    · skip
                      refine wa_iload_n (n := 2) rfl ?_
                      refine wa_ifeq (w_rg0 (by omega) (by omega)) ⟨_, rfl⟩ (fun c268 => ?_) (fun c268 => ?_)
                      · skip
                        exact absurd c268 (by omega)
                      · skip
                        refine wa_aload_n (n := 0) rfl ?_
                        refine wa_iconst ?_
                        refine wa_cv 61 rfl (wy_pr rfl) wt_61 (M2 := fun _ => False) rfl at_XT_refuse ⟨_, rfl⟩ rfl rfl ⟨trivial, trivial, (Or.inr ⟨wy_pr rfl, fun q => q⟩), trivial, trivial⟩ trivial (fun _ _ q => False.elim q) (rf_c (S := (w_up S 14 4 ((i + 1 : Nat) : Int))) (k := 1) (p := (tp T n 1 (i + 1))) (i := ((i + 1 : Nat) : Int)) (gI_up hI (by omega) (by omega) (by omega)) (w_up_same _ _ _ _) ((w_up_slot (by decide)).trans (h16_1)) ⟨by omega, by have e : (w_up S 14 4 ((i + 1 : Nat) : Int)) 16 (-1) = S 16 (-1) := (w_up_slot (by decide)); omega⟩ ⟨by omega, by omega⟩ ⟨by omega, by omega⟩) (fun oq270 Sq270 hp271 q270 => ?_)
                        rcases q270 with ⟨v, rfl, rz269⟩
                        have hrz := rz269
                        have hkind : (1 : Int) = 1 := rfl
                        refine ⟨rfl, ?_⟩
                        refine ⟨rfl, ?_⟩
                        have hn := lx_w_k (k := 12) hB hW hrw (by decide) hwc.1 hnt1
                        rw [show hwl 12 = tx_25 from rfl] at hn
                        have z1 : zq B (tp T n 1 (i + 1)) 237 6 = 1 := by rw [zT_6 hB]; exact hnt1.1
                        have hs := lx_w_k (k := 11) hB hW hrw (by decide) hwc.1 hnt0
                        rw [show hwl 11 = tx_23 from rfl] at hs
                        have hrm0 : rm_L B 261 kc itf (ms.drop fi) ms.length (tp T n 1 i) = rb_L B 261 kc itf (ms.drop fi) ms.length (tp T n 1 (i + 1)) 1 := (rm_s (hs.2 (by omega)) (by omega)).trans (by rw [tp_ne (i := i) hB])
                        have hr : rm_L B 261 kc itf (ms.drop fi) ms.length (tp T n 1 i) = .inl (1, (tp T n 1 (i + 1))) := hrm0.trans (rb_2 rfl (hn.2 (by omega)))
                        exact hf 1 _ v _ _ (by rw [mb_f_s, if_neg (fun z => absurd (h125.1 z) (by omega)), hr]) (fun j x a1 a2 a3 a4 => (w_up_no (by omega)).trans (rfl)) hrz
                · skip
                  have hkg := hw161
                  refine ⟨rfl, ?_⟩
                  refine ⟨rfl, ?_⟩
                  have z1 : zq B (tp T n 1 (i + 1)) 237 6 ≠ 1 := by rw [zT_6 hB]; exact fun z => hkg ((kg_5 T n _).2 z)
                  have hs := lx_w_k (k := 11) hB hW hrw (by decide) hwc.1 hnt0
                  rw [show hwl 11 = tx_23 from rfl] at hs
                  have hr : rm_L B 261 kc itf (ms.drop fi) ms.length (tp T n 1 i) = .inl (1, (tp T n 1 (i + 1))) := (rm_s (hs.2 (by omega)) (by omega)).trans (by rw [tp_ne (i := i) hB]; exact rb_1 z1)
                  exact hf 1 _ v _ _ (by rw [mb_f_s, if_neg (fun z => absurd (h125.1 z) (by omega)), hr]) (fun j x a1 a2 a3 a4 => (w_up_no (by omega)).trans (rfl)) hrz
              · skip
                refine wa_aload_n (n := 0) rfl ?_
                refine wa_bipush (w_rg2 (by omega) (by omega)) ?_
                refine wa_cv 61 rfl (wy_pr rfl) wt_61 (M2 := fun _ => False) rfl at_XT_refuse ⟨_, rfl⟩ rfl rfl ⟨trivial, (Or.inr ⟨wy_pr rfl, fun q => q⟩), trivial, trivial⟩ trivial (fun _ _ q => False.elim q) (rf_c (S := S) (k := 6) (p := (tp T n 1 i)) (i := (i : Int)) hI (hpos4) (h16_0) ⟨by omega, by have e : S 16 (-1) = S 16 (-1) := rfl; omega⟩ ⟨by omega, by omega⟩ ⟨by omega, by omega⟩) (fun oq273 Sq273 hp274 q273 => ?_)
                rcases q273 with ⟨v, rfl, rz272⟩
                have hrz := rz272
                have hkind : (6 : Int) = 6 := rfl
                refine ⟨rfl, ?_⟩
                refine ⟨rfl, ?_⟩
                have hs := lx_w_k (k := 11) hB hW hrw (by decide) hwc.1 hnt0
                rw [show hwl 11 = tx_23 from rfl] at hs
                have hr : rm_L B 261 kc itf (ms.drop fi) ms.length (tp T n 1 i) = .inl (6, (tp T n 1 i)) := rm_s6 (hs.2 (by omega)) (by omega)
                exact hf 6 _ v _ _ (by rw [mb_f_s, if_neg (fun z => absurd (h125.1 z) (by omega)), hr]) (fun j x a1 a2 a3 a4 => rfl) hrz
        · skip
          have hkg := hw6
          refine ⟨rfl, ?_⟩
          refine ⟨rfl, ?_⟩
          have z1 : zq B (tp T n 1 i) 237 6 ≠ 1 := by rw [zT_6 hB]; exact fun z => hkg ((kg_5 T n _).2 z)
          have hr : rm_L B 261 kc itf (ms.drop fi) ms.length (tp T n 1 i) = .inl (1, (tp T n 1 i)) := (rm_o (lx_w_no z1)).trans (rb_1 z1)
          exact hf 1 _ v _ _ (by rw [mb_f_s, if_neg (fun z => absurd (h125.1 z) (by omega)), hr]) (fun j x a1 a2 a3 a4 => rfl) hrz
end W9s
