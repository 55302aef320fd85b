/-! PART e7: the reference's newCall, callsFun. -/
section We7
variable {xs : List (Nat × List Int32)} {M : Nat → Prop} {d : Nat} {S Z A B : wS} {Q : wO → wS → Prop}
/-- variables of a call get their values -/
def mv_ag (u v0 vn pn en fr : Int) (S Z : wS) : Prop := (Z 237 94 = u + vn ∧ Z 237 63 = v0 + vn) ∧ (∀ i : Int, 0 ≤ i → i < vn → Z 335 (u + i) = (if i < pn ∧ i < en then S 363 (fr + i) else 0) ∧ Z 336 (u + i) = (if i < pn ∧ i < en then S 364 (fr + i) else 0)) ∧ ∀ (j : Nat) (i : Int), ((j ≠ 335 ∧ j ≠ 336) ∨ i < u ∨ u + vn ≤ i) → (j ≠ 237 ∨ (i ≠ 94 ∧ i ≠ 63)) → Z j i = S j i
theorem mv_0 {u v0 pn en fr : Int} (h1 : S 237 94 = u) (h2 : S 237 63 = v0) : mv_ag u v0 0 pn en fr S S := ⟨⟨by omega, by omega⟩, fun i h0 h1 => by omega, fun _ _ _ _ => rfl⟩
theorem mv_s {u v0 vn pn en fr k v : Int} (h : mv_ag u v0 vn pn en fr S Z) (hv : 0 ≤ vn) (hk : k = (if vn < pn ∧ vn < en then S 363 (fr + vn) else 0)) (hb : v = (if vn < pn ∧ vn < en then S 364 (fr + vn) else 0)) : mv_ag u v0 (vn + 1) pn en fr S (w_up (w_up (w_up (w_up Z 335 (u + vn) k) 336 (u + vn) v) 237 94 (u + vn + 1)) 237 63 (v0 + vn + 1)) := by
  refine ⟨⟨by rw [w_up_at (by decide), w_up_same]; omega, by rw [w_up_same]; omega⟩, fun i h0 h1 => ?_, fun j i hj hj2 => (w_up_no (by omega)).trans ((w_up_no (by omega)).trans ((w_up_no (by omega)).trans ((w_up_no (by omega)).trans (h.2.2 j i (by omega) hj2))))⟩
  have e5 : ∀ x : Int, (w_up (w_up (w_up (w_up Z 335 (u + vn) k) 336 (u + vn) v) 237 94 (u + vn + 1)) 237 63 (v0 + vn + 1)) 335 x = (w_up Z 335 (u + vn) k) 335 x := fun x => (w_up_slot (by decide)).trans ((w_up_slot (by decide)).trans (w_up_slot (by decide)))
  have e6 : ∀ x : Int, (w_up (w_up (w_up (w_up Z 335 (u + vn) k) 336 (u + vn) v) 237 94 (u + vn + 1)) 237 63 (v0 + vn + 1)) 336 x = (w_up (w_up Z 335 (u + vn) k) 336 (u + vn) v) 336 x := fun x => (w_up_slot (by decide)).trans (w_up_slot (by decide))
  rw [e5, e6]
  by_cases e : i = vn
  · subst e
    rw [w_up_same, w_up_same]
    exact ⟨hk, hb⟩
  · rw [w_up_at (by omega), w_up_at (by omega), w_up_slot (by decide)]
    exact h.2.1 i h0 (by omega)
theorem nl_c {f ar fr en n u v0 vs pn : Int} (hM : w_ML S) (hf1 : 0 ≤ f ∧ f < 400) (hvs : S 296 f = vs) (hpn : S 295 f = pn) (hvs1 : vs ≤ 1000) (hu : 0 ≤ u ∧ u + vs ≤ 60000) (hv : 0 ≤ v0 ∧ v0 + vs ≤ 60000) (hfr : 0 ≤ fr ∧ fr + en ≤ 4200) (her : -2147483648 ≤ en ∧ en ≤ 2147483647) : ∀ (g : Nat) (i : Int) (Z : wS), vs - i < g → 0 ≤ i → i ≤ vs → mv_ag u v0 i pn en fr S Z → (∀ Z : wS, mv_ag u v0 vs pn en fr S Z → wJ (pe_GA xs) wY0 M (d + 1) t_M_newCall ((pe_at t_M_newCall.bl 8).getD (0, [])).2 [(0, (2, 237)), (1, (0, f)), (2, (0, ar)), (3, (0, fr)), (4, (0, en)), (5, (0, n)), (6, (0, vs))] [] Z Q) → wJ (pe_GA xs) wY0 M (d + 1) t_M_newCall ((pe_at t_M_newCall.bl 1).getD (0, [])).2 [(0, (2, 237)), (1, (0, f)), (2, (0, ar)), (3, (0, fr)), (4, (0, en)), (5, (0, n)), (6, (0, i))] [] Z Q := by
  intro g
  induction g with
  | zero => intro i Z h1 h2 h3; omega
  | succ g ih =>
    intro i Z h1 h2 h3 hm hk
    have zM : w_ML Z := fun q hq => (hm.2.2 q.1 (-1) (by omega) (Or.inr (by decide))).trans (hM q hq)
    have z96 : Z 296 f = vs := (hm.2.2 296 f (by omega) (by omega)).trans hvs
    have z95 : Z 295 f = pn := (hm.2.2 295 f (by omega) (by omega)).trans hpn
    have e3 : ∀ x : Int, Z 363 x = S 363 x := fun x => hm.2.2 363 x (by omega) (by omega)
    have e4 : ∀ x : Int, Z 364 x = S 364 x := fun x => hm.2.2 364 x (by omega) (by omega)
    obtain ⟨z94, z63⟩ := hm.1
    refine wa_iload (n := 6) rfl ?_
    refine wa_aload_n (n := 0) rfl ?_
    refine wb_gf4 237 rfl (wy_pr rfl) wt_237 wf_15_38 (v := 296) wl_237_38 ?_
    refine wa_iload_n (n := 1) rfl ?_
    refine wb_iald 296 rfl (wy_pr rfl) wt_296 (n := 400) ((ml_296 zM)) (by omega) (by omega) (v := vs) (z96) (fun r301 => ?_)
    refine wa_icmpge (w_rg0 (by omega) (by omega)) (w_rg0 (by omega) (by omega)) ⟨_, rfl⟩ (fun c302 => ?_) (fun c302 => ?_)
    · skip
      have hiv : i = vs := by omega
      subst hiv
      exact wJ_S (hk Z hm) ⟨rfl, rfl, rfl, rfl, rfl, rfl, rfl, trivial⟩
    · skip
      refine wa_iload (n := 6) rfl ?_
      refine wa_aload_n (n := 0) rfl ?_
      refine wb_gf4 237 rfl (wy_pr rfl) wt_237 wf_15_37 (v := 295) wl_237_37 ?_
      refine wa_iload_n (n := 1) rfl ?_
      refine wb_iald 295 rfl (wy_pr rfl) wt_295 (n := 400) ((ml_295 zM)) (by omega) (by omega) (v := pn) (z95) (fun r303 => ?_)
      refine wa_icmpge (w_rg0 (by omega) (by omega)) (w_rg0 (by omega) (by omega)) ⟨_, rfl⟩ (fun c304 => ?_) (fun c304 => ?_)
      · skip
        refine wa_iconst ?_
        refine wa_fall ⟨_, rfl⟩ ?_
        refine wa_istore (n := 7) rfl ?_
        refine wa_aload_n (n := 0) rfl ?_
        refine wa_aload_n (n := 0) rfl ?_
        refine wb_gfi 237 rfl (wy_pr rfl) wt_237 wf_15_94 (v := (u + i)) (z94) (fun r305 => ?_)
        refine wa_iload (n := 7) rfl ?_
        refine wa_ifeq (w_rg0 (by omega) (by omega)) ⟨_, rfl⟩ (fun c306 => ?_) (fun c306 => ?_)
        · skip
          refine wa_iconst ?_
          refine wa_fall ⟨_, rfl⟩ ?_
          refine wa_iload (n := 7) rfl ?_
          refine wa_ifeq (w_rg0 (by omega) (by omega)) ⟨_, rfl⟩ (fun c307 => ?_) (fun c307 => ?_)
          · skip
            refine wb_lconst (m := 0) rfl ?_
            refine wa_fall ⟨_, rfl⟩ ?_
            refine wa_cv 237 rfl (wy_pr rfl) wt_237 (M2 := fun _ => False) rfl at_M_setsVariable ⟨_, rfl⟩ rfl rfl ⟨trivial, (Or.inr ⟨wy_pr rfl, fun q => q⟩), trivial, trivial, trivial, trivial, trivial, trivial, trivial⟩ trivial (fun _ _ q => False.elim q) ?_ (fun _ _ _ q => q)
            refine wa_aload_n (n := 0) rfl ?_
            refine wb_gf4 237 rfl (wy_pr rfl) wt_237 wf_15_95 (v := 335) wl_237_95 ?_
            refine wa_iload_n (n := 1) rfl ?_
            refine wa_iload_n (n := 2) rfl ?_
            refine wb_iast 335 rfl (wy_pr rfl) wt_335 (n := 60000) ((ml_335 zM)) (by omega) (by omega) ⟨(by omega), (by omega)⟩ ?_
            refine wa_aload_n (n := 0) rfl ?_
            refine wb_gf4 237 rfl (wy_pr rfl) wt_237 wf_15_96 (v := 336) wl_237_96 ?_
            refine wa_iload_n (n := 1) rfl ?_
            refine wa_lload_n (n := 3) rfl ?_
            refine wb_last 336 rfl (wy_pr rfl) wt_336 (n := 60000) ((w_up_slot (by decide)).trans ((ml_336 zM))) (by omega) (by omega) ⟨(by omega), (by omega)⟩ ?_
            refine wa_return rfl ?_
            show wJ _ _ _ _ _ _ _ _ _ _
            refine wa_aload_n (n := 0) rfl ?_
            refine wa_dup (by decide) ?_
            refine wb_gfi 237 rfl (wy_pr rfl) wt_237 wf_15_94 (v := (u + i)) ((w_up_slot (by decide)).trans ((w_up_slot (by decide)).trans (z94))) (fun r308 => ?_)
            refine wa_iconst ?_
            refine wa_iadd ?_
            refine wb_pfi 237 rfl (wy_pr rfl) wt_237 wf_15_94 (n := 94) rfl ⟨(by omega), (by omega)⟩ ?_
            refine wa_aload_n (n := 0) rfl ?_
            refine wa_dup (by decide) ?_
            refine wb_gfi 237 rfl (wy_pr rfl) wt_237 wf_15_63 (v := (v0 + i)) ((w_up_at (by decide)).trans ((w_up_slot (by decide)).trans ((w_up_slot (by decide)).trans (z63)))) (fun r309 => ?_)
            refine wa_iconst ?_
            refine wa_iadd ?_
            refine wb_pfi 237 rfl (wy_pr rfl) wt_237 wf_15_63 (n := 63) rfl ⟨(by omega), (by omega)⟩ ?_
            refine wa_iinc rfl rfl ?_
            refine wa_goto ⟨_, rfl⟩ ?_
            exact wJ_S (ih (i + 1) _ (by omega) (by omega) (by omega) (mv_s hm h2 (if_neg (by omega)).symm (if_neg (by omega)).symm) hk) ⟨rfl, rfl, rfl, rfl, rfl, rfl, rfl, trivial⟩
          · skip
            exact absurd c307 (by omega)
        · skip
          exact absurd c306 (by omega)
      · skip
        refine wa_iload (n := 6) rfl ?_
        refine wa_iload (n := 4) rfl ?_
        refine wa_icmpge (w_rg0 (by omega) (by omega)) (w_rg0 (by omega) (by omega)) ⟨_, rfl⟩ (fun c310 => ?_) (fun c310 => ?_)
        · skip
          refine wa_iconst ?_
          refine wa_fall ⟨_, rfl⟩ ?_
          refine wa_istore (n := 7) rfl ?_
          refine wa_aload_n (n := 0) rfl ?_
          refine wa_aload_n (n := 0) rfl ?_
          refine wb_gfi 237 rfl (wy_pr rfl) wt_237 wf_15_94 (v := (u + i)) (z94) (fun r311 => ?_)
          refine wa_iload (n := 7) rfl ?_
          refine wa_ifeq (w_rg0 (by omega) (by omega)) ⟨_, rfl⟩ (fun c312 => ?_) (fun c312 => ?_)
          · skip
            refine wa_iconst ?_
            refine wa_fall ⟨_, rfl⟩ ?_
            refine wa_iload (n := 7) rfl ?_
            refine wa_ifeq (w_rg0 (by omega) (by omega)) ⟨_, rfl⟩ (fun c313 => ?_) (fun c313 => ?_)
            · skip
              refine wb_lconst (m := 0) rfl ?_
              refine wa_fall ⟨_, rfl⟩ ?_
              refine wa_cv 237 rfl (wy_pr rfl) wt_237 (M2 := fun _ => False) rfl at_M_setsVariable ⟨_, rfl⟩ rfl rfl ⟨trivial, (Or.inr ⟨wy_pr rfl, fun q => q⟩), trivial, trivial, trivial, trivial, trivial, trivial, trivial⟩ trivial (fun _ _ q => False.elim q) ?_ (fun _ _ _ q => q)
              refine wa_aload_n (n := 0) rfl ?_
              refine wb_gf4 237 rfl (wy_pr rfl) wt_237 wf_15_95 (v := 335) wl_237_95 ?_
              refine wa_iload_n (n := 1) rfl ?_
              refine wa_iload_n (n := 2) rfl ?_
              refine wb_iast 335 rfl (wy_pr rfl) wt_335 (n := 60000) ((ml_335 zM)) (by omega) (by omega) ⟨(by omega), (by omega)⟩ ?_
              refine wa_aload_n (n := 0) rfl ?_
              refine wb_gf4 237 rfl (wy_pr rfl) wt_237 wf_15_96 (v := 336) wl_237_96 ?_
              refine wa_iload_n (n := 1) rfl ?_
              refine wa_lload_n (n := 3) rfl ?_
              refine wb_last 336 rfl (wy_pr rfl) wt_336 (n := 60000) ((w_up_slot (by decide)).trans ((ml_336 zM))) (by omega) (by omega) ⟨(by omega), (by omega)⟩ ?_
              refine wa_return rfl ?_
              show wJ _ _ _ _ _ _ _ _ _ _
              refine wa_aload_n (n := 0) rfl ?_
              refine wa_dup (by decide) ?_
              refine wb_gfi 237 rfl (wy_pr rfl) wt_237 wf_15_94 (v := (u + i)) ((w_up_slot (by decide)).trans ((w_up_slot (by decide)).trans (z94))) (fun r314 => ?_)
              refine wa_iconst ?_
              refine wa_iadd ?_
              refine wb_pfi 237 rfl (wy_pr rfl) wt_237 wf_15_94 (n := 94) rfl ⟨(by omega), (by omega)⟩ ?_
              refine wa_aload_n (n := 0) rfl ?_
              refine wa_dup (by decide) ?_
              refine wb_gfi 237 rfl (wy_pr rfl) wt_237 wf_15_63 (v := (v0 + i)) ((w_up_at (by decide)).trans ((w_up_slot (by decide)).trans ((w_up_slot (by decide)).trans (z63)))) (fun r315 => ?_)
              refine wa_iconst ?_
              refine wa_iadd ?_
              refine wb_pfi 237 rfl (wy_pr rfl) wt_237 wf_15_63 (n := 63) rfl ⟨(by omega), (by omega)⟩ ?_
              refine wa_iinc rfl rfl ?_
              refine wa_goto ⟨_, rfl⟩ ?_
              exact wJ_S (ih (i + 1) _ (by omega) (by omega) (by omega) (mv_s hm h2 (if_neg (by omega)).symm (if_neg (by omega)).symm) hk) ⟨rfl, rfl, rfl, rfl, rfl, rfl, rfl, trivial⟩
            · skip
              exact absurd c313 (by omega)
          · skip
            exact absurd c312 (by omega)
        · skip
          refine wa_iconst ?_
          refine wa_goto ⟨_, rfl⟩ ?_
          refine wa_istore (n := 7) rfl ?_
          refine wa_aload_n (n := 0) rfl ?_
          refine wa_aload_n (n := 0) rfl ?_
          refine wb_gfi 237 rfl (wy_pr rfl) wt_237 wf_15_94 (v := (u + i)) (z94) (fun r316 => ?_)
          refine wa_iload (n := 7) rfl ?_
          refine wa_ifeq (w_rg0 (by omega) (by omega)) ⟨_, rfl⟩ (fun c317 => ?_) (fun c317 => ?_)
          · skip
            exact absurd c317 (by omega)
          · skip
            refine wa_aload_n (n := 0) rfl ?_
            refine wb_gf4 237 rfl (wy_pr rfl) wt_237 wf_15_138 (v := 363) wl_237_138 ?_
            refine wa_iload_n (n := 3) rfl ?_
            refine wa_iload (n := 6) rfl ?_
            refine wa_iadd ?_
            refine wb_iald 363 rfl (wy_pr rfl) wt_363 (n := 4200) ((ml_363 zM)) (by omega) (by omega) (v := (S 363 (fr + i))) ((e3 (fr + i))) (fun r318 => ?_)
            refine wa_goto ⟨_, rfl⟩ ?_
            refine wa_iload (n := 7) rfl ?_
            refine wa_ifeq (w_rg0 (by omega) (by omega)) ⟨_, rfl⟩ (fun c319 => ?_) (fun c319 => ?_)
            · skip
              exact absurd c319 (by omega)
            · skip
              refine wa_aload_n (n := 0) rfl ?_
              refine wb_gf4 237 rfl (wy_pr rfl) wt_237 wf_15_139 (v := 364) wl_237_139 ?_
              refine wa_iload_n (n := 3) rfl ?_
              refine wa_iload (n := 6) rfl ?_
              refine wa_iadd ?_
              refine wb_lald 364 rfl (wy_pr rfl) wt_364 (n := 4200) ((ml_364 zM)) (by omega) (by omega) (v := (S 364 (fr + i))) ((e4 (fr + i))) (fun r320 => ?_)
              refine wa_goto ⟨_, rfl⟩ ?_
              refine wa_cv 237 rfl (wy_pr rfl) wt_237 (M2 := fun _ => False) rfl at_M_setsVariable ⟨_, rfl⟩ rfl rfl ⟨trivial, (Or.inr ⟨wy_pr rfl, fun q => q⟩), trivial, trivial, trivial, trivial, trivial, trivial, trivial⟩ trivial (fun _ _ q => False.elim q) ?_ (fun _ _ _ q => q)
              refine wa_aload_n (n := 0) rfl ?_
              refine wb_gf4 237 rfl (wy_pr rfl) wt_237 wf_15_95 (v := 335) wl_237_95 ?_
              refine wa_iload_n (n := 1) rfl ?_
              refine wa_iload_n (n := 2) rfl ?_
              refine wb_iast 335 rfl (wy_pr rfl) wt_335 (n := 60000) ((ml_335 zM)) (by omega) (by omega) ⟨(by omega), (by omega)⟩ ?_
              refine wa_aload_n (n := 0) rfl ?_
              refine wb_gf4 237 rfl (wy_pr rfl) wt_237 wf_15_96 (v := 336) wl_237_96 ?_
              refine wa_iload_n (n := 1) rfl ?_
              refine wa_lload_n (n := 3) rfl ?_
              refine wb_last 336 rfl (wy_pr rfl) wt_336 (n := 60000) ((w_up_slot (by decide)).trans ((ml_336 zM))) (by omega) (by omega) ⟨(by omega), (by omega)⟩ ?_
              refine wa_return rfl ?_
              show wJ _ _ _ _ _ _ _ _ _ _
              refine wa_aload_n (n := 0) rfl ?_
              refine wa_dup (by decide) ?_
              refine wb_gfi 237 rfl (wy_pr rfl) wt_237 wf_15_94 (v := (u + i)) ((w_up_slot (by decide)).trans ((w_up_slot (by decide)).trans (z94))) (fun r321 => ?_)
              refine wa_iconst ?_
              refine wa_iadd ?_
              refine wb_pfi 237 rfl (wy_pr rfl) wt_237 wf_15_94 (n := 94) rfl ⟨(by omega), (by omega)⟩ ?_
              refine wa_aload_n (n := 0) rfl ?_
              refine wa_dup (by decide) ?_
              refine wb_gfi 237 rfl (wy_pr rfl) wt_237 wf_15_63 (v := (v0 + i)) ((w_up_at (by decide)).trans ((w_up_slot (by decide)).trans ((w_up_slot (by decide)).trans (z63)))) (fun r322 => ?_)
              refine wa_iconst ?_
              refine wa_iadd ?_
              refine wb_pfi 237 rfl (wy_pr rfl) wt_237 wf_15_63 (n := 63) rfl ⟨(by omega), (by omega)⟩ ?_
              refine wa_iinc rfl rfl ?_
              refine wa_goto ⟨_, rfl⟩ ?_
              exact wJ_S (ih (i + 1) _ (by omega) (by omega) (by omega) (mv_s hm h2 (if_pos (by omega)).symm (if_pos (by omega)).symm) hk) ⟨rfl, rfl, rfl, rfl, rfl, rfl, rfl, trivial⟩
theorem nc_c {f ar fr en n u u0 v0 vs pn : Int} (hM : w_ML S) (hn : S 237 69 = n) (hn1 : 0 ≤ n ∧ n < 8000) (hu0 : S 237 62 = u0) (hu1 : 0 ≤ u0 ∧ u0 ≤ 8000) (hu : S 237 94 = u) (hv : S 237 63 = v0) (hf1 : 0 ≤ f ∧ f < 400) (hvs : S 296 f = vs) (hpn : S 295 f = pn) (hvs1 : 0 ≤ vs ∧ vs ≤ 1000) (hu2 : 0 ≤ u ∧ u + vs ≤ 60000) (hv2 : 0 ≤ v0 ∧ v0 + vs ≤ 60000) (hfr : 0 ≤ fr ∧ fr + en ≤ 4200) (har : -2147483648 ≤ ar ∧ ar ≤ 2147483647) (hen : -2147483648 ≤ en ∧ en ≤ 2147483647) : wJ (pe_GA xs) wY0 M (d + 2) t_M_newCall ((pe_at t_M_newCall.bl 0).getD (0, [])).2 [(0, (2, 237)), (1, (0, f)), (2, (0, ar)), (3, (0, fr)), (4, (0, en))] [] S (fun o Z => o = .inl (some (0, n)) ∧ mv_ag u v0 vs pn en fr (w_up (w_up (w_up (w_up S 237 69 (n + 1)) 237 62 (u0 + 1)) 333 n ar) 334 n u) Z) := by
  refine wa_aload_n (n := 0) rfl ?_
  refine wb_gfi 237 rfl (wy_pr rfl) wt_237 wf_15_69 (v := n) (hn) (fun r1 => ?_)
  refine wa_istore (n := 5) rfl ?_
  refine wa_aload_n (n := 0) rfl ?_
  refine wa_dup (by decide) ?_
  refine wb_gfi 237 rfl (wy_pr rfl) wt_237 wf_15_69 (v := n) (hn) (fun r2 => ?_)
  refine wa_iconst ?_
  refine wa_iadd ?_
  refine wb_pfi 237 rfl (wy_pr rfl) wt_237 wf_15_69 (n := 69) rfl ⟨(by omega), (by omega)⟩ ?_
  refine wa_aload_n (n := 0) rfl ?_
  refine wa_dup (by decide) ?_
  refine wb_gfi 237 rfl (wy_pr rfl) wt_237 wf_15_62 (v := u0) ((w_up_at (by decide)).trans (hu0)) (fun r3 => ?_)
  refine wa_iconst ?_
  refine wa_iadd ?_
  refine wb_pfi 237 rfl (wy_pr rfl) wt_237 wf_15_62 (n := 62) rfl ⟨(by omega), (by omega)⟩ ?_
  refine wa_aload_n (n := 0) rfl ?_
  refine wb_gf4 237 rfl (wy_pr rfl) wt_237 wf_15_92 (v := 333) wl_237_92 ?_
  refine wa_iload (n := 5) rfl ?_
  refine wa_iload_n (n := 2) rfl ?_
  refine wb_iast 333 rfl (wy_pr rfl) wt_333 (n := 8000) ((w_up_slot (by decide)).trans ((w_up_slot (by decide)).trans ((ml_333 hM)))) (by omega) (by omega) ⟨(by omega), (by omega)⟩ ?_
  refine wa_aload_n (n := 0) rfl ?_
  refine wb_gf4 237 rfl (wy_pr rfl) wt_237 wf_15_93 (v := 334) wl_237_93 ?_
  refine wa_iload (n := 5) rfl ?_
  refine wa_aload_n (n := 0) rfl ?_
  refine wb_gfi 237 rfl (wy_pr rfl) wt_237 wf_15_94 (v := u) ((w_up_slot (by decide)).trans ((w_up_at (by decide)).trans ((w_up_at (by decide)).trans (hu)))) (fun r4 => ?_)
  refine wb_iast 334 rfl (wy_pr rfl) wt_334 (n := 8000) ((w_up_slot (by decide)).trans ((w_up_slot (by decide)).trans ((w_up_slot (by decide)).trans ((ml_334 hM))))) (by omega) (by omega) ⟨(by omega), (by omega)⟩ ?_
  refine wa_iconst ?_
  refine wa_istore (n := 6) rfl ?_
  refine wa_fall ⟨_, rfl⟩ ?_
  have e96 : (w_up (w_up (w_up (w_up S 237 69 (n + 1)) 237 62 (u0 + 1)) 333 n ar) 334 n u) 296 f = vs := ((w_up_slot (by decide)).trans ((w_up_slot (by decide)).trans ((w_up_slot (by decide)).trans ((w_up_slot (by decide)).trans (hvs)))))
  refine wJ_S (nl_c (S := (w_up (w_up (w_up (w_up S 237 69 (n + 1)) 237 62 (u0 + 1)) 333 n ar) 334 n u)) (u := u) (v0 := v0) (vs := vs) (pn := pn) (w_ML_up (w_ML_up (w_ML_up (w_ML_up hM (by omega)) (by omega)) (by omega)) (by omega)) hf1 ((w_up_slot (by decide)).trans ((w_up_slot (by decide)).trans ((w_up_slot (by decide)).trans ((w_up_slot (by decide)).trans (hvs))))) ((w_up_slot (by decide)).trans ((w_up_slot (by decide)).trans ((w_up_slot (by decide)).trans ((w_up_slot (by decide)).trans (hpn))))) (by omega) ⟨by omega, by omega⟩ ⟨by omega, by omega⟩ hfr hen (vs + 1).toNat 0 (w_up (w_up (w_up (w_up S 237 69 (n + 1)) 237 62 (u0 + 1)) 333 n ar) 334 n u) (by omega) (by omega) (by omega) (mv_0 ((w_up_slot (by decide)).trans ((w_up_slot (by decide)).trans ((w_up_at (by decide)).trans ((w_up_at (by decide)).trans (hu))))) ((w_up_slot (by decide)).trans ((w_up_slot (by decide)).trans ((w_up_at (by decide)).trans ((w_up_at (by decide)).trans (hv)))))) (fun Zb hmv => ?_)) ⟨rfl, rfl, rfl, rfl, rfl, rfl, rfl, trivial⟩
  refine wa_iload (n := 5) rfl ?_
  refine wa_ireturn rfl ?_
  exact ⟨rfl, hmv⟩
/-- a fun is called by the reference -/
def cfQ (t c p tp u v0 vs pn en pl f ar n u0 kd bt z : Int) (S Z : wS) : Prop := ∃ B : wS, mv_ag u v0 vs pn en (2100 * t + pl + 1) (w_up (w_up (w_up (w_up (w_up S 366 tp (p + 1)) 237 69 (n + 1)) 237 62 (u0 + 1)) 333 n ar) 334 n u) B ∧ w_up (w_up (w_up (w_up (w_up (w_up (w_up (w_up (w_up (w_up (w_up B 359 t pl) 237 154 (200 * t + c)) 358 t (c + 1)) 365 (200 * t + c) f) 366 (200 * t + c) 0) 367 (200 * t + c) n) 368 (200 * t + c) kd) 369 (200 * t + c) bt) 370 (200 * t + c) (-1)) 371 (200 * t + c) pl) 372 (200 * t + c) z = Z
theorem cfM_c {t c p h tp fn f ar en n u u0 v0 vs pn pl kd bt z : Int} (hP : mP t c p h tp S) (hn : S 237 69 = n) (hn1 : 0 ≤ n ∧ n < 8000) (hu0 : S 237 62 = u0) (hu1 : 0 ≤ u0 ∧ u0 ≤ 8000) (hu : S 237 94 = u) (hv : S 237 63 = v0) (hfn : 0 ≤ fn ∧ fn < 8000) (hf : S 319 fn = f) (har : S 320 fn = ar) (hf1 : 0 ≤ f ∧ f < 400) (hvs : S 296 f = vs) (hpn : S 295 f = pn) (hvs1 : 0 ≤ vs ∧ vs ≤ 1000) (hu2 : 0 ≤ u ∧ u ≤ v0) (hv2 : 0 ≤ v0 ∧ v0 ≤ 60000) (hr : S 237 173 = 2100 * t + pl) (hpl : 0 ≤ pl ∧ pl + 1 + en ≤ 2100) (hen : 0 ≤ en ∧ en ≤ 100) (hz : S 360 t = z) (hnn : u0 < 8000 → n < 8000) (hkd : -2147483648 ≤ kd ∧ kd ≤ 2147483647) (hbt : -9223372036854775808 ≤ bt ∧ bt ≤ 9223372036854775807) : wJ (pe_GA xs) wY0 M (d + 6) t_M_callsFun ((pe_at t_M_callsFun.bl 0).getD (0, [])).2 [(0, (2, 237)), (1, (0, fn)), (2, (0, kd)), (3, (1, bt)), (5, (0, en))] [] S (fun o Z => (c = 200 ∧ o = .inr 238 ∧ hZ 11 S = Z) ∨ (c < 200 ∧ ¬ (u0 + 1 ≤ 8000 ∧ v0 + vs ≤ 60000) ∧ o = .inr 238 ∧ hZ 99 S = Z) ∨ (c < 200 ∧ (u0 + 1 ≤ 8000 ∧ v0 + vs ≤ 60000) ∧ o = .inl none ∧ cfQ t c p tp u v0 vs pn en pl f ar n u0 kd bt z S Z)) := by
  obtain ⟨hM, ⟨mt, mt0, mt1⟩, mp, mf, ⟨mc, mc0, mc1⟩, ⟨mtp, mtq⟩, ⟨mpa, mp0, mp1⟩, mh, mh0, mh1⟩ := hP
  refine wa_aload_n (n := 0) rfl ?_
  refine wb_gf4 237 rfl (wy_pr rfl) wt_237 wf_15_133 (v := 358) wl_237_133 ?_
  refine wa_aload_n (n := 0) rfl ?_
  refine wb_gfi 237 rfl (wy_pr rfl) wt_237 wf_15_151 (v := t) (mt) (fun r1 => ?_)
  refine wb_iald 358 rfl (wy_pr rfl) wt_358 (n := 2) ((ml_358 hM)) (by omega) (by omega) (v := c) (mc) (fun r2 => ?_)
  refine wa_sipush (by omega) ?_
  refine wa_icmpne (w_rg0 (by omega) (by omega)) (w_rg0 (by omega) (by omega)) ⟨_, rfl⟩ (fun c3 => ?_) (fun c3 => ?_)
  · skip
    refine wa_aload_n (n := 0) rfl ?_
    refine wb_gf4 237 rfl (wy_pr rfl) wt_237 wf_15_75 (v := 319) wl_237_75 ?_
    refine wa_iload_n (n := 1) rfl ?_
    refine wb_iald 319 rfl (wy_pr rfl) wt_319 (n := 8000) ((ml_319 hM)) (by omega) (by omega) (v := f) (hf) (fun r4 => ?_)
    refine wa_istore (n := 6) rfl ?_
    refine wa_aload_n (n := 0) rfl ?_
    refine wa_aload_n (n := 0) rfl ?_
    refine wa_iload (n := 6) rfl ?_
    refine wa_iconst ?_
    refine wa_cv 237 rfl (wy_pr rfl) wt_237 (M2 := fun _ => False) rfl at_M_hasRoomForCall ⟨_, rfl⟩ rfl rfl ⟨trivial, (Or.inr ⟨wy_pr rfl, fun q => q⟩), trivial, trivial, trivial, trivial, trivial⟩ ⟨(Or.inr ⟨wy_pr rfl, fun q => q⟩), trivial⟩ (fun _ _ q => False.elim q) ?_ (fun _ _ _ q => q)
    refine wa_aload_n (n := 0) rfl ?_
    refine wa_iconst ?_
    refine wa_iload_n (n := 2) rfl ?_
    refine wa_iadd ?_
    refine wa_cv 237 rfl (wy_pr rfl) wt_237 (M2 := fun _ => False) rfl at_M_hasRoomFor ⟨_, rfl⟩ rfl rfl ⟨(Or.inr ⟨wy_pr rfl, fun q => q⟩), trivial, trivial, trivial⟩ trivial (fun _ _ q => False.elim q) ?_ (fun _ _ _ q => q)
    refine wa_aload_n (n := 0) rfl ?_
    refine wb_gfi 237 rfl (wy_pr rfl) wt_237 wf_15_62 (v := u0) (hu0) (fun r5 => ?_)
    refine wa_iload_n (n := 1) rfl ?_
    refine wa_iadd ?_
    refine wa_sipush (by omega) ?_
    refine wa_icmpgt (w_rg0 (by omega) (by omega)) (w_rg0 (by omega) (by omega)) ⟨_, rfl⟩ (fun c6 => ?_) (fun c6 => ?_)
    · skip
      refine wa_iconst ?_
      refine wa_fall ⟨_, rfl⟩ ?_
      refine wa_zreturn rfl (Or.inl rfl) ?_
      show wJ _ _ _ _ _ _ _ _ _ _
      refine wa_ifeq (w_rg0 (by omega) (by omega)) ⟨_, rfl⟩ (fun c7 => ?_) (fun c7 => ?_)
      · skip
        refine wa_iconst ?_
        refine wa_fall ⟨_, rfl⟩ ?_
        refine wa_zreturn rfl (Or.inl rfl) ?_
        show wJ _ _ _ _ _ _ _ _ _ _
        refine wa_cv 237 rfl (wy_pr rfl) wt_237 (M2 := fun _ => False) rfl at_M_room ⟨_, rfl⟩ rfl rfl ⟨trivial, (Or.inr ⟨wy_pr rfl, fun q => q⟩), trivial, trivial, trivial, trivial, trivial⟩ trivial (fun _ _ q => False.elim q) ?_ (fun _ _ _ q => q)
        refine wa_iload_n (n := 1) rfl ?_
        refine wa_ifne (w_rg0 (by omega) (by omega)) ⟨_, rfl⟩ (fun c8 => ?_) (fun c8 => ?_)
        · skip
          exact absurd c8 (by omega)
        · skip
          refine wa_aload_n (n := 0) rfl ?_
          refine wb_gf4 237 rfl (wy_pr rfl) wt_237 wf_15_1 (v := 238) wl_237_1 ?_
          refine wa_bipush (w_rg2 (by omega) (by omega)) ?_
          refine wa_iconst ?_
          refine wa_cv 238 rfl (wy_pr rfl) wt_238 (M2 := fun _ => False) rfl at_MH_of ⟨_, rfl⟩ rfl rfl ⟨(Or.inr ⟨wy_pr rfl, fun q => q⟩), trivial, trivial⟩ trivial (fun _ _ q => False.elim q) ?_ (fun _ _ _ q => q)
          refine wa_aload_n (n := 0) rfl ?_
          refine wa_iload_n (n := 1) rfl ?_
          refine wb_pfi 238 rfl (wy_pr rfl) wt_238 wf_11_5 (n := 5) rfl ⟨(by omega), (by omega)⟩ ?_
          refine wa_aload_n (n := 0) rfl ?_
          refine wa_iload_n (n := 2) rfl ?_
          refine wb_pfi 238 rfl (wy_pr rfl) wt_238 wf_11_6 (n := 6) rfl ⟨(by omega), (by omega)⟩ ?_
          refine wa_aload_n (n := 0) rfl ?_
          refine wa_oreturn rfl ?_
          show wJ _ _ _ _ _ _ _ _ _ _
          refine wa_th (j := 238) ?_
          refine ⟨rfl, ?_⟩
          exact Or.inr (Or.inl ⟨by omega, by omega, rfl, rfl⟩)
      · skip
        exact absurd c7 (by omega)
    · skip
      refine wa_iconst ?_
      refine wa_goto ⟨_, rfl⟩ ?_
      refine wa_zreturn rfl (Or.inr rfl) ?_
      show wJ _ _ _ _ _ _ _ _ _ _
      refine wa_ifeq (w_rg0 (by omega) (by omega)) ⟨_, rfl⟩ (fun c9 => ?_) (fun c9 => ?_)
      · skip
        exact absurd c9 (by omega)
      · skip
        refine wa_aload_n (n := 0) rfl ?_
        refine wb_gfi 237 rfl (wy_pr rfl) wt_237 wf_15_63 (v := v0) (hv) (fun r10 => ?_)
        refine wa_aload_n (n := 0) rfl ?_
        refine wb_gf4 237 rfl (wy_pr rfl) wt_237 wf_15_38 (v := 296) wl_237_38 ?_
        refine wa_iload_n (n := 1) rfl ?_
        refine wb_iald 296 rfl (wy_pr rfl) wt_296 (n := 400) ((ml_296 hM)) (by omega) (by omega) (v := vs) (hvs) (fun r11 => ?_)
        refine wa_iadd ?_
        refine wb_ki (n := 60000) rfl ?_
        refine wa_icmpgt (w_rg0 (by omega) (by omega)) (w_rg0 (by omega) (by omega)) ⟨_, rfl⟩ (fun c12 => ?_) (fun c12 => ?_)
        · skip
          refine wa_iconst ?_
          refine wa_fall ⟨_, rfl⟩ ?_
          refine wa_zreturn rfl (Or.inl rfl) ?_
          show wJ _ _ _ _ _ _ _ _ _ _
          refine wa_cv 237 rfl (wy_pr rfl) wt_237 (M2 := fun _ => False) rfl at_M_room ⟨_, rfl⟩ rfl rfl ⟨trivial, (Or.inr ⟨wy_pr rfl, fun q => q⟩), trivial, trivial, trivial, trivial, trivial⟩ trivial (fun _ _ q => False.elim q) ?_ (fun _ _ _ q => q)
          refine wa_iload_n (n := 1) rfl ?_
          refine wa_ifne (w_rg0 (by omega) (by omega)) ⟨_, rfl⟩ (fun c13 => ?_) (fun c13 => ?_)
          · skip
            exact absurd c13 (by omega)
          · skip
            refine wa_aload_n (n := 0) rfl ?_
            refine wb_gf4 237 rfl (wy_pr rfl) wt_237 wf_15_1 (v := 238) wl_237_1 ?_
            refine wa_bipush (w_rg2 (by omega) (by omega)) ?_
            refine wa_iconst ?_
            refine wa_cv 238 rfl (wy_pr rfl) wt_238 (M2 := fun _ => False) rfl at_MH_of ⟨_, rfl⟩ rfl rfl ⟨(Or.inr ⟨wy_pr rfl, fun q => q⟩), trivial, trivial⟩ trivial (fun _ _ q => False.elim q) ?_ (fun _ _ _ q => q)
            refine wa_aload_n (n := 0) rfl ?_
            refine wa_iload_n (n := 1) rfl ?_
            refine wb_pfi 238 rfl (wy_pr rfl) wt_238 wf_11_5 (n := 5) rfl ⟨(by omega), (by omega)⟩ ?_
            refine wa_aload_n (n := 0) rfl ?_
            refine wa_iload_n (n := 2) rfl ?_
            refine wb_pfi 238 rfl (wy_pr rfl) wt_238 wf_11_6 (n := 6) rfl ⟨(by omega), (by omega)⟩ ?_
            refine wa_aload_n (n := 0) rfl ?_
            refine wa_oreturn rfl ?_
            show wJ _ _ _ _ _ _ _ _ _ _
            refine wa_th (j := 238) ?_
            refine ⟨rfl, ?_⟩
            exact Or.inr (Or.inl ⟨by omega, by omega, rfl, rfl⟩)
        · skip
          refine wa_iconst ?_
          refine wa_goto ⟨_, rfl⟩ ?_
          refine wa_zreturn rfl (Or.inr rfl) ?_
          show wJ _ _ _ _ _ _ _ _ _ _
          refine wa_cv 237 rfl (wy_pr rfl) wt_237 (M2 := fun _ => False) rfl at_M_room ⟨_, rfl⟩ rfl rfl ⟨trivial, (Or.inr ⟨wy_pr rfl, fun q => q⟩), trivial, trivial, trivial, trivial, trivial⟩ trivial (fun _ _ q => False.elim q) ?_ (fun _ _ _ q => q)
          refine wa_iload_n (n := 1) rfl ?_
          refine wa_ifne (w_rg0 (by omega) (by omega)) ⟨_, rfl⟩ (fun c14 => ?_) (fun c14 => ?_)
          · skip
            refine wa_return rfl ?_
            show wJ _ _ _ _ _ _ _ _ _ _
            refine wa_aload_n (n := 0) rfl ?_
            refine wb_gf4 237 rfl (wy_pr rfl) wt_237 wf_15_141 (v := 366) wl_237_141 ?_
            refine wa_aload_n (n := 0) rfl ?_
            refine wb_gfi 237 rfl (wy_pr rfl) wt_237 wf_15_154 (v := tp) (mtp) (fun r15 => ?_)
            refine wa_aload_n (n := 0) rfl ?_
            refine wb_gfi 237 rfl (wy_pr rfl) wt_237 wf_15_155 (v := (p + 1)) (mpa) (fun r16 => ?_)
            refine wb_iast 366 rfl (wy_pr rfl) wt_366 (n := 400) ((ml_366 hM)) (by omega) (by omega) ⟨(by omega), (by omega)⟩ ?_
            refine wa_aload_n (n := 0) rfl ?_
            refine wa_iload (n := 6) rfl ?_
            refine wa_aload_n (n := 0) rfl ?_
            refine wb_gf4 237 rfl (wy_pr rfl) wt_237 wf_15_76 (v := 320) wl_237_76 ?_
            refine wa_iload_n (n := 1) rfl ?_
            refine wb_iald 320 rfl (wy_pr rfl) wt_320 (n := 8000) ((w_up_slot (by decide)).trans ((ml_320 hM))) (by omega) (by omega) (v := ar) ((w_up_slot (by decide)).trans (har)) (fun r17 => ?_)
            refine wa_aload_n (n := 0) rfl ?_
            refine wb_gfi 237 rfl (wy_pr rfl) wt_237 wf_15_173 (v := (2100 * t + pl)) ((w_up_slot (by decide)).trans (hr)) (fun r18 => ?_)
            refine wa_iconst ?_
            refine wa_iadd ?_
            refine wa_iload (n := 5) rfl ?_
            have nc19m : w_ML (w_up S 366 tp (p + 1)) := w_ML_up hM (by omega)
            refine wa_cv 237 rfl (wy_pr rfl) wt_237 (M2 := fun _ => False) rfl at_M_newCall ⟨_, rfl⟩ rfl rfl ⟨trivial, (Or.inr ⟨wy_pr rfl, fun q => q⟩), trivial, trivial, trivial, trivial, trivial⟩ trivial (fun _ _ q => False.elim q) (nc_c (S := (w_up S 366 tp (p + 1))) (f := f) (ar := ar) (fr := ((2100 * t + pl) + 1)) (en := en) (n := n) (u := u) (u0 := u0) (v0 := v0) (vs := vs) (pn := pn) nc19m ((w_up_slot (by decide)).trans (hn)) ⟨by omega, by omega⟩ ((w_up_slot (by decide)).trans (hu0)) ⟨by omega, by omega⟩ ((w_up_slot (by decide)).trans (hu)) ((w_up_slot (by decide)).trans (hv)) hf1 ((w_up_slot (by decide)).trans (hvs)) ((w_up_slot (by decide)).trans (hpn)) ⟨by omega, by omega⟩ ⟨by omega, by omega⟩ ⟨by omega, by omega⟩ ⟨by omega, by omega⟩ ⟨by omega, by omega⟩ ⟨by omega, by omega⟩) (fun oq19 Sq19 hp20 q19 => ?_)
            rcases q19 with ⟨rfl, nc19⟩
            show wJ _ _ _ _ _ _ _ _ _ _
            refine wa_istore (n := 7) rfl ?_
            refine wa_aload_n (n := 0) rfl ?_
            refine wb_gf4 237 rfl (wy_pr rfl) wt_237 wf_15_134 (v := 359) wl_237_134 ?_
            refine wa_aload_n (n := 0) rfl ?_
            refine wb_gfi 237 rfl (wy_pr rfl) wt_237 wf_15_151 (v := t) (((nc19.2.2 237 151 (by omega) (by omega)).trans ((w_up_slot (by decide)).trans ((w_up_slot (by decide)).trans ((w_up_at (by decide)).trans ((w_up_at (by decide)).trans ((w_up_slot (by decide)).trans (mt)))))))) (fun r21 => ?_)
            refine wa_aload_n (n := 0) rfl ?_
            refine wb_gfi 237 rfl (wy_pr rfl) wt_237 wf_15_173 (v := (2100 * t + pl)) (((nc19.2.2 237 173 (by omega) (by omega)).trans ((w_up_slot (by decide)).trans ((w_up_slot (by decide)).trans ((w_up_at (by decide)).trans ((w_up_at (by decide)).trans ((w_up_slot (by decide)).trans (hr)))))))) (fun r22 => ?_)
            refine wa_aload_n (n := 0) rfl ?_
            refine wb_gfi 237 rfl (wy_pr rfl) wt_237 wf_15_152 (v := (2100 * t)) (((nc19.2.2 237 152 (by omega) (by omega)).trans ((w_up_slot (by decide)).trans ((w_up_slot (by decide)).trans ((w_up_at (by decide)).trans ((w_up_at (by decide)).trans ((w_up_slot (by decide)).trans (mp)))))))) (fun r23 => ?_)
            refine wa_isub ?_
            refine wb_iast 359 rfl (wy_pr rfl) wt_359 (n := 2) (((nc19.2.2 359 (-1) (by omega) (by omega)).trans ((w_up_slot (by decide)).trans ((w_up_slot (by decide)).trans ((w_up_slot (by decide)).trans ((w_up_slot (by decide)).trans ((w_up_slot (by decide)).trans ((ml_359 hM))))))))) (by omega) (by omega) ⟨(by omega), (by omega)⟩ ?_
            refine wa_aload_n (n := 0) rfl ?_
            refine wa_iload (n := 6) rfl ?_
            refine wa_iload (n := 7) rfl ?_
            refine wa_iload_n (n := 2) rfl ?_
            refine wa_lload_n (n := 3) rfl ?_
            refine wa_iconst ?_
            refine wa_cv 237 rfl (wy_pr rfl) wt_237 (M2 := fun _ => False) rfl at_M_enters ⟨_, rfl⟩ rfl rfl ⟨trivial, trivial, (Or.inr ⟨wy_pr rfl, fun q => q⟩), trivial, trivial, trivial, trivial, trivial⟩ trivial (fun _ _ q => False.elim q) ?_ (fun _ _ _ q => q)
            refine wa_aload_n (n := 0) rfl ?_
            refine wa_aload_n (n := 0) rfl ?_
            refine wb_gfi 237 rfl (wy_pr rfl) wt_237 wf_15_153 (v := (200 * t)) ((w_up_slot (by decide)).trans (((nc19.2.2 237 153 (by omega) (by omega)).trans ((w_up_slot (by decide)).trans ((w_up_slot (by decide)).trans ((w_up_at (by decide)).trans ((w_up_at (by decide)).trans ((w_up_slot (by decide)).trans (mf))))))))) (fun r24 => ?_)
            refine wa_aload_n (n := 0) rfl ?_
            refine wb_gf4 237 rfl (wy_pr rfl) wt_237 wf_15_133 (v := 358) wl_237_133 ?_
            refine wa_aload_n (n := 0) rfl ?_
            refine wb_gfi 237 rfl (wy_pr rfl) wt_237 wf_15_151 (v := t) ((w_up_slot (by decide)).trans (((nc19.2.2 237 151 (by omega) (by omega)).trans ((w_up_slot (by decide)).trans ((w_up_slot (by decide)).trans ((w_up_at (by decide)).trans ((w_up_at (by decide)).trans ((w_up_slot (by decide)).trans (mt))))))))) (fun r25 => ?_)
            refine wb_iald 358 rfl (wy_pr rfl) wt_358 (n := 2) ((w_up_slot (by decide)).trans (((nc19.2.2 358 (-1) (by omega) (by omega)).trans ((w_up_slot (by decide)).trans ((w_up_slot (by decide)).trans ((w_up_slot (by decide)).trans ((w_up_slot (by decide)).trans ((w_up_slot (by decide)).trans ((ml_358 hM)))))))))) (by omega) (by omega) (v := c) ((w_up_slot (by decide)).trans (((nc19.2.2 358 t (by omega) (by omega)).trans ((w_up_slot (by decide)).trans ((w_up_slot (by decide)).trans ((w_up_slot (by decide)).trans ((w_up_slot (by decide)).trans ((w_up_slot (by decide)).trans (mc))))))))) (fun r26 => ?_)
            refine wa_iadd ?_
            refine wb_pfi 237 rfl (wy_pr rfl) wt_237 wf_15_154 (n := 154) rfl ⟨(by omega), (by omega)⟩ ?_
            refine wa_aload_n (n := 0) rfl ?_
            refine wb_gf4 237 rfl (wy_pr rfl) wt_237 wf_15_133 (v := 358) wl_237_133 ?_
            refine wa_aload_n (n := 0) rfl ?_
            refine wb_gfi 237 rfl (wy_pr rfl) wt_237 wf_15_151 (v := t) ((w_up_at (by decide)).trans ((w_up_slot (by decide)).trans (((nc19.2.2 237 151 (by omega) (by omega)).trans ((w_up_slot (by decide)).trans ((w_up_slot (by decide)).trans ((w_up_at (by decide)).trans ((w_up_at (by decide)).trans ((w_up_slot (by decide)).trans (mt)))))))))) (fun r27 => ?_)
            refine wa_dup2 (by decide) (by decide) ?_
            refine wb_iald 358 rfl (wy_pr rfl) wt_358 (n := 2) ((w_up_slot (by decide)).trans ((w_up_slot (by decide)).trans (((nc19.2.2 358 (-1) (by omega) (by omega)).trans ((w_up_slot (by decide)).trans ((w_up_slot (by decide)).trans ((w_up_slot (by decide)).trans ((w_up_slot (by decide)).trans ((w_up_slot (by decide)).trans ((ml_358 hM))))))))))) (by omega) (by omega) (v := c) ((w_up_slot (by decide)).trans ((w_up_slot (by decide)).trans (((nc19.2.2 358 t (by omega) (by omega)).trans ((w_up_slot (by decide)).trans ((w_up_slot (by decide)).trans ((w_up_slot (by decide)).trans ((w_up_slot (by decide)).trans ((w_up_slot (by decide)).trans (mc)))))))))) (fun r28 => ?_)
            refine wa_iconst ?_
            refine wa_iadd ?_
            refine wb_iast 358 rfl (wy_pr rfl) wt_358 (n := 2) ((w_up_slot (by decide)).trans ((w_up_slot (by decide)).trans (((nc19.2.2 358 (-1) (by omega) (by omega)).trans ((w_up_slot (by decide)).trans ((w_up_slot (by decide)).trans ((w_up_slot (by decide)).trans ((w_up_slot (by decide)).trans ((w_up_slot (by decide)).trans ((ml_358 hM))))))))))) (by omega) (by omega) ⟨(by omega), (by omega)⟩ ?_
            refine wa_aload_n (n := 0) rfl ?_
            refine wb_gf4 237 rfl (wy_pr rfl) wt_237 wf_15_140 (v := 365) wl_237_140 ?_
            refine wa_aload_n (n := 0) rfl ?_
            refine wb_gfi 237 rfl (wy_pr rfl) wt_237 wf_15_154 (v := ((200 * t) + c)) ((w_up_slot (by decide)).trans (w_up_same _ _ _ _)) (fun r29 => ?_)
            refine wa_iload_n (n := 1) rfl ?_
            refine wb_iast 365 rfl (wy_pr rfl) wt_365 (n := 400) ((w_up_slot (by decide)).trans ((w_up_slot (by decide)).trans ((w_up_slot (by decide)).trans (((nc19.2.2 365 (-1) (by omega) (by omega)).trans ((w_up_slot (by decide)).trans ((w_up_slot (by decide)).trans ((w_up_slot (by decide)).trans ((w_up_slot (by decide)).trans ((w_up_slot (by decide)).trans ((ml_365 hM)))))))))))) (by omega) (by omega) ⟨(by omega), (by omega)⟩ ?_
            refine wa_aload_n (n := 0) rfl ?_
            refine wb_gf4 237 rfl (wy_pr rfl) wt_237 wf_15_141 (v := 366) wl_237_141 ?_
            refine wa_aload_n (n := 0) rfl ?_
            refine wb_gfi 237 rfl (wy_pr rfl) wt_237 wf_15_154 (v := ((200 * t) + c)) ((w_up_slot (by decide)).trans ((w_up_slot (by decide)).trans (w_up_same _ _ _ _))) (fun r30 => ?_)
            refine wa_iconst ?_
            refine wb_iast 366 rfl (wy_pr rfl) wt_366 (n := 400) ((w_up_slot (by decide)).trans ((w_up_slot (by decide)).trans ((w_up_slot (by decide)).trans ((w_up_slot (by decide)).trans (((nc19.2.2 366 (-1) (by omega) (by omega)).trans ((w_up_slot (by decide)).trans ((w_up_slot (by decide)).trans ((w_up_slot (by decide)).trans ((w_up_slot (by decide)).trans ((w_up_at (by omega)).trans ((ml_366 hM))))))))))))) (by omega) (by omega) ⟨(by omega), (by omega)⟩ ?_
            refine wa_aload_n (n := 0) rfl ?_
            refine wb_gf4 237 rfl (wy_pr rfl) wt_237 wf_15_142 (v := 367) wl_237_142 ?_
            refine wa_aload_n (n := 0) rfl ?_
            refine wb_gfi 237 rfl (wy_pr rfl) wt_237 wf_15_154 (v := ((200 * t) + c)) ((w_up_slot (by decide)).trans ((w_up_slot (by decide)).trans ((w_up_slot (by decide)).trans (w_up_same _ _ _ _)))) (fun r31 => ?_)
            refine wa_iload_n (n := 2) rfl ?_
            refine wb_iast 367 rfl (wy_pr rfl) wt_367 (n := 400) ((w_up_slot (by decide)).trans ((w_up_slot (by decide)).trans ((w_up_slot (by decide)).trans ((w_up_slot (by decide)).trans ((w_up_slot (by decide)).trans (((nc19.2.2 367 (-1) (by omega) (by omega)).trans ((w_up_slot (by decide)).trans ((w_up_slot (by decide)).trans ((w_up_slot (by decide)).trans ((w_up_slot (by decide)).trans ((w_up_slot (by decide)).trans ((ml_367 hM)))))))))))))) (by omega) (by omega) ⟨(by omega), (by omega)⟩ ?_
            refine wa_aload_n (n := 0) rfl ?_
            refine wb_gf4 237 rfl (wy_pr rfl) wt_237 wf_15_143 (v := 368) wl_237_143 ?_
            refine wa_aload_n (n := 0) rfl ?_
            refine wb_gfi 237 rfl (wy_pr rfl) wt_237 wf_15_154 (v := ((200 * t) + c)) ((w_up_slot (by decide)).trans ((w_up_slot (by decide)).trans ((w_up_slot (by decide)).trans ((w_up_slot (by decide)).trans (w_up_same _ _ _ _))))) (fun r32 => ?_)
            refine wa_iload_n (n := 3) rfl ?_
            refine wb_iast 368 rfl (wy_pr rfl) wt_368 (n := 400) ((w_up_slot (by decide)).trans ((w_up_slot (by decide)).trans ((w_up_slot (by decide)).trans ((w_up_slot (by decide)).trans ((w_up_slot (by decide)).trans ((w_up_slot (by decide)).trans (((nc19.2.2 368 (-1) (by omega) (by omega)).trans ((w_up_slot (by decide)).trans ((w_up_slot (by decide)).trans ((w_up_slot (by decide)).trans ((w_up_slot (by decide)).trans ((w_up_slot (by decide)).trans ((ml_368 hM))))))))))))))) (by omega) (by omega) ⟨(by omega), (by omega)⟩ ?_
            refine wa_aload_n (n := 0) rfl ?_
            refine wb_gf4 237 rfl (wy_pr rfl) wt_237 wf_15_144 (v := 369) wl_237_144 ?_
            refine wa_aload_n (n := 0) rfl ?_
            refine wb_gfi 237 rfl (wy_pr rfl) wt_237 wf_15_154 (v := ((200 * t) + c)) ((w_up_slot (by decide)).trans ((w_up_slot (by decide)).trans ((w_up_slot (by decide)).trans ((w_up_slot (by decide)).trans ((w_up_slot (by decide)).trans (w_up_same _ _ _ _)))))) (fun r33 => ?_)
            refine wa_lload (n := 4) rfl ?_
            refine wb_last 369 rfl (wy_pr rfl) wt_369 (n := 400) ((w_up_slot (by decide)).trans ((w_up_slot (by decide)).trans ((w_up_slot (by decide)).trans ((w_up_slot (by decide)).trans ((w_up_slot (by decide)).trans ((w_up_slot (by decide)).trans ((w_up_slot (by decide)).trans (((nc19.2.2 369 (-1) (by omega) (by omega)).trans ((w_up_slot (by decide)).trans ((w_up_slot (by decide)).trans ((w_up_slot (by decide)).trans ((w_up_slot (by decide)).trans ((w_up_slot (by decide)).trans ((ml_369 hM)))))))))))))))) (by omega) (by omega) ⟨(by omega), (by omega)⟩ ?_
            refine wa_aload_n (n := 0) rfl ?_
            refine wb_gf4 237 rfl (wy_pr rfl) wt_237 wf_15_145 (v := 370) wl_237_145 ?_
            refine wa_aload_n (n := 0) rfl ?_
            refine wb_gfi 237 rfl (wy_pr rfl) wt_237 wf_15_154 (v := ((200 * t) + c)) ((w_up_slot (by decide)).trans ((w_up_slot (by decide)).trans ((w_up_slot (by decide)).trans ((w_up_slot (by decide)).trans ((w_up_slot (by decide)).trans ((w_up_slot (by decide)).trans (w_up_same _ _ _ _))))))) (fun r34 => ?_)
            refine wa_iload (n := 6) rfl ?_
            refine wb_iast 370 rfl (wy_pr rfl) wt_370 (n := 400) ((w_up_slot (by decide)).trans ((w_up_slot (by decide)).trans ((w_up_slot (by decide)).trans ((w_up_slot (by decide)).trans ((w_up_slot (by decide)).trans ((w_up_slot (by decide)).trans ((w_up_slot (by decide)).trans ((w_up_slot (by decide)).trans (((nc19.2.2 370 (-1) (by omega) (by omega)).trans ((w_up_slot (by decide)).trans ((w_up_slot (by decide)).trans ((w_up_slot (by decide)).trans ((w_up_slot (by decide)).trans ((w_up_slot (by decide)).trans ((ml_370 hM))))))))))))))))) (by omega) (by omega) ⟨(by omega), (by omega)⟩ ?_
            refine wa_aload_n (n := 0) rfl ?_
            refine wb_gf4 237 rfl (wy_pr rfl) wt_237 wf_15_146 (v := 371) wl_237_146 ?_
            refine wa_aload_n (n := 0) rfl ?_
            refine wb_gfi 237 rfl (wy_pr rfl) wt_237 wf_15_154 (v := ((200 * t) + c)) ((w_up_slot (by decide)).trans ((w_up_slot (by decide)).trans ((w_up_slot (by decide)).trans ((w_up_slot (by decide)).trans ((w_up_slot (by decide)).trans ((w_up_slot (by decide)).trans ((w_up_slot (by decide)).trans (w_up_same _ _ _ _)))))))) (fun r35 => ?_)
            refine wa_aload_n (n := 0) rfl ?_
            refine wb_gf4 237 rfl (wy_pr rfl) wt_237 wf_15_134 (v := 359) wl_237_134 ?_
            refine wa_aload_n (n := 0) rfl ?_
            refine wb_gfi 237 rfl (wy_pr rfl) wt_237 wf_15_151 (v := t) ((w_up_slot (by decide)).trans ((w_up_slot (by decide)).trans ((w_up_slot (by decide)).trans ((w_up_slot (by decide)).trans ((w_up_slot (by decide)).trans ((w_up_slot (by decide)).trans ((w_up_slot (by decide)).trans ((w_up_at (by decide)).trans ((w_up_slot (by decide)).trans (((nc19.2.2 237 151 (by omega) (by omega)).trans ((w_up_slot (by decide)).trans ((w_up_slot (by decide)).trans ((w_up_at (by decide)).trans ((w_up_at (by decide)).trans ((w_up_slot (by decide)).trans (mt))))))))))))))))) (fun r36 => ?_)
            refine wb_iald 359 rfl (wy_pr rfl) wt_359 (n := 2) ((w_up_slot (by decide)).trans ((w_up_slot (by decide)).trans ((w_up_slot (by decide)).trans ((w_up_slot (by decide)).trans ((w_up_slot (by decide)).trans ((w_up_slot (by decide)).trans ((w_up_slot (by decide)).trans ((w_up_slot (by decide)).trans ((w_up_at (by omega)).trans (((nc19.2.2 359 (-1) (by omega) (by omega)).trans ((w_up_slot (by decide)).trans ((w_up_slot (by decide)).trans ((w_up_slot (by decide)).trans ((w_up_slot (by decide)).trans ((w_up_slot (by decide)).trans ((ml_359 hM)))))))))))))))))) (by omega) (by omega) (v := ((2100 * t + pl) - (2100 * t))) ((w_up_slot (by decide)).trans ((w_up_slot (by decide)).trans ((w_up_slot (by decide)).trans ((w_up_slot (by decide)).trans ((w_up_slot (by decide)).trans ((w_up_slot (by decide)).trans ((w_up_slot (by decide)).trans ((w_up_slot (by decide)).trans (w_up_same _ _ _ _))))))))) (fun r37 => ?_)
            refine wb_iast 371 rfl (wy_pr rfl) wt_371 (n := 400) ((w_up_slot (by decide)).trans ((w_up_slot (by decide)).trans ((w_up_slot (by decide)).trans ((w_up_slot (by decide)).trans ((w_up_slot (by decide)).trans ((w_up_slot (by decide)).trans ((w_up_slot (by decide)).trans ((w_up_slot (by decide)).trans ((w_up_slot (by decide)).trans (((nc19.2.2 371 (-1) (by omega) (by omega)).trans ((w_up_slot (by decide)).trans ((w_up_slot (by decide)).trans ((w_up_slot (by decide)).trans ((w_up_slot (by decide)).trans ((w_up_slot (by decide)).trans ((ml_371 hM)))))))))))))))))) (by omega) (by omega) ⟨(by omega), (by omega)⟩ ?_
            refine wa_aload_n (n := 0) rfl ?_
            refine wb_gf4 237 rfl (wy_pr rfl) wt_237 wf_15_147 (v := 372) wl_237_147 ?_
            refine wa_aload_n (n := 0) rfl ?_
            refine wb_gfi 237 rfl (wy_pr rfl) wt_237 wf_15_154 (v := ((200 * t) + c)) ((w_up_slot (by decide)).trans ((w_up_slot (by decide)).trans ((w_up_slot (by decide)).trans ((w_up_slot (by decide)).trans ((w_up_slot (by decide)).trans ((w_up_slot (by decide)).trans ((w_up_slot (by decide)).trans ((w_up_slot (by decide)).trans (w_up_same _ _ _ _))))))))) (fun r38 => ?_)
            refine wa_aload_n (n := 0) rfl ?_
            refine wb_gf4 237 rfl (wy_pr rfl) wt_237 wf_15_135 (v := 360) wl_237_135 ?_
            refine wa_aload_n (n := 0) rfl ?_
            refine wb_gfi 237 rfl (wy_pr rfl) wt_237 wf_15_151 (v := t) ((w_up_slot (by decide)).trans ((w_up_slot (by decide)).trans ((w_up_slot (by decide)).trans ((w_up_slot (by decide)).trans ((w_up_slot (by decide)).trans ((w_up_slot (by decide)).trans ((w_up_slot (by decide)).trans ((w_up_slot (by decide)).trans ((w_up_at (by decide)).trans ((w_up_slot (by decide)).trans (((nc19.2.2 237 151 (by omega) (by omega)).trans ((w_up_slot (by decide)).trans ((w_up_slot (by decide)).trans ((w_up_at (by decide)).trans ((w_up_at (by decide)).trans ((w_up_slot (by decide)).trans (mt)))))))))))))))))) (fun r39 => ?_)
            refine wb_iald 360 rfl (wy_pr rfl) wt_360 (n := 2) ((w_up_slot (by decide)).trans ((w_up_slot (by decide)).trans ((w_up_slot (by decide)).trans ((w_up_slot (by decide)).trans ((w_up_slot (by decide)).trans ((w_up_slot (by decide)).trans ((w_up_slot (by decide)).trans ((w_up_slot (by decide)).trans ((w_up_slot (by decide)).trans ((w_up_slot (by decide)).trans (((nc19.2.2 360 (-1) (by omega) (by omega)).trans ((w_up_slot (by decide)).trans ((w_up_slot (by decide)).trans ((w_up_slot (by decide)).trans ((w_up_slot (by decide)).trans ((w_up_slot (by decide)).trans ((ml_360 hM))))))))))))))))))) (by omega) (by omega) (v := z) ((w_up_slot (by decide)).trans ((w_up_slot (by decide)).trans ((w_up_slot (by decide)).trans ((w_up_slot (by decide)).trans ((w_up_slot (by decide)).trans ((w_up_slot (by decide)).trans ((w_up_slot (by decide)).trans ((w_up_slot (by decide)).trans ((w_up_slot (by decide)).trans ((w_up_slot (by decide)).trans (((nc19.2.2 360 t (by omega) (by omega)).trans ((w_up_slot (by decide)).trans ((w_up_slot (by decide)).trans ((w_up_slot (by decide)).trans ((w_up_slot (by decide)).trans ((w_up_slot (by decide)).trans (hz)))))))))))))))))) (fun r40 => ?_)
            refine wb_iast 372 rfl (wy_pr rfl) wt_372 (n := 400) ((w_up_slot (by decide)).trans ((w_up_slot (by decide)).trans ((w_up_slot (by decide)).trans ((w_up_slot (by decide)).trans ((w_up_slot (by decide)).trans ((w_up_slot (by decide)).trans ((w_up_slot (by decide)).trans ((w_up_slot (by decide)).trans ((w_up_slot (by decide)).trans ((w_up_slot (by decide)).trans (((nc19.2.2 372 (-1) (by omega) (by omega)).trans ((w_up_slot (by decide)).trans ((w_up_slot (by decide)).trans ((w_up_slot (by decide)).trans ((w_up_slot (by decide)).trans ((w_up_slot (by decide)).trans ((ml_372 hM))))))))))))))))))) (by omega) (by omega) ⟨(by omega), (by omega)⟩ ?_
            refine wa_return rfl ?_
            show wJ _ _ _ _ _ _ _ _ _ _
            refine wa_return rfl ?_
            refine Or.inr (Or.inr ⟨by omega, by omega, rfl, _, nc19, ?_⟩)
            have epl : 2100 * t + pl - 2100 * t = pl := by omega
            rw [epl]
          · skip
            exact absurd c14 (by omega)
  · skip
    refine wa_aload_n (n := 0) rfl ?_
    refine wa_bipush (w_rg2 (by omega) (by omega)) ?_
    refine wa_cv 237 rfl (wy_pr rfl) wt_237 (M2 := fun _ => False) rfl at_M_error ⟨_, rfl⟩ rfl rfl ⟨(Or.inr ⟨wy_pr rfl, fun q => q⟩), trivial, trivial, trivial, trivial, trivial⟩ trivial (fun _ _ q => False.elim q) ?_ (fun _ _ _ q => q)
    refine wa_aload_n (n := 0) rfl ?_
    refine wb_gf4 237 rfl (wy_pr rfl) wt_237 wf_15_1 (v := 238) wl_237_1 ?_
    refine wa_iload_n (n := 1) rfl ?_
    refine wa_iconst ?_
    refine wa_cv 238 rfl (wy_pr rfl) wt_238 (M2 := fun _ => False) rfl at_MH_of ⟨_, rfl⟩ rfl rfl ⟨(Or.inr ⟨wy_pr rfl, fun q => q⟩), trivial, trivial⟩ trivial (fun _ _ q => False.elim q) ?_ (fun _ _ _ q => q)
    refine wa_aload_n (n := 0) rfl ?_
    refine wa_iload_n (n := 1) rfl ?_
    refine wb_pfi 238 rfl (wy_pr rfl) wt_238 wf_11_5 (n := 5) rfl ⟨(by omega), (by omega)⟩ ?_
    refine wa_aload_n (n := 0) rfl ?_
    refine wa_iload_n (n := 2) rfl ?_
    refine wb_pfi 238 rfl (wy_pr rfl) wt_238 wf_11_6 (n := 6) rfl ⟨(by omega), (by omega)⟩ ?_
    refine wa_aload_n (n := 0) rfl ?_
    refine wa_oreturn rfl ?_
    show wJ _ _ _ _ _ _ _ _ _ _
    refine wa_th (j := 238) ?_
    refine ⟨rfl, ?_⟩
    exact Or.inl ⟨by omega, rfl, rfl⟩
end We7
