/-! PART ff: has of the reference; has of both, by tasks. -/
section Wff
variable {xs : List (Nat × List Int32)} {M : Nat → Prop} {d : Nat} {S Z A B : wS} {H : List aH} {T : List aO} {N : List (List Int)} {x : List Int} {sl : Nat → List Int} {Pr ix : Int → Int}
theorem hUp_h {f : Nat} {u : Int} (h1 : u ≠ -1) (h2 : ix u ≠ -1) : hUp Pr ix (f + 1) u = u := (if_neg h1).trans (if_pos h2)
theorem hUp_g {f : Nat} {u : Int} (h1 : u ≠ -1) (h2 : ix u = -1) : hUp Pr ix (f + 1) u = hUp Pr ix f (Pr u) := (if_neg h1).trans (if_neg (fun z => z h2))
theorem hUp_n : ∀ f : Nat, hUp Pr ix f (-1) = -1
  | 0 => rfl
  | _ + 1 => if_pos rfl
/-- things have at most so many properties -/
theorem wSh_64 {k : Int} (hw : wSh T H) (hk : isO T k) : (tO T k).2.2.2.2.2.2.length ≤ 60000 := by have := (hw.2.2.2.1 k hk).2; omega
theorem rh_l {o1 tx n : Int} (hM : w_ML S) (ht : rTh S sl T) (hH : rHs S H) (hw : wSh T H) (hT : (T.length : Int) ≤ 8000) (h82 : S 237 82 ≤ 60000) (hn : 0 ≤ n ∧ n ≤ 4000) : ∀ (f : Nat) (u : Int), cEn (aPr T H) f u → (u = -1 ∨ isO T u) → wJ (pe_GA xs) wY0 M (d + 1) t_M_has ((pe_at t_M_has.bl 1).getD (0, [])).2 [(0, (2, 237)), (1, (0, o1)), (2, (0, tx)), (3, (0, n)), (4, (0, u))] [] S (fun o Z => S = Z ∧ o = .inl (some (0, if hUp (aPr T H) (aIx T n) f u = -1 then 0 else 1))) := by
  intro f
  induction f with
  | zero =>
    intro u hc hu
    have hc2 : u = -1 := hc
    have e : hUp (aPr T H) (aIx T n) 0 u = -1 := rfl
    rw [if_pos e]
    refine wa_iload (n := 4) rfl ?_
    refine wa_iflt (w_rg0 (by omega) (by omega)) ⟨_, rfl⟩ (fun c1 => ?_) (fun c1 => ?_)
    · skip
      refine wa_iconst ?_
      refine wa_zreturn rfl (Or.inl rfl) ?_
      exact ⟨rfl, rfl⟩
    · skip
      exact absurd c1 (by omega)
  | succ f ih =>
    intro u hc hu
    by_cases cu : u = -1
    · rw [cu, if_pos (hUp_n _)]
      refine wa_iload (n := 4) rfl ?_
      refine wa_iflt (w_rg0 (by omega) (by omega)) ⟨_, rfl⟩ (fun c51 => ?_) (fun c51 => ?_)
      · skip
        refine wa_iconst ?_
        refine wa_zreturn rfl (Or.inl rfl) ?_
        exact ⟨rfl, rfl⟩
      · skip
        exact absurd c51 (by omega)
    have hu1 : isO T u := hu.elim (fun z => absurd z cu) id
    have hs1 := wSh_sh hw hu1
    have e5 := (r_th ht hu1.1.1 hu1.1.2).2.1
    have e9 : S 329 (tO T u).2.1 = aPr T H u := (rHs_e hH hs1.1 hs1.2).1
    have hs2 := hu1.1
    have hpr := wSh_pr hw hu1
    have hpg : -1 ≤ aPr T H u ∧ aPr T H u < (T.length : Int) := by rcases hpr with z | z; omega; have := z.1; omega
    have hir := aIx_rg (T := T) (nm := n) (k := u)
    have hH4 := hw.1.2.1
    refine wa_iload (n := 4) rfl ?_
    refine wa_iflt (w_rg0 (by omega) (by omega)) ⟨_, rfl⟩ (fun c101 => ?_) (fun c101 => ?_)
    · skip
      refine wa_iconst ?_
      refine wa_zreturn rfl (Or.inl rfl) ?_
      exfalso; omega
    · skip
      refine wa_iload_n (n := 3) rfl ?_
      refine wa_iflt (w_rg0 (by omega) (by omega)) ⟨_, rfl⟩ (fun c102 => ?_) (fun c102 => ?_)
      · skip
        exact absurd c102 (by omega)
      · skip
        refine wa_aload_n (n := 0) rfl ?_
        refine wa_iload (n := 4) rfl ?_
        refine wa_iload_n (n := 3) rfl ?_
        refine wa_cv 237 rfl (wy_pr rfl) wt_237 (M2 := fun _ => False) rfl at_M_own ⟨_, rfl⟩ rfl rfl ⟨(Or.inr ⟨wy_pr rfl, fun q => q⟩), trivial, trivial, trivial, trivial, trivial⟩ trivial (fun _ _ q => False.elim q) (r_ow hM ht ⟨hu1.1.1, hu1.1.2⟩ hT h82 (wSh_64 hw hu1) ⟨by omega, by omega⟩) (fun oq103 Sq103 hp104 q103 => ?_)
        rcases q103 with ⟨rfl, rfl⟩
        show wJ _ _ _ _ _ _ _ _ _ _
        have hl64 := (hw.2.2.2.1 u hu1).2
        refine wa_iflt (w_rg0 (by omega) (by omega)) ⟨_, rfl⟩ (fun c105 => ?_) (fun c105 => ?_)
        · skip
          refine wa_aload_n (n := 0) rfl ?_
          refine wa_iload (n := 4) rfl ?_
          refine wa_cv 237 rfl (wy_pr rfl) wt_237 (M2 := fun _ => False) rfl at_M_protoOf ⟨_, rfl⟩ rfl rfl ⟨(Or.inr ⟨wy_pr rfl, fun q => q⟩), trivial, trivial, trivial, trivial, trivial⟩ trivial (fun _ _ q => False.elim q) ?_ (fun _ _ _ q => q)
          refine wa_aload_n (n := 0) rfl ?_
          refine wb_gf4 237 rfl (wy_pr rfl) wt_237 wf_15_88 (v := 329) wl_237_88 ?_
          refine wa_aload_n (n := 0) rfl ?_
          refine wb_gf4 237 rfl (wy_pr rfl) wt_237 wf_15_71 (v := 315) wl_237_71 ?_
          refine wa_iload_n (n := 1) rfl ?_
          refine wb_iald 315 rfl (wy_pr rfl) wt_315 (n := 8000) ((ml_315 hM)) (by omega) (by omega) (v := (tO T u).2.1) (e5) (fun r106 => ?_)
          refine wb_iald 329 rfl (wy_pr rfl) wt_329 (n := 4001) ((ml_329 hM)) (by omega) (by omega) (v := (aPr T H u)) (e9) (fun r107 => ?_)
          refine wa_ireturn rfl ?_
          show wJ _ _ _ _ _ _ _ _ _ _
          refine wa_istore (n := 4) rfl ?_
          refine wa_goto ⟨_, rfl⟩ ?_
          rw [hUp_g (Pr := aPr T H) (ix := aIx T n) cu (by omega)]
          exact wJ_S (ih (aPr T H u) (hc.elim (fun z => absurd z cu) id) hpr) ⟨rfl, rfl, rfl, rfl, rfl, trivial⟩
        · skip
          refine wa_iconst ?_
          refine wa_zreturn rfl (Or.inr rfl) ?_
          rw [hUp_h (Pr := aPr T H) (ix := aIx T n) cu (by omega), if_neg cu]
          exact ⟨rfl, rfl⟩
theorem r_hs {o1 tx : Int} (hM : w_ML S) (ht : rTh S sl T) (hH : rHs S H) (hw : wSh T H) (hT : (T.length : Int) ≤ 8000) (h82 : S 237 82 ≤ 60000) (hy0 : 0 ≤ tx ∧ tx < 16000) (hl : S 285 tx = (x.length : Int)) (hf0 : 0 ≤ S 284 tx ∧ S 284 tx + (x.length : Int) ≤ 269632) (he : ∀ i : Nat, i < x.length → S 283 (S 284 tx + (i : Int)) = x.getD i 0) (hN : mN N S) (ho : isO T o1) : wJ (pe_GA xs) wY0 M (d + 2) t_M_has ((pe_at t_M_has.bl 0).getD (0, [])).2 [(0, (2, 237)), (1, (0, o1)), (2, (0, tx))] [] S (fun o Z => S = Z ∧ o = .inl (some (0, if ixL N x = -1 ∨ aUp T H (ixL N x) o1 = -1 then 0 else 1))) := by
  have hx := sl_x he
  have ho0 := ho.1
  obtain ⟨nx, hnx⟩ : ∃ nx : Int, nx = ixL N x := ⟨_, rfl⟩
  have hnr : -1 ≤ nx ∧ nx ≤ 4000 := by have := @ixL_rr N x; have := hN.2.1; omega
  rw [← hnx]
  refine wa_aload_n (n := 0) rfl ?_
  refine wa_aload_n (n := 0) rfl ?_
  refine wb_gf4 237 rfl (wy_pr rfl) wt_237 wf_15_21 (v := 283) wl_237_21 ?_
  refine wa_aload_n (n := 0) rfl ?_
  refine wb_gf4 237 rfl (wy_pr rfl) wt_237 wf_15_22 (v := 284) wl_237_22 ?_
  refine wa_iload_n (n := 2) rfl ?_
  refine wb_iald 284 rfl (wy_pr rfl) wt_284 (n := 16000) ((ml_284 hM)) (by omega) (by omega) (v := (S 284 tx)) rfl (fun r1 => ?_)
  refine wa_aload_n (n := 0) rfl ?_
  refine wb_gf4 237 rfl (wy_pr rfl) wt_237 wf_15_23 (v := 285) wl_237_23 ?_
  refine wa_iload_n (n := 2) rfl ?_
  refine wb_iald 285 rfl (wy_pr rfl) wt_285 (n := 16000) ((ml_285 hM)) (by omega) (by omega) (v := (x.length : Int)) (hl) (fun r2 => ?_)
  refine wa_cv 237 rfl (wy_pr rfl) wt_237 (M2 := fun _ => False) rfl at_M_findName ⟨_, rfl⟩ rfl rfl ⟨(Or.inr ⟨wy_pr rfl, fun q => q⟩), trivial, trivial, trivial⟩ trivial (fun _ _ q => False.elim q) (wJ_mono (fn3m (p := S 284 tx) (m := (x.length : Int)) hM hN ⟨by omega, by omega⟩ ⟨by omega, by omega, by omega⟩) (fun o Z hz => (⟨hz.1, by rw [hnx, ← hx]; exact hz.2⟩ : S = Z ∧ o = .inl (some (0, nx))))) (fun oq3 Sq3 hp4 q3 => ?_)
  rcases q3 with ⟨rfl, rfl⟩
  show wJ _ _ _ _ _ _ _ _ _ _
  refine wa_istore_n (n := 3) rfl ?_
  refine wa_iload_n (n := 1) rfl ?_
  refine wa_istore (n := 4) rfl ?_
  refine wa_fall ⟨_, rfl⟩ ?_
  by_cases hn0 : nx = -1
  · rw [if_pos (Or.inl hn0)]
    refine wa_iload (n := 4) rfl ?_
    refine wa_iflt (w_rg0 (by omega) (by omega)) ⟨_, rfl⟩ (fun c5 => ?_) (fun c5 => ?_)
    · skip
      exact absurd c5 (by omega)
    · skip
      refine wa_iload_n (n := 3) rfl ?_
      refine wa_iflt (w_rg0 (by omega) (by omega)) ⟨_, rfl⟩ (fun c6 => ?_) (fun c6 => ?_)
      · skip
        refine wa_iconst ?_
        refine wa_zreturn rfl (Or.inl rfl) ?_
        exact ⟨rfl, rfl⟩
      · skip
        exact absurd c6 (by omega)
  · have e : (if nx = -1 ∨ aUp T H nx o1 = -1 then (0 : Int) else 1) = (if aUp T H nx o1 = -1 then 0 else 1) := ite_cg ⟨fun z => z.resolve_left hn0, Or.inr⟩
    rw [e]
    exact wJ_S (rh_l hM ht hH hw hT h82 (n := nx) ⟨by omega, by omega⟩ (T.length + 1) o1 (cEn_m T.length _ o1 (Nat.le_succ _) (wSh_en hw (Or.inr ho))) (Or.inr ho)) ⟨rfl, rfl, rfl, rfl, rfl, trivial⟩
/-- two values go, one comes: put by the builtins -/
def pYZ (t h k v : Int) (S : wS) : wS := w_up (w_up (w_up S 359 t (h - 1)) 363 (2100 * t + h - 1 - 1) k) 364 (2100 * t + h - 1 - 1) v
theorem yb5 {t c p h tp kx q tx : Int} (hP : mP t c p h tp S) (hky : S 363 (2100 * t + h - 1) = 3) (hvy : S 364 (2100 * t + h - 1) = tx) (hkx : S 363 (2100 * t + h - 1 - 1) = kx) (hvx : S 364 (2100 * t + h - 1 - 1) = q) (hh1 : 2 ≤ h) (hk45 : kx = 4 ∨ kx = 5) (ht : rTh S sl T) (hH : rHs S H) (hw : wSh T H) (hT : (T.length : Int) ≤ 8000) (h82 : S 237 82 ≤ 60000) (hy0 : 0 ≤ tx ∧ tx < 16000) (hl : S 285 tx = (x.length : Int)) (hf0 : 0 ≤ S 284 tx ∧ S 284 tx + (x.length : Int) ≤ 269632) (he : ∀ i : Nat, i < x.length → S 283 (S 284 tx + (i : Int)) = x.getD i 0) (hN : mN N S) (hq : isO T q) : wJ (pe_GA xs) wY0 M (d + 11) t_M_others ((pe_at t_M_others.bl 0).getD (0, [])).2 [(0, (2, 237)), (1, (0, 28)), (2, (0, 5))] [] S (fun o Z => o = .inl none ∧ pYZ t h 1 (if ixL N x = -1 ∨ aUp T H (ixL N x) q = -1 then 0 else 1) S = Z) := by
  obtain ⟨hM, ⟨mt, mt0, mt1⟩, mp, mf, ⟨mc, mc0, mc1⟩, ⟨mtp, mtq⟩, ⟨mpa, mp0, mp1⟩, mh, mh0, mh1⟩ := id hP
  obtain ⟨hv, hhv⟩ : ∃ hv : Int, hv = (if ixL N x = -1 ∨ aUp T H (ixL N x) q = -1 then 0 else 1) := ⟨_, rfl⟩
  have hvr : hv = 0 ∨ hv = 1 := by rw [hhv]; split <;> omega
  rw [← hhv]
  have hq0 := hq.1
  refine wa_aload_n (n := 0) rfl ?_
  refine wa_cv 237 rfl (wy_pr rfl) wt_237 (M2 := fun _ => False) rfl at_M_h ⟨_, rfl⟩ rfl rfl ⟨(Or.inr ⟨wy_pr rfl, fun q => q⟩), trivial, trivial, trivial⟩ trivial (fun _ _ q => False.elim q) ?_ (fun _ _ _ q => q)
  refine wa_aload_n (n := 0) rfl ?_
  refine wb_gfi 237 rfl (wy_pr rfl) wt_237 wf_15_152 (v := (2100 * t)) (mp) (fun r1 => ?_)
  refine wa_aload_n (n := 0) rfl ?_
  refine wb_gf4 237 rfl (wy_pr rfl) wt_237 wf_15_134 (v := 359) wl_237_134 ?_
  refine wa_aload_n (n := 0) rfl ?_
  refine wb_gfi 237 rfl (wy_pr rfl) wt_237 wf_15_151 (v := t) (mt) (fun r2 => ?_)
  refine wb_iald 359 rfl (wy_pr rfl) wt_359 (n := 2) ((ml_359 hM)) (by omega) (by omega) (v := h) (mh) (fun r3 => ?_)
  refine wa_iadd ?_
  refine wa_ireturn rfl ?_
  show wJ _ _ _ _ _ _ _ _ _ _
  refine wa_iconst ?_
  refine wa_isub ?_
  refine wa_istore_n (n := 3) rfl ?_
  refine wa_iload_n (n := 1) rfl ?_
  refine wb_sw (w_rg0 (by omega) (by omega)) (tb := 12) rfl ⟨_, rfl⟩ ?_
  refine wa_aload_n (n := 0) rfl ?_
  refine wa_iload_n (n := 2) rfl ?_
  refine wa_cv 237 rfl (wy_pr rfl) wt_237 (M2 := fun _ => False) rfl at_M_builtins ⟨_, rfl⟩ rfl rfl ⟨trivial, (Or.inr ⟨wy_pr rfl, fun q => q⟩), trivial, trivial, trivial⟩ trivial (fun _ _ q => False.elim q) ?_ (fun _ _ _ q => q)
  refine wa_aload_n (n := 0) rfl ?_
  refine wa_cv 237 rfl (wy_pr rfl) wt_237 (M2 := fun _ => False) rfl at_M_h ⟨_, rfl⟩ rfl rfl ⟨(Or.inr ⟨wy_pr rfl, fun q => q⟩), trivial, trivial⟩ trivial (fun _ _ q => False.elim q) ?_ (fun _ _ _ q => q)
  refine wa_aload_n (n := 0) rfl ?_
  refine wb_gfi 237 rfl (wy_pr rfl) wt_237 wf_15_152 (v := (2100 * t)) (mp) (fun r4 => ?_)
  refine wa_aload_n (n := 0) rfl ?_
  refine wb_gf4 237 rfl (wy_pr rfl) wt_237 wf_15_134 (v := 359) wl_237_134 ?_
  refine wa_aload_n (n := 0) rfl ?_
  refine wb_gfi 237 rfl (wy_pr rfl) wt_237 wf_15_151 (v := t) (mt) (fun r5 => ?_)
  refine wb_iald 359 rfl (wy_pr rfl) wt_359 (n := 2) ((ml_359 hM)) (by omega) (by omega) (v := h) (mh) (fun r6 => ?_)
  refine wa_iadd ?_
  refine wa_ireturn rfl ?_
  show wJ _ _ _ _ _ _ _ _ _ _
  refine wa_iconst ?_
  refine wa_isub ?_
  refine wa_istore_n (n := 2) rfl ?_
  refine wa_iload_n (n := 2) rfl ?_
  refine wa_iconst ?_
  refine wa_isub ?_
  refine wa_istore_n (n := 3) rfl ?_
  refine wa_iload_n (n := 1) rfl ?_
  refine wb_sw (w_rg0 (by omega) (by omega)) (tb := 9) rfl ⟨_, rfl⟩ ?_
  refine wa_aload_n (n := 0) rfl ?_
  refine wa_aload_n (n := 0) rfl ?_
  refine wb_gf4 237 rfl (wy_pr rfl) wt_237 wf_15_138 (v := 363) wl_237_138 ?_
  refine wa_iload_n (n := 3) rfl ?_
  refine wb_iald 363 rfl (wy_pr rfl) wt_363 (n := 4200) ((ml_363 hM)) (by omega) (by omega) (v := kx) (hkx) (fun r7 => ?_)
  refine wa_cv 237 rfl (wy_pr rfl) wt_237 (M2 := fun _ => False) rfl at_M_hasShape ⟨_, rfl⟩ rfl rfl ⟨trivial, trivial, (Or.inr ⟨wy_pr rfl, fun q => q⟩), trivial, trivial⟩ trivial (fun _ _ q => False.elim q) ?_ (fun _ _ _ q => q)
  refine wa_iload_n (n := 1) rfl ?_
  refine wa_iconst ?_
  refine wa_icmpeq (w_rg0 (by omega) (by omega)) (w_rg0 (by omega) (by omega)) ⟨_, rfl⟩ (fun c8 => ?_) (fun c8 => ?_)
  · skip
    refine wa_iconst ?_
    refine wa_goto ⟨_, rfl⟩ ?_
    refine wa_zreturn rfl (Or.inr rfl) ?_
    show wJ _ _ _ _ _ _ _ _ _ _
    refine wa_ifeq (w_rg0 (by omega) (by omega)) ⟨_, rfl⟩ (fun c9 => ?_) (fun c9 => ?_)
    · skip
      exact absurd c9 (by omega)
    · skip
      refine wa_aload_n (n := 0) rfl ?_
      refine wb_gf4 237 rfl (wy_pr rfl) wt_237 wf_15_138 (v := 363) wl_237_138 ?_
      refine wa_iload_n (n := 2) rfl ?_
      refine wb_iald 363 rfl (wy_pr rfl) wt_363 (n := 4200) ((ml_363 hM)) (by omega) (by omega) (v := 3) (hky) (fun r10 => ?_)
      refine wa_iconst ?_
      refine wa_icmpeq (w_rg0 (by omega) (by omega)) (w_rg0 (by omega) (by omega)) ⟨_, rfl⟩ (fun c11 => ?_) (fun c11 => ?_)
      · skip
        refine wa_iload_n (n := 1) rfl ?_
        refine wa_iconst ?_
        refine wa_icmpne (w_rg0 (by omega) (by omega)) (w_rg0 (by omega) (by omega)) ⟨_, rfl⟩ (fun c12 => ?_) (fun c12 => ?_)
        · skip
          refine wa_aload_n (n := 0) rfl ?_
          refine wa_aload_n (n := 0) rfl ?_
          refine wb_gf4 237 rfl (wy_pr rfl) wt_237 wf_15_139 (v := 364) wl_237_139 ?_
          refine wa_iload_n (n := 3) rfl ?_
          refine wb_lald 364 rfl (wy_pr rfl) wt_364 (n := 4200) ((ml_364 hM)) (by omega) (by omega) (v := q) (hvx) (fun r13 => ?_)
          refine wb_l2i_r (wb_l2i_id ⟨(by omega), (by omega)⟩) ?_
          refine wa_aload_n (n := 0) rfl ?_
          refine wb_gf4 237 rfl (wy_pr rfl) wt_237 wf_15_139 (v := 364) wl_237_139 ?_
          refine wa_iload_n (n := 2) rfl ?_
          refine wb_lald 364 rfl (wy_pr rfl) wt_364 (n := 4200) ((ml_364 hM)) (by omega) (by omega) (v := tx) (hvy) (fun r14 => ?_)
          refine wb_l2i_r (wb_l2i_id ⟨(by omega), (by omega)⟩) ?_
          refine wa_cv 237 rfl (wy_pr rfl) wt_237 (M2 := fun _ => False) rfl at_M_has ⟨_, rfl⟩ rfl rfl ⟨trivial, trivial, (Or.inr ⟨wy_pr rfl, fun q => q⟩), trivial, trivial⟩ trivial (fun _ _ q => False.elim q) (wJ_mono (r_hs hM ht hH hw hT h82 hy0 hl hf0 he hN hq) (fun o Z hz => (⟨hz.1, by rw [hhv]; exact hz.2⟩ : S = Z ∧ o = .inl (some (0, hv))))) (fun oq15 Sq15 hp16 q15 => ?_)
          rcases q15 with ⟨rfl, rfl⟩
          show wJ _ _ _ _ _ _ _ _ _ _
          refine wa_fall ⟨_, rfl⟩ ?_
          refine wa_istore (n := 6) rfl ?_
          refine wa_aload_n (n := 0) rfl ?_
          refine wb_gf4 237 rfl (wy_pr rfl) wt_237 wf_15_134 (v := 359) wl_237_134 ?_
          refine wa_aload_n (n := 0) rfl ?_
          refine wb_gfi 237 rfl (wy_pr rfl) wt_237 wf_15_151 (v := t) (mt) (fun r17 => ?_)
          refine wa_dup2 (by decide) (by decide) ?_
          refine wb_iald 359 rfl (wy_pr rfl) wt_359 (n := 2) ((ml_359 hM)) (by omega) (by omega) (v := h) (mh) (fun r18 => ?_)
          refine wa_iconst ?_
          refine wa_isub ?_
          refine wb_iast 359 rfl (wy_pr rfl) wt_359 (n := 2) ((ml_359 hM)) (by omega) (by omega) ⟨(by omega), (by omega)⟩ ?_
          refine wa_aload_n (n := 0) rfl ?_
          refine wa_iload_n (n := 3) rfl ?_
          refine wa_iconst ?_
          refine wa_iload (n := 6) rfl ?_
          refine wa_ifeq (w_rg0 (by omega) (by omega)) ⟨_, rfl⟩ (fun c19 => ?_) (fun c19 => ?_)
          · skip
            refine wb_lconst (m := 0) rfl ?_
            refine wa_fall ⟨_, rfl⟩ ?_
            refine wa_cv 237 rfl (wy_pr rfl) wt_237 (M2 := fun _ => False) rfl at_M_put ⟨_, rfl⟩ rfl rfl ⟨trivial, trivial, trivial, (Or.inr ⟨wy_pr rfl, fun q => q⟩), trivial, trivial⟩ trivial (fun _ _ q => False.elim q) ?_ (fun _ _ _ q => q)
            refine wa_aload_n (n := 0) rfl ?_
            refine wb_gf4 237 rfl (wy_pr rfl) wt_237 wf_15_138 (v := 363) wl_237_138 ?_
            refine wa_iload_n (n := 1) rfl ?_
            refine wa_iload_n (n := 2) rfl ?_
            refine wb_iast 363 rfl (wy_pr rfl) wt_363 (n := 4200) ((w_up_slot (by decide)).trans ((ml_363 hM))) (by omega) (by omega) ⟨(by omega), (by omega)⟩ ?_
            refine wa_aload_n (n := 0) rfl ?_
            refine wb_gf4 237 rfl (wy_pr rfl) wt_237 wf_15_139 (v := 364) wl_237_139 ?_
            refine wa_iload_n (n := 1) rfl ?_
            refine wa_lload_n (n := 3) rfl ?_
            refine wb_last 364 rfl (wy_pr rfl) wt_364 (n := 4200) ((w_up_slot (by decide)).trans ((w_up_slot (by decide)).trans ((ml_364 hM)))) (by omega) (by omega) ⟨(by omega), (by omega)⟩ ?_
            refine wa_return rfl ?_
            show wJ _ _ _ _ _ _ _ _ _ _
            refine wa_goto ⟨_, rfl⟩ ?_
            refine wa_return rfl ?_
            show wJ _ _ _ _ _ _ _ _ _ _
            refine wa_goto ⟨_, rfl⟩ ?_
            refine wa_return rfl ?_
            refine ⟨rfl, ?_⟩
            first | (rw [show hv = 1 by omega]; rfl) | (rw [show hv = 0 by omega]; rfl)
          · skip
            refine wb_lconst (m := 1) rfl ?_
            refine wa_goto ⟨_, rfl⟩ ?_
            refine wa_cv 237 rfl (wy_pr rfl) wt_237 (M2 := fun _ => False) rfl at_M_put ⟨_, rfl⟩ rfl rfl ⟨trivial, trivial, trivial, (Or.inr ⟨wy_pr rfl, fun q => q⟩), trivial, trivial⟩ trivial (fun _ _ q => False.elim q) ?_ (fun _ _ _ q => q)
            refine wa_aload_n (n := 0) rfl ?_
            refine wb_gf4 237 rfl (wy_pr rfl) wt_237 wf_15_138 (v := 363) wl_237_138 ?_
            refine wa_iload_n (n := 1) rfl ?_
            refine wa_iload_n (n := 2) rfl ?_
            refine wb_iast 363 rfl (wy_pr rfl) wt_363 (n := 4200) ((w_up_slot (by decide)).trans ((ml_363 hM))) (by omega) (by omega) ⟨(by omega), (by omega)⟩ ?_
            refine wa_aload_n (n := 0) rfl ?_
            refine wb_gf4 237 rfl (wy_pr rfl) wt_237 wf_15_139 (v := 364) wl_237_139 ?_
            refine wa_iload_n (n := 1) rfl ?_
            refine wa_lload_n (n := 3) rfl ?_
            refine wb_last 364 rfl (wy_pr rfl) wt_364 (n := 4200) ((w_up_slot (by decide)).trans ((w_up_slot (by decide)).trans ((ml_364 hM)))) (by omega) (by omega) ⟨(by omega), (by omega)⟩ ?_
            refine wa_return rfl ?_
            show wJ _ _ _ _ _ _ _ _ _ _
            refine wa_goto ⟨_, rfl⟩ ?_
            refine wa_return rfl ?_
            show wJ _ _ _ _ _ _ _ _ _ _
            refine wa_goto ⟨_, rfl⟩ ?_
            refine wa_return rfl ?_
            refine ⟨rfl, ?_⟩
            first | (rw [show hv = 1 by omega]; rfl) | (rw [show hv = 0 by omega]; rfl)
        · skip
          exact absurd c12 (by omega)
      · skip
        exact absurd c11 (by omega)
  · skip
    refine wa_iload_n (n := 1) rfl ?_
    refine wa_iconst ?_
    refine wa_icmpne (w_rg0 (by omega) (by omega)) (w_rg0 (by omega) (by omega)) ⟨_, rfl⟩ (fun c20 => ?_) (fun c20 => ?_)
    · skip
      exact absurd c20 (by omega)
    · skip
      refine wa_fall ⟨_, rfl⟩ ?_
      refine wa_iconst ?_
      refine wa_goto ⟨_, rfl⟩ ?_
      refine wa_zreturn rfl (Or.inr rfl) ?_
      show wJ _ _ _ _ _ _ _ _ _ _
      refine wa_ifeq (w_rg0 (by omega) (by omega)) ⟨_, rfl⟩ (fun c21 => ?_) (fun c21 => ?_)
      · skip
        exact absurd c21 (by omega)
      · skip
        refine wa_aload_n (n := 0) rfl ?_
        refine wb_gf4 237 rfl (wy_pr rfl) wt_237 wf_15_138 (v := 363) wl_237_138 ?_
        refine wa_iload_n (n := 2) rfl ?_
        refine wb_iald 363 rfl (wy_pr rfl) wt_363 (n := 4200) ((ml_363 hM)) (by omega) (by omega) (v := 3) (hky) (fun r22 => ?_)
        refine wa_iconst ?_
        refine wa_icmpeq (w_rg0 (by omega) (by omega)) (w_rg0 (by omega) (by omega)) ⟨_, rfl⟩ (fun c23 => ?_) (fun c23 => ?_)
        · skip
          refine wa_iload_n (n := 1) rfl ?_
          refine wa_iconst ?_
          refine wa_icmpne (w_rg0 (by omega) (by omega)) (w_rg0 (by omega) (by omega)) ⟨_, rfl⟩ (fun c24 => ?_) (fun c24 => ?_)
          · skip
            refine wa_aload_n (n := 0) rfl ?_
            refine wa_aload_n (n := 0) rfl ?_
            refine wb_gf4 237 rfl (wy_pr rfl) wt_237 wf_15_139 (v := 364) wl_237_139 ?_
            refine wa_iload_n (n := 3) rfl ?_
            refine wb_lald 364 rfl (wy_pr rfl) wt_364 (n := 4200) ((ml_364 hM)) (by omega) (by omega) (v := q) (hvx) (fun r25 => ?_)
            refine wb_l2i_r (wb_l2i_id ⟨(by omega), (by omega)⟩) ?_
            refine wa_aload_n (n := 0) rfl ?_
            refine wb_gf4 237 rfl (wy_pr rfl) wt_237 wf_15_139 (v := 364) wl_237_139 ?_
            refine wa_iload_n (n := 2) rfl ?_
            refine wb_lald 364 rfl (wy_pr rfl) wt_364 (n := 4200) ((ml_364 hM)) (by omega) (by omega) (v := tx) (hvy) (fun r26 => ?_)
            refine wb_l2i_r (wb_l2i_id ⟨(by omega), (by omega)⟩) ?_
            refine wa_cv 237 rfl (wy_pr rfl) wt_237 (M2 := fun _ => False) rfl at_M_has ⟨_, rfl⟩ rfl rfl ⟨trivial, trivial, (Or.inr ⟨wy_pr rfl, fun q => q⟩), trivial, trivial⟩ trivial (fun _ _ q => False.elim q) (wJ_mono (r_hs hM ht hH hw hT h82 hy0 hl hf0 he hN hq) (fun o Z hz => (⟨hz.1, by rw [hhv]; exact hz.2⟩ : S = Z ∧ o = .inl (some (0, hv))))) (fun oq27 Sq27 hp28 q27 => ?_)
            rcases q27 with ⟨rfl, rfl⟩
            show wJ _ _ _ _ _ _ _ _ _ _
            refine wa_fall ⟨_, rfl⟩ ?_
            refine wa_istore (n := 6) rfl ?_
            refine wa_aload_n (n := 0) rfl ?_
            refine wb_gf4 237 rfl (wy_pr rfl) wt_237 wf_15_134 (v := 359) wl_237_134 ?_
            refine wa_aload_n (n := 0) rfl ?_
            refine wb_gfi 237 rfl (wy_pr rfl) wt_237 wf_15_151 (v := t) (mt) (fun r29 => ?_)
            refine wa_dup2 (by decide) (by decide) ?_
            refine wb_iald 359 rfl (wy_pr rfl) wt_359 (n := 2) ((ml_359 hM)) (by omega) (by omega) (v := h) (mh) (fun r30 => ?_)
            refine wa_iconst ?_
            refine wa_isub ?_
            refine wb_iast 359 rfl (wy_pr rfl) wt_359 (n := 2) ((ml_359 hM)) (by omega) (by omega) ⟨(by omega), (by omega)⟩ ?_
            refine wa_aload_n (n := 0) rfl ?_
            refine wa_iload_n (n := 3) rfl ?_
            refine wa_iconst ?_
            refine wa_iload (n := 6) rfl ?_
            refine wa_ifeq (w_rg0 (by omega) (by omega)) ⟨_, rfl⟩ (fun c31 => ?_) (fun c31 => ?_)
            · skip
              refine wb_lconst (m := 0) rfl ?_
              refine wa_fall ⟨_, rfl⟩ ?_
              refine wa_cv 237 rfl (wy_pr rfl) wt_237 (M2 := fun _ => False) rfl at_M_put ⟨_, rfl⟩ rfl rfl ⟨trivial, trivial, trivial, (Or.inr ⟨wy_pr rfl, fun q => q⟩), trivial, trivial⟩ trivial (fun _ _ q => False.elim q) ?_ (fun _ _ _ q => q)
              refine wa_aload_n (n := 0) rfl ?_
              refine wb_gf4 237 rfl (wy_pr rfl) wt_237 wf_15_138 (v := 363) wl_237_138 ?_
              refine wa_iload_n (n := 1) rfl ?_
              refine wa_iload_n (n := 2) rfl ?_
              refine wb_iast 363 rfl (wy_pr rfl) wt_363 (n := 4200) ((w_up_slot (by decide)).trans ((ml_363 hM))) (by omega) (by omega) ⟨(by omega), (by omega)⟩ ?_
              refine wa_aload_n (n := 0) rfl ?_
              refine wb_gf4 237 rfl (wy_pr rfl) wt_237 wf_15_139 (v := 364) wl_237_139 ?_
              refine wa_iload_n (n := 1) rfl ?_
              refine wa_lload_n (n := 3) rfl ?_
              refine wb_last 364 rfl (wy_pr rfl) wt_364 (n := 4200) ((w_up_slot (by decide)).trans ((w_up_slot (by decide)).trans ((ml_364 hM)))) (by omega) (by omega) ⟨(by omega), (by omega)⟩ ?_
              refine wa_return rfl ?_
              show wJ _ _ _ _ _ _ _ _ _ _
              refine wa_goto ⟨_, rfl⟩ ?_
              refine wa_return rfl ?_
              show wJ _ _ _ _ _ _ _ _ _ _
              refine wa_goto ⟨_, rfl⟩ ?_
              refine wa_return rfl ?_
              refine ⟨rfl, ?_⟩
              first | (rw [show hv = 1 by omega]; rfl) | (rw [show hv = 0 by omega]; rfl)
            · skip
              refine wb_lconst (m := 1) rfl ?_
              refine wa_goto ⟨_, rfl⟩ ?_
              refine wa_cv 237 rfl (wy_pr rfl) wt_237 (M2 := fun _ => False) rfl at_M_put ⟨_, rfl⟩ rfl rfl ⟨trivial, trivial, trivial, (Or.inr ⟨wy_pr rfl, fun q => q⟩), trivial, trivial⟩ trivial (fun _ _ q => False.elim q) ?_ (fun _ _ _ q => q)
              refine wa_aload_n (n := 0) rfl ?_
              refine wb_gf4 237 rfl (wy_pr rfl) wt_237 wf_15_138 (v := 363) wl_237_138 ?_
              refine wa_iload_n (n := 1) rfl ?_
              refine wa_iload_n (n := 2) rfl ?_
              refine wb_iast 363 rfl (wy_pr rfl) wt_363 (n := 4200) ((w_up_slot (by decide)).trans ((ml_363 hM))) (by omega) (by omega) ⟨(by omega), (by omega)⟩ ?_
              refine wa_aload_n (n := 0) rfl ?_
              refine wb_gf4 237 rfl (wy_pr rfl) wt_237 wf_15_139 (v := 364) wl_237_139 ?_
              refine wa_iload_n (n := 1) rfl ?_
              refine wa_lload_n (n := 3) rfl ?_
              refine wb_last 364 rfl (wy_pr rfl) wt_364 (n := 4200) ((w_up_slot (by decide)).trans ((w_up_slot (by decide)).trans ((ml_364 hM)))) (by omega) (by omega) ⟨(by omega), (by omega)⟩ ?_
              refine wa_return rfl ?_
              show wJ _ _ _ _ _ _ _ _ _ _
              refine wa_goto ⟨_, rfl⟩ ?_
              refine wa_return rfl ?_
              show wJ _ _ _ _ _ _ _ _ _ _
              refine wa_goto ⟨_, rfl⟩ ?_
              refine wa_return rfl ?_
              refine ⟨rfl, ?_⟩
              first | (rw [show hv = 1 by omega]; rfl) | (rw [show hv = 0 by omega]; rfl)
          · skip
            exact absurd c24 (by omega)
        · skip
          exact absurd c23 (by omega)
theorem yb4e {t c p h tp kx ky vx vy : Int} (hP : mP t c p h tp S) (hky : S 363 (2100 * t + h - 1) = ky) (hvy : S 364 (2100 * t + h - 1) = vy) (hkx : S 363 (2100 * t + h - 1 - 1) = kx) (hvx : S 364 (2100 * t + h - 1 - 1) = vx) (hh1 : 2 ≤ h) (hke : ¬ ((kx = 4 ∨ kx = 5) ∧ ky = 3)) : wJ (pe_GA xs) wY0 M (d + 11) t_M_others ((pe_at t_M_others.bl 0).getD (0, [])).2 [(0, (2, 237)), (1, (0, 28)), (2, (0, 4))] [] S (fun o Z => o = .inr 238 ∧ hZ 12 S = Z) := by
  obtain ⟨hM, ⟨mt, mt0, mt1⟩, mp, mf, ⟨mc, mc0, mc1⟩, ⟨mtp, mtq⟩, ⟨mpa, mp0, mp1⟩, mh, mh0, mh1⟩ := id hP
  refine wa_aload_n (n := 0) rfl ?_
  refine wa_cv 237 rfl (wy_pr rfl) wt_237 (M2 := fun _ => False) rfl at_M_h ⟨_, rfl⟩ rfl rfl ⟨(Or.inr ⟨wy_pr rfl, fun q => q⟩), trivial, trivial, trivial⟩ trivial (fun _ _ q => False.elim q) ?_ (fun _ _ _ q => q)
  refine wa_aload_n (n := 0) rfl ?_
  refine wb_gfi 237 rfl (wy_pr rfl) wt_237 wf_15_152 (v := (2100 * t)) (mp) (fun r1 => ?_)
  refine wa_aload_n (n := 0) rfl ?_
  refine wb_gf4 237 rfl (wy_pr rfl) wt_237 wf_15_134 (v := 359) wl_237_134 ?_
  refine wa_aload_n (n := 0) rfl ?_
  refine wb_gfi 237 rfl (wy_pr rfl) wt_237 wf_15_151 (v := t) (mt) (fun r2 => ?_)
  refine wb_iald 359 rfl (wy_pr rfl) wt_359 (n := 2) ((ml_359 hM)) (by omega) (by omega) (v := h) (mh) (fun r3 => ?_)
  refine wa_iadd ?_
  refine wa_ireturn rfl ?_
  show wJ _ _ _ _ _ _ _ _ _ _
  refine wa_iconst ?_
  refine wa_isub ?_
  refine wa_istore_n (n := 3) rfl ?_
  refine wa_iload_n (n := 1) rfl ?_
  refine wb_sw (w_rg0 (by omega) (by omega)) (tb := 12) rfl ⟨_, rfl⟩ ?_
  refine wa_aload_n (n := 0) rfl ?_
  refine wa_iload_n (n := 2) rfl ?_
  refine wa_cv 237 rfl (wy_pr rfl) wt_237 (M2 := fun _ => False) rfl at_M_builtins ⟨_, rfl⟩ rfl rfl ⟨trivial, (Or.inr ⟨wy_pr rfl, fun q => q⟩), trivial, trivial, trivial⟩ trivial (fun _ _ q => False.elim q) ?_ (fun _ _ _ q => q)
  refine wa_aload_n (n := 0) rfl ?_
  refine wa_cv 237 rfl (wy_pr rfl) wt_237 (M2 := fun _ => False) rfl at_M_h ⟨_, rfl⟩ rfl rfl ⟨(Or.inr ⟨wy_pr rfl, fun q => q⟩), trivial, trivial⟩ trivial (fun _ _ q => False.elim q) ?_ (fun _ _ _ q => q)
  refine wa_aload_n (n := 0) rfl ?_
  refine wb_gfi 237 rfl (wy_pr rfl) wt_237 wf_15_152 (v := (2100 * t)) (mp) (fun r4 => ?_)
  refine wa_aload_n (n := 0) rfl ?_
  refine wb_gf4 237 rfl (wy_pr rfl) wt_237 wf_15_134 (v := 359) wl_237_134 ?_
  refine wa_aload_n (n := 0) rfl ?_
  refine wb_gfi 237 rfl (wy_pr rfl) wt_237 wf_15_151 (v := t) (mt) (fun r5 => ?_)
  refine wb_iald 359 rfl (wy_pr rfl) wt_359 (n := 2) ((ml_359 hM)) (by omega) (by omega) (v := h) (mh) (fun r6 => ?_)
  refine wa_iadd ?_
  refine wa_ireturn rfl ?_
  show wJ _ _ _ _ _ _ _ _ _ _
  refine wa_iconst ?_
  refine wa_isub ?_
  refine wa_istore_n (n := 2) rfl ?_
  refine wa_iload_n (n := 2) rfl ?_
  refine wa_iconst ?_
  refine wa_isub ?_
  refine wa_istore_n (n := 3) rfl ?_
  refine wa_iload_n (n := 1) rfl ?_
  refine wb_sw (w_rg0 (by omega) (by omega)) (tb := 9) rfl ⟨_, rfl⟩ ?_
  refine wa_aload_n (n := 0) rfl ?_
  refine wa_aload_n (n := 0) rfl ?_
  refine wb_gf4 237 rfl (wy_pr rfl) wt_237 wf_15_138 (v := 363) wl_237_138 ?_
  refine wa_iload_n (n := 3) rfl ?_
  refine wb_iald 363 rfl (wy_pr rfl) wt_363 (n := 4200) ((ml_363 hM)) (by omega) (by omega) (v := kx) (hkx) (fun r7 => ?_)
  refine wa_cv 237 rfl (wy_pr rfl) wt_237 (M2 := fun _ => False) rfl at_M_hasShape ⟨_, rfl⟩ rfl rfl ⟨trivial, trivial, (Or.inr ⟨wy_pr rfl, fun q => q⟩), trivial, trivial⟩ trivial (fun _ _ q => False.elim q) ?_ (fun _ _ _ q => q)
  refine wa_iload_n (n := 1) rfl ?_
  refine wa_iconst ?_
  refine wa_icmpeq (w_rg0 (by omega) (by omega)) (w_rg0 (by omega) (by omega)) ⟨_, rfl⟩ (fun c8 => ?_) (fun c8 => ?_)
  · skip
    refine wa_iconst ?_
    refine wa_goto ⟨_, rfl⟩ ?_
    refine wa_zreturn rfl (Or.inr rfl) ?_
    show wJ _ _ _ _ _ _ _ _ _ _
    refine wa_ifeq (w_rg0 (by omega) (by omega)) ⟨_, rfl⟩ (fun c9 => ?_) (fun c9 => ?_)
    · skip
      exact absurd c9 (by omega)
    · skip
      refine wa_aload_n (n := 0) rfl ?_
      refine wb_gf4 237 rfl (wy_pr rfl) wt_237 wf_15_138 (v := 363) wl_237_138 ?_
      refine wa_iload_n (n := 2) rfl ?_
      refine wb_iald 363 rfl (wy_pr rfl) wt_363 (n := 4200) ((ml_363 hM)) (by omega) (by omega) (v := ky) (hky) (fun r10 => ?_)
      refine wa_iconst ?_
      refine wa_icmpeq (w_rg0 (by omega) (by omega)) (w_rg0 (by omega) (by omega)) ⟨_, rfl⟩ (fun c11 => ?_) (fun c11 => ?_)
      · skip
        exfalso; omega
      · skip
        refine wa_fall ⟨_, rfl⟩ ?_
        refine wa_aload_n (n := 0) rfl ?_
        refine wa_bipush (w_rg2 (by omega) (by omega)) ?_
        refine wa_cv 237 rfl (wy_pr rfl) wt_237 (M2 := fun _ => False) rfl at_M_error ⟨_, rfl⟩ rfl rfl ⟨trivial, trivial, (Or.inr ⟨wy_pr rfl, fun q => q⟩), trivial, trivial⟩ trivial (fun _ _ q => False.elim q) ?_ (fun _ _ _ q => q)
        refine wa_aload_n (n := 0) rfl ?_
        refine wb_gf4 237 rfl (wy_pr rfl) wt_237 wf_15_1 (v := 238) wl_237_1 ?_
        refine wa_iload_n (n := 1) rfl ?_
        refine wa_iconst ?_
        refine wa_cv 238 rfl (wy_pr rfl) wt_238 (M2 := fun _ => False) rfl at_MH_of ⟨_, rfl⟩ rfl rfl ⟨(Or.inr ⟨wy_pr rfl, fun q => q⟩), trivial, trivial⟩ trivial (fun _ _ q => False.elim q) ?_ (fun _ _ _ q => q)
        refine wa_aload_n (n := 0) rfl ?_
        refine wa_iload_n (n := 1) rfl ?_
        refine wb_pfi 238 rfl (wy_pr rfl) wt_238 wf_11_5 (n := 5) rfl ⟨(by omega), (by omega)⟩ ?_
        refine wa_aload_n (n := 0) rfl ?_
        refine wa_iload_n (n := 2) rfl ?_
        refine wb_pfi 238 rfl (wy_pr rfl) wt_238 wf_11_6 (n := 6) rfl ⟨(by omega), (by omega)⟩ ?_
        refine wa_aload_n (n := 0) rfl ?_
        refine wa_oreturn rfl ?_
        show wJ _ _ _ _ _ _ _ _ _ _
        refine wa_th (j := 238) ?_
        refine ⟨rfl, ?_⟩
        refine ⟨rfl, ?_⟩
        exact ⟨rfl, rfl⟩
  · skip
    refine wa_iload_n (n := 1) rfl ?_
    refine wa_iconst ?_
    refine wa_icmpne (w_rg0 (by omega) (by omega)) (w_rg0 (by omega) (by omega)) ⟨_, rfl⟩ (fun c12 => ?_) (fun c12 => ?_)
    · skip
      refine wa_iconst ?_
      refine wa_fall ⟨_, rfl⟩ ?_
      refine wa_zreturn rfl (Or.inl rfl) ?_
      show wJ _ _ _ _ _ _ _ _ _ _
      refine wa_ifeq (w_rg0 (by omega) (by omega)) ⟨_, rfl⟩ (fun c13 => ?_) (fun c13 => ?_)
      · skip
        refine wa_aload_n (n := 0) rfl ?_
        refine wa_bipush (w_rg2 (by omega) (by omega)) ?_
        refine wa_cv 237 rfl (wy_pr rfl) wt_237 (M2 := fun _ => False) rfl at_M_error ⟨_, rfl⟩ rfl rfl ⟨trivial, trivial, (Or.inr ⟨wy_pr rfl, fun q => q⟩), trivial, trivial⟩ trivial (fun _ _ q => False.elim q) ?_ (fun _ _ _ q => q)
        refine wa_aload_n (n := 0) rfl ?_
        refine wb_gf4 237 rfl (wy_pr rfl) wt_237 wf_15_1 (v := 238) wl_237_1 ?_
        refine wa_iload_n (n := 1) rfl ?_
        refine wa_iconst ?_
        refine wa_cv 238 rfl (wy_pr rfl) wt_238 (M2 := fun _ => False) rfl at_MH_of ⟨_, rfl⟩ rfl rfl ⟨(Or.inr ⟨wy_pr rfl, fun q => q⟩), trivial, trivial⟩ trivial (fun _ _ q => False.elim q) ?_ (fun _ _ _ q => q)
        refine wa_aload_n (n := 0) rfl ?_
        refine wa_iload_n (n := 1) rfl ?_
        refine wb_pfi 238 rfl (wy_pr rfl) wt_238 wf_11_5 (n := 5) rfl ⟨(by omega), (by omega)⟩ ?_
        refine wa_aload_n (n := 0) rfl ?_
        refine wa_iload_n (n := 2) rfl ?_
        refine wb_pfi 238 rfl (wy_pr rfl) wt_238 wf_11_6 (n := 6) rfl ⟨(by omega), (by omega)⟩ ?_
        refine wa_aload_n (n := 0) rfl ?_
        refine wa_oreturn rfl ?_
        show wJ _ _ _ _ _ _ _ _ _ _
        refine wa_th (j := 238) ?_
        refine ⟨rfl, ?_⟩
        refine ⟨rfl, ?_⟩
        exact ⟨rfl, rfl⟩
      · skip
        exact absurd c13 (by omega)
    · skip
      refine wa_fall ⟨_, rfl⟩ ?_
      refine wa_iconst ?_
      refine wa_goto ⟨_, rfl⟩ ?_
      refine wa_zreturn rfl (Or.inr rfl) ?_
      show wJ _ _ _ _ _ _ _ _ _ _
      refine wa_ifeq (w_rg0 (by omega) (by omega)) ⟨_, rfl⟩ (fun c14 => ?_) (fun c14 => ?_)
      · skip
        exact absurd c14 (by omega)
      · skip
        refine wa_aload_n (n := 0) rfl ?_
        refine wb_gf4 237 rfl (wy_pr rfl) wt_237 wf_15_138 (v := 363) wl_237_138 ?_
        refine wa_iload_n (n := 2) rfl ?_
        refine wb_iald 363 rfl (wy_pr rfl) wt_363 (n := 4200) ((ml_363 hM)) (by omega) (by omega) (v := ky) (hky) (fun r15 => ?_)
        refine wa_iconst ?_
        refine wa_icmpeq (w_rg0 (by omega) (by omega)) (w_rg0 (by omega) (by omega)) ⟨_, rfl⟩ (fun c16 => ?_) (fun c16 => ?_)
        · skip
          exfalso; omega
        · skip
          refine wa_fall ⟨_, rfl⟩ ?_
          refine wa_aload_n (n := 0) rfl ?_
          refine wa_bipush (w_rg2 (by omega) (by omega)) ?_
          refine wa_cv 237 rfl (wy_pr rfl) wt_237 (M2 := fun _ => False) rfl at_M_error ⟨_, rfl⟩ rfl rfl ⟨trivial, trivial, (Or.inr ⟨wy_pr rfl, fun q => q⟩), trivial, trivial⟩ trivial (fun _ _ q => False.elim q) ?_ (fun _ _ _ q => q)
          refine wa_aload_n (n := 0) rfl ?_
          refine wb_gf4 237 rfl (wy_pr rfl) wt_237 wf_15_1 (v := 238) wl_237_1 ?_
          refine wa_iload_n (n := 1) rfl ?_
          refine wa_iconst ?_
          refine wa_cv 238 rfl (wy_pr rfl) wt_238 (M2 := fun _ => False) rfl at_MH_of ⟨_, rfl⟩ rfl rfl ⟨(Or.inr ⟨wy_pr rfl, fun q => q⟩), trivial, trivial⟩ trivial (fun _ _ q => False.elim q) ?_ (fun _ _ _ q => q)
          refine wa_aload_n (n := 0) rfl ?_
          refine wa_iload_n (n := 1) rfl ?_
          refine wb_pfi 238 rfl (wy_pr rfl) wt_238 wf_11_5 (n := 5) rfl ⟨(by omega), (by omega)⟩ ?_
          refine wa_aload_n (n := 0) rfl ?_
          refine wa_iload_n (n := 2) rfl ?_
          refine wb_pfi 238 rfl (wy_pr rfl) wt_238 wf_11_6 (n := 6) rfl ⟨(by omega), (by omega)⟩ ?_
          refine wa_aload_n (n := 0) rfl ?_
          refine wa_oreturn rfl ?_
          show wJ _ _ _ _ _ _ _ _ _ _
          refine wa_th (j := 238) ?_
          refine ⟨rfl, ?_⟩
          refine ⟨rfl, ?_⟩
          exact ⟨rfl, rfl⟩
theorem yb5e {t c p h tp kx ky vx vy : Int} (hP : mP t c p h tp S) (hky : S 363 (2100 * t + h - 1) = ky) (hvy : S 364 (2100 * t + h - 1) = vy) (hkx : S 363 (2100 * t + h - 1 - 1) = kx) (hvx : S 364 (2100 * t + h - 1 - 1) = vx) (hh1 : 2 ≤ h) (hke : ¬ ((kx = 4 ∨ kx = 5) ∧ ky = 3)) : wJ (pe_GA xs) wY0 M (d + 11) t_M_others ((pe_at t_M_others.bl 0).getD (0, [])).2 [(0, (2, 237)), (1, (0, 28)), (2, (0, 5))] [] S (fun o Z => o = .inr 238 ∧ hZ 12 S = Z) := by
  obtain ⟨hM, ⟨mt, mt0, mt1⟩, mp, mf, ⟨mc, mc0, mc1⟩, ⟨mtp, mtq⟩, ⟨mpa, mp0, mp1⟩, mh, mh0, mh1⟩ := id hP
  refine wa_aload_n (n := 0) rfl ?_
  refine wa_cv 237 rfl (wy_pr rfl) wt_237 (M2 := fun _ => False) rfl at_M_h ⟨_, rfl⟩ rfl rfl ⟨(Or.inr ⟨wy_pr rfl, fun q => q⟩), trivial, trivial, trivial⟩ trivial (fun _ _ q => False.elim q) ?_ (fun _ _ _ q => q)
  refine wa_aload_n (n := 0) rfl ?_
  refine wb_gfi 237 rfl (wy_pr rfl) wt_237 wf_15_152 (v := (2100 * t)) (mp) (fun r1 => ?_)
  refine wa_aload_n (n := 0) rfl ?_
  refine wb_gf4 237 rfl (wy_pr rfl) wt_237 wf_15_134 (v := 359) wl_237_134 ?_
  refine wa_aload_n (n := 0) rfl ?_
  refine wb_gfi 237 rfl (wy_pr rfl) wt_237 wf_15_151 (v := t) (mt) (fun r2 => ?_)
  refine wb_iald 359 rfl (wy_pr rfl) wt_359 (n := 2) ((ml_359 hM)) (by omega) (by omega) (v := h) (mh) (fun r3 => ?_)
  refine wa_iadd ?_
  refine wa_ireturn rfl ?_
  show wJ _ _ _ _ _ _ _ _ _ _
  refine wa_iconst ?_
  refine wa_isub ?_
  refine wa_istore_n (n := 3) rfl ?_
  refine wa_iload_n (n := 1) rfl ?_
  refine wb_sw (w_rg0 (by omega) (by omega)) (tb := 12) rfl ⟨_, rfl⟩ ?_
  refine wa_aload_n (n := 0) rfl ?_
  refine wa_iload_n (n := 2) rfl ?_
  refine wa_cv 237 rfl (wy_pr rfl) wt_237 (M2 := fun _ => False) rfl at_M_builtins ⟨_, rfl⟩ rfl rfl ⟨trivial, (Or.inr ⟨wy_pr rfl, fun q => q⟩), trivial, trivial, trivial⟩ trivial (fun _ _ q => False.elim q) ?_ (fun _ _ _ q => q)
  refine wa_aload_n (n := 0) rfl ?_
  refine wa_cv 237 rfl (wy_pr rfl) wt_237 (M2 := fun _ => False) rfl at_M_h ⟨_, rfl⟩ rfl rfl ⟨(Or.inr ⟨wy_pr rfl, fun q => q⟩), trivial, trivial⟩ trivial (fun _ _ q => False.elim q) ?_ (fun _ _ _ q => q)
  refine wa_aload_n (n := 0) rfl ?_
  refine wb_gfi 237 rfl (wy_pr rfl) wt_237 wf_15_152 (v := (2100 * t)) (mp) (fun r4 => ?_)
  refine wa_aload_n (n := 0) rfl ?_
  refine wb_gf4 237 rfl (wy_pr rfl) wt_237 wf_15_134 (v := 359) wl_237_134 ?_
  refine wa_aload_n (n := 0) rfl ?_
  refine wb_gfi 237 rfl (wy_pr rfl) wt_237 wf_15_151 (v := t) (mt) (fun r5 => ?_)
  refine wb_iald 359 rfl (wy_pr rfl) wt_359 (n := 2) ((ml_359 hM)) (by omega) (by omega) (v := h) (mh) (fun r6 => ?_)
  refine wa_iadd ?_
  refine wa_ireturn rfl ?_
  show wJ _ _ _ _ _ _ _ _ _ _
  refine wa_iconst ?_
  refine wa_isub ?_
  refine wa_istore_n (n := 2) rfl ?_
  refine wa_iload_n (n := 2) rfl ?_
  refine wa_iconst ?_
  refine wa_isub ?_
  refine wa_istore_n (n := 3) rfl ?_
  refine wa_iload_n (n := 1) rfl ?_
  refine wb_sw (w_rg0 (by omega) (by omega)) (tb := 9) rfl ⟨_, rfl⟩ ?_
  refine wa_aload_n (n := 0) rfl ?_
  refine wa_aload_n (n := 0) rfl ?_
  refine wb_gf4 237 rfl (wy_pr rfl) wt_237 wf_15_138 (v := 363) wl_237_138 ?_
  refine wa_iload_n (n := 3) rfl ?_
  refine wb_iald 363 rfl (wy_pr rfl) wt_363 (n := 4200) ((ml_363 hM)) (by omega) (by omega) (v := kx) (hkx) (fun r7 => ?_)
  refine wa_cv 237 rfl (wy_pr rfl) wt_237 (M2 := fun _ => False) rfl at_M_hasShape ⟨_, rfl⟩ rfl rfl ⟨trivial, trivial, (Or.inr ⟨wy_pr rfl, fun q => q⟩), trivial, trivial⟩ trivial (fun _ _ q => False.elim q) ?_ (fun _ _ _ q => q)
  refine wa_iload_n (n := 1) rfl ?_
  refine wa_iconst ?_
  refine wa_icmpeq (w_rg0 (by omega) (by omega)) (w_rg0 (by omega) (by omega)) ⟨_, rfl⟩ (fun c8 => ?_) (fun c8 => ?_)
  · skip
    refine wa_iconst ?_
    refine wa_goto ⟨_, rfl⟩ ?_
    refine wa_zreturn rfl (Or.inr rfl) ?_
    show wJ _ _ _ _ _ _ _ _ _ _
    refine wa_ifeq (w_rg0 (by omega) (by omega)) ⟨_, rfl⟩ (fun c9 => ?_) (fun c9 => ?_)
    · skip
      exact absurd c9 (by omega)
    · skip
      refine wa_aload_n (n := 0) rfl ?_
      refine wb_gf4 237 rfl (wy_pr rfl) wt_237 wf_15_138 (v := 363) wl_237_138 ?_
      refine wa_iload_n (n := 2) rfl ?_
      refine wb_iald 363 rfl (wy_pr rfl) wt_363 (n := 4200) ((ml_363 hM)) (by omega) (by omega) (v := ky) (hky) (fun r10 => ?_)
      refine wa_iconst ?_
      refine wa_icmpeq (w_rg0 (by omega) (by omega)) (w_rg0 (by omega) (by omega)) ⟨_, rfl⟩ (fun c11 => ?_) (fun c11 => ?_)
      · skip
        exfalso; omega
      · skip
        refine wa_fall ⟨_, rfl⟩ ?_
        refine wa_aload_n (n := 0) rfl ?_
        refine wa_bipush (w_rg2 (by omega) (by omega)) ?_
        refine wa_cv 237 rfl (wy_pr rfl) wt_237 (M2 := fun _ => False) rfl at_M_error ⟨_, rfl⟩ rfl rfl ⟨trivial, trivial, (Or.inr ⟨wy_pr rfl, fun q => q⟩), trivial, trivial⟩ trivial (fun _ _ q => False.elim q) ?_ (fun _ _ _ q => q)
        refine wa_aload_n (n := 0) rfl ?_
        refine wb_gf4 237 rfl (wy_pr rfl) wt_237 wf_15_1 (v := 238) wl_237_1 ?_
        refine wa_iload_n (n := 1) rfl ?_
        refine wa_iconst ?_
        refine wa_cv 238 rfl (wy_pr rfl) wt_238 (M2 := fun _ => False) rfl at_MH_of ⟨_, rfl⟩ rfl rfl ⟨(Or.inr ⟨wy_pr rfl, fun q => q⟩), trivial, trivial⟩ trivial (fun _ _ q => False.elim q) ?_ (fun _ _ _ q => q)
        refine wa_aload_n (n := 0) rfl ?_
        refine wa_iload_n (n := 1) rfl ?_
        refine wb_pfi 238 rfl (wy_pr rfl) wt_238 wf_11_5 (n := 5) rfl ⟨(by omega), (by omega)⟩ ?_
        refine wa_aload_n (n := 0) rfl ?_
        refine wa_iload_n (n := 2) rfl ?_
        refine wb_pfi 238 rfl (wy_pr rfl) wt_238 wf_11_6 (n := 6) rfl ⟨(by omega), (by omega)⟩ ?_
        refine wa_aload_n (n := 0) rfl ?_
        refine wa_oreturn rfl ?_
        show wJ _ _ _ _ _ _ _ _ _ _
        refine wa_th (j := 238) ?_
        refine ⟨rfl, ?_⟩
        refine ⟨rfl, ?_⟩
        exact ⟨rfl, rfl⟩
  · skip
    refine wa_iload_n (n := 1) rfl ?_
    refine wa_iconst ?_
    refine wa_icmpne (w_rg0 (by omega) (by omega)) (w_rg0 (by omega) (by omega)) ⟨_, rfl⟩ (fun c12 => ?_) (fun c12 => ?_)
    · skip
      refine wa_iconst ?_
      refine wa_fall ⟨_, rfl⟩ ?_
      refine wa_zreturn rfl (Or.inl rfl) ?_
      show wJ _ _ _ _ _ _ _ _ _ _
      refine wa_ifeq (w_rg0 (by omega) (by omega)) ⟨_, rfl⟩ (fun c13 => ?_) (fun c13 => ?_)
      · skip
        refine wa_aload_n (n := 0) rfl ?_
        refine wa_bipush (w_rg2 (by omega) (by omega)) ?_
        refine wa_cv 237 rfl (wy_pr rfl) wt_237 (M2 := fun _ => False) rfl at_M_error ⟨_, rfl⟩ rfl rfl ⟨trivial, trivial, (Or.inr ⟨wy_pr rfl, fun q => q⟩), trivial, trivial⟩ trivial (fun _ _ q => False.elim q) ?_ (fun _ _ _ q => q)
        refine wa_aload_n (n := 0) rfl ?_
        refine wb_gf4 237 rfl (wy_pr rfl) wt_237 wf_15_1 (v := 238) wl_237_1 ?_
        refine wa_iload_n (n := 1) rfl ?_
        refine wa_iconst ?_
        refine wa_cv 238 rfl (wy_pr rfl) wt_238 (M2 := fun _ => False) rfl at_MH_of ⟨_, rfl⟩ rfl rfl ⟨(Or.inr ⟨wy_pr rfl, fun q => q⟩), trivial, trivial⟩ trivial (fun _ _ q => False.elim q) ?_ (fun _ _ _ q => q)
        refine wa_aload_n (n := 0) rfl ?_
        refine wa_iload_n (n := 1) rfl ?_
        refine wb_pfi 238 rfl (wy_pr rfl) wt_238 wf_11_5 (n := 5) rfl ⟨(by omega), (by omega)⟩ ?_
        refine wa_aload_n (n := 0) rfl ?_
        refine wa_iload_n (n := 2) rfl ?_
        refine wb_pfi 238 rfl (wy_pr rfl) wt_238 wf_11_6 (n := 6) rfl ⟨(by omega), (by omega)⟩ ?_
        refine wa_aload_n (n := 0) rfl ?_
        refine wa_oreturn rfl ?_
        show wJ _ _ _ _ _ _ _ _ _ _
        refine wa_th (j := 238) ?_
        refine ⟨rfl, ?_⟩
        refine ⟨rfl, ?_⟩
        exact ⟨rfl, rfl⟩
      · skip
        exact absurd c13 (by omega)
    · skip
      refine wa_fall ⟨_, rfl⟩ ?_
      refine wa_iconst ?_
      refine wa_goto ⟨_, rfl⟩ ?_
      refine wa_zreturn rfl (Or.inr rfl) ?_
      show wJ _ _ _ _ _ _ _ _ _ _
      refine wa_ifeq (w_rg0 (by omega) (by omega)) ⟨_, rfl⟩ (fun c14 => ?_) (fun c14 => ?_)
      · skip
        exact absurd c14 (by omega)
      · skip
        refine wa_aload_n (n := 0) rfl ?_
        refine wb_gf4 237 rfl (wy_pr rfl) wt_237 wf_15_138 (v := 363) wl_237_138 ?_
        refine wa_iload_n (n := 2) rfl ?_
        refine wb_iald 363 rfl (wy_pr rfl) wt_363 (n := 4200) ((ml_363 hM)) (by omega) (by omega) (v := ky) (hky) (fun r15 => ?_)
        refine wa_iconst ?_
        refine wa_icmpeq (w_rg0 (by omega) (by omega)) (w_rg0 (by omega) (by omega)) ⟨_, rfl⟩ (fun c16 => ?_) (fun c16 => ?_)
        · skip
          exfalso; omega
        · skip
          refine wa_fall ⟨_, rfl⟩ ?_
          refine wa_aload_n (n := 0) rfl ?_
          refine wa_bipush (w_rg2 (by omega) (by omega)) ?_
          refine wa_cv 237 rfl (wy_pr rfl) wt_237 (M2 := fun _ => False) rfl at_M_error ⟨_, rfl⟩ rfl rfl ⟨trivial, trivial, (Or.inr ⟨wy_pr rfl, fun q => q⟩), trivial, trivial⟩ trivial (fun _ _ q => False.elim q) ?_ (fun _ _ _ q => q)
          refine wa_aload_n (n := 0) rfl ?_
          refine wb_gf4 237 rfl (wy_pr rfl) wt_237 wf_15_1 (v := 238) wl_237_1 ?_
          refine wa_iload_n (n := 1) rfl ?_
          refine wa_iconst ?_
          refine wa_cv 238 rfl (wy_pr rfl) wt_238 (M2 := fun _ => False) rfl at_MH_of ⟨_, rfl⟩ rfl rfl ⟨(Or.inr ⟨wy_pr rfl, fun q => q⟩), trivial, trivial⟩ trivial (fun _ _ q => False.elim q) ?_ (fun _ _ _ q => q)
          refine wa_aload_n (n := 0) rfl ?_
          refine wa_iload_n (n := 1) rfl ?_
          refine wb_pfi 238 rfl (wy_pr rfl) wt_238 wf_11_5 (n := 5) rfl ⟨(by omega), (by omega)⟩ ?_
          refine wa_aload_n (n := 0) rfl ?_
          refine wa_iload_n (n := 2) rfl ?_
          refine wb_pfi 238 rfl (wy_pr rfl) wt_238 wf_11_6 (n := 6) rfl ⟨(by omega), (by omega)⟩ ?_
          refine wa_aload_n (n := 0) rfl ?_
          refine wa_oreturn rfl ?_
          show wJ _ _ _ _ _ _ _ _ _ _
          refine wa_th (j := 238) ?_
          refine ⟨rfl, ?_⟩
          refine ⟨rfl, ?_⟩
          exact ⟨rfl, rfl⟩
end Wff
