/-! PART fn: turn of the reference. -/
section Wfn
variable {xs : List (Nat × List Int32)} {M : Nat → Prop} {d : Nat} {S Z A B : wS} {H : List aH} {T : List aO} {L : List aC} {G : Int → aV} {sl : Nat → List Int} {Q : wO → wS → Prop}
/-- a change of a thing is noted, if it is a prototype -/
def chZ (k e ch : Int) (S : wS) : wS := if e = -1 then S else w_up (w_up (w_up S 323 k (e + 1)) 237 81 (ch + 1)) 324 k (ch + 1)
theorem r_cg {k e ch : Int} (hM : w_ML S) (hk : 0 ≤ k ∧ k < 8000) (h22 : S 322 k = (if e = -1 then 0 else 1)) (h23 : e ≠ -1 → S 323 k = e) (he : -1 ≤ e ∧ e ≤ 9000001) (h81 : S 237 81 = ch) (hch : 0 ≤ ch ∧ ch ≤ 9000000) : wJ (pe_GA xs) wY0 M d t_M_changed ((pe_at t_M_changed.bl 0).getD (0, [])).2 [(0, (2, 237)), (1, (0, k))] [] S (fun o Z => o = .inl none ∧ chZ k e ch S = Z) := by
  by_cases c : e = -1
  · rw [if_pos c] at h22
    have ez : chZ k e ch S = S := if_pos c
    rw [ez]
    refine wa_aload_n (n := 0) rfl ?_
    refine wb_gf4 237 rfl (wy_pr rfl) wt_237 wf_15_78 (v := 322) wl_237_78 ?_
    refine wa_iload_n (n := 1) rfl ?_
    refine wb_zald 322 rfl (wy_pr rfl) wt_322 (n := 8000) ((ml_322 hM)) (by omega) (by omega) (v := 0) (h22) (fun r1 => ?_)
    refine wa_ifne (w_rg0 (by omega) (by omega)) ⟨_, rfl⟩ (fun c2 => ?_) (fun c2 => ?_)
    · skip
      exact absurd c2 (by omega)
    · skip
      refine wa_return rfl ?_
      exact ⟨rfl, rfl⟩
  · rw [if_neg c] at h22
    have h3 := h23 c
    have ez : chZ k e ch S = w_up (w_up (w_up S 323 k (e + 1)) 237 81 (ch + 1)) 324 k (ch + 1) := if_neg c
    rw [ez]
    refine wa_aload_n (n := 0) rfl ?_
    refine wb_gf4 237 rfl (wy_pr rfl) wt_237 wf_15_78 (v := 322) wl_237_78 ?_
    refine wa_iload_n (n := 1) rfl ?_
    refine wb_zald 322 rfl (wy_pr rfl) wt_322 (n := 8000) ((ml_322 hM)) (by omega) (by omega) (v := 1) (h22) (fun r51 => ?_)
    refine wa_ifne (w_rg0 (by omega) (by omega)) ⟨_, rfl⟩ (fun c52 => ?_) (fun c52 => ?_)
    · skip
      refine wa_aload_n (n := 0) rfl ?_
      refine wb_gf4 237 rfl (wy_pr rfl) wt_237 wf_15_79 (v := 323) wl_237_79 ?_
      refine wa_iload_n (n := 1) rfl ?_
      refine wa_dup2 (by decide) (by decide) ?_
      refine wb_iald 323 rfl (wy_pr rfl) wt_323 (n := 8000) ((ml_323 hM)) (by omega) (by omega) (v := e) (h3) (fun r53 => ?_)
      refine wa_iconst ?_
      refine wa_iadd ?_
      refine wb_iast 323 rfl (wy_pr rfl) wt_323 (n := 8000) ((ml_323 hM)) (by omega) (by omega) ⟨(by omega), (by omega)⟩ ?_
      refine wa_aload_n (n := 0) rfl ?_
      refine wa_dup (by decide) ?_
      refine wb_gfi 237 rfl (wy_pr rfl) wt_237 wf_15_81 (v := ch) ((w_up_slot (by decide)).trans (h81)) (fun r54 => ?_)
      refine wa_iconst ?_
      refine wa_iadd ?_
      refine wb_pfi 237 rfl (wy_pr rfl) wt_237 wf_15_81 (n := 81) rfl ⟨(by omega), (by omega)⟩ ?_
      refine wa_aload_n (n := 0) rfl ?_
      refine wb_gf4 237 rfl (wy_pr rfl) wt_237 wf_15_80 (v := 324) wl_237_80 ?_
      refine wa_iload_n (n := 1) rfl ?_
      refine wa_aload_n (n := 0) rfl ?_
      refine wb_gfi 237 rfl (wy_pr rfl) wt_237 wf_15_81 (v := (ch + 1)) (w_up_same _ _ _ _) (fun r55 => ?_)
      refine wb_iast 324 rfl (wy_pr rfl) wt_324 (n := 8000) ((w_up_slot (by decide)).trans ((w_up_slot (by decide)).trans ((ml_324 hM)))) (by omega) (by omega) ⟨(by omega), (by omega)⟩ ?_
      refine wa_return rfl ?_
      exact ⟨rfl, rfl⟩
    · skip
      exact absurd c52 (by omega)
theorem rtl {one oth o1 q : Int} (hM : w_ML S) (ht : rTh S sl T) (hH : rHs S H) (hw : wSh T H) (hT : (T.length : Int) ≤ 8000) (ho1 : 0 ≤ o1 ∧ o1 < 8000) : ∀ (f : Nat) (u : Int), cEn (aPr T H) f u → (u = -1 ∨ isO T u) → (hMe (aPr T H) o1 f u = 1 → Q (.inr 238) (hZ 12 S)) → (hMe (aPr T H) o1 f u = 0 → ∀ u2 : Int, wJ (pe_GA xs) wY0 M (d + 2) t_M_turns ((pe_at t_M_turns.bl 7).getD (0, [])).2 [(0, (2, 237)), (1, (0, one)), (2, (0, oth)), (3, (0, o1)), (4, (0, q)), (5, (0, u2))] [] S Q) → wJ (pe_GA xs) wY0 M (d + 2) t_M_turns ((pe_at t_M_turns.bl 5).getD (0, [])).2 [(0, (2, 237)), (1, (0, one)), (2, (0, oth)), (3, (0, o1)), (4, (0, q)), (5, (0, u))] [] S Q := by
  intro f
  induction f with
  | zero =>
    intro u hc hu k1 k0
    have hc2 : u = -1 := hc
    refine wa_iload (n := 5) rfl ?_
    refine wa_iflt (w_rg0 (by omega) (by omega)) ⟨_, rfl⟩ (fun c1 => ?_) (fun c1 => ?_)
    · skip
      exact wJ_S (k0 rfl _) ⟨rfl, rfl, rfl, rfl, rfl, rfl, trivial⟩
    · skip
      exact absurd c1 (by omega)
  | succ f ih =>
    intro u hc hu k1 k0
    by_cases cu : u = -1
    · have e : hMe (aPr T H) o1 (f + 1) u = 0 := if_pos cu
      refine wa_iload (n := 5) rfl ?_
      refine wa_iflt (w_rg0 (by omega) (by omega)) ⟨_, rfl⟩ (fun c51 => ?_) (fun c51 => ?_)
      · skip
        exact wJ_S (k0 e _) ⟨rfl, rfl, rfl, rfl, rfl, rfl, trivial⟩
      · skip
        exact absurd c51 (by omega)
    have hu1 : isO T u := hu.elim (fun z => absurd z cu) id
    have hs1 := wSh_sh hw hu1
    have e5 := (r_th ht hu1.1.1 hu1.1.2).2.1
    have e9 : S 329 (tO T u).2.1 = aPr T H u := (rHs_e hH hs1.1 hs1.2).1
    have hs2 := hu1.1
    have hpr := wSh_pr hw hu1
    have hpg : -1 ≤ aPr T H u ∧ aPr T H u < (T.length : Int) := by rcases hpr with z | z; omega; have := z.1; omega
    have hH4 := hw.1.2.1
    refine wa_iload (n := 5) rfl ?_
    refine wa_iflt (w_rg0 (by omega) (by omega)) ⟨_, rfl⟩ (fun c101 => ?_) (fun c101 => ?_)
    · skip
      exact absurd c101 (by omega)
    · skip
      refine wa_iload (n := 5) rfl ?_
      refine wa_iload_n (n := 3) rfl ?_
      refine wa_icmpne (w_rg0 (by omega) (by omega)) (w_rg0 (by omega) (by omega)) ⟨_, rfl⟩ (fun c102 => ?_) (fun c102 => ?_)
      · skip
        refine wa_aload_n (n := 0) rfl ?_
        refine wa_iload (n := 5) rfl ?_
        refine wa_cv 237 rfl (wy_pr rfl) wt_237 (M2 := fun _ => False) rfl at_M_protoOf ⟨_, rfl⟩ rfl rfl ⟨(Or.inr ⟨wy_pr rfl, fun q => q⟩), trivial, trivial, trivial, trivial, trivial, trivial⟩ trivial (fun _ _ q => False.elim q) ?_ (fun _ _ _ q => q)
        refine wa_aload_n (n := 0) rfl ?_
        refine wb_gf4 237 rfl (wy_pr rfl) wt_237 wf_15_88 (v := 329) wl_237_88 ?_
        refine wa_aload_n (n := 0) rfl ?_
        refine wb_gf4 237 rfl (wy_pr rfl) wt_237 wf_15_71 (v := 315) wl_237_71 ?_
        refine wa_iload_n (n := 1) rfl ?_
        refine wb_iald 315 rfl (wy_pr rfl) wt_315 (n := 8000) ((ml_315 hM)) (by omega) (by omega) (v := (tO T u).2.1) (e5) (fun r103 => ?_)
        refine wb_iald 329 rfl (wy_pr rfl) wt_329 (n := 4001) ((ml_329 hM)) (by omega) (by omega) (v := (aPr T H u)) (e9) (fun r104 => ?_)
        refine wa_ireturn rfl ?_
        show wJ _ _ _ _ _ _ _ _ _ _
        refine wa_istore (n := 5) rfl ?_
        refine wa_goto ⟨_, rfl⟩ ?_
        have e : hMe (aPr T H) o1 (f + 1) u = hMe (aPr T H) o1 f (aPr T H u) := (if_neg cu).trans (if_neg (by omega))
        rw [e] at k1 k0
        exact wJ_S (ih (aPr T H u) (hc.elim (fun z => absurd z cu) id) hpr k1 k0) ⟨rfl, rfl, rfl, rfl, rfl, rfl, trivial⟩
      · skip
        refine wa_aload_n (n := 0) rfl ?_
        refine wa_bipush (w_rg2 (by omega) (by omega)) ?_
        refine wa_cv 237 rfl (wy_pr rfl) wt_237 (M2 := fun _ => False) rfl at_M_error ⟨_, rfl⟩ rfl rfl ⟨(Or.inr ⟨wy_pr rfl, fun q => q⟩), trivial, trivial, trivial, trivial, trivial, trivial⟩ trivial (fun _ _ q => False.elim q) ?_ (fun _ _ _ q => q)
        refine wa_aload_n (n := 0) rfl ?_
        refine wb_gf4 237 rfl (wy_pr rfl) wt_237 wf_15_1 (v := 238) wl_237_1 ?_
        refine wa_iload_n (n := 1) rfl ?_
        refine wa_iconst ?_
        refine wa_cv 238 rfl (wy_pr rfl) wt_238 (M2 := fun _ => False) rfl at_MH_of ⟨_, rfl⟩ rfl rfl ⟨(Or.inr ⟨wy_pr rfl, fun q => q⟩), trivial, trivial⟩ trivial (fun _ _ q => False.elim q) ?_ (fun _ _ _ q => q)
        refine wa_aload_n (n := 0) rfl ?_
        refine wa_iload_n (n := 1) rfl ?_
        refine wb_pfi 238 rfl (wy_pr rfl) wt_238 wf_11_5 (n := 5) rfl ⟨(by omega), (by omega)⟩ ?_
        refine wa_aload_n (n := 0) rfl ?_
        refine wa_iload_n (n := 2) rfl ?_
        refine wb_pfi 238 rfl (wy_pr rfl) wt_238 wf_11_6 (n := 6) rfl ⟨(by omega), (by omega)⟩ ?_
        refine wa_aload_n (n := 0) rfl ?_
        refine wa_oreturn rfl ?_
        show wJ _ _ _ _ _ _ _ _ _ _
        refine wa_th (j := 238) ?_
        refine ⟨rfl, ?_⟩
        exact k1 ((if_neg cu).trans (if_pos (by omega)))
set_option maxHeartbeats 4000000 in
theorem r_tu0 {one oth kx o1 : Int} (hM : w_ML S) (hW : rWd S sl T L G) (hH : rHs S H) (hw : wSh T H) (hT : (T.length : Int) ≤ 8000) (h82 : S 237 82 ≤ 60000) (hu4 : 0 ≤ S 237 66 ∧ S 237 66 ≤ 4000 ∧ (H.length : Int) ≤ S 237 66 + 1) (hnb : ∀ s : Int, 0 ≤ s → s < (H.length : Int) → qNm H s ≤ 100000) (hch : 0 ≤ S 237 81 ∧ S 237 81 ≤ 9000000) (hep : ∀ k : Int, isO T k → (tO T k).2.2.2.2.1 ≤ S 237 81) (hone : 0 ≤ one ∧ one < 4200) (hoth : 0 ≤ oth ∧ oth < 4200) (hkx : S 363 one = kx) (hvx : S 364 one = o1) (hkx45 : kx = 4 ∨ kx = 5) (ho : isO T o1) (hky : S 363 oth = 0) : wJ (pe_GA xs) wY0 M (d + 4) t_M_turns ((pe_at t_M_turns.bl 0).getD (0, [])).2 [(0, (2, 237)), (1, (0, one)), (2, (0, oth))] [] S (fun o Z => (hMe (aPr T H) o1 (T.length + 1) (-1) = 1 ∧ o = .inr 238 ∧ hZ 12 S = Z) ∨ (hMe (aPr T H) o1 (T.length + 1) (-1) = 0 ∧ 4000 < S 237 66 + aMb H (-1) (fS (-1) (aNs H (tO T o1).2.1) 0) ∧ o = .inr 238 ∧ hZ 99 S = Z) ∨ (hMe (aPr T H) o1 (T.length + 1) (-1) = 0 ∧ S 237 66 + aMb H (-1) (fS (-1) (aNs H (tO T o1).2.1) 0) ≤ 4000 ∧ o = .inl none ∧ ∃ A : wS, rbQ (-1) (-1) o1 sl T H L G S A ∧ chZ o1 (tO (aBr T H (-1)).1 o1).2.2.2.2.1 (S 237 81) (w_up A 315 o1 (aRb (-1) (fS (-1) (aNs H (tO T o1).2.1) 0) (aBr T H (-1)).2.1 (aBr T H (-1)).2.2).2) = Z)) := by
  have ht := hW.1
  have ho0 := ho.1
  have hH4 := hw.1.2.1
  obtain ⟨hm, hhm⟩ : ∃ hm : Int, hm = hMe (aPr T H) o1 (T.length + 1) (-1) := ⟨_, rfl⟩
  rw [← hhm]
  have g4 := hw.2.2.2.1 o1 ho
  obtain ⟨rr, hrr⟩ : ∃ rr : Int, rr = (aRb (-1) (fS (-1) (aNs H (tO T o1).2.1) 0) (aBr T H (-1)).2.1 (aBr T H (-1)).2.2).2 := ⟨_, rfl⟩
  rw [← hrr]
  obtain ⟨ep, hepe⟩ : ∃ ep : Int, ep = (tO (aBr T H (-1)).1 o1).2.2.2.2.1 := ⟨_, rfl⟩
  rw [← hepe]
  have hpe : -1 ≤ ep ∧ ep ≤ 9000001 := by rw [hepe]; exact aBr_ep hw (Or.inl rfl) ho hep hch
  refine wa_aload_n (n := 0) rfl ?_
  refine wa_aload_n (n := 0) rfl ?_
  refine wb_gf4 237 rfl (wy_pr rfl) wt_237 wf_15_138 (v := 363) wl_237_138 ?_
  refine wa_iload_n (n := 1) rfl ?_
  refine wb_iald 363 rfl (wy_pr rfl) wt_363 (n := 4200) ((ml_363 hM)) (by omega) (by omega) (v := kx) (hkx) (fun r1 => ?_)
  refine wa_cv 237 rfl (wy_pr rfl) wt_237 (M2 := fun _ => False) rfl at_M_hasShape ⟨_, rfl⟩ rfl rfl ⟨(Or.inr ⟨wy_pr rfl, fun q => q⟩), trivial, trivial, trivial⟩ trivial (fun _ _ q => False.elim q) ?_ (fun _ _ _ q => q)
  refine wa_iload_n (n := 1) rfl ?_
  refine wa_iconst ?_
  refine wa_icmpeq (w_rg0 (by omega) (by omega)) (w_rg0 (by omega) (by omega)) ⟨_, rfl⟩ (fun c2 => ?_) (fun c2 => ?_)
  · skip
    refine wa_iconst ?_
    refine wa_goto ⟨_, rfl⟩ ?_
    refine wa_zreturn rfl (Or.inr rfl) ?_
    show wJ _ _ _ _ _ _ _ _ _ _
    refine wa_ifeq (w_rg0 (by omega) (by omega)) ⟨_, rfl⟩ (fun c3 => ?_) (fun c3 => ?_)
    · skip
      exact absurd c3 (by omega)
    · skip
      refine wa_aload_n (n := 0) rfl ?_
      refine wb_gf4 237 rfl (wy_pr rfl) wt_237 wf_15_138 (v := 363) wl_237_138 ?_
      refine wa_iload_n (n := 2) rfl ?_
      refine wb_iald 363 rfl (wy_pr rfl) wt_363 (n := 4200) ((ml_363 hM)) (by omega) (by omega) (v := 0) (hky) (fun r4 => ?_)
      refine wa_ifeq (w_rg0 (by omega) (by omega)) ⟨_, rfl⟩ (fun c5 => ?_) (fun c5 => ?_)
      · skip
        refine wa_aload_n (n := 0) rfl ?_
        refine wb_gf4 237 rfl (wy_pr rfl) wt_237 wf_15_139 (v := 364) wl_237_139 ?_
        refine wa_iload_n (n := 1) rfl ?_
        refine wb_lald 364 rfl (wy_pr rfl) wt_364 (n := 4200) ((ml_364 hM)) (by omega) (by omega) (v := o1) (hvx) (fun r6 => ?_)
        refine wb_l2i_r (wb_l2i_id ⟨(by omega), (by omega)⟩) ?_
        refine wa_istore_n (n := 3) rfl ?_
        refine wa_aload_n (n := 0) rfl ?_
        refine wb_gf4 237 rfl (wy_pr rfl) wt_237 wf_15_138 (v := 363) wl_237_138 ?_
        refine wa_iload_n (n := 2) rfl ?_
        refine wb_iald 363 rfl (wy_pr rfl) wt_363 (n := 4200) ((ml_363 hM)) (by omega) (by omega) (v := 0) (hky) (fun r7 => ?_)
        refine wa_ifne (w_rg0 (by omega) (by omega)) ⟨_, rfl⟩ (fun c8 => ?_) (fun c8 => ?_)
        · skip
          exact absurd c8 (by omega)
        · skip
          refine wa_iconst ?_
          refine wa_goto ⟨_, rfl⟩ ?_
          refine wa_istore (n := 4) rfl ?_
          refine wa_iload (n := 4) rfl ?_
          refine wa_istore (n := 5) rfl ?_
          refine wa_fall ⟨_, rfl⟩ ?_
          refine wJ_S (rtl (one := one) (oth := oth) (o1 := o1) (q := (-1)) hM ht hH hw hT ⟨by omega, by omega⟩ (T.length + 1) (-1) (cEn_m T.length _ (-1) (Nat.le_succ _) (wSh_en hw (Or.inl rfl))) (Or.inl rfl) (fun hz => Or.inl ⟨hhm.trans hz, rfl, rfl⟩) (fun hz u2 => ?_)) ⟨rfl, rfl, rfl, rfl, rfl, rfl, trivial⟩
          have hm0 : hm = 0 := hhm.trans hz
          refine wa_aload_n (n := 0) rfl ?_
          refine wb_gf4 237 rfl (wy_pr rfl) wt_237 wf_15_71 (v := 315) wl_237_71 ?_
          refine wa_iload_n (n := 3) rfl ?_
          refine wa_aload_n (n := 0) rfl ?_
          refine wa_iload_n (n := 3) rfl ?_
          refine wa_iload (n := 4) rfl ?_
          refine wa_iconst ?_
          refine wa_cv 237 rfl (wy_pr rfl) wt_237 (M2 := fun _ => False) rfl at_M_rebuilt ⟨_, rfl⟩ rfl rfl ⟨(Or.inr ⟨wy_pr rfl, fun q => q⟩), trivial, trivial, trivial, trivial, trivial, trivial⟩ ⟨trivial, (Or.inr ⟨wy_pr rfl, fun q => q⟩), trivial⟩ (fun _ _ q => False.elim q) (wJ_mono (r_rb (k := o1) (p := (-1)) (wo := -1) hM hH hW hw ho hT h82 (Or.inl rfl) (by decide) hu4 hnb) (fun o Z hz => (by rw [g4.1] at hz; rw [hrr]; exact hz : (4000 < S 237 66 + aMb H (-1) (fS (-1) (aNs H (tO T o1).2.1) 0) ∧ o = .inr 238 ∧ hZ 99 S = Z) ∨ (S 237 66 + aMb H (-1) (fS (-1) (aNs H (tO T o1).2.1) 0) ≤ 4000 ∧ o = .inl (some (0, rr)) ∧ rbQ (-1) (-1) o1 sl T H L G S Z)))) (fun oq9 Sq9 hp10 q9 => ?_)
          rcases q9 with ⟨hno, rfl, rfl⟩ | ⟨hyes, rfl, hrb⟩
          · skip
            refine ⟨rfl, ?_⟩
            exact Or.inr (Or.inl ⟨hm0, hno, rfl, rfl⟩)
          · skip
            show wJ _ _ _ _ _ _ _ _ _ _
            obtain ⟨hrb1, hrb2, hrbM, hrb4, hrbF⟩ := id hrb
            have hrr0 : 0 ≤ rr ∧ rr < 1000000 := by
              obtain ⟨b1, ⟨b2, b3⟩, b4, b5, b6, b7, b8, b9⟩ := aBr_ok hw (Or.inl rfl) (l := (fS (-1) (aNs H (tO T o1).2.1) 0)) (by omega)
              have hsh := wSh_sh hw ho
              have hds := nDs_H hw.1 hw.2.1 _ _ hsh.1 hsh.2 rfl
              have hrl := aRb_ok (fS (-1) (aNs H (tO T o1).2.1) 0) _ _ b1 b2 b3 b4 (nDs_f _ _ hds.1) (fun x hx => ⟨hds.2 x (fS_m _ _ x hx), fun z => by rw [b5] at z; exact absurd z List.not_mem_nil⟩) (by omega)
              have hll := hrl.1.1.2.1
              rw [hrr]; have := hrl.2.1; omega
            have hlen : (aBr T H (-1)).1.length = T.length := (aBr_ok (l := (fS (-1) (aNs H (tO T o1).2.1) 0)) hw (Or.inl rfl) (by omega)).2.2.2.2.2.2.2
            have hA3 := r_th hrb2.1 (k := o1) ho0.1 (by rw [hlen]; exact ho0.2)
            have hA22 : Sq9 322 o1 = (if ep = -1 then 0 else 1) := by rw [hepe]; exact hA3.2.2.2.2.2.1
            have hA23 : ep ≠ -1 → Sq9 323 o1 = ep := by rw [hepe]; exact hA3.2.2.2.2.2.2.1
            refine wb_iast 315 rfl (wy_pr rfl) wt_315 (n := 8000) ((ml_315 hrbM)) (by omega) (by omega) ⟨(by omega), (by omega)⟩ ?_
            refine wa_aload_n (n := 0) rfl ?_
            refine wa_iload_n (n := 3) rfl ?_
            refine wa_cv 237 rfl (wy_pr rfl) wt_237 (M2 := fun _ => False) rfl at_M_changed ⟨_, rfl⟩ rfl rfl ⟨(Or.inr ⟨wy_pr rfl, fun q => q⟩), trivial, trivial, trivial, trivial, trivial, trivial⟩ trivial (fun _ _ q => False.elim q) (r_cg (S := (w_up Sq9 315 o1 rr)) (k := o1) (e := ep) (ch := S 237 81) (w_ML_up hrbM (by omega)) ⟨by omega, by omega⟩ ((w_up_slot (by decide)).trans hA22) (fun z => (w_up_slot (by decide)).trans (hA23 z)) hpe ((w_up_slot (by decide)).trans ((hrbF 237 81 (by unfold rMr; omega)))) hch) (fun oq11 Sq11 hp12 q11 => ?_)
            rcases q11 with ⟨rfl, rfl⟩
            show wJ _ _ _ _ _ _ _ _ _ _
            refine wa_return rfl ?_
            exact Or.inr (Or.inr ⟨hm0, hyes, rfl, Sq9, hrb, rfl⟩)
      · skip
        exact absurd c5 (by omega)
  · skip
    refine wa_iload_n (n := 1) rfl ?_
    refine wa_iconst ?_
    refine wa_icmpne (w_rg0 (by omega) (by omega)) (w_rg0 (by omega) (by omega)) ⟨_, rfl⟩ (fun c13 => ?_) (fun c13 => ?_)
    · skip
      exact absurd c13 (by omega)
    · skip
      refine wa_fall ⟨_, rfl⟩ ?_
      refine wa_iconst ?_
      refine wa_goto ⟨_, rfl⟩ ?_
      refine wa_zreturn rfl (Or.inr rfl) ?_
      show wJ _ _ _ _ _ _ _ _ _ _
      refine wa_ifeq (w_rg0 (by omega) (by omega)) ⟨_, rfl⟩ (fun c14 => ?_) (fun c14 => ?_)
      · skip
        exact absurd c14 (by omega)
      · skip
        refine wa_aload_n (n := 0) rfl ?_
        refine wb_gf4 237 rfl (wy_pr rfl) wt_237 wf_15_138 (v := 363) wl_237_138 ?_
        refine wa_iload_n (n := 2) rfl ?_
        refine wb_iald 363 rfl (wy_pr rfl) wt_363 (n := 4200) ((ml_363 hM)) (by omega) (by omega) (v := 0) (hky) (fun r15 => ?_)
        refine wa_ifeq (w_rg0 (by omega) (by omega)) ⟨_, rfl⟩ (fun c16 => ?_) (fun c16 => ?_)
        · skip
          refine wa_aload_n (n := 0) rfl ?_
          refine wb_gf4 237 rfl (wy_pr rfl) wt_237 wf_15_139 (v := 364) wl_237_139 ?_
          refine wa_iload_n (n := 1) rfl ?_
          refine wb_lald 364 rfl (wy_pr rfl) wt_364 (n := 4200) ((ml_364 hM)) (by omega) (by omega) (v := o1) (hvx) (fun r17 => ?_)
          refine wb_l2i_r (wb_l2i_id ⟨(by omega), (by omega)⟩) ?_
          refine wa_istore_n (n := 3) rfl ?_
          refine wa_aload_n (n := 0) rfl ?_
          refine wb_gf4 237 rfl (wy_pr rfl) wt_237 wf_15_138 (v := 363) wl_237_138 ?_
          refine wa_iload_n (n := 2) rfl ?_
          refine wb_iald 363 rfl (wy_pr rfl) wt_363 (n := 4200) ((ml_363 hM)) (by omega) (by omega) (v := 0) (hky) (fun r18 => ?_)
          refine wa_ifne (w_rg0 (by omega) (by omega)) ⟨_, rfl⟩ (fun c19 => ?_) (fun c19 => ?_)
          · skip
            exact absurd c19 (by omega)
          · skip
            refine wa_iconst ?_
            refine wa_goto ⟨_, rfl⟩ ?_
            refine wa_istore (n := 4) rfl ?_
            refine wa_iload (n := 4) rfl ?_
            refine wa_istore (n := 5) rfl ?_
            refine wa_fall ⟨_, rfl⟩ ?_
            refine wJ_S (rtl (one := one) (oth := oth) (o1 := o1) (q := (-1)) hM ht hH hw hT ⟨by omega, by omega⟩ (T.length + 1) (-1) (cEn_m T.length _ (-1) (Nat.le_succ _) (wSh_en hw (Or.inl rfl))) (Or.inl rfl) (fun hz => Or.inl ⟨hhm.trans hz, rfl, rfl⟩) (fun hz u2 => ?_)) ⟨rfl, rfl, rfl, rfl, rfl, rfl, trivial⟩
            have hm0 : hm = 0 := hhm.trans hz
            refine wa_aload_n (n := 0) rfl ?_
            refine wb_gf4 237 rfl (wy_pr rfl) wt_237 wf_15_71 (v := 315) wl_237_71 ?_
            refine wa_iload_n (n := 3) rfl ?_
            refine wa_aload_n (n := 0) rfl ?_
            refine wa_iload_n (n := 3) rfl ?_
            refine wa_iload (n := 4) rfl ?_
            refine wa_iconst ?_
            refine wa_cv 237 rfl (wy_pr rfl) wt_237 (M2 := fun _ => False) rfl at_M_rebuilt ⟨_, rfl⟩ rfl rfl ⟨(Or.inr ⟨wy_pr rfl, fun q => q⟩), trivial, trivial, trivial, trivial, trivial, trivial⟩ ⟨trivial, (Or.inr ⟨wy_pr rfl, fun q => q⟩), trivial⟩ (fun _ _ q => False.elim q) (wJ_mono (r_rb (k := o1) (p := (-1)) (wo := -1) hM hH hW hw ho hT h82 (Or.inl rfl) (by decide) hu4 hnb) (fun o Z hz => (by rw [g4.1] at hz; rw [hrr]; exact hz : (4000 < S 237 66 + aMb H (-1) (fS (-1) (aNs H (tO T o1).2.1) 0) ∧ o = .inr 238 ∧ hZ 99 S = Z) ∨ (S 237 66 + aMb H (-1) (fS (-1) (aNs H (tO T o1).2.1) 0) ≤ 4000 ∧ o = .inl (some (0, rr)) ∧ rbQ (-1) (-1) o1 sl T H L G S Z)))) (fun oq20 Sq20 hp21 q20 => ?_)
            rcases q20 with ⟨hno, rfl, rfl⟩ | ⟨hyes, rfl, hrb⟩
            · skip
              refine ⟨rfl, ?_⟩
              exact Or.inr (Or.inl ⟨hm0, hno, rfl, rfl⟩)
            · skip
              show wJ _ _ _ _ _ _ _ _ _ _
              obtain ⟨hrb1, hrb2, hrbM, hrb4, hrbF⟩ := id hrb
              have hrr0 : 0 ≤ rr ∧ rr < 1000000 := by
                obtain ⟨b1, ⟨b2, b3⟩, b4, b5, b6, b7, b8, b9⟩ := aBr_ok hw (Or.inl rfl) (l := (fS (-1) (aNs H (tO T o1).2.1) 0)) (by omega)
                have hsh := wSh_sh hw ho
                have hds := nDs_H hw.1 hw.2.1 _ _ hsh.1 hsh.2 rfl
                have hrl := aRb_ok (fS (-1) (aNs H (tO T o1).2.1) 0) _ _ b1 b2 b3 b4 (nDs_f _ _ hds.1) (fun x hx => ⟨hds.2 x (fS_m _ _ x hx), fun z => by rw [b5] at z; exact absurd z List.not_mem_nil⟩) (by omega)
                have hll := hrl.1.1.2.1
                rw [hrr]; have := hrl.2.1; omega
              have hlen : (aBr T H (-1)).1.length = T.length := (aBr_ok (l := (fS (-1) (aNs H (tO T o1).2.1) 0)) hw (Or.inl rfl) (by omega)).2.2.2.2.2.2.2
              have hA3 := r_th hrb2.1 (k := o1) ho0.1 (by rw [hlen]; exact ho0.2)
              have hA22 : Sq20 322 o1 = (if ep = -1 then 0 else 1) := by rw [hepe]; exact hA3.2.2.2.2.2.1
              have hA23 : ep ≠ -1 → Sq20 323 o1 = ep := by rw [hepe]; exact hA3.2.2.2.2.2.2.1
              refine wb_iast 315 rfl (wy_pr rfl) wt_315 (n := 8000) ((ml_315 hrbM)) (by omega) (by omega) ⟨(by omega), (by omega)⟩ ?_
              refine wa_aload_n (n := 0) rfl ?_
              refine wa_iload_n (n := 3) rfl ?_
              refine wa_cv 237 rfl (wy_pr rfl) wt_237 (M2 := fun _ => False) rfl at_M_changed ⟨_, rfl⟩ rfl rfl ⟨(Or.inr ⟨wy_pr rfl, fun q => q⟩), trivial, trivial, trivial, trivial, trivial, trivial⟩ trivial (fun _ _ q => False.elim q) (r_cg (S := (w_up Sq20 315 o1 rr)) (k := o1) (e := ep) (ch := S 237 81) (w_ML_up hrbM (by omega)) ⟨by omega, by omega⟩ ((w_up_slot (by decide)).trans hA22) (fun z => (w_up_slot (by decide)).trans (hA23 z)) hpe ((w_up_slot (by decide)).trans ((hrbF 237 81 (by unfold rMr; omega)))) hch) (fun oq22 Sq22 hp23 q22 => ?_)
              rcases q22 with ⟨rfl, rfl⟩
              show wJ _ _ _ _ _ _ _ _ _ _
              refine wa_return rfl ?_
              exact Or.inr (Or.inr ⟨hm0, hyes, rfl, Sq20, hrb, rfl⟩)
        · skip
          exact absurd c16 (by omega)
set_option maxHeartbeats 4000000 in
theorem r_tu1 {one oth kx o1 ky q : Int} (hM : w_ML S) (hW : rWd S sl T L G) (hH : rHs S H) (hw : wSh T H) (hT : (T.length : Int) ≤ 8000) (h82 : S 237 82 ≤ 60000) (hu4 : 0 ≤ S 237 66 ∧ S 237 66 ≤ 4000 ∧ (H.length : Int) ≤ S 237 66 + 1) (hnb : ∀ s : Int, 0 ≤ s → s < (H.length : Int) → qNm H s ≤ 100000) (hch : 0 ≤ S 237 81 ∧ S 237 81 ≤ 9000000) (hep : ∀ k : Int, isO T k → (tO T k).2.2.2.2.1 ≤ S 237 81) (hone : 0 ≤ one ∧ one < 4200) (hoth : 0 ≤ oth ∧ oth < 4200) (hkx : S 363 one = kx) (hvx : S 364 one = o1) (hkx45 : kx = 4 ∨ kx = 5) (ho : isO T o1) (hky : S 363 oth = ky) (hvy : S 364 oth = q) (hky45 : ky = 4 ∨ ky = 5) (hq : isO T q) : wJ (pe_GA xs) wY0 M (d + 4) t_M_turns ((pe_at t_M_turns.bl 0).getD (0, [])).2 [(0, (2, 237)), (1, (0, one)), (2, (0, oth))] [] S (fun o Z => (hMe (aPr T H) o1 (T.length + 1) q = 1 ∧ o = .inr 238 ∧ hZ 12 S = Z) ∨ (hMe (aPr T H) o1 (T.length + 1) q = 0 ∧ 4000 < S 237 66 + aMb H q (fS (-1) (aNs H (tO T o1).2.1) 0) ∧ o = .inr 238 ∧ hZ 99 S = Z) ∨ (hMe (aPr T H) o1 (T.length + 1) q = 0 ∧ S 237 66 + aMb H q (fS (-1) (aNs H (tO T o1).2.1) 0) ≤ 4000 ∧ o = .inl none ∧ ∃ A : wS, rbQ q (-1) o1 sl T H L G S A ∧ chZ o1 (tO (aBr T H q).1 o1).2.2.2.2.1 (S 237 81) (w_up A 315 o1 (aRb q (fS (-1) (aNs H (tO T o1).2.1) 0) (aBr T H q).2.1 (aBr T H q).2.2).2) = Z)) := by
  have ht := hW.1
  have ho0 := ho.1
  have hH4 := hw.1.2.1
  obtain ⟨hm, hhm⟩ : ∃ hm : Int, hm = hMe (aPr T H) o1 (T.length + 1) q := ⟨_, rfl⟩
  rw [← hhm]
  have g4 := hw.2.2.2.1 o1 ho
  obtain ⟨rr, hrr⟩ : ∃ rr : Int, rr = (aRb q (fS (-1) (aNs H (tO T o1).2.1) 0) (aBr T H q).2.1 (aBr T H q).2.2).2 := ⟨_, rfl⟩
  rw [← hrr]
  obtain ⟨ep, hepe⟩ : ∃ ep : Int, ep = (tO (aBr T H q).1 o1).2.2.2.2.1 := ⟨_, rfl⟩
  rw [← hepe]
  have hpe : -1 ≤ ep ∧ ep ≤ 9000001 := by rw [hepe]; exact aBr_ep hw (Or.inr hq) ho hep hch
  have hq0 := hq.1
  refine wa_aload_n (n := 0) rfl ?_
  refine wa_aload_n (n := 0) rfl ?_
  refine wb_gf4 237 rfl (wy_pr rfl) wt_237 wf_15_138 (v := 363) wl_237_138 ?_
  refine wa_iload_n (n := 1) rfl ?_
  refine wb_iald 363 rfl (wy_pr rfl) wt_363 (n := 4200) ((ml_363 hM)) (by omega) (by omega) (v := kx) (hkx) (fun r1 => ?_)
  refine wa_cv 237 rfl (wy_pr rfl) wt_237 (M2 := fun _ => False) rfl at_M_hasShape ⟨_, rfl⟩ rfl rfl ⟨(Or.inr ⟨wy_pr rfl, fun q => q⟩), trivial, trivial, trivial⟩ trivial (fun _ _ q => False.elim q) ?_ (fun _ _ _ q => q)
  refine wa_iload_n (n := 1) rfl ?_
  refine wa_iconst ?_
  refine wa_icmpeq (w_rg0 (by omega) (by omega)) (w_rg0 (by omega) (by omega)) ⟨_, rfl⟩ (fun c2 => ?_) (fun c2 => ?_)
  · skip
    refine wa_iconst ?_
    refine wa_goto ⟨_, rfl⟩ ?_
    refine wa_zreturn rfl (Or.inr rfl) ?_
    show wJ _ _ _ _ _ _ _ _ _ _
    refine wa_ifeq (w_rg0 (by omega) (by omega)) ⟨_, rfl⟩ (fun c3 => ?_) (fun c3 => ?_)
    · skip
      exact absurd c3 (by omega)
    · skip
      refine wa_aload_n (n := 0) rfl ?_
      refine wb_gf4 237 rfl (wy_pr rfl) wt_237 wf_15_138 (v := 363) wl_237_138 ?_
      refine wa_iload_n (n := 2) rfl ?_
      refine wb_iald 363 rfl (wy_pr rfl) wt_363 (n := 4200) ((ml_363 hM)) (by omega) (by omega) (v := ky) (hky) (fun r4 => ?_)
      refine wa_ifeq (w_rg0 (by omega) (by omega)) ⟨_, rfl⟩ (fun c5 => ?_) (fun c5 => ?_)
      · skip
        exact absurd c5 (by omega)
      · skip
        refine wa_aload_n (n := 0) rfl ?_
        refine wa_aload_n (n := 0) rfl ?_
        refine wb_gf4 237 rfl (wy_pr rfl) wt_237 wf_15_138 (v := 363) wl_237_138 ?_
        refine wa_iload_n (n := 2) rfl ?_
        refine wb_iald 363 rfl (wy_pr rfl) wt_363 (n := 4200) ((ml_363 hM)) (by omega) (by omega) (v := ky) (hky) (fun r6 => ?_)
        refine wa_cv 237 rfl (wy_pr rfl) wt_237 (M2 := fun _ => False) rfl at_M_hasShape ⟨_, rfl⟩ rfl rfl ⟨(Or.inr ⟨wy_pr rfl, fun q => q⟩), trivial, trivial, trivial⟩ trivial (fun _ _ q => False.elim q) ?_ (fun _ _ _ q => q)
        refine wa_iload_n (n := 1) rfl ?_
        refine wa_iconst ?_
        refine wa_icmpeq (w_rg0 (by omega) (by omega)) (w_rg0 (by omega) (by omega)) ⟨_, rfl⟩ (fun c7 => ?_) (fun c7 => ?_)
        · skip
          refine wa_iconst ?_
          refine wa_goto ⟨_, rfl⟩ ?_
          refine wa_zreturn rfl (Or.inr rfl) ?_
          show wJ _ _ _ _ _ _ _ _ _ _
          refine wa_ifne (w_rg0 (by omega) (by omega)) ⟨_, rfl⟩ (fun c8 => ?_) (fun c8 => ?_)
          · skip
            refine wa_aload_n (n := 0) rfl ?_
            refine wb_gf4 237 rfl (wy_pr rfl) wt_237 wf_15_139 (v := 364) wl_237_139 ?_
            refine wa_iload_n (n := 1) rfl ?_
            refine wb_lald 364 rfl (wy_pr rfl) wt_364 (n := 4200) ((ml_364 hM)) (by omega) (by omega) (v := o1) (hvx) (fun r9 => ?_)
            refine wb_l2i_r (wb_l2i_id ⟨(by omega), (by omega)⟩) ?_
            refine wa_istore_n (n := 3) rfl ?_
            refine wa_aload_n (n := 0) rfl ?_
            refine wb_gf4 237 rfl (wy_pr rfl) wt_237 wf_15_138 (v := 363) wl_237_138 ?_
            refine wa_iload_n (n := 2) rfl ?_
            refine wb_iald 363 rfl (wy_pr rfl) wt_363 (n := 4200) ((ml_363 hM)) (by omega) (by omega) (v := ky) (hky) (fun r10 => ?_)
            refine wa_ifne (w_rg0 (by omega) (by omega)) ⟨_, rfl⟩ (fun c11 => ?_) (fun c11 => ?_)
            · skip
              refine wa_aload_n (n := 0) rfl ?_
              refine wb_gf4 237 rfl (wy_pr rfl) wt_237 wf_15_139 (v := 364) wl_237_139 ?_
              refine wa_iload_n (n := 2) rfl ?_
              refine wb_lald 364 rfl (wy_pr rfl) wt_364 (n := 4200) ((ml_364 hM)) (by omega) (by omega) (v := q) (hvy) (fun r12 => ?_)
              refine wb_l2i_r (wb_l2i_id ⟨(by omega), (by omega)⟩) ?_
              refine wa_fall ⟨_, rfl⟩ ?_
              refine wa_istore (n := 4) rfl ?_
              refine wa_iload (n := 4) rfl ?_
              refine wa_istore (n := 5) rfl ?_
              refine wa_fall ⟨_, rfl⟩ ?_
              refine wJ_S (rtl (one := one) (oth := oth) (o1 := o1) (q := q) hM ht hH hw hT ⟨by omega, by omega⟩ (T.length + 1) q (cEn_m T.length _ q (Nat.le_succ _) (wSh_en hw (Or.inr hq))) (Or.inr hq) (fun hz => Or.inl ⟨hhm.trans hz, rfl, rfl⟩) (fun hz u2 => ?_)) ⟨rfl, rfl, rfl, rfl, rfl, rfl, trivial⟩
              have hm0 : hm = 0 := hhm.trans hz
              refine wa_aload_n (n := 0) rfl ?_
              refine wb_gf4 237 rfl (wy_pr rfl) wt_237 wf_15_71 (v := 315) wl_237_71 ?_
              refine wa_iload_n (n := 3) rfl ?_
              refine wa_aload_n (n := 0) rfl ?_
              refine wa_iload_n (n := 3) rfl ?_
              refine wa_iload (n := 4) rfl ?_
              refine wa_iconst ?_
              refine wa_cv 237 rfl (wy_pr rfl) wt_237 (M2 := fun _ => False) rfl at_M_rebuilt ⟨_, rfl⟩ rfl rfl ⟨(Or.inr ⟨wy_pr rfl, fun q => q⟩), trivial, trivial, trivial, trivial, trivial, trivial⟩ ⟨trivial, (Or.inr ⟨wy_pr rfl, fun q => q⟩), trivial⟩ (fun _ _ q => False.elim q) (wJ_mono (r_rb (k := o1) (p := q) (wo := -1) hM hH hW hw ho hT h82 (Or.inr hq) (by decide) hu4 hnb) (fun o Z hz => (by rw [g4.1] at hz; rw [hrr]; exact hz : (4000 < S 237 66 + aMb H q (fS (-1) (aNs H (tO T o1).2.1) 0) ∧ o = .inr 238 ∧ hZ 99 S = Z) ∨ (S 237 66 + aMb H q (fS (-1) (aNs H (tO T o1).2.1) 0) ≤ 4000 ∧ o = .inl (some (0, rr)) ∧ rbQ q (-1) o1 sl T H L G S Z)))) (fun oq13 Sq13 hp14 q13 => ?_)
              rcases q13 with ⟨hno, rfl, rfl⟩ | ⟨hyes, rfl, hrb⟩
              · skip
                refine ⟨rfl, ?_⟩
                exact Or.inr (Or.inl ⟨hm0, hno, rfl, rfl⟩)
              · skip
                show wJ _ _ _ _ _ _ _ _ _ _
                obtain ⟨hrb1, hrb2, hrbM, hrb4, hrbF⟩ := id hrb
                have hrr0 : 0 ≤ rr ∧ rr < 1000000 := by
                  obtain ⟨b1, ⟨b2, b3⟩, b4, b5, b6, b7, b8, b9⟩ := aBr_ok hw (Or.inr hq) (l := (fS (-1) (aNs H (tO T o1).2.1) 0)) (by omega)
                  have hsh := wSh_sh hw ho
                  have hds := nDs_H hw.1 hw.2.1 _ _ hsh.1 hsh.2 rfl
                  have hrl := aRb_ok (fS (-1) (aNs H (tO T o1).2.1) 0) _ _ b1 b2 b3 b4 (nDs_f _ _ hds.1) (fun x hx => ⟨hds.2 x (fS_m _ _ x hx), fun z => by rw [b5] at z; exact absurd z List.not_mem_nil⟩) (by omega)
                  have hll := hrl.1.1.2.1
                  rw [hrr]; have := hrl.2.1; omega
                have hlen : (aBr T H q).1.length = T.length := (aBr_ok (l := (fS (-1) (aNs H (tO T o1).2.1) 0)) hw (Or.inr hq) (by omega)).2.2.2.2.2.2.2
                have hA3 := r_th hrb2.1 (k := o1) ho0.1 (by rw [hlen]; exact ho0.2)
                have hA22 : Sq13 322 o1 = (if ep = -1 then 0 else 1) := by rw [hepe]; exact hA3.2.2.2.2.2.1
                have hA23 : ep ≠ -1 → Sq13 323 o1 = ep := by rw [hepe]; exact hA3.2.2.2.2.2.2.1
                refine wb_iast 315 rfl (wy_pr rfl) wt_315 (n := 8000) ((ml_315 hrbM)) (by omega) (by omega) ⟨(by omega), (by omega)⟩ ?_
                refine wa_aload_n (n := 0) rfl ?_
                refine wa_iload_n (n := 3) rfl ?_
                refine wa_cv 237 rfl (wy_pr rfl) wt_237 (M2 := fun _ => False) rfl at_M_changed ⟨_, rfl⟩ rfl rfl ⟨(Or.inr ⟨wy_pr rfl, fun q => q⟩), trivial, trivial, trivial, trivial, trivial, trivial⟩ trivial (fun _ _ q => False.elim q) (r_cg (S := (w_up Sq13 315 o1 rr)) (k := o1) (e := ep) (ch := S 237 81) (w_ML_up hrbM (by omega)) ⟨by omega, by omega⟩ ((w_up_slot (by decide)).trans hA22) (fun z => (w_up_slot (by decide)).trans (hA23 z)) hpe ((w_up_slot (by decide)).trans ((hrbF 237 81 (by unfold rMr; omega)))) hch) (fun oq15 Sq15 hp16 q15 => ?_)
                rcases q15 with ⟨rfl, rfl⟩
                show wJ _ _ _ _ _ _ _ _ _ _
                refine wa_return rfl ?_
                exact Or.inr (Or.inr ⟨hm0, hyes, rfl, Sq13, hrb, rfl⟩)
            · skip
              exact absurd c11 (by omega)
          · skip
            exact absurd c8 (by omega)
        · skip
          refine wa_iload_n (n := 1) rfl ?_
          refine wa_iconst ?_
          refine wa_icmpne (w_rg0 (by omega) (by omega)) (w_rg0 (by omega) (by omega)) ⟨_, rfl⟩ (fun c17 => ?_) (fun c17 => ?_)
          · skip
            exact absurd c17 (by omega)
          · skip
            refine wa_fall ⟨_, rfl⟩ ?_
            refine wa_iconst ?_
            refine wa_goto ⟨_, rfl⟩ ?_
            refine wa_zreturn rfl (Or.inr rfl) ?_
            show wJ _ _ _ _ _ _ _ _ _ _
            refine wa_ifne (w_rg0 (by omega) (by omega)) ⟨_, rfl⟩ (fun c18 => ?_) (fun c18 => ?_)
            · skip
              refine wa_aload_n (n := 0) rfl ?_
              refine wb_gf4 237 rfl (wy_pr rfl) wt_237 wf_15_139 (v := 364) wl_237_139 ?_
              refine wa_iload_n (n := 1) rfl ?_
              refine wb_lald 364 rfl (wy_pr rfl) wt_364 (n := 4200) ((ml_364 hM)) (by omega) (by omega) (v := o1) (hvx) (fun r19 => ?_)
              refine wb_l2i_r (wb_l2i_id ⟨(by omega), (by omega)⟩) ?_
              refine wa_istore_n (n := 3) rfl ?_
              refine wa_aload_n (n := 0) rfl ?_
              refine wb_gf4 237 rfl (wy_pr rfl) wt_237 wf_15_138 (v := 363) wl_237_138 ?_
              refine wa_iload_n (n := 2) rfl ?_
              refine wb_iald 363 rfl (wy_pr rfl) wt_363 (n := 4200) ((ml_363 hM)) (by omega) (by omega) (v := ky) (hky) (fun r20 => ?_)
              refine wa_ifne (w_rg0 (by omega) (by omega)) ⟨_, rfl⟩ (fun c21 => ?_) (fun c21 => ?_)
              · skip
                refine wa_aload_n (n := 0) rfl ?_
                refine wb_gf4 237 rfl (wy_pr rfl) wt_237 wf_15_139 (v := 364) wl_237_139 ?_
                refine wa_iload_n (n := 2) rfl ?_
                refine wb_lald 364 rfl (wy_pr rfl) wt_364 (n := 4200) ((ml_364 hM)) (by omega) (by omega) (v := q) (hvy) (fun r22 => ?_)
                refine wb_l2i_r (wb_l2i_id ⟨(by omega), (by omega)⟩) ?_
                refine wa_fall ⟨_, rfl⟩ ?_
                refine wa_istore (n := 4) rfl ?_
                refine wa_iload (n := 4) rfl ?_
                refine wa_istore (n := 5) rfl ?_
                refine wa_fall ⟨_, rfl⟩ ?_
                refine wJ_S (rtl (one := one) (oth := oth) (o1 := o1) (q := q) hM ht hH hw hT ⟨by omega, by omega⟩ (T.length + 1) q (cEn_m T.length _ q (Nat.le_succ _) (wSh_en hw (Or.inr hq))) (Or.inr hq) (fun hz => Or.inl ⟨hhm.trans hz, rfl, rfl⟩) (fun hz u2 => ?_)) ⟨rfl, rfl, rfl, rfl, rfl, rfl, trivial⟩
                have hm0 : hm = 0 := hhm.trans hz
                refine wa_aload_n (n := 0) rfl ?_
                refine wb_gf4 237 rfl (wy_pr rfl) wt_237 wf_15_71 (v := 315) wl_237_71 ?_
                refine wa_iload_n (n := 3) rfl ?_
                refine wa_aload_n (n := 0) rfl ?_
                refine wa_iload_n (n := 3) rfl ?_
                refine wa_iload (n := 4) rfl ?_
                refine wa_iconst ?_
                refine wa_cv 237 rfl (wy_pr rfl) wt_237 (M2 := fun _ => False) rfl at_M_rebuilt ⟨_, rfl⟩ rfl rfl ⟨(Or.inr ⟨wy_pr rfl, fun q => q⟩), trivial, trivial, trivial, trivial, trivial, trivial⟩ ⟨trivial, (Or.inr ⟨wy_pr rfl, fun q => q⟩), trivial⟩ (fun _ _ q => False.elim q) (wJ_mono (r_rb (k := o1) (p := q) (wo := -1) hM hH hW hw ho hT h82 (Or.inr hq) (by decide) hu4 hnb) (fun o Z hz => (by rw [g4.1] at hz; rw [hrr]; exact hz : (4000 < S 237 66 + aMb H q (fS (-1) (aNs H (tO T o1).2.1) 0) ∧ o = .inr 238 ∧ hZ 99 S = Z) ∨ (S 237 66 + aMb H q (fS (-1) (aNs H (tO T o1).2.1) 0) ≤ 4000 ∧ o = .inl (some (0, rr)) ∧ rbQ q (-1) o1 sl T H L G S Z)))) (fun oq23 Sq23 hp24 q23 => ?_)
                rcases q23 with ⟨hno, rfl, rfl⟩ | ⟨hyes, rfl, hrb⟩
                · skip
                  refine ⟨rfl, ?_⟩
                  exact Or.inr (Or.inl ⟨hm0, hno, rfl, rfl⟩)
                · skip
                  show wJ _ _ _ _ _ _ _ _ _ _
                  obtain ⟨hrb1, hrb2, hrbM, hrb4, hrbF⟩ := id hrb
                  have hrr0 : 0 ≤ rr ∧ rr < 1000000 := by
                    obtain ⟨b1, ⟨b2, b3⟩, b4, b5, b6, b7, b8, b9⟩ := aBr_ok hw (Or.inr hq) (l := (fS (-1) (aNs H (tO T o1).2.1) 0)) (by omega)
                    have hsh := wSh_sh hw ho
                    have hds := nDs_H hw.1 hw.2.1 _ _ hsh.1 hsh.2 rfl
                    have hrl := aRb_ok (fS (-1) (aNs H (tO T o1).2.1) 0) _ _ b1 b2 b3 b4 (nDs_f _ _ hds.1) (fun x hx => ⟨hds.2 x (fS_m _ _ x hx), fun z => by rw [b5] at z; exact absurd z List.not_mem_nil⟩) (by omega)
                    have hll := hrl.1.1.2.1
                    rw [hrr]; have := hrl.2.1; omega
                  have hlen : (aBr T H q).1.length = T.length := (aBr_ok (l := (fS (-1) (aNs H (tO T o1).2.1) 0)) hw (Or.inr hq) (by omega)).2.2.2.2.2.2.2
                  have hA3 := r_th hrb2.1 (k := o1) ho0.1 (by rw [hlen]; exact ho0.2)
                  have hA22 : Sq23 322 o1 = (if ep = -1 then 0 else 1) := by rw [hepe]; exact hA3.2.2.2.2.2.1
                  have hA23 : ep ≠ -1 → Sq23 323 o1 = ep := by rw [hepe]; exact hA3.2.2.2.2.2.2.1
                  refine wb_iast 315 rfl (wy_pr rfl) wt_315 (n := 8000) ((ml_315 hrbM)) (by omega) (by omega) ⟨(by omega), (by omega)⟩ ?_
                  refine wa_aload_n (n := 0) rfl ?_
                  refine wa_iload_n (n := 3) rfl ?_
                  refine wa_cv 237 rfl (wy_pr rfl) wt_237 (M2 := fun _ => False) rfl at_M_changed ⟨_, rfl⟩ rfl rfl ⟨(Or.inr ⟨wy_pr rfl, fun q => q⟩), trivial, trivial, trivial, trivial, trivial, trivial⟩ trivial (fun _ _ q => False.elim q) (r_cg (S := (w_up Sq23 315 o1 rr)) (k := o1) (e := ep) (ch := S 237 81) (w_ML_up hrbM (by omega)) ⟨by omega, by omega⟩ ((w_up_slot (by decide)).trans hA22) (fun z => (w_up_slot (by decide)).trans (hA23 z)) hpe ((w_up_slot (by decide)).trans ((hrbF 237 81 (by unfold rMr; omega)))) hch) (fun oq25 Sq25 hp26 q25 => ?_)
                  rcases q25 with ⟨rfl, rfl⟩
                  show wJ _ _ _ _ _ _ _ _ _ _
                  refine wa_return rfl ?_
                  exact Or.inr (Or.inr ⟨hm0, hyes, rfl, Sq23, hrb, rfl⟩)
              · skip
                exact absurd c21 (by omega)
            · skip
              exact absurd c18 (by omega)
  · skip
    refine wa_iload_n (n := 1) rfl ?_
    refine wa_iconst ?_
    refine wa_icmpne (w_rg0 (by omega) (by omega)) (w_rg0 (by omega) (by omega)) ⟨_, rfl⟩ (fun c27 => ?_) (fun c27 => ?_)
    · skip
      exact absurd c27 (by omega)
    · skip
      refine wa_fall ⟨_, rfl⟩ ?_
      refine wa_iconst ?_
      refine wa_goto ⟨_, rfl⟩ ?_
      refine wa_zreturn rfl (Or.inr rfl) ?_
      show wJ _ _ _ _ _ _ _ _ _ _
      refine wa_ifeq (w_rg0 (by omega) (by omega)) ⟨_, rfl⟩ (fun c28 => ?_) (fun c28 => ?_)
      · skip
        exact absurd c28 (by omega)
      · skip
        refine wa_aload_n (n := 0) rfl ?_
        refine wb_gf4 237 rfl (wy_pr rfl) wt_237 wf_15_138 (v := 363) wl_237_138 ?_
        refine wa_iload_n (n := 2) rfl ?_
        refine wb_iald 363 rfl (wy_pr rfl) wt_363 (n := 4200) ((ml_363 hM)) (by omega) (by omega) (v := ky) (hky) (fun r29 => ?_)
        refine wa_ifeq (w_rg0 (by omega) (by omega)) ⟨_, rfl⟩ (fun c30 => ?_) (fun c30 => ?_)
        · skip
          exact absurd c30 (by omega)
        · skip
          refine wa_aload_n (n := 0) rfl ?_
          refine wa_aload_n (n := 0) rfl ?_
          refine wb_gf4 237 rfl (wy_pr rfl) wt_237 wf_15_138 (v := 363) wl_237_138 ?_
          refine wa_iload_n (n := 2) rfl ?_
          refine wb_iald 363 rfl (wy_pr rfl) wt_363 (n := 4200) ((ml_363 hM)) (by omega) (by omega) (v := ky) (hky) (fun r31 => ?_)
          refine wa_cv 237 rfl (wy_pr rfl) wt_237 (M2 := fun _ => False) rfl at_M_hasShape ⟨_, rfl⟩ rfl rfl ⟨(Or.inr ⟨wy_pr rfl, fun q => q⟩), trivial, trivial, trivial⟩ trivial (fun _ _ q => False.elim q) ?_ (fun _ _ _ q => q)
          refine wa_iload_n (n := 1) rfl ?_
          refine wa_iconst ?_
          refine wa_icmpeq (w_rg0 (by omega) (by omega)) (w_rg0 (by omega) (by omega)) ⟨_, rfl⟩ (fun c32 => ?_) (fun c32 => ?_)
          · skip
            refine wa_iconst ?_
            refine wa_goto ⟨_, rfl⟩ ?_
            refine wa_zreturn rfl (Or.inr rfl) ?_
            show wJ _ _ _ _ _ _ _ _ _ _
            refine wa_ifne (w_rg0 (by omega) (by omega)) ⟨_, rfl⟩ (fun c33 => ?_) (fun c33 => ?_)
            · skip
              refine wa_aload_n (n := 0) rfl ?_
              refine wb_gf4 237 rfl (wy_pr rfl) wt_237 wf_15_139 (v := 364) wl_237_139 ?_
              refine wa_iload_n (n := 1) rfl ?_
              refine wb_lald 364 rfl (wy_pr rfl) wt_364 (n := 4200) ((ml_364 hM)) (by omega) (by omega) (v := o1) (hvx) (fun r34 => ?_)
              refine wb_l2i_r (wb_l2i_id ⟨(by omega), (by omega)⟩) ?_
              refine wa_istore_n (n := 3) rfl ?_
              refine wa_aload_n (n := 0) rfl ?_
              refine wb_gf4 237 rfl (wy_pr rfl) wt_237 wf_15_138 (v := 363) wl_237_138 ?_
              refine wa_iload_n (n := 2) rfl ?_
              refine wb_iald 363 rfl (wy_pr rfl) wt_363 (n := 4200) ((ml_363 hM)) (by omega) (by omega) (v := ky) (hky) (fun r35 => ?_)
              refine wa_ifne (w_rg0 (by omega) (by omega)) ⟨_, rfl⟩ (fun c36 => ?_) (fun c36 => ?_)
              · skip
                refine wa_aload_n (n := 0) rfl ?_
                refine wb_gf4 237 rfl (wy_pr rfl) wt_237 wf_15_139 (v := 364) wl_237_139 ?_
                refine wa_iload_n (n := 2) rfl ?_
                refine wb_lald 364 rfl (wy_pr rfl) wt_364 (n := 4200) ((ml_364 hM)) (by omega) (by omega) (v := q) (hvy) (fun r37 => ?_)
                refine wb_l2i_r (wb_l2i_id ⟨(by omega), (by omega)⟩) ?_
                refine wa_fall ⟨_, rfl⟩ ?_
                refine wa_istore (n := 4) rfl ?_
                refine wa_iload (n := 4) rfl ?_
                refine wa_istore (n := 5) rfl ?_
                refine wa_fall ⟨_, rfl⟩ ?_
                refine wJ_S (rtl (one := one) (oth := oth) (o1 := o1) (q := q) hM ht hH hw hT ⟨by omega, by omega⟩ (T.length + 1) q (cEn_m T.length _ q (Nat.le_succ _) (wSh_en hw (Or.inr hq))) (Or.inr hq) (fun hz => Or.inl ⟨hhm.trans hz, rfl, rfl⟩) (fun hz u2 => ?_)) ⟨rfl, rfl, rfl, rfl, rfl, rfl, trivial⟩
                have hm0 : hm = 0 := hhm.trans hz
                refine wa_aload_n (n := 0) rfl ?_
                refine wb_gf4 237 rfl (wy_pr rfl) wt_237 wf_15_71 (v := 315) wl_237_71 ?_
                refine wa_iload_n (n := 3) rfl ?_
                refine wa_aload_n (n := 0) rfl ?_
                refine wa_iload_n (n := 3) rfl ?_
                refine wa_iload (n := 4) rfl ?_
                refine wa_iconst ?_
                refine wa_cv 237 rfl (wy_pr rfl) wt_237 (M2 := fun _ => False) rfl at_M_rebuilt ⟨_, rfl⟩ rfl rfl ⟨(Or.inr ⟨wy_pr rfl, fun q => q⟩), trivial, trivial, trivial, trivial, trivial, trivial⟩ ⟨trivial, (Or.inr ⟨wy_pr rfl, fun q => q⟩), trivial⟩ (fun _ _ q => False.elim q) (wJ_mono (r_rb (k := o1) (p := q) (wo := -1) hM hH hW hw ho hT h82 (Or.inr hq) (by decide) hu4 hnb) (fun o Z hz => (by rw [g4.1] at hz; rw [hrr]; exact hz : (4000 < S 237 66 + aMb H q (fS (-1) (aNs H (tO T o1).2.1) 0) ∧ o = .inr 238 ∧ hZ 99 S = Z) ∨ (S 237 66 + aMb H q (fS (-1) (aNs H (tO T o1).2.1) 0) ≤ 4000 ∧ o = .inl (some (0, rr)) ∧ rbQ q (-1) o1 sl T H L G S Z)))) (fun oq38 Sq38 hp39 q38 => ?_)
                rcases q38 with ⟨hno, rfl, rfl⟩ | ⟨hyes, rfl, hrb⟩
                · skip
                  refine ⟨rfl, ?_⟩
                  exact Or.inr (Or.inl ⟨hm0, hno, rfl, rfl⟩)
                · skip
                  show wJ _ _ _ _ _ _ _ _ _ _
                  obtain ⟨hrb1, hrb2, hrbM, hrb4, hrbF⟩ := id hrb
                  have hrr0 : 0 ≤ rr ∧ rr < 1000000 := by
                    obtain ⟨b1, ⟨b2, b3⟩, b4, b5, b6, b7, b8, b9⟩ := aBr_ok hw (Or.inr hq) (l := (fS (-1) (aNs H (tO T o1).2.1) 0)) (by omega)
                    have hsh := wSh_sh hw ho
                    have hds := nDs_H hw.1 hw.2.1 _ _ hsh.1 hsh.2 rfl
                    have hrl := aRb_ok (fS (-1) (aNs H (tO T o1).2.1) 0) _ _ b1 b2 b3 b4 (nDs_f _ _ hds.1) (fun x hx => ⟨hds.2 x (fS_m _ _ x hx), fun z => by rw [b5] at z; exact absurd z List.not_mem_nil⟩) (by omega)
                    have hll := hrl.1.1.2.1
                    rw [hrr]; have := hrl.2.1; omega
                  have hlen : (aBr T H q).1.length = T.length := (aBr_ok (l := (fS (-1) (aNs H (tO T o1).2.1) 0)) hw (Or.inr hq) (by omega)).2.2.2.2.2.2.2
                  have hA3 := r_th hrb2.1 (k := o1) ho0.1 (by rw [hlen]; exact ho0.2)
                  have hA22 : Sq38 322 o1 = (if ep = -1 then 0 else 1) := by rw [hepe]; exact hA3.2.2.2.2.2.1
                  have hA23 : ep ≠ -1 → Sq38 323 o1 = ep := by rw [hepe]; exact hA3.2.2.2.2.2.2.1
                  refine wb_iast 315 rfl (wy_pr rfl) wt_315 (n := 8000) ((ml_315 hrbM)) (by omega) (by omega) ⟨(by omega), (by omega)⟩ ?_
                  refine wa_aload_n (n := 0) rfl ?_
                  refine wa_iload_n (n := 3) rfl ?_
                  refine wa_cv 237 rfl (wy_pr rfl) wt_237 (M2 := fun _ => False) rfl at_M_changed ⟨_, rfl⟩ rfl rfl ⟨(Or.inr ⟨wy_pr rfl, fun q => q⟩), trivial, trivial, trivial, trivial, trivial, trivial⟩ trivial (fun _ _ q => False.elim q) (r_cg (S := (w_up Sq38 315 o1 rr)) (k := o1) (e := ep) (ch := S 237 81) (w_ML_up hrbM (by omega)) ⟨by omega, by omega⟩ ((w_up_slot (by decide)).trans hA22) (fun z => (w_up_slot (by decide)).trans (hA23 z)) hpe ((w_up_slot (by decide)).trans ((hrbF 237 81 (by unfold rMr; omega)))) hch) (fun oq40 Sq40 hp41 q40 => ?_)
                  rcases q40 with ⟨rfl, rfl⟩
                  show wJ _ _ _ _ _ _ _ _ _ _
                  refine wa_return rfl ?_
                  exact Or.inr (Or.inr ⟨hm0, hyes, rfl, Sq38, hrb, rfl⟩)
              · skip
                exact absurd c36 (by omega)
            · skip
              exact absurd c33 (by omega)
          · skip
            refine wa_iload_n (n := 1) rfl ?_
            refine wa_iconst ?_
            refine wa_icmpne (w_rg0 (by omega) (by omega)) (w_rg0 (by omega) (by omega)) ⟨_, rfl⟩ (fun c42 => ?_) (fun c42 => ?_)
            · skip
              exact absurd c42 (by omega)
            · skip
              refine wa_fall ⟨_, rfl⟩ ?_
              refine wa_iconst ?_
              refine wa_goto ⟨_, rfl⟩ ?_
              refine wa_zreturn rfl (Or.inr rfl) ?_
              show wJ _ _ _ _ _ _ _ _ _ _
              refine wa_ifne (w_rg0 (by omega) (by omega)) ⟨_, rfl⟩ (fun c43 => ?_) (fun c43 => ?_)
              · skip
                refine wa_aload_n (n := 0) rfl ?_
                refine wb_gf4 237 rfl (wy_pr rfl) wt_237 wf_15_139 (v := 364) wl_237_139 ?_
                refine wa_iload_n (n := 1) rfl ?_
                refine wb_lald 364 rfl (wy_pr rfl) wt_364 (n := 4200) ((ml_364 hM)) (by omega) (by omega) (v := o1) (hvx) (fun r44 => ?_)
                refine wb_l2i_r (wb_l2i_id ⟨(by omega), (by omega)⟩) ?_
                refine wa_istore_n (n := 3) rfl ?_
                refine wa_aload_n (n := 0) rfl ?_
                refine wb_gf4 237 rfl (wy_pr rfl) wt_237 wf_15_138 (v := 363) wl_237_138 ?_
                refine wa_iload_n (n := 2) rfl ?_
                refine wb_iald 363 rfl (wy_pr rfl) wt_363 (n := 4200) ((ml_363 hM)) (by omega) (by omega) (v := ky) (hky) (fun r45 => ?_)
                refine wa_ifne (w_rg0 (by omega) (by omega)) ⟨_, rfl⟩ (fun c46 => ?_) (fun c46 => ?_)
                · skip
                  refine wa_aload_n (n := 0) rfl ?_
                  refine wb_gf4 237 rfl (wy_pr rfl) wt_237 wf_15_139 (v := 364) wl_237_139 ?_
                  refine wa_iload_n (n := 2) rfl ?_
                  refine wb_lald 364 rfl (wy_pr rfl) wt_364 (n := 4200) ((ml_364 hM)) (by omega) (by omega) (v := q) (hvy) (fun r47 => ?_)
                  refine wb_l2i_r (wb_l2i_id ⟨(by omega), (by omega)⟩) ?_
                  refine wa_fall ⟨_, rfl⟩ ?_
                  refine wa_istore (n := 4) rfl ?_
                  refine wa_iload (n := 4) rfl ?_
                  refine wa_istore (n := 5) rfl ?_
                  refine wa_fall ⟨_, rfl⟩ ?_
                  refine wJ_S (rtl (one := one) (oth := oth) (o1 := o1) (q := q) hM ht hH hw hT ⟨by omega, by omega⟩ (T.length + 1) q (cEn_m T.length _ q (Nat.le_succ _) (wSh_en hw (Or.inr hq))) (Or.inr hq) (fun hz => Or.inl ⟨hhm.trans hz, rfl, rfl⟩) (fun hz u2 => ?_)) ⟨rfl, rfl, rfl, rfl, rfl, rfl, trivial⟩
                  have hm0 : hm = 0 := hhm.trans hz
                  refine wa_aload_n (n := 0) rfl ?_
                  refine wb_gf4 237 rfl (wy_pr rfl) wt_237 wf_15_71 (v := 315) wl_237_71 ?_
                  refine wa_iload_n (n := 3) rfl ?_
                  refine wa_aload_n (n := 0) rfl ?_
                  refine wa_iload_n (n := 3) rfl ?_
                  refine wa_iload (n := 4) rfl ?_
                  refine wa_iconst ?_
                  refine wa_cv 237 rfl (wy_pr rfl) wt_237 (M2 := fun _ => False) rfl at_M_rebuilt ⟨_, rfl⟩ rfl rfl ⟨(Or.inr ⟨wy_pr rfl, fun q => q⟩), trivial, trivial, trivial, trivial, trivial, trivial⟩ ⟨trivial, (Or.inr ⟨wy_pr rfl, fun q => q⟩), trivial⟩ (fun _ _ q => False.elim q) (wJ_mono (r_rb (k := o1) (p := q) (wo := -1) hM hH hW hw ho hT h82 (Or.inr hq) (by decide) hu4 hnb) (fun o Z hz => (by rw [g4.1] at hz; rw [hrr]; exact hz : (4000 < S 237 66 + aMb H q (fS (-1) (aNs H (tO T o1).2.1) 0) ∧ o = .inr 238 ∧ hZ 99 S = Z) ∨ (S 237 66 + aMb H q (fS (-1) (aNs H (tO T o1).2.1) 0) ≤ 4000 ∧ o = .inl (some (0, rr)) ∧ rbQ q (-1) o1 sl T H L G S Z)))) (fun oq48 Sq48 hp49 q48 => ?_)
                  rcases q48 with ⟨hno, rfl, rfl⟩ | ⟨hyes, rfl, hrb⟩
                  · skip
                    refine ⟨rfl, ?_⟩
                    exact Or.inr (Or.inl ⟨hm0, hno, rfl, rfl⟩)
                  · skip
                    show wJ _ _ _ _ _ _ _ _ _ _
                    obtain ⟨hrb1, hrb2, hrbM, hrb4, hrbF⟩ := id hrb
                    have hrr0 : 0 ≤ rr ∧ rr < 1000000 := by
                      obtain ⟨b1, ⟨b2, b3⟩, b4, b5, b6, b7, b8, b9⟩ := aBr_ok hw (Or.inr hq) (l := (fS (-1) (aNs H (tO T o1).2.1) 0)) (by omega)
                      have hsh := wSh_sh hw ho
                      have hds := nDs_H hw.1 hw.2.1 _ _ hsh.1 hsh.2 rfl
                      have hrl := aRb_ok (fS (-1) (aNs H (tO T o1).2.1) 0) _ _ b1 b2 b3 b4 (nDs_f _ _ hds.1) (fun x hx => ⟨hds.2 x (fS_m _ _ x hx), fun z => by rw [b5] at z; exact absurd z List.not_mem_nil⟩) (by omega)
                      have hll := hrl.1.1.2.1
                      rw [hrr]; have := hrl.2.1; omega
                    have hlen : (aBr T H q).1.length = T.length := (aBr_ok (l := (fS (-1) (aNs H (tO T o1).2.1) 0)) hw (Or.inr hq) (by omega)).2.2.2.2.2.2.2
                    have hA3 := r_th hrb2.1 (k := o1) ho0.1 (by rw [hlen]; exact ho0.2)
                    have hA22 : Sq48 322 o1 = (if ep = -1 then 0 else 1) := by rw [hepe]; exact hA3.2.2.2.2.2.1
                    have hA23 : ep ≠ -1 → Sq48 323 o1 = ep := by rw [hepe]; exact hA3.2.2.2.2.2.2.1
                    refine wb_iast 315 rfl (wy_pr rfl) wt_315 (n := 8000) ((ml_315 hrbM)) (by omega) (by omega) ⟨(by omega), (by omega)⟩ ?_
                    refine wa_aload_n (n := 0) rfl ?_
                    refine wa_iload_n (n := 3) rfl ?_
                    refine wa_cv 237 rfl (wy_pr rfl) wt_237 (M2 := fun _ => False) rfl at_M_changed ⟨_, rfl⟩ rfl rfl ⟨(Or.inr ⟨wy_pr rfl, fun q => q⟩), trivial, trivial, trivial, trivial, trivial, trivial⟩ trivial (fun _ _ q => False.elim q) (r_cg (S := (w_up Sq48 315 o1 rr)) (k := o1) (e := ep) (ch := S 237 81) (w_ML_up hrbM (by omega)) ⟨by omega, by omega⟩ ((w_up_slot (by decide)).trans hA22) (fun z => (w_up_slot (by decide)).trans (hA23 z)) hpe ((w_up_slot (by decide)).trans ((hrbF 237 81 (by unfold rMr; omega)))) hch) (fun oq50 Sq50 hp51 q50 => ?_)
                    rcases q50 with ⟨rfl, rfl⟩
                    show wJ _ _ _ _ _ _ _ _ _ _
                    refine wa_return rfl ?_
                    exact Or.inr (Or.inr ⟨hm0, hyes, rfl, Sq48, hrb, rfl⟩)
                · skip
                  exact absurd c46 (by omega)
              · skip
                exact absurd c43 (by omega)
end Wfn
