/-! PART fl: turn of the class. -/
section Wfl
variable {xs : List (Nat × List Int32)} {M : Nat → Prop} {d : Nat} {S S0 Z A B : wS} {H : List aH} {T : List aO} {L : List aC} {G : Int → aV} {Q : wO → wS → Prop}
/-- a thing has another shape, and its change is noted -/
def ncZ (o1 r ep ch : Int) (A : wS) : wS := (if ep = -1 then (w_up A 128 o1 r) else w_up (w_up (w_up (w_up A 128 o1 r) 130 o1 (ep + 1)) 72 11 (ch + 1)) 131 o1 (ch + 1))
theorem hMe_01 {Pr : Int → Int} {o : Int} : ∀ (f : Nat) (u : Int), hMe Pr o f u = 0 ∨ hMe Pr o f u = 1
  | 0, _ => Or.inl rfl
  | f + 1, u => by
    show (if u = -1 then 0 else if u = o then 1 else hMe Pr o f (Pr u)) = 0 ∨ (if u = -1 then 0 else if u = o then 1 else hMe Pr o f (Pr u)) = 1
    by_cases c : u = -1
    · rw [if_pos c]; exact Or.inl rfl
    · rw [if_neg c]
      by_cases c2 : u = o
      · rw [if_pos c2]; exact Or.inr rfl
      · rw [if_neg c2]; exact hMe_01 f (Pr u)
theorem ncZ_e {o1 r ep ch : Int} (j : Nat) (x : Int) (h1 : j ≠ 128 ∧ j ≠ 130 ∧ j ≠ 131) (h2 : j ≠ 72 ∨ x ≠ 11) : ncZ o1 r ep ch A j x = A j x := by
  unfold ncZ
  by_cases c : ep = -1
  · rw [if_pos c]; exact w_up_no (by omega)
  · rw [if_neg c]; exact (w_up_no (by omega)).trans ((w_up_no (by omega)).trans ((w_up_no (by omega)).trans (w_up_no (by omega))))
theorem ncZ_g {o1 r ep ch : Int} (h : gI A) (ho : 0 ≤ o1) : gI (ncZ o1 r ep ch A) := by
  unfold ncZ
  by_cases c : ep = -1
  · rw [if_pos c]; exact gI_up h ho (by omega) (by omega)
  · rw [if_neg c]; exact gI_up (gI_up (gI_up (gI_up h ho (by omega) (by omega)) ho (by omega) (by omega)) (by omega) (by omega) (by omega)) ho (by omega) (by omega)
theorem ncZ_c {o1 r ep ch : Int} (h : w_CL A) (ho : 0 ≤ o1) : w_CL (ncZ o1 r ep ch A) := by
  unfold ncZ
  by_cases c : ep = -1
  · rw [if_pos c]; exact w_CL_up h ho
  · rw [if_neg c]; exact w_CL_up (w_CL_up (w_CL_up (w_CL_up h ho) ho) (by omega)) ho
theorem aBr_ep {q o1 m : Int} (hw : wSh T H) (hq : q = -1 ∨ isO T q) (ho : isO T o1) (hep : ∀ k : Int, isO T k → (tO T k).2.2.2.2.1 ≤ m) (hm : 0 ≤ m ∧ m ≤ 9000000) : -1 ≤ (tO (aBr T H q).1 o1).2.2.2.2.1 ∧ (tO (aBr T H q).1 o1).2.2.2.2.1 ≤ 9000001 := by
  have e0 := hep o1 ho
  have e1 : (tO T o1).2.2.2.2.1 = -1 ∨ 0 ≤ (tO T o1).2.2.2.2.1 := (hw.2.2.1 o1.toNat (by have := ho.1; omega)).2.2.2
  unfold aBr
  split
  · show -1 ≤ (tO T o1).2.2.2.2.1 ∧ (tO T o1).2.2.2.2.1 ≤ 9000001
    omega
  · rename_i c
    have hq1 := hq.elim (fun z => absurd z c) id
    split
    · show -1 ≤ (tO (tEp T q 0) o1).2.2.2.2.1 ∧ (tO (tEp T q 0) o1).2.2.2.2.1 ≤ 9000001
      rw [(tEp_f (e := 0) hq1.1.1 hq1.1.2 ho.1.1).2.2.2.2.2]
      split <;> omega
    · show -1 ≤ (tO T o1).2.2.2.2.1 ∧ (tO T o1).2.2.2.2.1 ≤ 9000001
      omega
theorem tl_215 {one oth o1 q : Int} (hC : w_CL S) (h : cSw S T H) (ht : cTh S T) (hlt : cLt S T) (hw : wSh T H) (hT : (T.length : Int) ≤ 8000) (ho1 : 0 ≤ o1 ∧ o1 ≤ 8000) (hr0 : (0 ≤ one ∧ one ≤ 100000) ∧ (0 ≤ oth ∧ oth ≤ 100000) ∧ (-1 ≤ q ∧ q ≤ 8000)) : ∀ (f : Nat) (u i : Int), i + (f : Int) = (T.length : Int) + 1 → 0 ≤ i → (u = -1 ∨ isO T u) → (hMe (aPr T H) o1 f u = 1 → Q (.inl none) (w_up S 215 16 12)) → (hMe (aPr T H) o1 f u = 0 → ∀ u2 i2 : Int, wJ (pe_GA xs) wY0 M (d + 1) t_XK_turn ((pe_at t_XK_turn.bl 7).getD (0, [])).2 [(0, (2, 215)), (1, (0, one)), (2, (0, oth)), (3, (0, o1)), (4, (0, q)), (5, (0, u2)), (6, (0, i2))] [] S Q) → wJ (pe_GA xs) wY0 M (d + 1) t_XK_turn ((pe_at t_XK_turn.bl 5).getD (0, [])).2 [(0, (2, 215)), (1, (0, one)), (2, (0, oth)), (3, (0, o1)), (4, (0, q)), (5, (0, u)), (6, (0, i))] [] S Q := by
  obtain ⟨h1, ⟨l1, l2, l3, l4⟩, -, -⟩ := id h
  obtain ⟨hth, t2, t3, t4⟩ := id hlt
  have hn := ht.1
  have hH := hw.1.2.1
  intro f
  induction f with
  | zero =>
    intro u i h0 h2 hu k1 k0
    refine wa_iload (n := 6) rfl ?_
    refine wa_aload_n (n := 0) rfl ?_
    refine wb_gf4 215 rfl (wy_pr rfl) wt_215 wf_8_0 (v := 72) wl_215_0 ?_
    refine wb_gfi 72 rfl (wy_pr rfl) wt_72 wf_2_3 (v := (T.length : Int)) (hn) (fun r1 => ?_)
    refine wa_icmpgt (w_rg0 (by omega) (by omega)) (w_rg0 (by omega) (by omega)) ⟨_, rfl⟩ (fun c2 => ?_) (fun c2 => ?_)
    · skip
      exact wJ_S (k0 rfl _ _) ⟨rfl, rfl, rfl, rfl, rfl, rfl, rfl, trivial⟩
    · skip
      exfalso; omega
  | succ f ih =>
    intro u i h0 h2 hu k1 k0
    by_cases cu : u = -1
    · have e : hMe (aPr T H) o1 (f + 1) u = 0 := if_pos cu
      refine wa_iload (n := 6) rfl ?_
      refine wa_aload_n (n := 0) rfl ?_
      refine wb_gf4 215 rfl (wy_pr rfl) wt_215 wf_8_0 (v := 72) wl_215_0 ?_
      refine wb_gfi 72 rfl (wy_pr rfl) wt_72 wf_2_3 (v := (T.length : Int)) (hn) (fun r101 => ?_)
      refine wa_icmpgt (w_rg0 (by omega) (by omega)) (w_rg0 (by omega) (by omega)) ⟨_, rfl⟩ (fun c102 => ?_) (fun c102 => ?_)
      · skip
        exfalso; omega
      · skip
        refine wa_iload (n := 5) rfl ?_
        refine wa_iconst ?_
        refine wa_icmpeq (w_rg0 (by omega) (by omega)) (w_rg0 (by omega) (by omega)) ⟨_, rfl⟩ (fun c103 => ?_) (fun c103 => ?_)
        · skip
          exact wJ_S (k0 e _ _) ⟨rfl, rfl, rfl, rfl, rfl, rfl, rfl, trivial⟩
        · skip
          exfalso; omega
    have hu1 : isO T u := hu.elim (fun z => absurd z cu) id
    have hu0 := hu1.1
    obtain ⟨e1, e2, e3⟩ := hIx_o (nm := 0) h1 ht hw hu1
    have hpr := wSh_pr hw hu1
    have hpg : -1 ≤ aPr T H u ∧ aPr T H u < (T.length : Int) := by rcases hpr with z | z; omega; have := z.1; omega
    refine wa_iload (n := 6) rfl ?_
    refine wa_aload_n (n := 0) rfl ?_
    refine wb_gf4 215 rfl (wy_pr rfl) wt_215 wf_8_0 (v := 72) wl_215_0 ?_
    refine wb_gfi 72 rfl (wy_pr rfl) wt_72 wf_2_3 (v := (T.length : Int)) (hn) (fun r201 => ?_)
    refine wa_icmpgt (w_rg0 (by omega) (by omega)) (w_rg0 (by omega) (by omega)) ⟨_, rfl⟩ (fun c202 => ?_) (fun c202 => ?_)
    · skip
      exfalso; omega
    · skip
      refine wa_iload (n := 5) rfl ?_
      refine wa_iconst ?_
      refine wa_icmpeq (w_rg0 (by omega) (by omega)) (w_rg0 (by omega) (by omega)) ⟨_, rfl⟩ (fun c203 => ?_) (fun c203 => ?_)
      · skip
        exfalso; omega
      · skip
        refine wa_iload (n := 5) rfl ?_
        refine wa_iload_n (n := 3) rfl ?_
        refine wa_icmpne (w_rg0 (by omega) (by omega)) (w_rg0 (by omega) (by omega)) ⟨_, rfl⟩ (fun c204 => ?_) (fun c204 => ?_)
        · skip
          refine wa_aload_n (n := 0) rfl ?_
          refine wb_gf4 215 rfl (wy_pr rfl) wt_215 wf_8_0 (v := 72) wl_215_0 ?_
          refine wa_iload (n := 5) rfl ?_
          refine wa_cv 72 rfl (wy_pr rfl) wt_72 (M2 := fun _ => False) rfl at_XH_protoOf ⟨_, rfl⟩ rfl rfl ⟨(Or.inr ⟨wy_pr rfl, fun q => q⟩), trivial, trivial, trivial, trivial, trivial, trivial, trivial⟩ trivial (fun _ _ q => False.elim q) ?_ (fun _ _ _ q => q)
          refine wa_aload_n (n := 0) rfl ?_
          refine wb_gf4 72 rfl (wy_pr rfl) wt_72 wf_2_7 (v := 143) wl_72_7 ?_
          refine wa_iconst ?_
          refine wb_aald5 143 0 rfl rfl (wy_pr rfl) wt_143 (by rw [show _ = _ from ((cl_143 hC))]; omega) wl_143_0 ?_
          refine wa_aload_n (n := 0) rfl ?_
          refine wb_gf4 72 rfl (wy_pr rfl) wt_72 wf_2_2 (v := 126) wl_72_2 ?_
          refine wa_iconst ?_
          refine wb_aald5 126 1 rfl rfl (wy_pr rfl) wt_126 (by rw [show _ = _ from ((cl_126 hC))]; omega) wl_126_1 ?_
          refine wa_iload_n (n := 1) rfl ?_
          refine wb_iald 128 rfl (wy_pr rfl) wt_128 (n := (S 127 (-1))) ((hth 1 (by decide))) (by omega) (by omega) (v := (S 128 u)) (rfl) (fun r205 => ?_)
          refine wb_iald 144 rfl (wy_pr rfl) wt_144 (n := (S 144 (-1))) (rfl) (by omega) (by omega) (v := (aPr T H u)) (e2) (fun r206 => ?_)
          refine wa_ireturn rfl ?_
          show wJ _ _ _ _ _ _ _ _ _ _
          refine wa_istore (n := 5) rfl ?_
          refine wa_iinc rfl rfl ?_
          refine wa_goto ⟨_, rfl⟩ ?_
          have e : hMe (aPr T H) o1 (f + 1) u = hMe (aPr T H) o1 f (aPr T H u) := (if_neg cu).trans (if_neg (by omega))
          rw [e] at k1 k0
          exact wJ_S (ih (aPr T H u) (i + 1) (by omega) (by omega) hpr k1 k0) ⟨rfl, rfl, rfl, rfl, rfl, rfl, rfl, trivial⟩
        · skip
          refine wa_aload_n (n := 0) rfl ?_
          refine wa_bipush (w_rg2 (by omega) (by omega)) ?_
          refine wb_pfi 215 rfl (wy_pr rfl) wt_215 wf_8_16 (n := 16) rfl ⟨(by omega), (by omega)⟩ ?_
          refine wa_return rfl ?_
          exact k1 ((if_neg cu).trans (if_pos (by omega)))
set_option maxHeartbeats 4000000 in
theorem tu0_215 {c p h kx o1 vy : Int} (hP : xP 215 c p h S) (hx1 : pe_at (pe_GA xs).xs 1 = some (1, tx_1)) (hky : S 217 (h - 1) = 0) (hvy : S 218 (h - 1) = vy) (hkx : S 217 (h - 1 - 1) = kx) (hvx : S 218 (h - 1 - 1) = o1) (hh1 : 2 ≤ h) (hkx45 : kx = 4 ∨ kx = 5) (ho : isO T o1) (hW : cWd S T L G) (hsw : cSw S T H) (hw : wSh T H) (hT : (T.length : Int) ≤ 8000) (hu4 : 0 ≤ S 150 4 ∧ S 150 4 ≤ 4000 ∧ (H.length : Int) ≤ S 150 4 + 1) (hnb : ∀ s : Int, 0 ≤ s → s < (H.length : Int) → qNm H s ≤ 100000) (hch : 0 ≤ S 72 11 ∧ S 72 11 ≤ 9000000) (hep : ∀ k : Int, isO T k → (tO T k).2.2.2.2.1 ≤ S 72 11) (h56 : S 156 (-1) = 65) : wJ (pe_GA xs) wY0 (mS [217, 218, 144, 145, 146, 147, 148]) (d + 10) t_XK_turn ((pe_at t_XK_turn.bl 0).getD (0, [])).2 [(0, (2, 215)), (1, (0, (h - 1) - 1)), (2, (0, h - 1))] [] S (fun o Z => o = .inl none ∧ ((hMe (aPr T H) o1 (T.length + 1) (-1) = 1 ∧ w_up S 215 16 12 = Z) ∨ (hMe (aPr T H) o1 (T.length + 1) (-1) = 0 ∧ 4000 < S 150 4 + aMb H (-1) (fS (-1) (aNs H (tO T o1).2.1) 0) ∧ ∃ A : wS, oF S A ∧ w_up A 215 16 99 = Z) ∨ (hMe (aPr T H) o1 (T.length + 1) (-1) = 0 ∧ S 150 4 + aMb H (-1) (fS (-1) (aNs H (tO T o1).2.1) 0) ≤ 4000 ∧ ∃ A : wS, reQ (-1) (-1) o1 T H L G S A ∧ sO 215 h c p 2 kx o1 (ncZ o1 (aRb (-1) (fS (-1) (aNs H (tO T o1).2.1) 0) (aBr T H (-1)).2.1 (aBr T H (-1)).2.2).2 (A 130 o1) (A 72 11) A) Z))) := by
  obtain ⟨⟨hC, hI⟩, ⟨bc, bc0, bc1⟩, ⟨bp, bp0, bp1⟩, ⟨bh, bh0, bh1, bh2⟩, bl1, bl2, bl3⟩ := id hP
  replace bp : S 220 (c - 1) = p := bp
  replace bh : S 216 2 = h := bh
  replace bh2 : h ≤ S 217 (-1) := bh2
  replace bl1 : S 218 (-1) = S 217 (-1) := bl1
  replace bl2 : 64 ≤ S 217 (-1) := bl2
  replace bl3 : S 217 (-1) ≤ 4095 := bl3
  have hg : wG = 1000000 := rfl
  obtain ⟨ht, -, -, -, hlt, -⟩ := id hW
  have ho0 := ho.1
  obtain ⟨hm, hhm⟩ : ∃ hm : Int, hm = hMe (aPr T H) o1 (T.length + 1) (-1) := ⟨_, rfl⟩
  have hm01 : hm = 0 ∨ hm = 1 := by rw [hhm]; exact hMe_01 _ _
  rw [← hhm]
  obtain ⟨rr, hrr⟩ : ∃ rr : Int, rr = (aRb (-1) (fS (-1) (aNs H (tO T o1).2.1) 0) (aBr T H (-1)).2.1 (aBr T H (-1)).2.2).2 := ⟨_, rfl⟩
  rw [← hrr]
  refine wa_aload_n (n := 0) rfl ?_
  refine wa_iload_n (n := 1) rfl ?_
  refine wa_cv 215 rfl (wy_pr rfl) wt_215 (M2 := mS [217, 218, 144, 145, 146, 147, 148]) rfl at_XK_isHolder ⟨_, rfl⟩ rfl rfl ⟨(Or.inr ⟨wy_pr rfl, mS_no rfl⟩), trivial, trivial, trivial⟩ trivial (fun _ _ q => q) ?_ (fun _ _ _ q => q)
  refine wa_aload_n (n := 0) rfl ?_
  refine wb_gf4 215 rfl (wy_pr rfl) wt_215 wf_8_3 (v := 216) wl_215_3 ?_
  refine wb_gf4 216 rfl (wy_pr rfl) wt_216 wf_7_0 (v := 217) wl_216_0 ?_
  refine wa_iload_n (n := 1) rfl ?_
  refine wb_bald 217 rfl (wy_pr rfl) wt_217 (n := (S 217 (-1))) (rfl) (by omega) (by omega) (v := kx) (hkx) (fun r1 => ?_)
  refine wa_iconst ?_
  refine wa_icmpeq (w_rg0 (by omega) (by omega)) (w_rg0 (by omega) (by omega)) ⟨_, rfl⟩ (fun c2 => ?_) (fun c2 => ?_)
  · skip
    refine wa_iconst ?_
    refine wa_goto ⟨_, rfl⟩ ?_
    refine wa_zreturn rfl (Or.inr rfl) ?_
    show wJ _ _ _ _ _ _ _ _ _ _
    refine wa_ifeq (w_rg0 (by omega) (by omega)) ⟨_, rfl⟩ (fun c3 => ?_) (fun c3 => ?_)
    · skip
      exact absurd c3 (by omega)
    · skip
      refine wa_aload_n (n := 0) rfl ?_
      refine wa_iload_n (n := 2) rfl ?_
      refine wa_cv 215 rfl (wy_pr rfl) wt_215 (M2 := mS [217, 218, 144, 145, 146, 147, 148]) rfl at_XK_isPrototype ⟨_, rfl⟩ rfl rfl ⟨(Or.inr ⟨wy_pr rfl, mS_no rfl⟩), trivial, trivial, trivial⟩ trivial (fun _ _ q => q) ?_ (fun _ _ _ q => q)
      refine wa_aload_n (n := 0) rfl ?_
      refine wb_gf4 215 rfl (wy_pr rfl) wt_215 wf_8_3 (v := 216) wl_215_3 ?_
      refine wb_gf4 216 rfl (wy_pr rfl) wt_216 wf_7_0 (v := 217) wl_216_0 ?_
      refine wa_iload_n (n := 1) rfl ?_
      refine wb_bald 217 rfl (wy_pr rfl) wt_217 (n := (S 217 (-1))) (rfl) (by omega) (by omega) (v := 0) (hky) (fun r4 => ?_)
      refine wa_ifeq (w_rg0 (by omega) (by omega)) ⟨_, rfl⟩ (fun c5 => ?_) (fun c5 => ?_)
      · skip
        refine wa_iconst ?_
        refine wa_goto ⟨_, rfl⟩ ?_
        refine wa_zreturn rfl (Or.inr rfl) ?_
        show wJ _ _ _ _ _ _ _ _ _ _
        refine wa_ifne (w_rg0 (by omega) (by omega)) ⟨_, rfl⟩ (fun c6 => ?_) (fun c6 => ?_)
        · skip
          refine wa_aload_n (n := 0) rfl ?_
          refine wb_gf4 215 rfl (wy_pr rfl) wt_215 wf_8_3 (v := 216) wl_215_3 ?_
          refine wb_gf4 216 rfl (wy_pr rfl) wt_216 wf_7_1 (v := 218) wl_216_1 ?_
          refine wa_iload_n (n := 1) rfl ?_
          refine wb_lald 218 rfl (wy_pr rfl) wt_218 (n := (S 217 (-1))) (bl1) (by omega) (by omega) (v := o1) (hvx) (fun r7 => ?_)
          refine wb_l2i_r (wb_l2i_id ⟨(by omega), (by omega)⟩) ?_
          refine wa_istore_n (n := 3) rfl ?_
          refine wa_aload_n (n := 0) rfl ?_
          refine wb_gf4 215 rfl (wy_pr rfl) wt_215 wf_8_3 (v := 216) wl_215_3 ?_
          refine wb_gf4 216 rfl (wy_pr rfl) wt_216 wf_7_0 (v := 217) wl_216_0 ?_
          refine wa_iload_n (n := 2) rfl ?_
          refine wb_bald 217 rfl (wy_pr rfl) wt_217 (n := (S 217 (-1))) (rfl) (by omega) (by omega) (v := 0) (hky) (fun r8 => ?_)
          refine wa_ifne (w_rg0 (by omega) (by omega)) ⟨_, rfl⟩ (fun c9 => ?_) (fun c9 => ?_)
          · skip
            exact absurd c9 (by omega)
          · skip
            refine wa_iconst ?_
            refine wa_goto ⟨_, rfl⟩ ?_
            refine wa_istore (n := 4) rfl ?_
            refine wa_iload (n := 4) rfl ?_
            refine wa_istore (n := 5) rfl ?_
            refine wa_iconst ?_
            refine wa_istore (n := 6) rfl ?_
            refine wa_fall ⟨_, rfl⟩ ?_
            refine wJ_S (tl_215 (one := (h - 1) - 1) (oth := h - 1) (o1 := o1) (q := (-1)) hC hsw ht hlt hw hT ⟨by omega, by omega⟩ ⟨⟨by omega, by omega⟩, ⟨by omega, by omega⟩, by omega, by omega⟩ (T.length + 1) (-1) 0 (by omega) (by omega) (Or.inl rfl) (fun hz => ⟨rfl, Or.inl ⟨hhm.trans hz, rfl⟩⟩) (fun hz u2 i2 => ?_)) ⟨rfl, rfl, rfl, rfl, rfl, rfl, rfl, trivial⟩
            have hm0 : hm = 0 := hhm.trans hz
            refine wa_aload_n (n := 0) rfl ?_
            refine wb_gf4 215 rfl (wy_pr rfl) wt_215 wf_8_0 (v := 72) wl_215_0 ?_
            refine wa_iload_n (n := 3) rfl ?_
            refine wa_iload (n := 4) rfl ?_
            refine wa_iconst ?_
            refine wa_cv 72 rfl (wy_pr rfl) wt_72 (M2 := mS [144, 145, 146, 147, 148]) rfl at_XH_reshaped ⟨_, rfl⟩ rfl rfl ⟨(Or.inr ⟨wy_pr rfl, mS_no rfl⟩), trivial, trivial, trivial, trivial, trivial, trivial, trivial⟩ trivial (fun _ _ q => mS_sub (by decide) q) (wJ_mono (c_re0 (k := o1) (wo := -1) hC hI hx1 hW hsw hw ho (by decide) hu4 hnb h56) (fun o Z hz => (by rw [hrr]; exact hz : (o = .inl (some (0, -1)) ∧ 4000 < S 150 4 + aMb H (-1) (fS (-1) (aNs H (tO T o1).2.1) 0) ∧ oF S Z) ∨ (S 150 4 + aMb H (-1) (fS (-1) (aNs H (tO T o1).2.1) 0) ≤ 4000 ∧ o = .inl (some (0, rr)) ∧ reQ (-1) (-1) o1 T H L G S Z)))) (fun oq10 Sq10 hp11 q10 => ?_)
            rcases q10 with ⟨rfl, hno, hoF⟩ | ⟨hyes, rfl, hre⟩
            · skip
              show wJ _ _ _ _ _ _ _ _ _ _
              refine wa_istore (n := 6) rfl ?_
              refine wa_iload (n := 6) rfl ?_
              refine wa_iconst ?_
              refine wa_icmpne (w_rg0 (by omega) (by omega)) (w_rg0 (by omega) (by omega)) ⟨_, rfl⟩ (fun c12 => ?_) (fun c12 => ?_)
              · skip
                exact absurd c12 (by omega)
              · skip
                refine wa_aload_n (n := 0) rfl ?_
                refine wa_bipush (w_rg2 (by omega) (by omega)) ?_
                refine wb_pfi 215 rfl (wy_pr rfl) wt_215 wf_8_16 (n := 16) rfl ⟨(by omega), (by omega)⟩ ?_
                refine wa_return rfl ?_
                exact ⟨rfl, Or.inr (Or.inl ⟨hm0, hno, Sq10, hoF, rfl⟩)⟩
            · skip
              show wJ _ _ _ _ _ _ _ _ _ _
              obtain ⟨hre1, hre2, ⟨hreC, hreG, hreR⟩, hre4, hreF⟩ := id hre
              have hreL := hre2.2.2.2.2.1
              have hrr0 : 0 ≤ rr ∧ rr < 1000000 := by
                obtain ⟨b1, ⟨b2, b3⟩, b4, b5, b6, b7, b8, b9⟩ := aBr_ok hw (Or.inl rfl) (l := (fS (-1) (aNs H (tO T o1).2.1) 0)) (by omega)
                have hsh := wSh_sh hw ho
                have hds := nDs_H hw.1 hw.2.1 _ _ hsh.1 hsh.2 rfl
                have hrl := aRb_ok (fS (-1) (aNs H (tO T o1).2.1) 0) _ _ b1 b2 b3 b4 (nDs_f _ _ hds.1) (fun x hx => ⟨hds.2 x (fS_m _ _ x hx), fun z => by rw [b5] at z; exact absurd z List.not_mem_nil⟩) (by omega)
                have hll := hrl.1.1.2.1
                rw [hrr]; have := hrl.2.1; omega
              have hlen : (aBr T H (-1)).1.length = T.length := (aBr_ok (l := (fS (-1) (aNs H (tO T o1).2.1) 0)) hw (Or.inl rfl) (by omega)).2.2.2.2.2.2.2
              have hL2 := hreL.2
              rw [hlen] at hL2
              have hA3 := (c_th hre2.1 (k := o1) ho0.1 (by rw [hlen]; exact ho0.2)).1
              have hepA : -1 ≤ Sq10 130 o1 ∧ Sq10 130 o1 ≤ 9000001 := by rw [hA3.2.2.2.2.1]; exact aBr_ep hw (Or.inl rfl) ho hep hch
              refine wa_istore (n := 6) rfl ?_
              refine wa_iload (n := 6) rfl ?_
              refine wa_iconst ?_
              refine wa_icmpne (w_rg0 (by omega) (by omega)) (w_rg0 (by omega) (by omega)) ⟨_, rfl⟩ (fun c13 => ?_) (fun c13 => ?_)
              · skip
                refine wa_aload_n (n := 0) rfl ?_
                refine wb_gf4 215 rfl (wy_pr rfl) wt_215 wf_8_0 (v := 72) wl_215_0 ?_
                refine wb_gf4 72 rfl (wy_pr rfl) wt_72 wf_2_2 (v := 126) wl_72_2 ?_
                refine wa_iconst ?_
                refine wb_aald5 126 1 rfl rfl (wy_pr rfl) wt_126 (by rw [show _ = _ from (((hreF 126 (-1) (by decide) (by decide) (by unfold cMr; omega)).trans ((cl_126 hC))))]; omega) wl_126_1 ?_
                refine wa_iload_n (n := 3) rfl ?_
                refine wa_iload (n := 6) rfl ?_
                refine wb_iast 128 rfl (wy_pr rfl) wt_128 (n := (Sq10 127 (-1))) ((hreL.1 1 (by decide))) (by omega) (by omega) ⟨(by omega), (by omega)⟩ ?_
                refine wa_aload_n (n := 0) rfl ?_
                refine wb_gf4 215 rfl (wy_pr rfl) wt_215 wf_8_0 (v := 72) wl_215_0 ?_
                refine wa_iload_n (n := 3) rfl ?_
                have e72 : (w_up Sq10 128 o1 rr) 72 11 = S 72 11 := ((w_up_slot (by first | decide | omega)).trans ((hreF 72 11 (by first | decide | omega) (by first | decide | omega) (by unfold cMr; omega))))
                have e130 : (w_up Sq10 128 o1 rr) 130 o1 = Sq10 130 o1 := w_up_slot (by first | decide | omega)
                have eA72 : Sq10 72 11 = S 72 11 := hreF 72 11 (by first | decide | omega) (by first | decide | omega) (by unfold cMr; omega)
                have eL : ∀ x : Nat, x < 10 → (w_up Sq10 128 o1 rr) (127 + x) (-1) = (w_up Sq10 128 o1 rr) 127 (-1) := fun x hx => (w_up_no (by omega)).trans ((hreL.1 x hx).trans (w_up_no (by omega)).symm)
                have eL7 : (w_up Sq10 128 o1 rr) 127 (-1) = Sq10 127 (-1) := w_up_no (by omega)
                refine wa_cv 72 rfl (wy_pr rfl) wt_72 (M2 := mS []) rfl at_XH_noteChange ⟨_, rfl⟩ rfl rfl ⟨trivial, (Or.inr ⟨wy_pr rfl, mS_no rfl⟩), trivial, trivial, trivial, trivial, trivial, trivial⟩ trivial (fun _ _ q => mS_sub (by decide) q) (wJ_mono (nc_ok (S := (w_up Sq10 128 o1 rr)) (k := o1) (ep := Sq10 130 o1) (ch := Sq10 72 11) eL ⟨by omega, by omega⟩ (by omega) e130 ⟨hepA.1, by omega⟩ (e72.trans eA72.symm) ⟨by omega, by omega⟩ (w_CL_up hreC (by omega))) (fun o Z hz => (⟨hz.1, hz.2⟩ : o = .inl none ∧ ncZ o1 rr (Sq10 130 o1) (Sq10 72 11) Sq10 = Z))) (fun oq14 Sq14 hp15 q14 => ?_)
                rcases q14 with ⟨rfl, rfl⟩
                show wJ _ _ _ _ _ _ _ _ _ _
                refine wa_aload_n (n := 0) rfl ?_
                refine wa_iconst ?_
                refine wa_aload_n (n := 0) rfl ?_
                refine wb_gf4 215 rfl (wy_pr rfl) wt_215 wf_8_3 (v := 216) wl_215_3 ?_
                refine wb_gf4 216 rfl (wy_pr rfl) wt_216 wf_7_0 (v := 217) wl_216_0 ?_
                refine wa_iload_n (n := 1) rfl ?_
                refine wb_bald 217 rfl (wy_pr rfl) wt_217 (n := (S 217 (-1))) (((ncZ_e 217 (-1) (by decide) (by omega)).trans (((hreF 217 (-1) (by decide) (by decide) (by unfold cMr; omega)).trans (rfl))))) (by omega) (by omega) (v := kx) (((ncZ_e 217 ((h - 1) - 1) (by decide) (by omega)).trans (((hreF 217 ((h - 1) - 1) (by decide) (by decide) (by unfold cMr; omega)).trans (hkx))))) (fun r16 => ?_)
                refine wa_iload_n (n := 3) rfl ?_
                refine wa_i2l (w_rg0 (by omega) (by omega)) ?_
                refine wa_cv 215 rfl (wy_pr rfl) wt_215 (M2 := mS [217, 218]) rfl at_XK_give ⟨_, rfl⟩ rfl rfl ⟨trivial, (Or.inr ⟨wy_pr rfl, mS_no rfl⟩), trivial, trivial, trivial, trivial, trivial, trivial⟩ trivial (fun _ _ q => mS_sub (by decide) q) (gw_215 (S := (ncZ o1 rr (Sq10 130 o1) (Sq10 72 11) Sq10)) (n := 2) (k := kx) (v := o1) (h := h) (c := c) (p := p) (ln := (S 217 (-1))) (ncZ_c hreC (by omega)) (ncZ_g hreG (by omega)) ⟨by omega, by omega⟩ ⟨by omega, by omega⟩ (((ncZ_e 216 2 (by decide) (by omega)).trans (((hreF 216 2 (by decide) (by decide) (by unfold cMr; omega)).trans (bh))))) (((ncZ_e 215 4 (by decide) (by omega)).trans (((hreF 215 4 (by decide) (by decide) (by unfold cMr; omega)).trans (bc))))) (((ncZ_e 220 (c - 1) (by decide) (by omega)).trans (((hreF 220 (c - 1) (by decide) (by decide) (by unfold cMr; omega)).trans (bp))))) (((ncZ_e 217 (-1) (by decide) (by omega)).trans (((hreF 217 (-1) (by decide) (by decide) (by unfold cMr; omega)).trans (rfl))))) (((ncZ_e 218 (-1) (by decide) (by omega)).trans (((hreF 218 (-1) (by decide) (by decide) (by unfold cMr; omega)).trans (bl1))))) ⟨by omega, by omega⟩ ⟨by omega, by omega, by omega⟩ ⟨by omega, by omega⟩ ⟨by omega, by omega⟩) (fun oq17 Sq17 hp18 q17 => ?_)
                rcases q17 with ⟨rfl, A17, ra17, rfl⟩
                show wJ _ _ _ _ _ _ _ _ _ _
                refine wa_return rfl ?_
                exact ⟨rfl, Or.inr (Or.inr ⟨hm0, hyes, Sq10, hre, A17, ra17, rfl⟩)⟩
              · skip
                exact absurd c13 (by omega)
        · skip
          exact absurd c6 (by omega)
      · skip
        exact absurd c5 (by omega)
  · skip
    refine wa_aload_n (n := 0) rfl ?_
    refine wb_gf4 215 rfl (wy_pr rfl) wt_215 wf_8_3 (v := 216) wl_215_3 ?_
    refine wb_gf4 216 rfl (wy_pr rfl) wt_216 wf_7_0 (v := 217) wl_216_0 ?_
    refine wa_iload_n (n := 1) rfl ?_
    refine wb_bald 217 rfl (wy_pr rfl) wt_217 (n := (S 217 (-1))) (rfl) (by omega) (by omega) (v := kx) (hkx) (fun r19 => ?_)
    refine wa_iconst ?_
    refine wa_icmpne (w_rg0 (by omega) (by omega)) (w_rg0 (by omega) (by omega)) ⟨_, rfl⟩ (fun c20 => ?_) (fun c20 => ?_)
    · skip
      exact absurd c20 (by omega)
    · skip
      refine wa_fall ⟨_, rfl⟩ ?_
      refine wa_iconst ?_
      refine wa_goto ⟨_, rfl⟩ ?_
      refine wa_zreturn rfl (Or.inr rfl) ?_
      show wJ _ _ _ _ _ _ _ _ _ _
      refine wa_ifeq (w_rg0 (by omega) (by omega)) ⟨_, rfl⟩ (fun c21 => ?_) (fun c21 => ?_)
      · skip
        exact absurd c21 (by omega)
      · skip
        refine wa_aload_n (n := 0) rfl ?_
        refine wa_iload_n (n := 2) rfl ?_
        refine wa_cv 215 rfl (wy_pr rfl) wt_215 (M2 := mS [217, 218, 144, 145, 146, 147, 148]) rfl at_XK_isPrototype ⟨_, rfl⟩ rfl rfl ⟨(Or.inr ⟨wy_pr rfl, mS_no rfl⟩), trivial, trivial, trivial⟩ trivial (fun _ _ q => q) ?_ (fun _ _ _ q => q)
        refine wa_aload_n (n := 0) rfl ?_
        refine wb_gf4 215 rfl (wy_pr rfl) wt_215 wf_8_3 (v := 216) wl_215_3 ?_
        refine wb_gf4 216 rfl (wy_pr rfl) wt_216 wf_7_0 (v := 217) wl_216_0 ?_
        refine wa_iload_n (n := 1) rfl ?_
        refine wb_bald 217 rfl (wy_pr rfl) wt_217 (n := (S 217 (-1))) (rfl) (by omega) (by omega) (v := 0) (hky) (fun r22 => ?_)
        refine wa_ifeq (w_rg0 (by omega) (by omega)) ⟨_, rfl⟩ (fun c23 => ?_) (fun c23 => ?_)
        · skip
          refine wa_iconst ?_
          refine wa_goto ⟨_, rfl⟩ ?_
          refine wa_zreturn rfl (Or.inr rfl) ?_
          show wJ _ _ _ _ _ _ _ _ _ _
          refine wa_ifne (w_rg0 (by omega) (by omega)) ⟨_, rfl⟩ (fun c24 => ?_) (fun c24 => ?_)
          · skip
            refine wa_aload_n (n := 0) rfl ?_
            refine wb_gf4 215 rfl (wy_pr rfl) wt_215 wf_8_3 (v := 216) wl_215_3 ?_
            refine wb_gf4 216 rfl (wy_pr rfl) wt_216 wf_7_1 (v := 218) wl_216_1 ?_
            refine wa_iload_n (n := 1) rfl ?_
            refine wb_lald 218 rfl (wy_pr rfl) wt_218 (n := (S 217 (-1))) (bl1) (by omega) (by omega) (v := o1) (hvx) (fun r25 => ?_)
            refine wb_l2i_r (wb_l2i_id ⟨(by omega), (by omega)⟩) ?_
            refine wa_istore_n (n := 3) rfl ?_
            refine wa_aload_n (n := 0) rfl ?_
            refine wb_gf4 215 rfl (wy_pr rfl) wt_215 wf_8_3 (v := 216) wl_215_3 ?_
            refine wb_gf4 216 rfl (wy_pr rfl) wt_216 wf_7_0 (v := 217) wl_216_0 ?_
            refine wa_iload_n (n := 2) rfl ?_
            refine wb_bald 217 rfl (wy_pr rfl) wt_217 (n := (S 217 (-1))) (rfl) (by omega) (by omega) (v := 0) (hky) (fun r26 => ?_)
            refine wa_ifne (w_rg0 (by omega) (by omega)) ⟨_, rfl⟩ (fun c27 => ?_) (fun c27 => ?_)
            · skip
              exact absurd c27 (by omega)
            · skip
              refine wa_iconst ?_
              refine wa_goto ⟨_, rfl⟩ ?_
              refine wa_istore (n := 4) rfl ?_
              refine wa_iload (n := 4) rfl ?_
              refine wa_istore (n := 5) rfl ?_
              refine wa_iconst ?_
              refine wa_istore (n := 6) rfl ?_
              refine wa_fall ⟨_, rfl⟩ ?_
              refine wJ_S (tl_215 (one := (h - 1) - 1) (oth := h - 1) (o1 := o1) (q := (-1)) hC hsw ht hlt hw hT ⟨by omega, by omega⟩ ⟨⟨by omega, by omega⟩, ⟨by omega, by omega⟩, by omega, by omega⟩ (T.length + 1) (-1) 0 (by omega) (by omega) (Or.inl rfl) (fun hz => ⟨rfl, Or.inl ⟨hhm.trans hz, rfl⟩⟩) (fun hz u2 i2 => ?_)) ⟨rfl, rfl, rfl, rfl, rfl, rfl, rfl, trivial⟩
              have hm0 : hm = 0 := hhm.trans hz
              refine wa_aload_n (n := 0) rfl ?_
              refine wb_gf4 215 rfl (wy_pr rfl) wt_215 wf_8_0 (v := 72) wl_215_0 ?_
              refine wa_iload_n (n := 3) rfl ?_
              refine wa_iload (n := 4) rfl ?_
              refine wa_iconst ?_
              refine wa_cv 72 rfl (wy_pr rfl) wt_72 (M2 := mS [144, 145, 146, 147, 148]) rfl at_XH_reshaped ⟨_, rfl⟩ rfl rfl ⟨(Or.inr ⟨wy_pr rfl, mS_no rfl⟩), trivial, trivial, trivial, trivial, trivial, trivial, trivial⟩ trivial (fun _ _ q => mS_sub (by decide) q) (wJ_mono (c_re0 (k := o1) (wo := -1) hC hI hx1 hW hsw hw ho (by decide) hu4 hnb h56) (fun o Z hz => (by rw [hrr]; exact hz : (o = .inl (some (0, -1)) ∧ 4000 < S 150 4 + aMb H (-1) (fS (-1) (aNs H (tO T o1).2.1) 0) ∧ oF S Z) ∨ (S 150 4 + aMb H (-1) (fS (-1) (aNs H (tO T o1).2.1) 0) ≤ 4000 ∧ o = .inl (some (0, rr)) ∧ reQ (-1) (-1) o1 T H L G S Z)))) (fun oq28 Sq28 hp29 q28 => ?_)
              rcases q28 with ⟨rfl, hno, hoF⟩ | ⟨hyes, rfl, hre⟩
              · skip
                show wJ _ _ _ _ _ _ _ _ _ _
                refine wa_istore (n := 6) rfl ?_
                refine wa_iload (n := 6) rfl ?_
                refine wa_iconst ?_
                refine wa_icmpne (w_rg0 (by omega) (by omega)) (w_rg0 (by omega) (by omega)) ⟨_, rfl⟩ (fun c30 => ?_) (fun c30 => ?_)
                · skip
                  exact absurd c30 (by omega)
                · skip
                  refine wa_aload_n (n := 0) rfl ?_
                  refine wa_bipush (w_rg2 (by omega) (by omega)) ?_
                  refine wb_pfi 215 rfl (wy_pr rfl) wt_215 wf_8_16 (n := 16) rfl ⟨(by omega), (by omega)⟩ ?_
                  refine wa_return rfl ?_
                  exact ⟨rfl, Or.inr (Or.inl ⟨hm0, hno, Sq28, hoF, rfl⟩)⟩
              · skip
                show wJ _ _ _ _ _ _ _ _ _ _
                obtain ⟨hre1, hre2, ⟨hreC, hreG, hreR⟩, hre4, hreF⟩ := id hre
                have hreL := hre2.2.2.2.2.1
                have hrr0 : 0 ≤ rr ∧ rr < 1000000 := by
                  obtain ⟨b1, ⟨b2, b3⟩, b4, b5, b6, b7, b8, b9⟩ := aBr_ok hw (Or.inl rfl) (l := (fS (-1) (aNs H (tO T o1).2.1) 0)) (by omega)
                  have hsh := wSh_sh hw ho
                  have hds := nDs_H hw.1 hw.2.1 _ _ hsh.1 hsh.2 rfl
                  have hrl := aRb_ok (fS (-1) (aNs H (tO T o1).2.1) 0) _ _ b1 b2 b3 b4 (nDs_f _ _ hds.1) (fun x hx => ⟨hds.2 x (fS_m _ _ x hx), fun z => by rw [b5] at z; exact absurd z List.not_mem_nil⟩) (by omega)
                  have hll := hrl.1.1.2.1
                  rw [hrr]; have := hrl.2.1; omega
                have hlen : (aBr T H (-1)).1.length = T.length := (aBr_ok (l := (fS (-1) (aNs H (tO T o1).2.1) 0)) hw (Or.inl rfl) (by omega)).2.2.2.2.2.2.2
                have hL2 := hreL.2
                rw [hlen] at hL2
                have hA3 := (c_th hre2.1 (k := o1) ho0.1 (by rw [hlen]; exact ho0.2)).1
                have hepA : -1 ≤ Sq28 130 o1 ∧ Sq28 130 o1 ≤ 9000001 := by rw [hA3.2.2.2.2.1]; exact aBr_ep hw (Or.inl rfl) ho hep hch
                refine wa_istore (n := 6) rfl ?_
                refine wa_iload (n := 6) rfl ?_
                refine wa_iconst ?_
                refine wa_icmpne (w_rg0 (by omega) (by omega)) (w_rg0 (by omega) (by omega)) ⟨_, rfl⟩ (fun c31 => ?_) (fun c31 => ?_)
                · skip
                  refine wa_aload_n (n := 0) rfl ?_
                  refine wb_gf4 215 rfl (wy_pr rfl) wt_215 wf_8_0 (v := 72) wl_215_0 ?_
                  refine wb_gf4 72 rfl (wy_pr rfl) wt_72 wf_2_2 (v := 126) wl_72_2 ?_
                  refine wa_iconst ?_
                  refine wb_aald5 126 1 rfl rfl (wy_pr rfl) wt_126 (by rw [show _ = _ from (((hreF 126 (-1) (by decide) (by decide) (by unfold cMr; omega)).trans ((cl_126 hC))))]; omega) wl_126_1 ?_
                  refine wa_iload_n (n := 3) rfl ?_
                  refine wa_iload (n := 6) rfl ?_
                  refine wb_iast 128 rfl (wy_pr rfl) wt_128 (n := (Sq28 127 (-1))) ((hreL.1 1 (by decide))) (by omega) (by omega) ⟨(by omega), (by omega)⟩ ?_
                  refine wa_aload_n (n := 0) rfl ?_
                  refine wb_gf4 215 rfl (wy_pr rfl) wt_215 wf_8_0 (v := 72) wl_215_0 ?_
                  refine wa_iload_n (n := 3) rfl ?_
                  have e72 : (w_up Sq28 128 o1 rr) 72 11 = S 72 11 := ((w_up_slot (by first | decide | omega)).trans ((hreF 72 11 (by first | decide | omega) (by first | decide | omega) (by unfold cMr; omega))))
                  have e130 : (w_up Sq28 128 o1 rr) 130 o1 = Sq28 130 o1 := w_up_slot (by first | decide | omega)
                  have eA72 : Sq28 72 11 = S 72 11 := hreF 72 11 (by first | decide | omega) (by first | decide | omega) (by unfold cMr; omega)
                  have eL : ∀ x : Nat, x < 10 → (w_up Sq28 128 o1 rr) (127 + x) (-1) = (w_up Sq28 128 o1 rr) 127 (-1) := fun x hx => (w_up_no (by omega)).trans ((hreL.1 x hx).trans (w_up_no (by omega)).symm)
                  have eL7 : (w_up Sq28 128 o1 rr) 127 (-1) = Sq28 127 (-1) := w_up_no (by omega)
                  refine wa_cv 72 rfl (wy_pr rfl) wt_72 (M2 := mS []) rfl at_XH_noteChange ⟨_, rfl⟩ rfl rfl ⟨trivial, (Or.inr ⟨wy_pr rfl, mS_no rfl⟩), trivial, trivial, trivial, trivial, trivial, trivial⟩ trivial (fun _ _ q => mS_sub (by decide) q) (wJ_mono (nc_ok (S := (w_up Sq28 128 o1 rr)) (k := o1) (ep := Sq28 130 o1) (ch := Sq28 72 11) eL ⟨by omega, by omega⟩ (by omega) e130 ⟨hepA.1, by omega⟩ (e72.trans eA72.symm) ⟨by omega, by omega⟩ (w_CL_up hreC (by omega))) (fun o Z hz => (⟨hz.1, hz.2⟩ : o = .inl none ∧ ncZ o1 rr (Sq28 130 o1) (Sq28 72 11) Sq28 = Z))) (fun oq32 Sq32 hp33 q32 => ?_)
                  rcases q32 with ⟨rfl, rfl⟩
                  show wJ _ _ _ _ _ _ _ _ _ _
                  refine wa_aload_n (n := 0) rfl ?_
                  refine wa_iconst ?_
                  refine wa_aload_n (n := 0) rfl ?_
                  refine wb_gf4 215 rfl (wy_pr rfl) wt_215 wf_8_3 (v := 216) wl_215_3 ?_
                  refine wb_gf4 216 rfl (wy_pr rfl) wt_216 wf_7_0 (v := 217) wl_216_0 ?_
                  refine wa_iload_n (n := 1) rfl ?_
                  refine wb_bald 217 rfl (wy_pr rfl) wt_217 (n := (S 217 (-1))) (((ncZ_e 217 (-1) (by decide) (by omega)).trans (((hreF 217 (-1) (by decide) (by decide) (by unfold cMr; omega)).trans (rfl))))) (by omega) (by omega) (v := kx) (((ncZ_e 217 ((h - 1) - 1) (by decide) (by omega)).trans (((hreF 217 ((h - 1) - 1) (by decide) (by decide) (by unfold cMr; omega)).trans (hkx))))) (fun r34 => ?_)
                  refine wa_iload_n (n := 3) rfl ?_
                  refine wa_i2l (w_rg0 (by omega) (by omega)) ?_
                  refine wa_cv 215 rfl (wy_pr rfl) wt_215 (M2 := mS [217, 218]) rfl at_XK_give ⟨_, rfl⟩ rfl rfl ⟨trivial, (Or.inr ⟨wy_pr rfl, mS_no rfl⟩), trivial, trivial, trivial, trivial, trivial, trivial⟩ trivial (fun _ _ q => mS_sub (by decide) q) (gw_215 (S := (ncZ o1 rr (Sq28 130 o1) (Sq28 72 11) Sq28)) (n := 2) (k := kx) (v := o1) (h := h) (c := c) (p := p) (ln := (S 217 (-1))) (ncZ_c hreC (by omega)) (ncZ_g hreG (by omega)) ⟨by omega, by omega⟩ ⟨by omega, by omega⟩ (((ncZ_e 216 2 (by decide) (by omega)).trans (((hreF 216 2 (by decide) (by decide) (by unfold cMr; omega)).trans (bh))))) (((ncZ_e 215 4 (by decide) (by omega)).trans (((hreF 215 4 (by decide) (by decide) (by unfold cMr; omega)).trans (bc))))) (((ncZ_e 220 (c - 1) (by decide) (by omega)).trans (((hreF 220 (c - 1) (by decide) (by decide) (by unfold cMr; omega)).trans (bp))))) (((ncZ_e 217 (-1) (by decide) (by omega)).trans (((hreF 217 (-1) (by decide) (by decide) (by unfold cMr; omega)).trans (rfl))))) (((ncZ_e 218 (-1) (by decide) (by omega)).trans (((hreF 218 (-1) (by decide) (by decide) (by unfold cMr; omega)).trans (bl1))))) ⟨by omega, by omega⟩ ⟨by omega, by omega, by omega⟩ ⟨by omega, by omega⟩ ⟨by omega, by omega⟩) (fun oq35 Sq35 hp36 q35 => ?_)
                  rcases q35 with ⟨rfl, A35, ra35, rfl⟩
                  show wJ _ _ _ _ _ _ _ _ _ _
                  refine wa_return rfl ?_
                  exact ⟨rfl, Or.inr (Or.inr ⟨hm0, hyes, Sq28, hre, A35, ra35, rfl⟩)⟩
                · skip
                  exact absurd c31 (by omega)
          · skip
            exact absurd c24 (by omega)
        · skip
          exact absurd c23 (by omega)
set_option maxHeartbeats 4000000 in
theorem tu1_215 {c p h kx ky o1 q : Int} (hP : xP 215 c p h S) (hx1 : pe_at (pe_GA xs).xs 1 = some (1, tx_1)) (hky : S 217 (h - 1) = ky) (hvy : S 218 (h - 1) = q) (hkx : S 217 (h - 1 - 1) = kx) (hvx : S 218 (h - 1 - 1) = o1) (hh1 : 2 ≤ h) (hkx45 : kx = 4 ∨ kx = 5) (ho : isO T o1) (hky45 : ky = 4 ∨ ky = 5) (hq : isO T q) (hW : cWd S T L G) (hsw : cSw S T H) (hw : wSh T H) (hT : (T.length : Int) ≤ 8000) (hu4 : 0 ≤ S 150 4 ∧ S 150 4 ≤ 4000 ∧ (H.length : Int) ≤ S 150 4 + 1) (hnb : ∀ s : Int, 0 ≤ s → s < (H.length : Int) → qNm H s ≤ 100000) (hch : 0 ≤ S 72 11 ∧ S 72 11 ≤ 9000000) (hep : ∀ k : Int, isO T k → (tO T k).2.2.2.2.1 ≤ S 72 11) (h56 : S 156 (-1) = 65) : wJ (pe_GA xs) wY0 (mS [217, 218, 144, 145, 146, 147, 148]) (d + 10) t_XK_turn ((pe_at t_XK_turn.bl 0).getD (0, [])).2 [(0, (2, 215)), (1, (0, (h - 1) - 1)), (2, (0, h - 1))] [] S (fun o Z => o = .inl none ∧ ((hMe (aPr T H) o1 (T.length + 1) q = 1 ∧ w_up S 215 16 12 = Z) ∨ (hMe (aPr T H) o1 (T.length + 1) q = 0 ∧ 4000 < S 150 4 + aMb H q (fS (-1) (aNs H (tO T o1).2.1) 0) ∧ ∃ A : wS, oF S A ∧ w_up A 215 16 99 = Z) ∨ (hMe (aPr T H) o1 (T.length + 1) q = 0 ∧ S 150 4 + aMb H q (fS (-1) (aNs H (tO T o1).2.1) 0) ≤ 4000 ∧ ∃ A : wS, reQ q (-1) o1 T H L G S A ∧ sO 215 h c p 2 kx o1 (ncZ o1 (aRb q (fS (-1) (aNs H (tO T o1).2.1) 0) (aBr T H q).2.1 (aBr T H q).2.2).2 (A 130 o1) (A 72 11) A) Z))) := by
  obtain ⟨⟨hC, hI⟩, ⟨bc, bc0, bc1⟩, ⟨bp, bp0, bp1⟩, ⟨bh, bh0, bh1, bh2⟩, bl1, bl2, bl3⟩ := id hP
  replace bp : S 220 (c - 1) = p := bp
  replace bh : S 216 2 = h := bh
  replace bh2 : h ≤ S 217 (-1) := bh2
  replace bl1 : S 218 (-1) = S 217 (-1) := bl1
  replace bl2 : 64 ≤ S 217 (-1) := bl2
  replace bl3 : S 217 (-1) ≤ 4095 := bl3
  have hg : wG = 1000000 := rfl
  obtain ⟨ht, -, -, -, hlt, -⟩ := id hW
  have ho0 := ho.1
  obtain ⟨hm, hhm⟩ : ∃ hm : Int, hm = hMe (aPr T H) o1 (T.length + 1) q := ⟨_, rfl⟩
  have hm01 : hm = 0 ∨ hm = 1 := by rw [hhm]; exact hMe_01 _ _
  rw [← hhm]
  obtain ⟨rr, hrr⟩ : ∃ rr : Int, rr = (aRb q (fS (-1) (aNs H (tO T o1).2.1) 0) (aBr T H q).2.1 (aBr T H q).2.2).2 := ⟨_, rfl⟩
  rw [← hrr]
  have hq0 := hq.1
  refine wa_aload_n (n := 0) rfl ?_
  refine wa_iload_n (n := 1) rfl ?_
  refine wa_cv 215 rfl (wy_pr rfl) wt_215 (M2 := mS [217, 218, 144, 145, 146, 147, 148]) rfl at_XK_isHolder ⟨_, rfl⟩ rfl rfl ⟨(Or.inr ⟨wy_pr rfl, mS_no rfl⟩), trivial, trivial, trivial⟩ trivial (fun _ _ q => q) ?_ (fun _ _ _ q => q)
  refine wa_aload_n (n := 0) rfl ?_
  refine wb_gf4 215 rfl (wy_pr rfl) wt_215 wf_8_3 (v := 216) wl_215_3 ?_
  refine wb_gf4 216 rfl (wy_pr rfl) wt_216 wf_7_0 (v := 217) wl_216_0 ?_
  refine wa_iload_n (n := 1) rfl ?_
  refine wb_bald 217 rfl (wy_pr rfl) wt_217 (n := (S 217 (-1))) (rfl) (by omega) (by omega) (v := kx) (hkx) (fun r1 => ?_)
  refine wa_iconst ?_
  refine wa_icmpeq (w_rg0 (by omega) (by omega)) (w_rg0 (by omega) (by omega)) ⟨_, rfl⟩ (fun c2 => ?_) (fun c2 => ?_)
  · skip
    refine wa_iconst ?_
    refine wa_goto ⟨_, rfl⟩ ?_
    refine wa_zreturn rfl (Or.inr rfl) ?_
    show wJ _ _ _ _ _ _ _ _ _ _
    refine wa_ifeq (w_rg0 (by omega) (by omega)) ⟨_, rfl⟩ (fun c3 => ?_) (fun c3 => ?_)
    · skip
      exact absurd c3 (by omega)
    · skip
      refine wa_aload_n (n := 0) rfl ?_
      refine wa_iload_n (n := 2) rfl ?_
      refine wa_cv 215 rfl (wy_pr rfl) wt_215 (M2 := mS [217, 218, 144, 145, 146, 147, 148]) rfl at_XK_isPrototype ⟨_, rfl⟩ rfl rfl ⟨(Or.inr ⟨wy_pr rfl, mS_no rfl⟩), trivial, trivial, trivial⟩ trivial (fun _ _ q => q) ?_ (fun _ _ _ q => q)
      refine wa_aload_n (n := 0) rfl ?_
      refine wb_gf4 215 rfl (wy_pr rfl) wt_215 wf_8_3 (v := 216) wl_215_3 ?_
      refine wb_gf4 216 rfl (wy_pr rfl) wt_216 wf_7_0 (v := 217) wl_216_0 ?_
      refine wa_iload_n (n := 1) rfl ?_
      refine wb_bald 217 rfl (wy_pr rfl) wt_217 (n := (S 217 (-1))) (rfl) (by omega) (by omega) (v := ky) (hky) (fun r4 => ?_)
      refine wa_ifeq (w_rg0 (by omega) (by omega)) ⟨_, rfl⟩ (fun c5 => ?_) (fun c5 => ?_)
      · skip
        exact absurd c5 (by omega)
      · skip
        refine wa_aload_n (n := 0) rfl ?_
        refine wa_iload_n (n := 1) rfl ?_
        refine wa_cv 215 rfl (wy_pr rfl) wt_215 (M2 := mS [217, 218, 144, 145, 146, 147, 148]) rfl at_XK_isHolder ⟨_, rfl⟩ rfl rfl ⟨(Or.inr ⟨wy_pr rfl, mS_no rfl⟩), trivial, trivial⟩ trivial (fun _ _ q => q) ?_ (fun _ _ _ q => q)
        refine wa_aload_n (n := 0) rfl ?_
        refine wb_gf4 215 rfl (wy_pr rfl) wt_215 wf_8_3 (v := 216) wl_215_3 ?_
        refine wb_gf4 216 rfl (wy_pr rfl) wt_216 wf_7_0 (v := 217) wl_216_0 ?_
        refine wa_iload_n (n := 1) rfl ?_
        refine wb_bald 217 rfl (wy_pr rfl) wt_217 (n := (S 217 (-1))) (rfl) (by omega) (by omega) (v := ky) (hky) (fun r6 => ?_)
        refine wa_iconst ?_
        refine wa_icmpeq (w_rg0 (by omega) (by omega)) (w_rg0 (by omega) (by omega)) ⟨_, rfl⟩ (fun c7 => ?_) (fun c7 => ?_)
        · skip
          refine wa_iconst ?_
          refine wa_goto ⟨_, rfl⟩ ?_
          refine wa_zreturn rfl (Or.inr rfl) ?_
          show wJ _ _ _ _ _ _ _ _ _ _
          refine wa_ifeq (w_rg0 (by omega) (by omega)) ⟨_, rfl⟩ (fun c8 => ?_) (fun c8 => ?_)
          · skip
            exact absurd c8 (by omega)
          · skip
            refine wa_fall ⟨_, rfl⟩ ?_
            refine wa_iconst ?_
            refine wa_goto ⟨_, rfl⟩ ?_
            refine wa_zreturn rfl (Or.inr rfl) ?_
            show wJ _ _ _ _ _ _ _ _ _ _
            refine wa_ifne (w_rg0 (by omega) (by omega)) ⟨_, rfl⟩ (fun c9 => ?_) (fun c9 => ?_)
            · skip
              refine wa_aload_n (n := 0) rfl ?_
              refine wb_gf4 215 rfl (wy_pr rfl) wt_215 wf_8_3 (v := 216) wl_215_3 ?_
              refine wb_gf4 216 rfl (wy_pr rfl) wt_216 wf_7_1 (v := 218) wl_216_1 ?_
              refine wa_iload_n (n := 1) rfl ?_
              refine wb_lald 218 rfl (wy_pr rfl) wt_218 (n := (S 217 (-1))) (bl1) (by omega) (by omega) (v := o1) (hvx) (fun r10 => ?_)
              refine wb_l2i_r (wb_l2i_id ⟨(by omega), (by omega)⟩) ?_
              refine wa_istore_n (n := 3) rfl ?_
              refine wa_aload_n (n := 0) rfl ?_
              refine wb_gf4 215 rfl (wy_pr rfl) wt_215 wf_8_3 (v := 216) wl_215_3 ?_
              refine wb_gf4 216 rfl (wy_pr rfl) wt_216 wf_7_0 (v := 217) wl_216_0 ?_
              refine wa_iload_n (n := 2) rfl ?_
              refine wb_bald 217 rfl (wy_pr rfl) wt_217 (n := (S 217 (-1))) (rfl) (by omega) (by omega) (v := ky) (hky) (fun r11 => ?_)
              refine wa_ifne (w_rg0 (by omega) (by omega)) ⟨_, rfl⟩ (fun c12 => ?_) (fun c12 => ?_)
              · skip
                refine wa_aload_n (n := 0) rfl ?_
                refine wb_gf4 215 rfl (wy_pr rfl) wt_215 wf_8_3 (v := 216) wl_215_3 ?_
                refine wb_gf4 216 rfl (wy_pr rfl) wt_216 wf_7_1 (v := 218) wl_216_1 ?_
                refine wa_iload_n (n := 2) rfl ?_
                refine wb_lald 218 rfl (wy_pr rfl) wt_218 (n := (S 217 (-1))) (bl1) (by omega) (by omega) (v := q) (hvy) (fun r13 => ?_)
                refine wb_l2i_r (wb_l2i_id ⟨(by omega), (by omega)⟩) ?_
                refine wa_fall ⟨_, rfl⟩ ?_
                refine wa_istore (n := 4) rfl ?_
                refine wa_iload (n := 4) rfl ?_
                refine wa_istore (n := 5) rfl ?_
                refine wa_iconst ?_
                refine wa_istore (n := 6) rfl ?_
                refine wa_fall ⟨_, rfl⟩ ?_
                refine wJ_S (tl_215 (one := (h - 1) - 1) (oth := h - 1) (o1 := o1) (q := q) hC hsw ht hlt hw hT ⟨by omega, by omega⟩ ⟨⟨by omega, by omega⟩, ⟨by omega, by omega⟩, by omega, by omega⟩ (T.length + 1) q 0 (by omega) (by omega) (Or.inr hq) (fun hz => ⟨rfl, Or.inl ⟨hhm.trans hz, rfl⟩⟩) (fun hz u2 i2 => ?_)) ⟨rfl, rfl, rfl, rfl, rfl, rfl, rfl, trivial⟩
                have hm0 : hm = 0 := hhm.trans hz
                refine wa_aload_n (n := 0) rfl ?_
                refine wb_gf4 215 rfl (wy_pr rfl) wt_215 wf_8_0 (v := 72) wl_215_0 ?_
                refine wa_iload_n (n := 3) rfl ?_
                refine wa_iload (n := 4) rfl ?_
                refine wa_iconst ?_
                refine wa_cv 72 rfl (wy_pr rfl) wt_72 (M2 := mS [144, 145, 146, 147, 148]) rfl at_XH_reshaped ⟨_, rfl⟩ rfl rfl ⟨(Or.inr ⟨wy_pr rfl, mS_no rfl⟩), trivial, trivial, trivial, trivial, trivial, trivial, trivial⟩ trivial (fun _ _ q => mS_sub (by decide) q) (wJ_mono (c_re1 (k := o1) (wo := -1) hC hI hx1 hW hsw hw ho hq (by decide) hu4 hnb h56) (fun o Z hz => (by rw [hrr]; exact hz : (o = .inl (some (0, -1)) ∧ 4000 < S 150 4 + aMb H q (fS (-1) (aNs H (tO T o1).2.1) 0) ∧ oF S Z) ∨ (S 150 4 + aMb H q (fS (-1) (aNs H (tO T o1).2.1) 0) ≤ 4000 ∧ o = .inl (some (0, rr)) ∧ reQ q (-1) o1 T H L G S Z)))) (fun oq14 Sq14 hp15 q14 => ?_)
                rcases q14 with ⟨rfl, hno, hoF⟩ | ⟨hyes, rfl, hre⟩
                · skip
                  show wJ _ _ _ _ _ _ _ _ _ _
                  refine wa_istore (n := 6) rfl ?_
                  refine wa_iload (n := 6) rfl ?_
                  refine wa_iconst ?_
                  refine wa_icmpne (w_rg0 (by omega) (by omega)) (w_rg0 (by omega) (by omega)) ⟨_, rfl⟩ (fun c16 => ?_) (fun c16 => ?_)
                  · skip
                    exact absurd c16 (by omega)
                  · skip
                    refine wa_aload_n (n := 0) rfl ?_
                    refine wa_bipush (w_rg2 (by omega) (by omega)) ?_
                    refine wb_pfi 215 rfl (wy_pr rfl) wt_215 wf_8_16 (n := 16) rfl ⟨(by omega), (by omega)⟩ ?_
                    refine wa_return rfl ?_
                    exact ⟨rfl, Or.inr (Or.inl ⟨hm0, hno, Sq14, hoF, rfl⟩)⟩
                · skip
                  show wJ _ _ _ _ _ _ _ _ _ _
                  obtain ⟨hre1, hre2, ⟨hreC, hreG, hreR⟩, hre4, hreF⟩ := id hre
                  have hreL := hre2.2.2.2.2.1
                  have hrr0 : 0 ≤ rr ∧ rr < 1000000 := by
                    obtain ⟨b1, ⟨b2, b3⟩, b4, b5, b6, b7, b8, b9⟩ := aBr_ok hw (Or.inr hq) (l := (fS (-1) (aNs H (tO T o1).2.1) 0)) (by omega)
                    have hsh := wSh_sh hw ho
                    have hds := nDs_H hw.1 hw.2.1 _ _ hsh.1 hsh.2 rfl
                    have hrl := aRb_ok (fS (-1) (aNs H (tO T o1).2.1) 0) _ _ b1 b2 b3 b4 (nDs_f _ _ hds.1) (fun x hx => ⟨hds.2 x (fS_m _ _ x hx), fun z => by rw [b5] at z; exact absurd z List.not_mem_nil⟩) (by omega)
                    have hll := hrl.1.1.2.1
                    rw [hrr]; have := hrl.2.1; omega
                  have hlen : (aBr T H q).1.length = T.length := (aBr_ok (l := (fS (-1) (aNs H (tO T o1).2.1) 0)) hw (Or.inr hq) (by omega)).2.2.2.2.2.2.2
                  have hL2 := hreL.2
                  rw [hlen] at hL2
                  have hA3 := (c_th hre2.1 (k := o1) ho0.1 (by rw [hlen]; exact ho0.2)).1
                  have hepA : -1 ≤ Sq14 130 o1 ∧ Sq14 130 o1 ≤ 9000001 := by rw [hA3.2.2.2.2.1]; exact aBr_ep hw (Or.inr hq) ho hep hch
                  refine wa_istore (n := 6) rfl ?_
                  refine wa_iload (n := 6) rfl ?_
                  refine wa_iconst ?_
                  refine wa_icmpne (w_rg0 (by omega) (by omega)) (w_rg0 (by omega) (by omega)) ⟨_, rfl⟩ (fun c17 => ?_) (fun c17 => ?_)
                  · skip
                    refine wa_aload_n (n := 0) rfl ?_
                    refine wb_gf4 215 rfl (wy_pr rfl) wt_215 wf_8_0 (v := 72) wl_215_0 ?_
                    refine wb_gf4 72 rfl (wy_pr rfl) wt_72 wf_2_2 (v := 126) wl_72_2 ?_
                    refine wa_iconst ?_
                    refine wb_aald5 126 1 rfl rfl (wy_pr rfl) wt_126 (by rw [show _ = _ from (((hreF 126 (-1) (by decide) (by decide) (by unfold cMr; omega)).trans ((cl_126 hC))))]; omega) wl_126_1 ?_
                    refine wa_iload_n (n := 3) rfl ?_
                    refine wa_iload (n := 6) rfl ?_
                    refine wb_iast 128 rfl (wy_pr rfl) wt_128 (n := (Sq14 127 (-1))) ((hreL.1 1 (by decide))) (by omega) (by omega) ⟨(by omega), (by omega)⟩ ?_
                    refine wa_aload_n (n := 0) rfl ?_
                    refine wb_gf4 215 rfl (wy_pr rfl) wt_215 wf_8_0 (v := 72) wl_215_0 ?_
                    refine wa_iload_n (n := 3) rfl ?_
                    have e72 : (w_up Sq14 128 o1 rr) 72 11 = S 72 11 := ((w_up_slot (by first | decide | omega)).trans ((hreF 72 11 (by first | decide | omega) (by first | decide | omega) (by unfold cMr; omega))))
                    have e130 : (w_up Sq14 128 o1 rr) 130 o1 = Sq14 130 o1 := w_up_slot (by first | decide | omega)
                    have eA72 : Sq14 72 11 = S 72 11 := hreF 72 11 (by first | decide | omega) (by first | decide | omega) (by unfold cMr; omega)
                    have eL : ∀ x : Nat, x < 10 → (w_up Sq14 128 o1 rr) (127 + x) (-1) = (w_up Sq14 128 o1 rr) 127 (-1) := fun x hx => (w_up_no (by omega)).trans ((hreL.1 x hx).trans (w_up_no (by omega)).symm)
                    have eL7 : (w_up Sq14 128 o1 rr) 127 (-1) = Sq14 127 (-1) := w_up_no (by omega)
                    refine wa_cv 72 rfl (wy_pr rfl) wt_72 (M2 := mS []) rfl at_XH_noteChange ⟨_, rfl⟩ rfl rfl ⟨trivial, (Or.inr ⟨wy_pr rfl, mS_no rfl⟩), trivial, trivial, trivial, trivial, trivial, trivial⟩ trivial (fun _ _ q => mS_sub (by decide) q) (wJ_mono (nc_ok (S := (w_up Sq14 128 o1 rr)) (k := o1) (ep := Sq14 130 o1) (ch := Sq14 72 11) eL ⟨by omega, by omega⟩ (by omega) e130 ⟨hepA.1, by omega⟩ (e72.trans eA72.symm) ⟨by omega, by omega⟩ (w_CL_up hreC (by omega))) (fun o Z hz => (⟨hz.1, hz.2⟩ : o = .inl none ∧ ncZ o1 rr (Sq14 130 o1) (Sq14 72 11) Sq14 = Z))) (fun oq18 Sq18 hp19 q18 => ?_)
                    rcases q18 with ⟨rfl, rfl⟩
                    show wJ _ _ _ _ _ _ _ _ _ _
                    refine wa_aload_n (n := 0) rfl ?_
                    refine wa_iconst ?_
                    refine wa_aload_n (n := 0) rfl ?_
                    refine wb_gf4 215 rfl (wy_pr rfl) wt_215 wf_8_3 (v := 216) wl_215_3 ?_
                    refine wb_gf4 216 rfl (wy_pr rfl) wt_216 wf_7_0 (v := 217) wl_216_0 ?_
                    refine wa_iload_n (n := 1) rfl ?_
                    refine wb_bald 217 rfl (wy_pr rfl) wt_217 (n := (S 217 (-1))) (((ncZ_e 217 (-1) (by decide) (by omega)).trans (((hreF 217 (-1) (by decide) (by decide) (by unfold cMr; omega)).trans (rfl))))) (by omega) (by omega) (v := kx) (((ncZ_e 217 ((h - 1) - 1) (by decide) (by omega)).trans (((hreF 217 ((h - 1) - 1) (by decide) (by decide) (by unfold cMr; omega)).trans (hkx))))) (fun r20 => ?_)
                    refine wa_iload_n (n := 3) rfl ?_
                    refine wa_i2l (w_rg0 (by omega) (by omega)) ?_
                    refine wa_cv 215 rfl (wy_pr rfl) wt_215 (M2 := mS [217, 218]) rfl at_XK_give ⟨_, rfl⟩ rfl rfl ⟨trivial, (Or.inr ⟨wy_pr rfl, mS_no rfl⟩), trivial, trivial, trivial, trivial, trivial, trivial⟩ trivial (fun _ _ q => mS_sub (by decide) q) (gw_215 (S := (ncZ o1 rr (Sq14 130 o1) (Sq14 72 11) Sq14)) (n := 2) (k := kx) (v := o1) (h := h) (c := c) (p := p) (ln := (S 217 (-1))) (ncZ_c hreC (by omega)) (ncZ_g hreG (by omega)) ⟨by omega, by omega⟩ ⟨by omega, by omega⟩ (((ncZ_e 216 2 (by decide) (by omega)).trans (((hreF 216 2 (by decide) (by decide) (by unfold cMr; omega)).trans (bh))))) (((ncZ_e 215 4 (by decide) (by omega)).trans (((hreF 215 4 (by decide) (by decide) (by unfold cMr; omega)).trans (bc))))) (((ncZ_e 220 (c - 1) (by decide) (by omega)).trans (((hreF 220 (c - 1) (by decide) (by decide) (by unfold cMr; omega)).trans (bp))))) (((ncZ_e 217 (-1) (by decide) (by omega)).trans (((hreF 217 (-1) (by decide) (by decide) (by unfold cMr; omega)).trans (rfl))))) (((ncZ_e 218 (-1) (by decide) (by omega)).trans (((hreF 218 (-1) (by decide) (by decide) (by unfold cMr; omega)).trans (bl1))))) ⟨by omega, by omega⟩ ⟨by omega, by omega, by omega⟩ ⟨by omega, by omega⟩ ⟨by omega, by omega⟩) (fun oq21 Sq21 hp22 q21 => ?_)
                    rcases q21 with ⟨rfl, A21, ra21, rfl⟩
                    show wJ _ _ _ _ _ _ _ _ _ _
                    refine wa_return rfl ?_
                    exact ⟨rfl, Or.inr (Or.inr ⟨hm0, hyes, Sq14, hre, A21, ra21, rfl⟩)⟩
                  · skip
                    exact absurd c17 (by omega)
              · skip
                exact absurd c12 (by omega)
            · skip
              exact absurd c9 (by omega)
        · skip
          refine wa_aload_n (n := 0) rfl ?_
          refine wb_gf4 215 rfl (wy_pr rfl) wt_215 wf_8_3 (v := 216) wl_215_3 ?_
          refine wb_gf4 216 rfl (wy_pr rfl) wt_216 wf_7_0 (v := 217) wl_216_0 ?_
          refine wa_iload_n (n := 1) rfl ?_
          refine wb_bald 217 rfl (wy_pr rfl) wt_217 (n := (S 217 (-1))) (rfl) (by omega) (by omega) (v := ky) (hky) (fun r23 => ?_)
          refine wa_iconst ?_
          refine wa_icmpne (w_rg0 (by omega) (by omega)) (w_rg0 (by omega) (by omega)) ⟨_, rfl⟩ (fun c24 => ?_) (fun c24 => ?_)
          · skip
            exact absurd c24 (by omega)
          · skip
            refine wa_fall ⟨_, rfl⟩ ?_
            refine wa_iconst ?_
            refine wa_goto ⟨_, rfl⟩ ?_
            refine wa_zreturn rfl (Or.inr rfl) ?_
            show wJ _ _ _ _ _ _ _ _ _ _
            refine wa_ifeq (w_rg0 (by omega) (by omega)) ⟨_, rfl⟩ (fun c25 => ?_) (fun c25 => ?_)
            · skip
              exact absurd c25 (by omega)
            · skip
              refine wa_fall ⟨_, rfl⟩ ?_
              refine wa_iconst ?_
              refine wa_goto ⟨_, rfl⟩ ?_
              refine wa_zreturn rfl (Or.inr rfl) ?_
              show wJ _ _ _ _ _ _ _ _ _ _
              refine wa_ifne (w_rg0 (by omega) (by omega)) ⟨_, rfl⟩ (fun c26 => ?_) (fun c26 => ?_)
              · skip
                refine wa_aload_n (n := 0) rfl ?_
                refine wb_gf4 215 rfl (wy_pr rfl) wt_215 wf_8_3 (v := 216) wl_215_3 ?_
                refine wb_gf4 216 rfl (wy_pr rfl) wt_216 wf_7_1 (v := 218) wl_216_1 ?_
                refine wa_iload_n (n := 1) rfl ?_
                refine wb_lald 218 rfl (wy_pr rfl) wt_218 (n := (S 217 (-1))) (bl1) (by omega) (by omega) (v := o1) (hvx) (fun r27 => ?_)
                refine wb_l2i_r (wb_l2i_id ⟨(by omega), (by omega)⟩) ?_
                refine wa_istore_n (n := 3) rfl ?_
                refine wa_aload_n (n := 0) rfl ?_
                refine wb_gf4 215 rfl (wy_pr rfl) wt_215 wf_8_3 (v := 216) wl_215_3 ?_
                refine wb_gf4 216 rfl (wy_pr rfl) wt_216 wf_7_0 (v := 217) wl_216_0 ?_
                refine wa_iload_n (n := 2) rfl ?_
                refine wb_bald 217 rfl (wy_pr rfl) wt_217 (n := (S 217 (-1))) (rfl) (by omega) (by omega) (v := ky) (hky) (fun r28 => ?_)
                refine wa_ifne (w_rg0 (by omega) (by omega)) ⟨_, rfl⟩ (fun c29 => ?_) (fun c29 => ?_)
                · skip
                  refine wa_aload_n (n := 0) rfl ?_
                  refine wb_gf4 215 rfl (wy_pr rfl) wt_215 wf_8_3 (v := 216) wl_215_3 ?_
                  refine wb_gf4 216 rfl (wy_pr rfl) wt_216 wf_7_1 (v := 218) wl_216_1 ?_
                  refine wa_iload_n (n := 2) rfl ?_
                  refine wb_lald 218 rfl (wy_pr rfl) wt_218 (n := (S 217 (-1))) (bl1) (by omega) (by omega) (v := q) (hvy) (fun r30 => ?_)
                  refine wb_l2i_r (wb_l2i_id ⟨(by omega), (by omega)⟩) ?_
                  refine wa_fall ⟨_, rfl⟩ ?_
                  refine wa_istore (n := 4) rfl ?_
                  refine wa_iload (n := 4) rfl ?_
                  refine wa_istore (n := 5) rfl ?_
                  refine wa_iconst ?_
                  refine wa_istore (n := 6) rfl ?_
                  refine wa_fall ⟨_, rfl⟩ ?_
                  refine wJ_S (tl_215 (one := (h - 1) - 1) (oth := h - 1) (o1 := o1) (q := q) hC hsw ht hlt hw hT ⟨by omega, by omega⟩ ⟨⟨by omega, by omega⟩, ⟨by omega, by omega⟩, by omega, by omega⟩ (T.length + 1) q 0 (by omega) (by omega) (Or.inr hq) (fun hz => ⟨rfl, Or.inl ⟨hhm.trans hz, rfl⟩⟩) (fun hz u2 i2 => ?_)) ⟨rfl, rfl, rfl, rfl, rfl, rfl, rfl, trivial⟩
                  have hm0 : hm = 0 := hhm.trans hz
                  refine wa_aload_n (n := 0) rfl ?_
                  refine wb_gf4 215 rfl (wy_pr rfl) wt_215 wf_8_0 (v := 72) wl_215_0 ?_
                  refine wa_iload_n (n := 3) rfl ?_
                  refine wa_iload (n := 4) rfl ?_
                  refine wa_iconst ?_
                  refine wa_cv 72 rfl (wy_pr rfl) wt_72 (M2 := mS [144, 145, 146, 147, 148]) rfl at_XH_reshaped ⟨_, rfl⟩ rfl rfl ⟨(Or.inr ⟨wy_pr rfl, mS_no rfl⟩), trivial, trivial, trivial, trivial, trivial, trivial, trivial⟩ trivial (fun _ _ q => mS_sub (by decide) q) (wJ_mono (c_re1 (k := o1) (wo := -1) hC hI hx1 hW hsw hw ho hq (by decide) hu4 hnb h56) (fun o Z hz => (by rw [hrr]; exact hz : (o = .inl (some (0, -1)) ∧ 4000 < S 150 4 + aMb H q (fS (-1) (aNs H (tO T o1).2.1) 0) ∧ oF S Z) ∨ (S 150 4 + aMb H q (fS (-1) (aNs H (tO T o1).2.1) 0) ≤ 4000 ∧ o = .inl (some (0, rr)) ∧ reQ q (-1) o1 T H L G S Z)))) (fun oq31 Sq31 hp32 q31 => ?_)
                  rcases q31 with ⟨rfl, hno, hoF⟩ | ⟨hyes, rfl, hre⟩
                  · skip
                    show wJ _ _ _ _ _ _ _ _ _ _
                    refine wa_istore (n := 6) rfl ?_
                    refine wa_iload (n := 6) rfl ?_
                    refine wa_iconst ?_
                    refine wa_icmpne (w_rg0 (by omega) (by omega)) (w_rg0 (by omega) (by omega)) ⟨_, rfl⟩ (fun c33 => ?_) (fun c33 => ?_)
                    · skip
                      exact absurd c33 (by omega)
                    · skip
                      refine wa_aload_n (n := 0) rfl ?_
                      refine wa_bipush (w_rg2 (by omega) (by omega)) ?_
                      refine wb_pfi 215 rfl (wy_pr rfl) wt_215 wf_8_16 (n := 16) rfl ⟨(by omega), (by omega)⟩ ?_
                      refine wa_return rfl ?_
                      exact ⟨rfl, Or.inr (Or.inl ⟨hm0, hno, Sq31, hoF, rfl⟩)⟩
                  · skip
                    show wJ _ _ _ _ _ _ _ _ _ _
                    obtain ⟨hre1, hre2, ⟨hreC, hreG, hreR⟩, hre4, hreF⟩ := id hre
                    have hreL := hre2.2.2.2.2.1
                    have hrr0 : 0 ≤ rr ∧ rr < 1000000 := by
                      obtain ⟨b1, ⟨b2, b3⟩, b4, b5, b6, b7, b8, b9⟩ := aBr_ok hw (Or.inr hq) (l := (fS (-1) (aNs H (tO T o1).2.1) 0)) (by omega)
                      have hsh := wSh_sh hw ho
                      have hds := nDs_H hw.1 hw.2.1 _ _ hsh.1 hsh.2 rfl
                      have hrl := aRb_ok (fS (-1) (aNs H (tO T o1).2.1) 0) _ _ b1 b2 b3 b4 (nDs_f _ _ hds.1) (fun x hx => ⟨hds.2 x (fS_m _ _ x hx), fun z => by rw [b5] at z; exact absurd z List.not_mem_nil⟩) (by omega)
                      have hll := hrl.1.1.2.1
                      rw [hrr]; have := hrl.2.1; omega
                    have hlen : (aBr T H q).1.length = T.length := (aBr_ok (l := (fS (-1) (aNs H (tO T o1).2.1) 0)) hw (Or.inr hq) (by omega)).2.2.2.2.2.2.2
                    have hL2 := hreL.2
                    rw [hlen] at hL2
                    have hA3 := (c_th hre2.1 (k := o1) ho0.1 (by rw [hlen]; exact ho0.2)).1
                    have hepA : -1 ≤ Sq31 130 o1 ∧ Sq31 130 o1 ≤ 9000001 := by rw [hA3.2.2.2.2.1]; exact aBr_ep hw (Or.inr hq) ho hep hch
                    refine wa_istore (n := 6) rfl ?_
                    refine wa_iload (n := 6) rfl ?_
                    refine wa_iconst ?_
                    refine wa_icmpne (w_rg0 (by omega) (by omega)) (w_rg0 (by omega) (by omega)) ⟨_, rfl⟩ (fun c34 => ?_) (fun c34 => ?_)
                    · skip
                      refine wa_aload_n (n := 0) rfl ?_
                      refine wb_gf4 215 rfl (wy_pr rfl) wt_215 wf_8_0 (v := 72) wl_215_0 ?_
                      refine wb_gf4 72 rfl (wy_pr rfl) wt_72 wf_2_2 (v := 126) wl_72_2 ?_
                      refine wa_iconst ?_
                      refine wb_aald5 126 1 rfl rfl (wy_pr rfl) wt_126 (by rw [show _ = _ from (((hreF 126 (-1) (by decide) (by decide) (by unfold cMr; omega)).trans ((cl_126 hC))))]; omega) wl_126_1 ?_
                      refine wa_iload_n (n := 3) rfl ?_
                      refine wa_iload (n := 6) rfl ?_
                      refine wb_iast 128 rfl (wy_pr rfl) wt_128 (n := (Sq31 127 (-1))) ((hreL.1 1 (by decide))) (by omega) (by omega) ⟨(by omega), (by omega)⟩ ?_
                      refine wa_aload_n (n := 0) rfl ?_
                      refine wb_gf4 215 rfl (wy_pr rfl) wt_215 wf_8_0 (v := 72) wl_215_0 ?_
                      refine wa_iload_n (n := 3) rfl ?_
                      have e72 : (w_up Sq31 128 o1 rr) 72 11 = S 72 11 := ((w_up_slot (by first | decide | omega)).trans ((hreF 72 11 (by first | decide | omega) (by first | decide | omega) (by unfold cMr; omega))))
                      have e130 : (w_up Sq31 128 o1 rr) 130 o1 = Sq31 130 o1 := w_up_slot (by first | decide | omega)
                      have eA72 : Sq31 72 11 = S 72 11 := hreF 72 11 (by first | decide | omega) (by first | decide | omega) (by unfold cMr; omega)
                      have eL : ∀ x : Nat, x < 10 → (w_up Sq31 128 o1 rr) (127 + x) (-1) = (w_up Sq31 128 o1 rr) 127 (-1) := fun x hx => (w_up_no (by omega)).trans ((hreL.1 x hx).trans (w_up_no (by omega)).symm)
                      have eL7 : (w_up Sq31 128 o1 rr) 127 (-1) = Sq31 127 (-1) := w_up_no (by omega)
                      refine wa_cv 72 rfl (wy_pr rfl) wt_72 (M2 := mS []) rfl at_XH_noteChange ⟨_, rfl⟩ rfl rfl ⟨trivial, (Or.inr ⟨wy_pr rfl, mS_no rfl⟩), trivial, trivial, trivial, trivial, trivial, trivial⟩ trivial (fun _ _ q => mS_sub (by decide) q) (wJ_mono (nc_ok (S := (w_up Sq31 128 o1 rr)) (k := o1) (ep := Sq31 130 o1) (ch := Sq31 72 11) eL ⟨by omega, by omega⟩ (by omega) e130 ⟨hepA.1, by omega⟩ (e72.trans eA72.symm) ⟨by omega, by omega⟩ (w_CL_up hreC (by omega))) (fun o Z hz => (⟨hz.1, hz.2⟩ : o = .inl none ∧ ncZ o1 rr (Sq31 130 o1) (Sq31 72 11) Sq31 = Z))) (fun oq35 Sq35 hp36 q35 => ?_)
                      rcases q35 with ⟨rfl, rfl⟩
                      show wJ _ _ _ _ _ _ _ _ _ _
                      refine wa_aload_n (n := 0) rfl ?_
                      refine wa_iconst ?_
                      refine wa_aload_n (n := 0) rfl ?_
                      refine wb_gf4 215 rfl (wy_pr rfl) wt_215 wf_8_3 (v := 216) wl_215_3 ?_
                      refine wb_gf4 216 rfl (wy_pr rfl) wt_216 wf_7_0 (v := 217) wl_216_0 ?_
                      refine wa_iload_n (n := 1) rfl ?_
                      refine wb_bald 217 rfl (wy_pr rfl) wt_217 (n := (S 217 (-1))) (((ncZ_e 217 (-1) (by decide) (by omega)).trans (((hreF 217 (-1) (by decide) (by decide) (by unfold cMr; omega)).trans (rfl))))) (by omega) (by omega) (v := kx) (((ncZ_e 217 ((h - 1) - 1) (by decide) (by omega)).trans (((hreF 217 ((h - 1) - 1) (by decide) (by decide) (by unfold cMr; omega)).trans (hkx))))) (fun r37 => ?_)
                      refine wa_iload_n (n := 3) rfl ?_
                      refine wa_i2l (w_rg0 (by omega) (by omega)) ?_
                      refine wa_cv 215 rfl (wy_pr rfl) wt_215 (M2 := mS [217, 218]) rfl at_XK_give ⟨_, rfl⟩ rfl rfl ⟨trivial, (Or.inr ⟨wy_pr rfl, mS_no rfl⟩), trivial, trivial, trivial, trivial, trivial, trivial⟩ trivial (fun _ _ q => mS_sub (by decide) q) (gw_215 (S := (ncZ o1 rr (Sq31 130 o1) (Sq31 72 11) Sq31)) (n := 2) (k := kx) (v := o1) (h := h) (c := c) (p := p) (ln := (S 217 (-1))) (ncZ_c hreC (by omega)) (ncZ_g hreG (by omega)) ⟨by omega, by omega⟩ ⟨by omega, by omega⟩ (((ncZ_e 216 2 (by decide) (by omega)).trans (((hreF 216 2 (by decide) (by decide) (by unfold cMr; omega)).trans (bh))))) (((ncZ_e 215 4 (by decide) (by omega)).trans (((hreF 215 4 (by decide) (by decide) (by unfold cMr; omega)).trans (bc))))) (((ncZ_e 220 (c - 1) (by decide) (by omega)).trans (((hreF 220 (c - 1) (by decide) (by decide) (by unfold cMr; omega)).trans (bp))))) (((ncZ_e 217 (-1) (by decide) (by omega)).trans (((hreF 217 (-1) (by decide) (by decide) (by unfold cMr; omega)).trans (rfl))))) (((ncZ_e 218 (-1) (by decide) (by omega)).trans (((hreF 218 (-1) (by decide) (by decide) (by unfold cMr; omega)).trans (bl1))))) ⟨by omega, by omega⟩ ⟨by omega, by omega, by omega⟩ ⟨by omega, by omega⟩ ⟨by omega, by omega⟩) (fun oq38 Sq38 hp39 q38 => ?_)
                      rcases q38 with ⟨rfl, A38, ra38, rfl⟩
                      show wJ _ _ _ _ _ _ _ _ _ _
                      refine wa_return rfl ?_
                      exact ⟨rfl, Or.inr (Or.inr ⟨hm0, hyes, Sq31, hre, A38, ra38, rfl⟩)⟩
                    · skip
                      exact absurd c34 (by omega)
                · skip
                  exact absurd c29 (by omega)
              · skip
                exact absurd c26 (by omega)
  · skip
    refine wa_aload_n (n := 0) rfl ?_
    refine wb_gf4 215 rfl (wy_pr rfl) wt_215 wf_8_3 (v := 216) wl_215_3 ?_
    refine wb_gf4 216 rfl (wy_pr rfl) wt_216 wf_7_0 (v := 217) wl_216_0 ?_
    refine wa_iload_n (n := 1) rfl ?_
    refine wb_bald 217 rfl (wy_pr rfl) wt_217 (n := (S 217 (-1))) (rfl) (by omega) (by omega) (v := kx) (hkx) (fun r40 => ?_)
    refine wa_iconst ?_
    refine wa_icmpne (w_rg0 (by omega) (by omega)) (w_rg0 (by omega) (by omega)) ⟨_, rfl⟩ (fun c41 => ?_) (fun c41 => ?_)
    · skip
      exact absurd c41 (by omega)
    · skip
      refine wa_fall ⟨_, rfl⟩ ?_
      refine wa_iconst ?_
      refine wa_goto ⟨_, rfl⟩ ?_
      refine wa_zreturn rfl (Or.inr rfl) ?_
      show wJ _ _ _ _ _ _ _ _ _ _
      refine wa_ifeq (w_rg0 (by omega) (by omega)) ⟨_, rfl⟩ (fun c42 => ?_) (fun c42 => ?_)
      · skip
        exact absurd c42 (by omega)
      · skip
        refine wa_aload_n (n := 0) rfl ?_
        refine wa_iload_n (n := 2) rfl ?_
        refine wa_cv 215 rfl (wy_pr rfl) wt_215 (M2 := mS [217, 218, 144, 145, 146, 147, 148]) rfl at_XK_isPrototype ⟨_, rfl⟩ rfl rfl ⟨(Or.inr ⟨wy_pr rfl, mS_no rfl⟩), trivial, trivial, trivial⟩ trivial (fun _ _ q => q) ?_ (fun _ _ _ q => q)
        refine wa_aload_n (n := 0) rfl ?_
        refine wb_gf4 215 rfl (wy_pr rfl) wt_215 wf_8_3 (v := 216) wl_215_3 ?_
        refine wb_gf4 216 rfl (wy_pr rfl) wt_216 wf_7_0 (v := 217) wl_216_0 ?_
        refine wa_iload_n (n := 1) rfl ?_
        refine wb_bald 217 rfl (wy_pr rfl) wt_217 (n := (S 217 (-1))) (rfl) (by omega) (by omega) (v := ky) (hky) (fun r43 => ?_)
        refine wa_ifeq (w_rg0 (by omega) (by omega)) ⟨_, rfl⟩ (fun c44 => ?_) (fun c44 => ?_)
        · skip
          exact absurd c44 (by omega)
        · skip
          refine wa_aload_n (n := 0) rfl ?_
          refine wa_iload_n (n := 1) rfl ?_
          refine wa_cv 215 rfl (wy_pr rfl) wt_215 (M2 := mS [217, 218, 144, 145, 146, 147, 148]) rfl at_XK_isHolder ⟨_, rfl⟩ rfl rfl ⟨(Or.inr ⟨wy_pr rfl, mS_no rfl⟩), trivial, trivial⟩ trivial (fun _ _ q => q) ?_ (fun _ _ _ q => q)
          refine wa_aload_n (n := 0) rfl ?_
          refine wb_gf4 215 rfl (wy_pr rfl) wt_215 wf_8_3 (v := 216) wl_215_3 ?_
          refine wb_gf4 216 rfl (wy_pr rfl) wt_216 wf_7_0 (v := 217) wl_216_0 ?_
          refine wa_iload_n (n := 1) rfl ?_
          refine wb_bald 217 rfl (wy_pr rfl) wt_217 (n := (S 217 (-1))) (rfl) (by omega) (by omega) (v := ky) (hky) (fun r45 => ?_)
          refine wa_iconst ?_
          refine wa_icmpeq (w_rg0 (by omega) (by omega)) (w_rg0 (by omega) (by omega)) ⟨_, rfl⟩ (fun c46 => ?_) (fun c46 => ?_)
          · skip
            refine wa_iconst ?_
            refine wa_goto ⟨_, rfl⟩ ?_
            refine wa_zreturn rfl (Or.inr rfl) ?_
            show wJ _ _ _ _ _ _ _ _ _ _
            refine wa_ifeq (w_rg0 (by omega) (by omega)) ⟨_, rfl⟩ (fun c47 => ?_) (fun c47 => ?_)
            · skip
              exact absurd c47 (by omega)
            · skip
              refine wa_fall ⟨_, rfl⟩ ?_
              refine wa_iconst ?_
              refine wa_goto ⟨_, rfl⟩ ?_
              refine wa_zreturn rfl (Or.inr rfl) ?_
              show wJ _ _ _ _ _ _ _ _ _ _
              refine wa_ifne (w_rg0 (by omega) (by omega)) ⟨_, rfl⟩ (fun c48 => ?_) (fun c48 => ?_)
              · skip
                refine wa_aload_n (n := 0) rfl ?_
                refine wb_gf4 215 rfl (wy_pr rfl) wt_215 wf_8_3 (v := 216) wl_215_3 ?_
                refine wb_gf4 216 rfl (wy_pr rfl) wt_216 wf_7_1 (v := 218) wl_216_1 ?_
                refine wa_iload_n (n := 1) rfl ?_
                refine wb_lald 218 rfl (wy_pr rfl) wt_218 (n := (S 217 (-1))) (bl1) (by omega) (by omega) (v := o1) (hvx) (fun r49 => ?_)
                refine wb_l2i_r (wb_l2i_id ⟨(by omega), (by omega)⟩) ?_
                refine wa_istore_n (n := 3) rfl ?_
                refine wa_aload_n (n := 0) rfl ?_
                refine wb_gf4 215 rfl (wy_pr rfl) wt_215 wf_8_3 (v := 216) wl_215_3 ?_
                refine wb_gf4 216 rfl (wy_pr rfl) wt_216 wf_7_0 (v := 217) wl_216_0 ?_
                refine wa_iload_n (n := 2) rfl ?_
                refine wb_bald 217 rfl (wy_pr rfl) wt_217 (n := (S 217 (-1))) (rfl) (by omega) (by omega) (v := ky) (hky) (fun r50 => ?_)
                refine wa_ifne (w_rg0 (by omega) (by omega)) ⟨_, rfl⟩ (fun c51 => ?_) (fun c51 => ?_)
                · skip
                  refine wa_aload_n (n := 0) rfl ?_
                  refine wb_gf4 215 rfl (wy_pr rfl) wt_215 wf_8_3 (v := 216) wl_215_3 ?_
                  refine wb_gf4 216 rfl (wy_pr rfl) wt_216 wf_7_1 (v := 218) wl_216_1 ?_
                  refine wa_iload_n (n := 2) rfl ?_
                  refine wb_lald 218 rfl (wy_pr rfl) wt_218 (n := (S 217 (-1))) (bl1) (by omega) (by omega) (v := q) (hvy) (fun r52 => ?_)
                  refine wb_l2i_r (wb_l2i_id ⟨(by omega), (by omega)⟩) ?_
                  refine wa_fall ⟨_, rfl⟩ ?_
                  refine wa_istore (n := 4) rfl ?_
                  refine wa_iload (n := 4) rfl ?_
                  refine wa_istore (n := 5) rfl ?_
                  refine wa_iconst ?_
                  refine wa_istore (n := 6) rfl ?_
                  refine wa_fall ⟨_, rfl⟩ ?_
                  refine wJ_S (tl_215 (one := (h - 1) - 1) (oth := h - 1) (o1 := o1) (q := q) hC hsw ht hlt hw hT ⟨by omega, by omega⟩ ⟨⟨by omega, by omega⟩, ⟨by omega, by omega⟩, by omega, by omega⟩ (T.length + 1) q 0 (by omega) (by omega) (Or.inr hq) (fun hz => ⟨rfl, Or.inl ⟨hhm.trans hz, rfl⟩⟩) (fun hz u2 i2 => ?_)) ⟨rfl, rfl, rfl, rfl, rfl, rfl, rfl, trivial⟩
                  have hm0 : hm = 0 := hhm.trans hz
                  refine wa_aload_n (n := 0) rfl ?_
                  refine wb_gf4 215 rfl (wy_pr rfl) wt_215 wf_8_0 (v := 72) wl_215_0 ?_
                  refine wa_iload_n (n := 3) rfl ?_
                  refine wa_iload (n := 4) rfl ?_
                  refine wa_iconst ?_
                  refine wa_cv 72 rfl (wy_pr rfl) wt_72 (M2 := mS [144, 145, 146, 147, 148]) rfl at_XH_reshaped ⟨_, rfl⟩ rfl rfl ⟨(Or.inr ⟨wy_pr rfl, mS_no rfl⟩), trivial, trivial, trivial, trivial, trivial, trivial, trivial⟩ trivial (fun _ _ q => mS_sub (by decide) q) (wJ_mono (c_re1 (k := o1) (wo := -1) hC hI hx1 hW hsw hw ho hq (by decide) hu4 hnb h56) (fun o Z hz => (by rw [hrr]; exact hz : (o = .inl (some (0, -1)) ∧ 4000 < S 150 4 + aMb H q (fS (-1) (aNs H (tO T o1).2.1) 0) ∧ oF S Z) ∨ (S 150 4 + aMb H q (fS (-1) (aNs H (tO T o1).2.1) 0) ≤ 4000 ∧ o = .inl (some (0, rr)) ∧ reQ q (-1) o1 T H L G S Z)))) (fun oq53 Sq53 hp54 q53 => ?_)
                  rcases q53 with ⟨rfl, hno, hoF⟩ | ⟨hyes, rfl, hre⟩
                  · skip
                    show wJ _ _ _ _ _ _ _ _ _ _
                    refine wa_istore (n := 6) rfl ?_
                    refine wa_iload (n := 6) rfl ?_
                    refine wa_iconst ?_
                    refine wa_icmpne (w_rg0 (by omega) (by omega)) (w_rg0 (by omega) (by omega)) ⟨_, rfl⟩ (fun c55 => ?_) (fun c55 => ?_)
                    · skip
                      exact absurd c55 (by omega)
                    · skip
                      refine wa_aload_n (n := 0) rfl ?_
                      refine wa_bipush (w_rg2 (by omega) (by omega)) ?_
                      refine wb_pfi 215 rfl (wy_pr rfl) wt_215 wf_8_16 (n := 16) rfl ⟨(by omega), (by omega)⟩ ?_
                      refine wa_return rfl ?_
                      exact ⟨rfl, Or.inr (Or.inl ⟨hm0, hno, Sq53, hoF, rfl⟩)⟩
                  · skip
                    show wJ _ _ _ _ _ _ _ _ _ _
                    obtain ⟨hre1, hre2, ⟨hreC, hreG, hreR⟩, hre4, hreF⟩ := id hre
                    have hreL := hre2.2.2.2.2.1
                    have hrr0 : 0 ≤ rr ∧ rr < 1000000 := by
                      obtain ⟨b1, ⟨b2, b3⟩, b4, b5, b6, b7, b8, b9⟩ := aBr_ok hw (Or.inr hq) (l := (fS (-1) (aNs H (tO T o1).2.1) 0)) (by omega)
                      have hsh := wSh_sh hw ho
                      have hds := nDs_H hw.1 hw.2.1 _ _ hsh.1 hsh.2 rfl
                      have hrl := aRb_ok (fS (-1) (aNs H (tO T o1).2.1) 0) _ _ b1 b2 b3 b4 (nDs_f _ _ hds.1) (fun x hx => ⟨hds.2 x (fS_m _ _ x hx), fun z => by rw [b5] at z; exact absurd z List.not_mem_nil⟩) (by omega)
                      have hll := hrl.1.1.2.1
                      rw [hrr]; have := hrl.2.1; omega
                    have hlen : (aBr T H q).1.length = T.length := (aBr_ok (l := (fS (-1) (aNs H (tO T o1).2.1) 0)) hw (Or.inr hq) (by omega)).2.2.2.2.2.2.2
                    have hL2 := hreL.2
                    rw [hlen] at hL2
                    have hA3 := (c_th hre2.1 (k := o1) ho0.1 (by rw [hlen]; exact ho0.2)).1
                    have hepA : -1 ≤ Sq53 130 o1 ∧ Sq53 130 o1 ≤ 9000001 := by rw [hA3.2.2.2.2.1]; exact aBr_ep hw (Or.inr hq) ho hep hch
                    refine wa_istore (n := 6) rfl ?_
                    refine wa_iload (n := 6) rfl ?_
                    refine wa_iconst ?_
                    refine wa_icmpne (w_rg0 (by omega) (by omega)) (w_rg0 (by omega) (by omega)) ⟨_, rfl⟩ (fun c56 => ?_) (fun c56 => ?_)
                    · skip
                      refine wa_aload_n (n := 0) rfl ?_
                      refine wb_gf4 215 rfl (wy_pr rfl) wt_215 wf_8_0 (v := 72) wl_215_0 ?_
                      refine wb_gf4 72 rfl (wy_pr rfl) wt_72 wf_2_2 (v := 126) wl_72_2 ?_
                      refine wa_iconst ?_
                      refine wb_aald5 126 1 rfl rfl (wy_pr rfl) wt_126 (by rw [show _ = _ from (((hreF 126 (-1) (by decide) (by decide) (by unfold cMr; omega)).trans ((cl_126 hC))))]; omega) wl_126_1 ?_
                      refine wa_iload_n (n := 3) rfl ?_
                      refine wa_iload (n := 6) rfl ?_
                      refine wb_iast 128 rfl (wy_pr rfl) wt_128 (n := (Sq53 127 (-1))) ((hreL.1 1 (by decide))) (by omega) (by omega) ⟨(by omega), (by omega)⟩ ?_
                      refine wa_aload_n (n := 0) rfl ?_
                      refine wb_gf4 215 rfl (wy_pr rfl) wt_215 wf_8_0 (v := 72) wl_215_0 ?_
                      refine wa_iload_n (n := 3) rfl ?_
                      have e72 : (w_up Sq53 128 o1 rr) 72 11 = S 72 11 := ((w_up_slot (by first | decide | omega)).trans ((hreF 72 11 (by first | decide | omega) (by first | decide | omega) (by unfold cMr; omega))))
                      have e130 : (w_up Sq53 128 o1 rr) 130 o1 = Sq53 130 o1 := w_up_slot (by first | decide | omega)
                      have eA72 : Sq53 72 11 = S 72 11 := hreF 72 11 (by first | decide | omega) (by first | decide | omega) (by unfold cMr; omega)
                      have eL : ∀ x : Nat, x < 10 → (w_up Sq53 128 o1 rr) (127 + x) (-1) = (w_up Sq53 128 o1 rr) 127 (-1) := fun x hx => (w_up_no (by omega)).trans ((hreL.1 x hx).trans (w_up_no (by omega)).symm)
                      have eL7 : (w_up Sq53 128 o1 rr) 127 (-1) = Sq53 127 (-1) := w_up_no (by omega)
                      refine wa_cv 72 rfl (wy_pr rfl) wt_72 (M2 := mS []) rfl at_XH_noteChange ⟨_, rfl⟩ rfl rfl ⟨trivial, (Or.inr ⟨wy_pr rfl, mS_no rfl⟩), trivial, trivial, trivial, trivial, trivial, trivial⟩ trivial (fun _ _ q => mS_sub (by decide) q) (wJ_mono (nc_ok (S := (w_up Sq53 128 o1 rr)) (k := o1) (ep := Sq53 130 o1) (ch := Sq53 72 11) eL ⟨by omega, by omega⟩ (by omega) e130 ⟨hepA.1, by omega⟩ (e72.trans eA72.symm) ⟨by omega, by omega⟩ (w_CL_up hreC (by omega))) (fun o Z hz => (⟨hz.1, hz.2⟩ : o = .inl none ∧ ncZ o1 rr (Sq53 130 o1) (Sq53 72 11) Sq53 = Z))) (fun oq57 Sq57 hp58 q57 => ?_)
                      rcases q57 with ⟨rfl, rfl⟩
                      show wJ _ _ _ _ _ _ _ _ _ _
                      refine wa_aload_n (n := 0) rfl ?_
                      refine wa_iconst ?_
                      refine wa_aload_n (n := 0) rfl ?_
                      refine wb_gf4 215 rfl (wy_pr rfl) wt_215 wf_8_3 (v := 216) wl_215_3 ?_
                      refine wb_gf4 216 rfl (wy_pr rfl) wt_216 wf_7_0 (v := 217) wl_216_0 ?_
                      refine wa_iload_n (n := 1) rfl ?_
                      refine wb_bald 217 rfl (wy_pr rfl) wt_217 (n := (S 217 (-1))) (((ncZ_e 217 (-1) (by decide) (by omega)).trans (((hreF 217 (-1) (by decide) (by decide) (by unfold cMr; omega)).trans (rfl))))) (by omega) (by omega) (v := kx) (((ncZ_e 217 ((h - 1) - 1) (by decide) (by omega)).trans (((hreF 217 ((h - 1) - 1) (by decide) (by decide) (by unfold cMr; omega)).trans (hkx))))) (fun r59 => ?_)
                      refine wa_iload_n (n := 3) rfl ?_
                      refine wa_i2l (w_rg0 (by omega) (by omega)) ?_
                      refine wa_cv 215 rfl (wy_pr rfl) wt_215 (M2 := mS [217, 218]) rfl at_XK_give ⟨_, rfl⟩ rfl rfl ⟨trivial, (Or.inr ⟨wy_pr rfl, mS_no rfl⟩), trivial, trivial, trivial, trivial, trivial, trivial⟩ trivial (fun _ _ q => mS_sub (by decide) q) (gw_215 (S := (ncZ o1 rr (Sq53 130 o1) (Sq53 72 11) Sq53)) (n := 2) (k := kx) (v := o1) (h := h) (c := c) (p := p) (ln := (S 217 (-1))) (ncZ_c hreC (by omega)) (ncZ_g hreG (by omega)) ⟨by omega, by omega⟩ ⟨by omega, by omega⟩ (((ncZ_e 216 2 (by decide) (by omega)).trans (((hreF 216 2 (by decide) (by decide) (by unfold cMr; omega)).trans (bh))))) (((ncZ_e 215 4 (by decide) (by omega)).trans (((hreF 215 4 (by decide) (by decide) (by unfold cMr; omega)).trans (bc))))) (((ncZ_e 220 (c - 1) (by decide) (by omega)).trans (((hreF 220 (c - 1) (by decide) (by decide) (by unfold cMr; omega)).trans (bp))))) (((ncZ_e 217 (-1) (by decide) (by omega)).trans (((hreF 217 (-1) (by decide) (by decide) (by unfold cMr; omega)).trans (rfl))))) (((ncZ_e 218 (-1) (by decide) (by omega)).trans (((hreF 218 (-1) (by decide) (by decide) (by unfold cMr; omega)).trans (bl1))))) ⟨by omega, by omega⟩ ⟨by omega, by omega, by omega⟩ ⟨by omega, by omega⟩ ⟨by omega, by omega⟩) (fun oq60 Sq60 hp61 q60 => ?_)
                      rcases q60 with ⟨rfl, A60, ra60, rfl⟩
                      show wJ _ _ _ _ _ _ _ _ _ _
                      refine wa_return rfl ?_
                      exact ⟨rfl, Or.inr (Or.inr ⟨hm0, hyes, Sq53, hre, A60, ra60, rfl⟩)⟩
                    · skip
                      exact absurd c56 (by omega)
                · skip
                  exact absurd c51 (by omega)
              · skip
                exact absurd c48 (by omega)
          · skip
            refine wa_aload_n (n := 0) rfl ?_
            refine wb_gf4 215 rfl (wy_pr rfl) wt_215 wf_8_3 (v := 216) wl_215_3 ?_
            refine wb_gf4 216 rfl (wy_pr rfl) wt_216 wf_7_0 (v := 217) wl_216_0 ?_
            refine wa_iload_n (n := 1) rfl ?_
            refine wb_bald 217 rfl (wy_pr rfl) wt_217 (n := (S 217 (-1))) (rfl) (by omega) (by omega) (v := ky) (hky) (fun r62 => ?_)
            refine wa_iconst ?_
            refine wa_icmpne (w_rg0 (by omega) (by omega)) (w_rg0 (by omega) (by omega)) ⟨_, rfl⟩ (fun c63 => ?_) (fun c63 => ?_)
            · skip
              exact absurd c63 (by omega)
            · skip
              refine wa_fall ⟨_, rfl⟩ ?_
              refine wa_iconst ?_
              refine wa_goto ⟨_, rfl⟩ ?_
              refine wa_zreturn rfl (Or.inr rfl) ?_
              show wJ _ _ _ _ _ _ _ _ _ _
              refine wa_ifeq (w_rg0 (by omega) (by omega)) ⟨_, rfl⟩ (fun c64 => ?_) (fun c64 => ?_)
              · skip
                exact absurd c64 (by omega)
              · skip
                refine wa_fall ⟨_, rfl⟩ ?_
                refine wa_iconst ?_
                refine wa_goto ⟨_, rfl⟩ ?_
                refine wa_zreturn rfl (Or.inr rfl) ?_
                show wJ _ _ _ _ _ _ _ _ _ _
                refine wa_ifne (w_rg0 (by omega) (by omega)) ⟨_, rfl⟩ (fun c65 => ?_) (fun c65 => ?_)
                · skip
                  refine wa_aload_n (n := 0) rfl ?_
                  refine wb_gf4 215 rfl (wy_pr rfl) wt_215 wf_8_3 (v := 216) wl_215_3 ?_
                  refine wb_gf4 216 rfl (wy_pr rfl) wt_216 wf_7_1 (v := 218) wl_216_1 ?_
                  refine wa_iload_n (n := 1) rfl ?_
                  refine wb_lald 218 rfl (wy_pr rfl) wt_218 (n := (S 217 (-1))) (bl1) (by omega) (by omega) (v := o1) (hvx) (fun r66 => ?_)
                  refine wb_l2i_r (wb_l2i_id ⟨(by omega), (by omega)⟩) ?_
                  refine wa_istore_n (n := 3) rfl ?_
                  refine wa_aload_n (n := 0) rfl ?_
                  refine wb_gf4 215 rfl (wy_pr rfl) wt_215 wf_8_3 (v := 216) wl_215_3 ?_
                  refine wb_gf4 216 rfl (wy_pr rfl) wt_216 wf_7_0 (v := 217) wl_216_0 ?_
                  refine wa_iload_n (n := 2) rfl ?_
                  refine wb_bald 217 rfl (wy_pr rfl) wt_217 (n := (S 217 (-1))) (rfl) (by omega) (by omega) (v := ky) (hky) (fun r67 => ?_)
                  refine wa_ifne (w_rg0 (by omega) (by omega)) ⟨_, rfl⟩ (fun c68 => ?_) (fun c68 => ?_)
                  · skip
                    refine wa_aload_n (n := 0) rfl ?_
                    refine wb_gf4 215 rfl (wy_pr rfl) wt_215 wf_8_3 (v := 216) wl_215_3 ?_
                    refine wb_gf4 216 rfl (wy_pr rfl) wt_216 wf_7_1 (v := 218) wl_216_1 ?_
                    refine wa_iload_n (n := 2) rfl ?_
                    refine wb_lald 218 rfl (wy_pr rfl) wt_218 (n := (S 217 (-1))) (bl1) (by omega) (by omega) (v := q) (hvy) (fun r69 => ?_)
                    refine wb_l2i_r (wb_l2i_id ⟨(by omega), (by omega)⟩) ?_
                    refine wa_fall ⟨_, rfl⟩ ?_
                    refine wa_istore (n := 4) rfl ?_
                    refine wa_iload (n := 4) rfl ?_
                    refine wa_istore (n := 5) rfl ?_
                    refine wa_iconst ?_
                    refine wa_istore (n := 6) rfl ?_
                    refine wa_fall ⟨_, rfl⟩ ?_
                    refine wJ_S (tl_215 (one := (h - 1) - 1) (oth := h - 1) (o1 := o1) (q := q) hC hsw ht hlt hw hT ⟨by omega, by omega⟩ ⟨⟨by omega, by omega⟩, ⟨by omega, by omega⟩, by omega, by omega⟩ (T.length + 1) q 0 (by omega) (by omega) (Or.inr hq) (fun hz => ⟨rfl, Or.inl ⟨hhm.trans hz, rfl⟩⟩) (fun hz u2 i2 => ?_)) ⟨rfl, rfl, rfl, rfl, rfl, rfl, rfl, trivial⟩
                    have hm0 : hm = 0 := hhm.trans hz
                    refine wa_aload_n (n := 0) rfl ?_
                    refine wb_gf4 215 rfl (wy_pr rfl) wt_215 wf_8_0 (v := 72) wl_215_0 ?_
                    refine wa_iload_n (n := 3) rfl ?_
                    refine wa_iload (n := 4) rfl ?_
                    refine wa_iconst ?_
                    refine wa_cv 72 rfl (wy_pr rfl) wt_72 (M2 := mS [144, 145, 146, 147, 148]) rfl at_XH_reshaped ⟨_, rfl⟩ rfl rfl ⟨(Or.inr ⟨wy_pr rfl, mS_no rfl⟩), trivial, trivial, trivial, trivial, trivial, trivial, trivial⟩ trivial (fun _ _ q => mS_sub (by decide) q) (wJ_mono (c_re1 (k := o1) (wo := -1) hC hI hx1 hW hsw hw ho hq (by decide) hu4 hnb h56) (fun o Z hz => (by rw [hrr]; exact hz : (o = .inl (some (0, -1)) ∧ 4000 < S 150 4 + aMb H q (fS (-1) (aNs H (tO T o1).2.1) 0) ∧ oF S Z) ∨ (S 150 4 + aMb H q (fS (-1) (aNs H (tO T o1).2.1) 0) ≤ 4000 ∧ o = .inl (some (0, rr)) ∧ reQ q (-1) o1 T H L G S Z)))) (fun oq70 Sq70 hp71 q70 => ?_)
                    rcases q70 with ⟨rfl, hno, hoF⟩ | ⟨hyes, rfl, hre⟩
                    · skip
                      show wJ _ _ _ _ _ _ _ _ _ _
                      refine wa_istore (n := 6) rfl ?_
                      refine wa_iload (n := 6) rfl ?_
                      refine wa_iconst ?_
                      refine wa_icmpne (w_rg0 (by omega) (by omega)) (w_rg0 (by omega) (by omega)) ⟨_, rfl⟩ (fun c72 => ?_) (fun c72 => ?_)
                      · skip
                        exact absurd c72 (by omega)
                      · skip
                        refine wa_aload_n (n := 0) rfl ?_
                        refine wa_bipush (w_rg2 (by omega) (by omega)) ?_
                        refine wb_pfi 215 rfl (wy_pr rfl) wt_215 wf_8_16 (n := 16) rfl ⟨(by omega), (by omega)⟩ ?_
                        refine wa_return rfl ?_
                        exact ⟨rfl, Or.inr (Or.inl ⟨hm0, hno, Sq70, hoF, rfl⟩)⟩
                    · skip
                      show wJ _ _ _ _ _ _ _ _ _ _
                      obtain ⟨hre1, hre2, ⟨hreC, hreG, hreR⟩, hre4, hreF⟩ := id hre
                      have hreL := hre2.2.2.2.2.1
                      have hrr0 : 0 ≤ rr ∧ rr < 1000000 := by
                        obtain ⟨b1, ⟨b2, b3⟩, b4, b5, b6, b7, b8, b9⟩ := aBr_ok hw (Or.inr hq) (l := (fS (-1) (aNs H (tO T o1).2.1) 0)) (by omega)
                        have hsh := wSh_sh hw ho
                        have hds := nDs_H hw.1 hw.2.1 _ _ hsh.1 hsh.2 rfl
                        have hrl := aRb_ok (fS (-1) (aNs H (tO T o1).2.1) 0) _ _ b1 b2 b3 b4 (nDs_f _ _ hds.1) (fun x hx => ⟨hds.2 x (fS_m _ _ x hx), fun z => by rw [b5] at z; exact absurd z List.not_mem_nil⟩) (by omega)
                        have hll := hrl.1.1.2.1
                        rw [hrr]; have := hrl.2.1; omega
                      have hlen : (aBr T H q).1.length = T.length := (aBr_ok (l := (fS (-1) (aNs H (tO T o1).2.1) 0)) hw (Or.inr hq) (by omega)).2.2.2.2.2.2.2
                      have hL2 := hreL.2
                      rw [hlen] at hL2
                      have hA3 := (c_th hre2.1 (k := o1) ho0.1 (by rw [hlen]; exact ho0.2)).1
                      have hepA : -1 ≤ Sq70 130 o1 ∧ Sq70 130 o1 ≤ 9000001 := by rw [hA3.2.2.2.2.1]; exact aBr_ep hw (Or.inr hq) ho hep hch
                      refine wa_istore (n := 6) rfl ?_
                      refine wa_iload (n := 6) rfl ?_
                      refine wa_iconst ?_
                      refine wa_icmpne (w_rg0 (by omega) (by omega)) (w_rg0 (by omega) (by omega)) ⟨_, rfl⟩ (fun c73 => ?_) (fun c73 => ?_)
                      · skip
                        refine wa_aload_n (n := 0) rfl ?_
                        refine wb_gf4 215 rfl (wy_pr rfl) wt_215 wf_8_0 (v := 72) wl_215_0 ?_
                        refine wb_gf4 72 rfl (wy_pr rfl) wt_72 wf_2_2 (v := 126) wl_72_2 ?_
                        refine wa_iconst ?_
                        refine wb_aald5 126 1 rfl rfl (wy_pr rfl) wt_126 (by rw [show _ = _ from (((hreF 126 (-1) (by decide) (by decide) (by unfold cMr; omega)).trans ((cl_126 hC))))]; omega) wl_126_1 ?_
                        refine wa_iload_n (n := 3) rfl ?_
                        refine wa_iload (n := 6) rfl ?_
                        refine wb_iast 128 rfl (wy_pr rfl) wt_128 (n := (Sq70 127 (-1))) ((hreL.1 1 (by decide))) (by omega) (by omega) ⟨(by omega), (by omega)⟩ ?_
                        refine wa_aload_n (n := 0) rfl ?_
                        refine wb_gf4 215 rfl (wy_pr rfl) wt_215 wf_8_0 (v := 72) wl_215_0 ?_
                        refine wa_iload_n (n := 3) rfl ?_
                        have e72 : (w_up Sq70 128 o1 rr) 72 11 = S 72 11 := ((w_up_slot (by first | decide | omega)).trans ((hreF 72 11 (by first | decide | omega) (by first | decide | omega) (by unfold cMr; omega))))
                        have e130 : (w_up Sq70 128 o1 rr) 130 o1 = Sq70 130 o1 := w_up_slot (by first | decide | omega)
                        have eA72 : Sq70 72 11 = S 72 11 := hreF 72 11 (by first | decide | omega) (by first | decide | omega) (by unfold cMr; omega)
                        have eL : ∀ x : Nat, x < 10 → (w_up Sq70 128 o1 rr) (127 + x) (-1) = (w_up Sq70 128 o1 rr) 127 (-1) := fun x hx => (w_up_no (by omega)).trans ((hreL.1 x hx).trans (w_up_no (by omega)).symm)
                        have eL7 : (w_up Sq70 128 o1 rr) 127 (-1) = Sq70 127 (-1) := w_up_no (by omega)
                        refine wa_cv 72 rfl (wy_pr rfl) wt_72 (M2 := mS []) rfl at_XH_noteChange ⟨_, rfl⟩ rfl rfl ⟨trivial, (Or.inr ⟨wy_pr rfl, mS_no rfl⟩), trivial, trivial, trivial, trivial, trivial, trivial⟩ trivial (fun _ _ q => mS_sub (by decide) q) (wJ_mono (nc_ok (S := (w_up Sq70 128 o1 rr)) (k := o1) (ep := Sq70 130 o1) (ch := Sq70 72 11) eL ⟨by omega, by omega⟩ (by omega) e130 ⟨hepA.1, by omega⟩ (e72.trans eA72.symm) ⟨by omega, by omega⟩ (w_CL_up hreC (by omega))) (fun o Z hz => (⟨hz.1, hz.2⟩ : o = .inl none ∧ ncZ o1 rr (Sq70 130 o1) (Sq70 72 11) Sq70 = Z))) (fun oq74 Sq74 hp75 q74 => ?_)
                        rcases q74 with ⟨rfl, rfl⟩
                        show wJ _ _ _ _ _ _ _ _ _ _
                        refine wa_aload_n (n := 0) rfl ?_
                        refine wa_iconst ?_
                        refine wa_aload_n (n := 0) rfl ?_
                        refine wb_gf4 215 rfl (wy_pr rfl) wt_215 wf_8_3 (v := 216) wl_215_3 ?_
                        refine wb_gf4 216 rfl (wy_pr rfl) wt_216 wf_7_0 (v := 217) wl_216_0 ?_
                        refine wa_iload_n (n := 1) rfl ?_
                        refine wb_bald 217 rfl (wy_pr rfl) wt_217 (n := (S 217 (-1))) (((ncZ_e 217 (-1) (by decide) (by omega)).trans (((hreF 217 (-1) (by decide) (by decide) (by unfold cMr; omega)).trans (rfl))))) (by omega) (by omega) (v := kx) (((ncZ_e 217 ((h - 1) - 1) (by decide) (by omega)).trans (((hreF 217 ((h - 1) - 1) (by decide) (by decide) (by unfold cMr; omega)).trans (hkx))))) (fun r76 => ?_)
                        refine wa_iload_n (n := 3) rfl ?_
                        refine wa_i2l (w_rg0 (by omega) (by omega)) ?_
                        refine wa_cv 215 rfl (wy_pr rfl) wt_215 (M2 := mS [217, 218]) rfl at_XK_give ⟨_, rfl⟩ rfl rfl ⟨trivial, (Or.inr ⟨wy_pr rfl, mS_no rfl⟩), trivial, trivial, trivial, trivial, trivial, trivial⟩ trivial (fun _ _ q => mS_sub (by decide) q) (gw_215 (S := (ncZ o1 rr (Sq70 130 o1) (Sq70 72 11) Sq70)) (n := 2) (k := kx) (v := o1) (h := h) (c := c) (p := p) (ln := (S 217 (-1))) (ncZ_c hreC (by omega)) (ncZ_g hreG (by omega)) ⟨by omega, by omega⟩ ⟨by omega, by omega⟩ (((ncZ_e 216 2 (by decide) (by omega)).trans (((hreF 216 2 (by decide) (by decide) (by unfold cMr; omega)).trans (bh))))) (((ncZ_e 215 4 (by decide) (by omega)).trans (((hreF 215 4 (by decide) (by decide) (by unfold cMr; omega)).trans (bc))))) (((ncZ_e 220 (c - 1) (by decide) (by omega)).trans (((hreF 220 (c - 1) (by decide) (by decide) (by unfold cMr; omega)).trans (bp))))) (((ncZ_e 217 (-1) (by decide) (by omega)).trans (((hreF 217 (-1) (by decide) (by decide) (by unfold cMr; omega)).trans (rfl))))) (((ncZ_e 218 (-1) (by decide) (by omega)).trans (((hreF 218 (-1) (by decide) (by decide) (by unfold cMr; omega)).trans (bl1))))) ⟨by omega, by omega⟩ ⟨by omega, by omega, by omega⟩ ⟨by omega, by omega⟩ ⟨by omega, by omega⟩) (fun oq77 Sq77 hp78 q77 => ?_)
                        rcases q77 with ⟨rfl, A77, ra77, rfl⟩
                        show wJ _ _ _ _ _ _ _ _ _ _
                        refine wa_return rfl ?_
                        exact ⟨rfl, Or.inr (Or.inr ⟨hm0, hyes, Sq70, hre, A77, ra77, rfl⟩)⟩
                      · skip
                        exact absurd c73 (by omega)
                  · skip
                    exact absurd c68 (by omega)
                · skip
                  exact absurd c65 (by omega)
theorem tl_226 {one oth o1 q : Int} (hC : w_CL S) (h : cSw S T H) (ht : cTh S T) (hlt : cLt S T) (hw : wSh T H) (hT : (T.length : Int) ≤ 8000) (ho1 : 0 ≤ o1 ∧ o1 ≤ 8000) (hr0 : (0 ≤ one ∧ one ≤ 100000) ∧ (0 ≤ oth ∧ oth ≤ 100000) ∧ (-1 ≤ q ∧ q ≤ 8000)) : ∀ (f : Nat) (u i : Int), i + (f : Int) = (T.length : Int) + 1 → 0 ≤ i → (u = -1 ∨ isO T u) → (hMe (aPr T H) o1 f u = 1 → Q (.inl none) (w_up S 226 16 12)) → (hMe (aPr T H) o1 f u = 0 → ∀ u2 i2 : Int, wJ (pe_GA xs) wY0 M (d + 1) t_XK_turn ((pe_at t_XK_turn.bl 7).getD (0, [])).2 [(0, (2, 226)), (1, (0, one)), (2, (0, oth)), (3, (0, o1)), (4, (0, q)), (5, (0, u2)), (6, (0, i2))] [] S Q) → wJ (pe_GA xs) wY0 M (d + 1) t_XK_turn ((pe_at t_XK_turn.bl 5).getD (0, [])).2 [(0, (2, 226)), (1, (0, one)), (2, (0, oth)), (3, (0, o1)), (4, (0, q)), (5, (0, u)), (6, (0, i))] [] S Q := by
  obtain ⟨h1, ⟨l1, l2, l3, l4⟩, -, -⟩ := id h
  obtain ⟨hth, t2, t3, t4⟩ := id hlt
  have hn := ht.1
  have hH := hw.1.2.1
  intro f
  induction f with
  | zero =>
    intro u i h0 h2 hu k1 k0
    refine wa_iload (n := 6) rfl ?_
    refine wa_aload_n (n := 0) rfl ?_
    refine wb_gf4 226 rfl (wy_pr rfl) wt_226 wf_8_0 (v := 72) wl_226_0 ?_
    refine wb_gfi 72 rfl (wy_pr rfl) wt_72 wf_2_3 (v := (T.length : Int)) (hn) (fun r1 => ?_)
    refine wa_icmpgt (w_rg0 (by omega) (by omega)) (w_rg0 (by omega) (by omega)) ⟨_, rfl⟩ (fun c2 => ?_) (fun c2 => ?_)
    · skip
      exact wJ_S (k0 rfl _ _) ⟨rfl, rfl, rfl, rfl, rfl, rfl, rfl, trivial⟩
    · skip
      exfalso; omega
  | succ f ih =>
    intro u i h0 h2 hu k1 k0
    by_cases cu : u = -1
    · have e : hMe (aPr T H) o1 (f + 1) u = 0 := if_pos cu
      refine wa_iload (n := 6) rfl ?_
      refine wa_aload_n (n := 0) rfl ?_
      refine wb_gf4 226 rfl (wy_pr rfl) wt_226 wf_8_0 (v := 72) wl_226_0 ?_
      refine wb_gfi 72 rfl (wy_pr rfl) wt_72 wf_2_3 (v := (T.length : Int)) (hn) (fun r101 => ?_)
      refine wa_icmpgt (w_rg0 (by omega) (by omega)) (w_rg0 (by omega) (by omega)) ⟨_, rfl⟩ (fun c102 => ?_) (fun c102 => ?_)
      · skip
        exfalso; omega
      · skip
        refine wa_iload (n := 5) rfl ?_
        refine wa_iconst ?_
        refine wa_icmpeq (w_rg0 (by omega) (by omega)) (w_rg0 (by omega) (by omega)) ⟨_, rfl⟩ (fun c103 => ?_) (fun c103 => ?_)
        · skip
          exact wJ_S (k0 e _ _) ⟨rfl, rfl, rfl, rfl, rfl, rfl, rfl, trivial⟩
        · skip
          exfalso; omega
    have hu1 : isO T u := hu.elim (fun z => absurd z cu) id
    have hu0 := hu1.1
    obtain ⟨e1, e2, e3⟩ := hIx_o (nm := 0) h1 ht hw hu1
    have hpr := wSh_pr hw hu1
    have hpg : -1 ≤ aPr T H u ∧ aPr T H u < (T.length : Int) := by rcases hpr with z | z; omega; have := z.1; omega
    refine wa_iload (n := 6) rfl ?_
    refine wa_aload_n (n := 0) rfl ?_
    refine wb_gf4 226 rfl (wy_pr rfl) wt_226 wf_8_0 (v := 72) wl_226_0 ?_
    refine wb_gfi 72 rfl (wy_pr rfl) wt_72 wf_2_3 (v := (T.length : Int)) (hn) (fun r201 => ?_)
    refine wa_icmpgt (w_rg0 (by omega) (by omega)) (w_rg0 (by omega) (by omega)) ⟨_, rfl⟩ (fun c202 => ?_) (fun c202 => ?_)
    · skip
      exfalso; omega
    · skip
      refine wa_iload (n := 5) rfl ?_
      refine wa_iconst ?_
      refine wa_icmpeq (w_rg0 (by omega) (by omega)) (w_rg0 (by omega) (by omega)) ⟨_, rfl⟩ (fun c203 => ?_) (fun c203 => ?_)
      · skip
        exfalso; omega
      · skip
        refine wa_iload (n := 5) rfl ?_
        refine wa_iload_n (n := 3) rfl ?_
        refine wa_icmpne (w_rg0 (by omega) (by omega)) (w_rg0 (by omega) (by omega)) ⟨_, rfl⟩ (fun c204 => ?_) (fun c204 => ?_)
        · skip
          refine wa_aload_n (n := 0) rfl ?_
          refine wb_gf4 226 rfl (wy_pr rfl) wt_226 wf_8_0 (v := 72) wl_226_0 ?_
          refine wa_iload (n := 5) rfl ?_
          refine wa_cv 72 rfl (wy_pr rfl) wt_72 (M2 := fun _ => False) rfl at_XH_protoOf ⟨_, rfl⟩ rfl rfl ⟨(Or.inr ⟨wy_pr rfl, fun q => q⟩), trivial, trivial, trivial, trivial, trivial, trivial, trivial⟩ trivial (fun _ _ q => False.elim q) ?_ (fun _ _ _ q => q)
          refine wa_aload_n (n := 0) rfl ?_
          refine wb_gf4 72 rfl (wy_pr rfl) wt_72 wf_2_7 (v := 143) wl_72_7 ?_
          refine wa_iconst ?_
          refine wb_aald5 143 0 rfl rfl (wy_pr rfl) wt_143 (by rw [show _ = _ from ((cl_143 hC))]; omega) wl_143_0 ?_
          refine wa_aload_n (n := 0) rfl ?_
          refine wb_gf4 72 rfl (wy_pr rfl) wt_72 wf_2_2 (v := 126) wl_72_2 ?_
          refine wa_iconst ?_
          refine wb_aald5 126 1 rfl rfl (wy_pr rfl) wt_126 (by rw [show _ = _ from ((cl_126 hC))]; omega) wl_126_1 ?_
          refine wa_iload_n (n := 1) rfl ?_
          refine wb_iald 128 rfl (wy_pr rfl) wt_128 (n := (S 127 (-1))) ((hth 1 (by decide))) (by omega) (by omega) (v := (S 128 u)) (rfl) (fun r205 => ?_)
          refine wb_iald 144 rfl (wy_pr rfl) wt_144 (n := (S 144 (-1))) (rfl) (by omega) (by omega) (v := (aPr T H u)) (e2) (fun r206 => ?_)
          refine wa_ireturn rfl ?_
          show wJ _ _ _ _ _ _ _ _ _ _
          refine wa_istore (n := 5) rfl ?_
          refine wa_iinc rfl rfl ?_
          refine wa_goto ⟨_, rfl⟩ ?_
          have e : hMe (aPr T H) o1 (f + 1) u = hMe (aPr T H) o1 f (aPr T H u) := (if_neg cu).trans (if_neg (by omega))
          rw [e] at k1 k0
          exact wJ_S (ih (aPr T H u) (i + 1) (by omega) (by omega) hpr k1 k0) ⟨rfl, rfl, rfl, rfl, rfl, rfl, rfl, trivial⟩
        · skip
          refine wa_aload_n (n := 0) rfl ?_
          refine wa_bipush (w_rg2 (by omega) (by omega)) ?_
          refine wb_pfi 226 rfl (wy_pr rfl) wt_226 wf_8_16 (n := 16) rfl ⟨(by omega), (by omega)⟩ ?_
          refine wa_return rfl ?_
          exact k1 ((if_neg cu).trans (if_pos (by omega)))
set_option maxHeartbeats 4000000 in
theorem tu0_226 {c p h kx o1 vy : Int} (hP : xP 226 c p h S) (hx1 : pe_at (pe_GA xs).xs 1 = some (1, tx_1)) (hky : S 228 (h - 1) = 0) (hvy : S 229 (h - 1) = vy) (hkx : S 228 (h - 1 - 1) = kx) (hvx : S 229 (h - 1 - 1) = o1) (hh1 : 2 ≤ h) (hkx45 : kx = 4 ∨ kx = 5) (ho : isO T o1) (hW : cWd S T L G) (hsw : cSw S T H) (hw : wSh T H) (hT : (T.length : Int) ≤ 8000) (hu4 : 0 ≤ S 150 4 ∧ S 150 4 ≤ 4000 ∧ (H.length : Int) ≤ S 150 4 + 1) (hnb : ∀ s : Int, 0 ≤ s → s < (H.length : Int) → qNm H s ≤ 100000) (hch : 0 ≤ S 72 11 ∧ S 72 11 ≤ 9000000) (hep : ∀ k : Int, isO T k → (tO T k).2.2.2.2.1 ≤ S 72 11) (h56 : S 156 (-1) = 65) : wJ (pe_GA xs) wY0 (mS [228, 229, 144, 145, 146, 147, 148]) (d + 10) t_XK_turn ((pe_at t_XK_turn.bl 0).getD (0, [])).2 [(0, (2, 226)), (1, (0, (h - 1) - 1)), (2, (0, h - 1))] [] S (fun o Z => o = .inl none ∧ ((hMe (aPr T H) o1 (T.length + 1) (-1) = 1 ∧ w_up S 226 16 12 = Z) ∨ (hMe (aPr T H) o1 (T.length + 1) (-1) = 0 ∧ 4000 < S 150 4 + aMb H (-1) (fS (-1) (aNs H (tO T o1).2.1) 0) ∧ ∃ A : wS, oF S A ∧ w_up A 226 16 99 = Z) ∨ (hMe (aPr T H) o1 (T.length + 1) (-1) = 0 ∧ S 150 4 + aMb H (-1) (fS (-1) (aNs H (tO T o1).2.1) 0) ≤ 4000 ∧ ∃ A : wS, reQ (-1) (-1) o1 T H L G S A ∧ sO 226 h c p 2 kx o1 (ncZ o1 (aRb (-1) (fS (-1) (aNs H (tO T o1).2.1) 0) (aBr T H (-1)).2.1 (aBr T H (-1)).2.2).2 (A 130 o1) (A 72 11) A) Z))) := by
  obtain ⟨⟨hC, hI⟩, ⟨bc, bc0, bc1⟩, ⟨bp, bp0, bp1⟩, ⟨bh, bh0, bh1, bh2⟩, bl1, bl2, bl3⟩ := id hP
  replace bp : S 231 (c - 1) = p := bp
  replace bh : S 227 2 = h := bh
  replace bh2 : h ≤ S 228 (-1) := bh2
  replace bl1 : S 229 (-1) = S 228 (-1) := bl1
  replace bl2 : 64 ≤ S 228 (-1) := bl2
  replace bl3 : S 228 (-1) ≤ 4095 := bl3
  have hg : wG = 1000000 := rfl
  obtain ⟨ht, -, -, -, hlt, -⟩ := id hW
  have ho0 := ho.1
  obtain ⟨hm, hhm⟩ : ∃ hm : Int, hm = hMe (aPr T H) o1 (T.length + 1) (-1) := ⟨_, rfl⟩
  have hm01 : hm = 0 ∨ hm = 1 := by rw [hhm]; exact hMe_01 _ _
  rw [← hhm]
  obtain ⟨rr, hrr⟩ : ∃ rr : Int, rr = (aRb (-1) (fS (-1) (aNs H (tO T o1).2.1) 0) (aBr T H (-1)).2.1 (aBr T H (-1)).2.2).2 := ⟨_, rfl⟩
  rw [← hrr]
  refine wa_aload_n (n := 0) rfl ?_
  refine wa_iload_n (n := 1) rfl ?_
  refine wa_cv 226 rfl (wy_pr rfl) wt_226 (M2 := mS [228, 229, 144, 145, 146, 147, 148]) rfl at_XK_isHolder ⟨_, rfl⟩ rfl rfl ⟨(Or.inr ⟨wy_pr rfl, mS_no rfl⟩), trivial, trivial, trivial⟩ trivial (fun _ _ q => q) ?_ (fun _ _ _ q => q)
  refine wa_aload_n (n := 0) rfl ?_
  refine wb_gf4 226 rfl (wy_pr rfl) wt_226 wf_8_3 (v := 227) wl_226_3 ?_
  refine wb_gf4 227 rfl (wy_pr rfl) wt_227 wf_7_0 (v := 228) wl_227_0 ?_
  refine wa_iload_n (n := 1) rfl ?_
  refine wb_bald 228 rfl (wy_pr rfl) wt_228 (n := (S 228 (-1))) (rfl) (by omega) (by omega) (v := kx) (hkx) (fun r1 => ?_)
  refine wa_iconst ?_
  refine wa_icmpeq (w_rg0 (by omega) (by omega)) (w_rg0 (by omega) (by omega)) ⟨_, rfl⟩ (fun c2 => ?_) (fun c2 => ?_)
  · skip
    refine wa_iconst ?_
    refine wa_goto ⟨_, rfl⟩ ?_
    refine wa_zreturn rfl (Or.inr rfl) ?_
    show wJ _ _ _ _ _ _ _ _ _ _
    refine wa_ifeq (w_rg0 (by omega) (by omega)) ⟨_, rfl⟩ (fun c3 => ?_) (fun c3 => ?_)
    · skip
      exact absurd c3 (by omega)
    · skip
      refine wa_aload_n (n := 0) rfl ?_
      refine wa_iload_n (n := 2) rfl ?_
      refine wa_cv 226 rfl (wy_pr rfl) wt_226 (M2 := mS [228, 229, 144, 145, 146, 147, 148]) rfl at_XK_isPrototype ⟨_, rfl⟩ rfl rfl ⟨(Or.inr ⟨wy_pr rfl, mS_no rfl⟩), trivial, trivial, trivial⟩ trivial (fun _ _ q => q) ?_ (fun _ _ _ q => q)
      refine wa_aload_n (n := 0) rfl ?_
      refine wb_gf4 226 rfl (wy_pr rfl) wt_226 wf_8_3 (v := 227) wl_226_3 ?_
      refine wb_gf4 227 rfl (wy_pr rfl) wt_227 wf_7_0 (v := 228) wl_227_0 ?_
      refine wa_iload_n (n := 1) rfl ?_
      refine wb_bald 228 rfl (wy_pr rfl) wt_228 (n := (S 228 (-1))) (rfl) (by omega) (by omega) (v := 0) (hky) (fun r4 => ?_)
      refine wa_ifeq (w_rg0 (by omega) (by omega)) ⟨_, rfl⟩ (fun c5 => ?_) (fun c5 => ?_)
      · skip
        refine wa_iconst ?_
        refine wa_goto ⟨_, rfl⟩ ?_
        refine wa_zreturn rfl (Or.inr rfl) ?_
        show wJ _ _ _ _ _ _ _ _ _ _
        refine wa_ifne (w_rg0 (by omega) (by omega)) ⟨_, rfl⟩ (fun c6 => ?_) (fun c6 => ?_)
        · skip
          refine wa_aload_n (n := 0) rfl ?_
          refine wb_gf4 226 rfl (wy_pr rfl) wt_226 wf_8_3 (v := 227) wl_226_3 ?_
          refine wb_gf4 227 rfl (wy_pr rfl) wt_227 wf_7_1 (v := 229) wl_227_1 ?_
          refine wa_iload_n (n := 1) rfl ?_
          refine wb_lald 229 rfl (wy_pr rfl) wt_229 (n := (S 228 (-1))) (bl1) (by omega) (by omega) (v := o1) (hvx) (fun r7 => ?_)
          refine wb_l2i_r (wb_l2i_id ⟨(by omega), (by omega)⟩) ?_
          refine wa_istore_n (n := 3) rfl ?_
          refine wa_aload_n (n := 0) rfl ?_
          refine wb_gf4 226 rfl (wy_pr rfl) wt_226 wf_8_3 (v := 227) wl_226_3 ?_
          refine wb_gf4 227 rfl (wy_pr rfl) wt_227 wf_7_0 (v := 228) wl_227_0 ?_
          refine wa_iload_n (n := 2) rfl ?_
          refine wb_bald 228 rfl (wy_pr rfl) wt_228 (n := (S 228 (-1))) (rfl) (by omega) (by omega) (v := 0) (hky) (fun r8 => ?_)
          refine wa_ifne (w_rg0 (by omega) (by omega)) ⟨_, rfl⟩ (fun c9 => ?_) (fun c9 => ?_)
          · skip
            exact absurd c9 (by omega)
          · skip
            refine wa_iconst ?_
            refine wa_goto ⟨_, rfl⟩ ?_
            refine wa_istore (n := 4) rfl ?_
            refine wa_iload (n := 4) rfl ?_
            refine wa_istore (n := 5) rfl ?_
            refine wa_iconst ?_
            refine wa_istore (n := 6) rfl ?_
            refine wa_fall ⟨_, rfl⟩ ?_
            refine wJ_S (tl_226 (one := (h - 1) - 1) (oth := h - 1) (o1 := o1) (q := (-1)) hC hsw ht hlt hw hT ⟨by omega, by omega⟩ ⟨⟨by omega, by omega⟩, ⟨by omega, by omega⟩, by omega, by omega⟩ (T.length + 1) (-1) 0 (by omega) (by omega) (Or.inl rfl) (fun hz => ⟨rfl, Or.inl ⟨hhm.trans hz, rfl⟩⟩) (fun hz u2 i2 => ?_)) ⟨rfl, rfl, rfl, rfl, rfl, rfl, rfl, trivial⟩
            have hm0 : hm = 0 := hhm.trans hz
            refine wa_aload_n (n := 0) rfl ?_
            refine wb_gf4 226 rfl (wy_pr rfl) wt_226 wf_8_0 (v := 72) wl_226_0 ?_
            refine wa_iload_n (n := 3) rfl ?_
            refine wa_iload (n := 4) rfl ?_
            refine wa_iconst ?_
            refine wa_cv 72 rfl (wy_pr rfl) wt_72 (M2 := mS [144, 145, 146, 147, 148]) rfl at_XH_reshaped ⟨_, rfl⟩ rfl rfl ⟨(Or.inr ⟨wy_pr rfl, mS_no rfl⟩), trivial, trivial, trivial, trivial, trivial, trivial, trivial⟩ trivial (fun _ _ q => mS_sub (by decide) q) (wJ_mono (c_re0 (k := o1) (wo := -1) hC hI hx1 hW hsw hw ho (by decide) hu4 hnb h56) (fun o Z hz => (by rw [hrr]; exact hz : (o = .inl (some (0, -1)) ∧ 4000 < S 150 4 + aMb H (-1) (fS (-1) (aNs H (tO T o1).2.1) 0) ∧ oF S Z) ∨ (S 150 4 + aMb H (-1) (fS (-1) (aNs H (tO T o1).2.1) 0) ≤ 4000 ∧ o = .inl (some (0, rr)) ∧ reQ (-1) (-1) o1 T H L G S Z)))) (fun oq10 Sq10 hp11 q10 => ?_)
            rcases q10 with ⟨rfl, hno, hoF⟩ | ⟨hyes, rfl, hre⟩
            · skip
              show wJ _ _ _ _ _ _ _ _ _ _
              refine wa_istore (n := 6) rfl ?_
              refine wa_iload (n := 6) rfl ?_
              refine wa_iconst ?_
              refine wa_icmpne (w_rg0 (by omega) (by omega)) (w_rg0 (by omega) (by omega)) ⟨_, rfl⟩ (fun c12 => ?_) (fun c12 => ?_)
              · skip
                exact absurd c12 (by omega)
              · skip
                refine wa_aload_n (n := 0) rfl ?_
                refine wa_bipush (w_rg2 (by omega) (by omega)) ?_
                refine wb_pfi 226 rfl (wy_pr rfl) wt_226 wf_8_16 (n := 16) rfl ⟨(by omega), (by omega)⟩ ?_
                refine wa_return rfl ?_
                exact ⟨rfl, Or.inr (Or.inl ⟨hm0, hno, Sq10, hoF, rfl⟩)⟩
            · skip
              show wJ _ _ _ _ _ _ _ _ _ _
              obtain ⟨hre1, hre2, ⟨hreC, hreG, hreR⟩, hre4, hreF⟩ := id hre
              have hreL := hre2.2.2.2.2.1
              have hrr0 : 0 ≤ rr ∧ rr < 1000000 := by
                obtain ⟨b1, ⟨b2, b3⟩, b4, b5, b6, b7, b8, b9⟩ := aBr_ok hw (Or.inl rfl) (l := (fS (-1) (aNs H (tO T o1).2.1) 0)) (by omega)
                have hsh := wSh_sh hw ho
                have hds := nDs_H hw.1 hw.2.1 _ _ hsh.1 hsh.2 rfl
                have hrl := aRb_ok (fS (-1) (aNs H (tO T o1).2.1) 0) _ _ b1 b2 b3 b4 (nDs_f _ _ hds.1) (fun x hx => ⟨hds.2 x (fS_m _ _ x hx), fun z => by rw [b5] at z; exact absurd z List.not_mem_nil⟩) (by omega)
                have hll := hrl.1.1.2.1
                rw [hrr]; have := hrl.2.1; omega
              have hlen : (aBr T H (-1)).1.length = T.length := (aBr_ok (l := (fS (-1) (aNs H (tO T o1).2.1) 0)) hw (Or.inl rfl) (by omega)).2.2.2.2.2.2.2
              have hL2 := hreL.2
              rw [hlen] at hL2
              have hA3 := (c_th hre2.1 (k := o1) ho0.1 (by rw [hlen]; exact ho0.2)).1
              have hepA : -1 ≤ Sq10 130 o1 ∧ Sq10 130 o1 ≤ 9000001 := by rw [hA3.2.2.2.2.1]; exact aBr_ep hw (Or.inl rfl) ho hep hch
              refine wa_istore (n := 6) rfl ?_
              refine wa_iload (n := 6) rfl ?_
              refine wa_iconst ?_
              refine wa_icmpne (w_rg0 (by omega) (by omega)) (w_rg0 (by omega) (by omega)) ⟨_, rfl⟩ (fun c13 => ?_) (fun c13 => ?_)
              · skip
                refine wa_aload_n (n := 0) rfl ?_
                refine wb_gf4 226 rfl (wy_pr rfl) wt_226 wf_8_0 (v := 72) wl_226_0 ?_
                refine wb_gf4 72 rfl (wy_pr rfl) wt_72 wf_2_2 (v := 126) wl_72_2 ?_
                refine wa_iconst ?_
                refine wb_aald5 126 1 rfl rfl (wy_pr rfl) wt_126 (by rw [show _ = _ from (((hreF 126 (-1) (by decide) (by decide) (by unfold cMr; omega)).trans ((cl_126 hC))))]; omega) wl_126_1 ?_
                refine wa_iload_n (n := 3) rfl ?_
                refine wa_iload (n := 6) rfl ?_
                refine wb_iast 128 rfl (wy_pr rfl) wt_128 (n := (Sq10 127 (-1))) ((hreL.1 1 (by decide))) (by omega) (by omega) ⟨(by omega), (by omega)⟩ ?_
                refine wa_aload_n (n := 0) rfl ?_
                refine wb_gf4 226 rfl (wy_pr rfl) wt_226 wf_8_0 (v := 72) wl_226_0 ?_
                refine wa_iload_n (n := 3) rfl ?_
                have e72 : (w_up Sq10 128 o1 rr) 72 11 = S 72 11 := ((w_up_slot (by first | decide | omega)).trans ((hreF 72 11 (by first | decide | omega) (by first | decide | omega) (by unfold cMr; omega))))
                have e130 : (w_up Sq10 128 o1 rr) 130 o1 = Sq10 130 o1 := w_up_slot (by first | decide | omega)
                have eA72 : Sq10 72 11 = S 72 11 := hreF 72 11 (by first | decide | omega) (by first | decide | omega) (by unfold cMr; omega)
                have eL : ∀ x : Nat, x < 10 → (w_up Sq10 128 o1 rr) (127 + x) (-1) = (w_up Sq10 128 o1 rr) 127 (-1) := fun x hx => (w_up_no (by omega)).trans ((hreL.1 x hx).trans (w_up_no (by omega)).symm)
                have eL7 : (w_up Sq10 128 o1 rr) 127 (-1) = Sq10 127 (-1) := w_up_no (by omega)
                refine wa_cv 72 rfl (wy_pr rfl) wt_72 (M2 := mS []) rfl at_XH_noteChange ⟨_, rfl⟩ rfl rfl ⟨trivial, (Or.inr ⟨wy_pr rfl, mS_no rfl⟩), trivial, trivial, trivial, trivial, trivial, trivial⟩ trivial (fun _ _ q => mS_sub (by decide) q) (wJ_mono (nc_ok (S := (w_up Sq10 128 o1 rr)) (k := o1) (ep := Sq10 130 o1) (ch := Sq10 72 11) eL ⟨by omega, by omega⟩ (by omega) e130 ⟨hepA.1, by omega⟩ (e72.trans eA72.symm) ⟨by omega, by omega⟩ (w_CL_up hreC (by omega))) (fun o Z hz => (⟨hz.1, hz.2⟩ : o = .inl none ∧ ncZ o1 rr (Sq10 130 o1) (Sq10 72 11) Sq10 = Z))) (fun oq14 Sq14 hp15 q14 => ?_)
                rcases q14 with ⟨rfl, rfl⟩
                show wJ _ _ _ _ _ _ _ _ _ _
                refine wa_aload_n (n := 0) rfl ?_
                refine wa_iconst ?_
                refine wa_aload_n (n := 0) rfl ?_
                refine wb_gf4 226 rfl (wy_pr rfl) wt_226 wf_8_3 (v := 227) wl_226_3 ?_
                refine wb_gf4 227 rfl (wy_pr rfl) wt_227 wf_7_0 (v := 228) wl_227_0 ?_
                refine wa_iload_n (n := 1) rfl ?_
                refine wb_bald 228 rfl (wy_pr rfl) wt_228 (n := (S 228 (-1))) (((ncZ_e 228 (-1) (by decide) (by omega)).trans (((hreF 228 (-1) (by decide) (by decide) (by unfold cMr; omega)).trans (rfl))))) (by omega) (by omega) (v := kx) (((ncZ_e 228 ((h - 1) - 1) (by decide) (by omega)).trans (((hreF 228 ((h - 1) - 1) (by decide) (by decide) (by unfold cMr; omega)).trans (hkx))))) (fun r16 => ?_)
                refine wa_iload_n (n := 3) rfl ?_
                refine wa_i2l (w_rg0 (by omega) (by omega)) ?_
                refine wa_cv 226 rfl (wy_pr rfl) wt_226 (M2 := mS [228, 229]) rfl at_XK_give ⟨_, rfl⟩ rfl rfl ⟨trivial, (Or.inr ⟨wy_pr rfl, mS_no rfl⟩), trivial, trivial, trivial, trivial, trivial, trivial⟩ trivial (fun _ _ q => mS_sub (by decide) q) (gw_226 (S := (ncZ o1 rr (Sq10 130 o1) (Sq10 72 11) Sq10)) (n := 2) (k := kx) (v := o1) (h := h) (c := c) (p := p) (ln := (S 228 (-1))) (ncZ_c hreC (by omega)) (ncZ_g hreG (by omega)) ⟨by omega, by omega⟩ ⟨by omega, by omega⟩ (((ncZ_e 227 2 (by decide) (by omega)).trans (((hreF 227 2 (by decide) (by decide) (by unfold cMr; omega)).trans (bh))))) (((ncZ_e 226 4 (by decide) (by omega)).trans (((hreF 226 4 (by decide) (by decide) (by unfold cMr; omega)).trans (bc))))) (((ncZ_e 231 (c - 1) (by decide) (by omega)).trans (((hreF 231 (c - 1) (by decide) (by decide) (by unfold cMr; omega)).trans (bp))))) (((ncZ_e 228 (-1) (by decide) (by omega)).trans (((hreF 228 (-1) (by decide) (by decide) (by unfold cMr; omega)).trans (rfl))))) (((ncZ_e 229 (-1) (by decide) (by omega)).trans (((hreF 229 (-1) (by decide) (by decide) (by unfold cMr; omega)).trans (bl1))))) ⟨by omega, by omega⟩ ⟨by omega, by omega, by omega⟩ ⟨by omega, by omega⟩ ⟨by omega, by omega⟩) (fun oq17 Sq17 hp18 q17 => ?_)
                rcases q17 with ⟨rfl, A17, ra17, rfl⟩
                show wJ _ _ _ _ _ _ _ _ _ _
                refine wa_return rfl ?_
                exact ⟨rfl, Or.inr (Or.inr ⟨hm0, hyes, Sq10, hre, A17, ra17, rfl⟩)⟩
              · skip
                exact absurd c13 (by omega)
        · skip
          exact absurd c6 (by omega)
      · skip
        exact absurd c5 (by omega)
  · skip
    refine wa_aload_n (n := 0) rfl ?_
    refine wb_gf4 226 rfl (wy_pr rfl) wt_226 wf_8_3 (v := 227) wl_226_3 ?_
    refine wb_gf4 227 rfl (wy_pr rfl) wt_227 wf_7_0 (v := 228) wl_227_0 ?_
    refine wa_iload_n (n := 1) rfl ?_
    refine wb_bald 228 rfl (wy_pr rfl) wt_228 (n := (S 228 (-1))) (rfl) (by omega) (by omega) (v := kx) (hkx) (fun r19 => ?_)
    refine wa_iconst ?_
    refine wa_icmpne (w_rg0 (by omega) (by omega)) (w_rg0 (by omega) (by omega)) ⟨_, rfl⟩ (fun c20 => ?_) (fun c20 => ?_)
    · skip
      exact absurd c20 (by omega)
    · skip
      refine wa_fall ⟨_, rfl⟩ ?_
      refine wa_iconst ?_
      refine wa_goto ⟨_, rfl⟩ ?_
      refine wa_zreturn rfl (Or.inr rfl) ?_
      show wJ _ _ _ _ _ _ _ _ _ _
      refine wa_ifeq (w_rg0 (by omega) (by omega)) ⟨_, rfl⟩ (fun c21 => ?_) (fun c21 => ?_)
      · skip
        exact absurd c21 (by omega)
      · skip
        refine wa_aload_n (n := 0) rfl ?_
        refine wa_iload_n (n := 2) rfl ?_
        refine wa_cv 226 rfl (wy_pr rfl) wt_226 (M2 := mS [228, 229, 144, 145, 146, 147, 148]) rfl at_XK_isPrototype ⟨_, rfl⟩ rfl rfl ⟨(Or.inr ⟨wy_pr rfl, mS_no rfl⟩), trivial, trivial, trivial⟩ trivial (fun _ _ q => q) ?_ (fun _ _ _ q => q)
        refine wa_aload_n (n := 0) rfl ?_
        refine wb_gf4 226 rfl (wy_pr rfl) wt_226 wf_8_3 (v := 227) wl_226_3 ?_
        refine wb_gf4 227 rfl (wy_pr rfl) wt_227 wf_7_0 (v := 228) wl_227_0 ?_
        refine wa_iload_n (n := 1) rfl ?_
        refine wb_bald 228 rfl (wy_pr rfl) wt_228 (n := (S 228 (-1))) (rfl) (by omega) (by omega) (v := 0) (hky) (fun r22 => ?_)
        refine wa_ifeq (w_rg0 (by omega) (by omega)) ⟨_, rfl⟩ (fun c23 => ?_) (fun c23 => ?_)
        · skip
          refine wa_iconst ?_
          refine wa_goto ⟨_, rfl⟩ ?_
          refine wa_zreturn rfl (Or.inr rfl) ?_
          show wJ _ _ _ _ _ _ _ _ _ _
          refine wa_ifne (w_rg0 (by omega) (by omega)) ⟨_, rfl⟩ (fun c24 => ?_) (fun c24 => ?_)
          · skip
            refine wa_aload_n (n := 0) rfl ?_
            refine wb_gf4 226 rfl (wy_pr rfl) wt_226 wf_8_3 (v := 227) wl_226_3 ?_
            refine wb_gf4 227 rfl (wy_pr rfl) wt_227 wf_7_1 (v := 229) wl_227_1 ?_
            refine wa_iload_n (n := 1) rfl ?_
            refine wb_lald 229 rfl (wy_pr rfl) wt_229 (n := (S 228 (-1))) (bl1) (by omega) (by omega) (v := o1) (hvx) (fun r25 => ?_)
            refine wb_l2i_r (wb_l2i_id ⟨(by omega), (by omega)⟩) ?_
            refine wa_istore_n (n := 3) rfl ?_
            refine wa_aload_n (n := 0) rfl ?_
            refine wb_gf4 226 rfl (wy_pr rfl) wt_226 wf_8_3 (v := 227) wl_226_3 ?_
            refine wb_gf4 227 rfl (wy_pr rfl) wt_227 wf_7_0 (v := 228) wl_227_0 ?_
            refine wa_iload_n (n := 2) rfl ?_
            refine wb_bald 228 rfl (wy_pr rfl) wt_228 (n := (S 228 (-1))) (rfl) (by omega) (by omega) (v := 0) (hky) (fun r26 => ?_)
            refine wa_ifne (w_rg0 (by omega) (by omega)) ⟨_, rfl⟩ (fun c27 => ?_) (fun c27 => ?_)
            · skip
              exact absurd c27 (by omega)
            · skip
              refine wa_iconst ?_
              refine wa_goto ⟨_, rfl⟩ ?_
              refine wa_istore (n := 4) rfl ?_
              refine wa_iload (n := 4) rfl ?_
              refine wa_istore (n := 5) rfl ?_
              refine wa_iconst ?_
              refine wa_istore (n := 6) rfl ?_
              refine wa_fall ⟨_, rfl⟩ ?_
              refine wJ_S (tl_226 (one := (h - 1) - 1) (oth := h - 1) (o1 := o1) (q := (-1)) hC hsw ht hlt hw hT ⟨by omega, by omega⟩ ⟨⟨by omega, by omega⟩, ⟨by omega, by omega⟩, by omega, by omega⟩ (T.length + 1) (-1) 0 (by omega) (by omega) (Or.inl rfl) (fun hz => ⟨rfl, Or.inl ⟨hhm.trans hz, rfl⟩⟩) (fun hz u2 i2 => ?_)) ⟨rfl, rfl, rfl, rfl, rfl, rfl, rfl, trivial⟩
              have hm0 : hm = 0 := hhm.trans hz
              refine wa_aload_n (n := 0) rfl ?_
              refine wb_gf4 226 rfl (wy_pr rfl) wt_226 wf_8_0 (v := 72) wl_226_0 ?_
              refine wa_iload_n (n := 3) rfl ?_
              refine wa_iload (n := 4) rfl ?_
              refine wa_iconst ?_
              refine wa_cv 72 rfl (wy_pr rfl) wt_72 (M2 := mS [144, 145, 146, 147, 148]) rfl at_XH_reshaped ⟨_, rfl⟩ rfl rfl ⟨(Or.inr ⟨wy_pr rfl, mS_no rfl⟩), trivial, trivial, trivial, trivial, trivial, trivial, trivial⟩ trivial (fun _ _ q => mS_sub (by decide) q) (wJ_mono (c_re0 (k := o1) (wo := -1) hC hI hx1 hW hsw hw ho (by decide) hu4 hnb h56) (fun o Z hz => (by rw [hrr]; exact hz : (o = .inl (some (0, -1)) ∧ 4000 < S 150 4 + aMb H (-1) (fS (-1) (aNs H (tO T o1).2.1) 0) ∧ oF S Z) ∨ (S 150 4 + aMb H (-1) (fS (-1) (aNs H (tO T o1).2.1) 0) ≤ 4000 ∧ o = .inl (some (0, rr)) ∧ reQ (-1) (-1) o1 T H L G S Z)))) (fun oq28 Sq28 hp29 q28 => ?_)
              rcases q28 with ⟨rfl, hno, hoF⟩ | ⟨hyes, rfl, hre⟩
              · skip
                show wJ _ _ _ _ _ _ _ _ _ _
                refine wa_istore (n := 6) rfl ?_
                refine wa_iload (n := 6) rfl ?_
                refine wa_iconst ?_
                refine wa_icmpne (w_rg0 (by omega) (by omega)) (w_rg0 (by omega) (by omega)) ⟨_, rfl⟩ (fun c30 => ?_) (fun c30 => ?_)
                · skip
                  exact absurd c30 (by omega)
                · skip
                  refine wa_aload_n (n := 0) rfl ?_
                  refine wa_bipush (w_rg2 (by omega) (by omega)) ?_
                  refine wb_pfi 226 rfl (wy_pr rfl) wt_226 wf_8_16 (n := 16) rfl ⟨(by omega), (by omega)⟩ ?_
                  refine wa_return rfl ?_
                  exact ⟨rfl, Or.inr (Or.inl ⟨hm0, hno, Sq28, hoF, rfl⟩)⟩
              · skip
                show wJ _ _ _ _ _ _ _ _ _ _
                obtain ⟨hre1, hre2, ⟨hreC, hreG, hreR⟩, hre4, hreF⟩ := id hre
                have hreL := hre2.2.2.2.2.1
                have hrr0 : 0 ≤ rr ∧ rr < 1000000 := by
                  obtain ⟨b1, ⟨b2, b3⟩, b4, b5, b6, b7, b8, b9⟩ := aBr_ok hw (Or.inl rfl) (l := (fS (-1) (aNs H (tO T o1).2.1) 0)) (by omega)
                  have hsh := wSh_sh hw ho
                  have hds := nDs_H hw.1 hw.2.1 _ _ hsh.1 hsh.2 rfl
                  have hrl := aRb_ok (fS (-1) (aNs H (tO T o1).2.1) 0) _ _ b1 b2 b3 b4 (nDs_f _ _ hds.1) (fun x hx => ⟨hds.2 x (fS_m _ _ x hx), fun z => by rw [b5] at z; exact absurd z List.not_mem_nil⟩) (by omega)
                  have hll := hrl.1.1.2.1
                  rw [hrr]; have := hrl.2.1; omega
                have hlen : (aBr T H (-1)).1.length = T.length := (aBr_ok (l := (fS (-1) (aNs H (tO T o1).2.1) 0)) hw (Or.inl rfl) (by omega)).2.2.2.2.2.2.2
                have hL2 := hreL.2
                rw [hlen] at hL2
                have hA3 := (c_th hre2.1 (k := o1) ho0.1 (by rw [hlen]; exact ho0.2)).1
                have hepA : -1 ≤ Sq28 130 o1 ∧ Sq28 130 o1 ≤ 9000001 := by rw [hA3.2.2.2.2.1]; exact aBr_ep hw (Or.inl rfl) ho hep hch
                refine wa_istore (n := 6) rfl ?_
                refine wa_iload (n := 6) rfl ?_
                refine wa_iconst ?_
                refine wa_icmpne (w_rg0 (by omega) (by omega)) (w_rg0 (by omega) (by omega)) ⟨_, rfl⟩ (fun c31 => ?_) (fun c31 => ?_)
                · skip
                  refine wa_aload_n (n := 0) rfl ?_
                  refine wb_gf4 226 rfl (wy_pr rfl) wt_226 wf_8_0 (v := 72) wl_226_0 ?_
                  refine wb_gf4 72 rfl (wy_pr rfl) wt_72 wf_2_2 (v := 126) wl_72_2 ?_
                  refine wa_iconst ?_
                  refine wb_aald5 126 1 rfl rfl (wy_pr rfl) wt_126 (by rw [show _ = _ from (((hreF 126 (-1) (by decide) (by decide) (by unfold cMr; omega)).trans ((cl_126 hC))))]; omega) wl_126_1 ?_
                  refine wa_iload_n (n := 3) rfl ?_
                  refine wa_iload (n := 6) rfl ?_
                  refine wb_iast 128 rfl (wy_pr rfl) wt_128 (n := (Sq28 127 (-1))) ((hreL.1 1 (by decide))) (by omega) (by omega) ⟨(by omega), (by omega)⟩ ?_
                  refine wa_aload_n (n := 0) rfl ?_
                  refine wb_gf4 226 rfl (wy_pr rfl) wt_226 wf_8_0 (v := 72) wl_226_0 ?_
                  refine wa_iload_n (n := 3) rfl ?_
                  have e72 : (w_up Sq28 128 o1 rr) 72 11 = S 72 11 := ((w_up_slot (by first | decide | omega)).trans ((hreF 72 11 (by first | decide | omega) (by first | decide | omega) (by unfold cMr; omega))))
                  have e130 : (w_up Sq28 128 o1 rr) 130 o1 = Sq28 130 o1 := w_up_slot (by first | decide | omega)
                  have eA72 : Sq28 72 11 = S 72 11 := hreF 72 11 (by first | decide | omega) (by first | decide | omega) (by unfold cMr; omega)
                  have eL : ∀ x : Nat, x < 10 → (w_up Sq28 128 o1 rr) (127 + x) (-1) = (w_up Sq28 128 o1 rr) 127 (-1) := fun x hx => (w_up_no (by omega)).trans ((hreL.1 x hx).trans (w_up_no (by omega)).symm)
                  have eL7 : (w_up Sq28 128 o1 rr) 127 (-1) = Sq28 127 (-1) := w_up_no (by omega)
                  refine wa_cv 72 rfl (wy_pr rfl) wt_72 (M2 := mS []) rfl at_XH_noteChange ⟨_, rfl⟩ rfl rfl ⟨trivial, (Or.inr ⟨wy_pr rfl, mS_no rfl⟩), trivial, trivial, trivial, trivial, trivial, trivial⟩ trivial (fun _ _ q => mS_sub (by decide) q) (wJ_mono (nc_ok (S := (w_up Sq28 128 o1 rr)) (k := o1) (ep := Sq28 130 o1) (ch := Sq28 72 11) eL ⟨by omega, by omega⟩ (by omega) e130 ⟨hepA.1, by omega⟩ (e72.trans eA72.symm) ⟨by omega, by omega⟩ (w_CL_up hreC (by omega))) (fun o Z hz => (⟨hz.1, hz.2⟩ : o = .inl none ∧ ncZ o1 rr (Sq28 130 o1) (Sq28 72 11) Sq28 = Z))) (fun oq32 Sq32 hp33 q32 => ?_)
                  rcases q32 with ⟨rfl, rfl⟩
                  show wJ _ _ _ _ _ _ _ _ _ _
                  refine wa_aload_n (n := 0) rfl ?_
                  refine wa_iconst ?_
                  refine wa_aload_n (n := 0) rfl ?_
                  refine wb_gf4 226 rfl (wy_pr rfl) wt_226 wf_8_3 (v := 227) wl_226_3 ?_
                  refine wb_gf4 227 rfl (wy_pr rfl) wt_227 wf_7_0 (v := 228) wl_227_0 ?_
                  refine wa_iload_n (n := 1) rfl ?_
                  refine wb_bald 228 rfl (wy_pr rfl) wt_228 (n := (S 228 (-1))) (((ncZ_e 228 (-1) (by decide) (by omega)).trans (((hreF 228 (-1) (by decide) (by decide) (by unfold cMr; omega)).trans (rfl))))) (by omega) (by omega) (v := kx) (((ncZ_e 228 ((h - 1) - 1) (by decide) (by omega)).trans (((hreF 228 ((h - 1) - 1) (by decide) (by decide) (by unfold cMr; omega)).trans (hkx))))) (fun r34 => ?_)
                  refine wa_iload_n (n := 3) rfl ?_
                  refine wa_i2l (w_rg0 (by omega) (by omega)) ?_
                  refine wa_cv 226 rfl (wy_pr rfl) wt_226 (M2 := mS [228, 229]) rfl at_XK_give ⟨_, rfl⟩ rfl rfl ⟨trivial, (Or.inr ⟨wy_pr rfl, mS_no rfl⟩), trivial, trivial, trivial, trivial, trivial, trivial⟩ trivial (fun _ _ q => mS_sub (by decide) q) (gw_226 (S := (ncZ o1 rr (Sq28 130 o1) (Sq28 72 11) Sq28)) (n := 2) (k := kx) (v := o1) (h := h) (c := c) (p := p) (ln := (S 228 (-1))) (ncZ_c hreC (by omega)) (ncZ_g hreG (by omega)) ⟨by omega, by omega⟩ ⟨by omega, by omega⟩ (((ncZ_e 227 2 (by decide) (by omega)).trans (((hreF 227 2 (by decide) (by decide) (by unfold cMr; omega)).trans (bh))))) (((ncZ_e 226 4 (by decide) (by omega)).trans (((hreF 226 4 (by decide) (by decide) (by unfold cMr; omega)).trans (bc))))) (((ncZ_e 231 (c - 1) (by decide) (by omega)).trans (((hreF 231 (c - 1) (by decide) (by decide) (by unfold cMr; omega)).trans (bp))))) (((ncZ_e 228 (-1) (by decide) (by omega)).trans (((hreF 228 (-1) (by decide) (by decide) (by unfold cMr; omega)).trans (rfl))))) (((ncZ_e 229 (-1) (by decide) (by omega)).trans (((hreF 229 (-1) (by decide) (by decide) (by unfold cMr; omega)).trans (bl1))))) ⟨by omega, by omega⟩ ⟨by omega, by omega, by omega⟩ ⟨by omega, by omega⟩ ⟨by omega, by omega⟩) (fun oq35 Sq35 hp36 q35 => ?_)
                  rcases q35 with ⟨rfl, A35, ra35, rfl⟩
                  show wJ _ _ _ _ _ _ _ _ _ _
                  refine wa_return rfl ?_
                  exact ⟨rfl, Or.inr (Or.inr ⟨hm0, hyes, Sq28, hre, A35, ra35, rfl⟩)⟩
                · skip
                  exact absurd c31 (by omega)
          · skip
            exact absurd c24 (by omega)
        · skip
          exact absurd c23 (by omega)
set_option maxHeartbeats 4000000 in
theorem tu1_226 {c p h kx ky o1 q : Int} (hP : xP 226 c p h S) (hx1 : pe_at (pe_GA xs).xs 1 = some (1, tx_1)) (hky : S 228 (h - 1) = ky) (hvy : S 229 (h - 1) = q) (hkx : S 228 (h - 1 - 1) = kx) (hvx : S 229 (h - 1 - 1) = o1) (hh1 : 2 ≤ h) (hkx45 : kx = 4 ∨ kx = 5) (ho : isO T o1) (hky45 : ky = 4 ∨ ky = 5) (hq : isO T q) (hW : cWd S T L G) (hsw : cSw S T H) (hw : wSh T H) (hT : (T.length : Int) ≤ 8000) (hu4 : 0 ≤ S 150 4 ∧ S 150 4 ≤ 4000 ∧ (H.length : Int) ≤ S 150 4 + 1) (hnb : ∀ s : Int, 0 ≤ s → s < (H.length : Int) → qNm H s ≤ 100000) (hch : 0 ≤ S 72 11 ∧ S 72 11 ≤ 9000000) (hep : ∀ k : Int, isO T k → (tO T k).2.2.2.2.1 ≤ S 72 11) (h56 : S 156 (-1) = 65) : wJ (pe_GA xs) wY0 (mS [228, 229, 144, 145, 146, 147, 148]) (d + 10) t_XK_turn ((pe_at t_XK_turn.bl 0).getD (0, [])).2 [(0, (2, 226)), (1, (0, (h - 1) - 1)), (2, (0, h - 1))] [] S (fun o Z => o = .inl none ∧ ((hMe (aPr T H) o1 (T.length + 1) q = 1 ∧ w_up S 226 16 12 = Z) ∨ (hMe (aPr T H) o1 (T.length + 1) q = 0 ∧ 4000 < S 150 4 + aMb H q (fS (-1) (aNs H (tO T o1).2.1) 0) ∧ ∃ A : wS, oF S A ∧ w_up A 226 16 99 = Z) ∨ (hMe (aPr T H) o1 (T.length + 1) q = 0 ∧ S 150 4 + aMb H q (fS (-1) (aNs H (tO T o1).2.1) 0) ≤ 4000 ∧ ∃ A : wS, reQ q (-1) o1 T H L G S A ∧ sO 226 h c p 2 kx o1 (ncZ o1 (aRb q (fS (-1) (aNs H (tO T o1).2.1) 0) (aBr T H q).2.1 (aBr T H q).2.2).2 (A 130 o1) (A 72 11) A) Z))) := by
  obtain ⟨⟨hC, hI⟩, ⟨bc, bc0, bc1⟩, ⟨bp, bp0, bp1⟩, ⟨bh, bh0, bh1, bh2⟩, bl1, bl2, bl3⟩ := id hP
  replace bp : S 231 (c - 1) = p := bp
  replace bh : S 227 2 = h := bh
  replace bh2 : h ≤ S 228 (-1) := bh2
  replace bl1 : S 229 (-1) = S 228 (-1) := bl1
  replace bl2 : 64 ≤ S 228 (-1) := bl2
  replace bl3 : S 228 (-1) ≤ 4095 := bl3
  have hg : wG = 1000000 := rfl
  obtain ⟨ht, -, -, -, hlt, -⟩ := id hW
  have ho0 := ho.1
  obtain ⟨hm, hhm⟩ : ∃ hm : Int, hm = hMe (aPr T H) o1 (T.length + 1) q := ⟨_, rfl⟩
  have hm01 : hm = 0 ∨ hm = 1 := by rw [hhm]; exact hMe_01 _ _
  rw [← hhm]
  obtain ⟨rr, hrr⟩ : ∃ rr : Int, rr = (aRb q (fS (-1) (aNs H (tO T o1).2.1) 0) (aBr T H q).2.1 (aBr T H q).2.2).2 := ⟨_, rfl⟩
  rw [← hrr]
  have hq0 := hq.1
  refine wa_aload_n (n := 0) rfl ?_
  refine wa_iload_n (n := 1) rfl ?_
  refine wa_cv 226 rfl (wy_pr rfl) wt_226 (M2 := mS [228, 229, 144, 145, 146, 147, 148]) rfl at_XK_isHolder ⟨_, rfl⟩ rfl rfl ⟨(Or.inr ⟨wy_pr rfl, mS_no rfl⟩), trivial, trivial, trivial⟩ trivial (fun _ _ q => q) ?_ (fun _ _ _ q => q)
  refine wa_aload_n (n := 0) rfl ?_
  refine wb_gf4 226 rfl (wy_pr rfl) wt_226 wf_8_3 (v := 227) wl_226_3 ?_
  refine wb_gf4 227 rfl (wy_pr rfl) wt_227 wf_7_0 (v := 228) wl_227_0 ?_
  refine wa_iload_n (n := 1) rfl ?_
  refine wb_bald 228 rfl (wy_pr rfl) wt_228 (n := (S 228 (-1))) (rfl) (by omega) (by omega) (v := kx) (hkx) (fun r1 => ?_)
  refine wa_iconst ?_
  refine wa_icmpeq (w_rg0 (by omega) (by omega)) (w_rg0 (by omega) (by omega)) ⟨_, rfl⟩ (fun c2 => ?_) (fun c2 => ?_)
  · skip
    refine wa_iconst ?_
    refine wa_goto ⟨_, rfl⟩ ?_
    refine wa_zreturn rfl (Or.inr rfl) ?_
    show wJ _ _ _ _ _ _ _ _ _ _
    refine wa_ifeq (w_rg0 (by omega) (by omega)) ⟨_, rfl⟩ (fun c3 => ?_) (fun c3 => ?_)
    · skip
      exact absurd c3 (by omega)
    · skip
      refine wa_aload_n (n := 0) rfl ?_
      refine wa_iload_n (n := 2) rfl ?_
      refine wa_cv 226 rfl (wy_pr rfl) wt_226 (M2 := mS [228, 229, 144, 145, 146, 147, 148]) rfl at_XK_isPrototype ⟨_, rfl⟩ rfl rfl ⟨(Or.inr ⟨wy_pr rfl, mS_no rfl⟩), trivial, trivial, trivial⟩ trivial (fun _ _ q => q) ?_ (fun _ _ _ q => q)
      refine wa_aload_n (n := 0) rfl ?_
      refine wb_gf4 226 rfl (wy_pr rfl) wt_226 wf_8_3 (v := 227) wl_226_3 ?_
      refine wb_gf4 227 rfl (wy_pr rfl) wt_227 wf_7_0 (v := 228) wl_227_0 ?_
      refine wa_iload_n (n := 1) rfl ?_
      refine wb_bald 228 rfl (wy_pr rfl) wt_228 (n := (S 228 (-1))) (rfl) (by omega) (by omega) (v := ky) (hky) (fun r4 => ?_)
      refine wa_ifeq (w_rg0 (by omega) (by omega)) ⟨_, rfl⟩ (fun c5 => ?_) (fun c5 => ?_)
      · skip
        exact absurd c5 (by omega)
      · skip
        refine wa_aload_n (n := 0) rfl ?_
        refine wa_iload_n (n := 1) rfl ?_
        refine wa_cv 226 rfl (wy_pr rfl) wt_226 (M2 := mS [228, 229, 144, 145, 146, 147, 148]) rfl at_XK_isHolder ⟨_, rfl⟩ rfl rfl ⟨(Or.inr ⟨wy_pr rfl, mS_no rfl⟩), trivial, trivial⟩ trivial (fun _ _ q => q) ?_ (fun _ _ _ q => q)
        refine wa_aload_n (n := 0) rfl ?_
        refine wb_gf4 226 rfl (wy_pr rfl) wt_226 wf_8_3 (v := 227) wl_226_3 ?_
        refine wb_gf4 227 rfl (wy_pr rfl) wt_227 wf_7_0 (v := 228) wl_227_0 ?_
        refine wa_iload_n (n := 1) rfl ?_
        refine wb_bald 228 rfl (wy_pr rfl) wt_228 (n := (S 228 (-1))) (rfl) (by omega) (by omega) (v := ky) (hky) (fun r6 => ?_)
        refine wa_iconst ?_
        refine wa_icmpeq (w_rg0 (by omega) (by omega)) (w_rg0 (by omega) (by omega)) ⟨_, rfl⟩ (fun c7 => ?_) (fun c7 => ?_)
        · skip
          refine wa_iconst ?_
          refine wa_goto ⟨_, rfl⟩ ?_
          refine wa_zreturn rfl (Or.inr rfl) ?_
          show wJ _ _ _ _ _ _ _ _ _ _
          refine wa_ifeq (w_rg0 (by omega) (by omega)) ⟨_, rfl⟩ (fun c8 => ?_) (fun c8 => ?_)
          · skip
            exact absurd c8 (by omega)
          · skip
            refine wa_fall ⟨_, rfl⟩ ?_
            refine wa_iconst ?_
            refine wa_goto ⟨_, rfl⟩ ?_
            refine wa_zreturn rfl (Or.inr rfl) ?_
            show wJ _ _ _ _ _ _ _ _ _ _
            refine wa_ifne (w_rg0 (by omega) (by omega)) ⟨_, rfl⟩ (fun c9 => ?_) (fun c9 => ?_)
            · skip
              refine wa_aload_n (n := 0) rfl ?_
              refine wb_gf4 226 rfl (wy_pr rfl) wt_226 wf_8_3 (v := 227) wl_226_3 ?_
              refine wb_gf4 227 rfl (wy_pr rfl) wt_227 wf_7_1 (v := 229) wl_227_1 ?_
              refine wa_iload_n (n := 1) rfl ?_
              refine wb_lald 229 rfl (wy_pr rfl) wt_229 (n := (S 228 (-1))) (bl1) (by omega) (by omega) (v := o1) (hvx) (fun r10 => ?_)
              refine wb_l2i_r (wb_l2i_id ⟨(by omega), (by omega)⟩) ?_
              refine wa_istore_n (n := 3) rfl ?_
              refine wa_aload_n (n := 0) rfl ?_
              refine wb_gf4 226 rfl (wy_pr rfl) wt_226 wf_8_3 (v := 227) wl_226_3 ?_
              refine wb_gf4 227 rfl (wy_pr rfl) wt_227 wf_7_0 (v := 228) wl_227_0 ?_
              refine wa_iload_n (n := 2) rfl ?_
              refine wb_bald 228 rfl (wy_pr rfl) wt_228 (n := (S 228 (-1))) (rfl) (by omega) (by omega) (v := ky) (hky) (fun r11 => ?_)
              refine wa_ifne (w_rg0 (by omega) (by omega)) ⟨_, rfl⟩ (fun c12 => ?_) (fun c12 => ?_)
              · skip
                refine wa_aload_n (n := 0) rfl ?_
                refine wb_gf4 226 rfl (wy_pr rfl) wt_226 wf_8_3 (v := 227) wl_226_3 ?_
                refine wb_gf4 227 rfl (wy_pr rfl) wt_227 wf_7_1 (v := 229) wl_227_1 ?_
                refine wa_iload_n (n := 2) rfl ?_
                refine wb_lald 229 rfl (wy_pr rfl) wt_229 (n := (S 228 (-1))) (bl1) (by omega) (by omega) (v := q) (hvy) (fun r13 => ?_)
                refine wb_l2i_r (wb_l2i_id ⟨(by omega), (by omega)⟩) ?_
                refine wa_fall ⟨_, rfl⟩ ?_
                refine wa_istore (n := 4) rfl ?_
                refine wa_iload (n := 4) rfl ?_
                refine wa_istore (n := 5) rfl ?_
                refine wa_iconst ?_
                refine wa_istore (n := 6) rfl ?_
                refine wa_fall ⟨_, rfl⟩ ?_
                refine wJ_S (tl_226 (one := (h - 1) - 1) (oth := h - 1) (o1 := o1) (q := q) hC hsw ht hlt hw hT ⟨by omega, by omega⟩ ⟨⟨by omega, by omega⟩, ⟨by omega, by omega⟩, by omega, by omega⟩ (T.length + 1) q 0 (by omega) (by omega) (Or.inr hq) (fun hz => ⟨rfl, Or.inl ⟨hhm.trans hz, rfl⟩⟩) (fun hz u2 i2 => ?_)) ⟨rfl, rfl, rfl, rfl, rfl, rfl, rfl, trivial⟩
                have hm0 : hm = 0 := hhm.trans hz
                refine wa_aload_n (n := 0) rfl ?_
                refine wb_gf4 226 rfl (wy_pr rfl) wt_226 wf_8_0 (v := 72) wl_226_0 ?_
                refine wa_iload_n (n := 3) rfl ?_
                refine wa_iload (n := 4) rfl ?_
                refine wa_iconst ?_
                refine wa_cv 72 rfl (wy_pr rfl) wt_72 (M2 := mS [144, 145, 146, 147, 148]) rfl at_XH_reshaped ⟨_, rfl⟩ rfl rfl ⟨(Or.inr ⟨wy_pr rfl, mS_no rfl⟩), trivial, trivial, trivial, trivial, trivial, trivial, trivial⟩ trivial (fun _ _ q => mS_sub (by decide) q) (wJ_mono (c_re1 (k := o1) (wo := -1) hC hI hx1 hW hsw hw ho hq (by decide) hu4 hnb h56) (fun o Z hz => (by rw [hrr]; exact hz : (o = .inl (some (0, -1)) ∧ 4000 < S 150 4 + aMb H q (fS (-1) (aNs H (tO T o1).2.1) 0) ∧ oF S Z) ∨ (S 150 4 + aMb H q (fS (-1) (aNs H (tO T o1).2.1) 0) ≤ 4000 ∧ o = .inl (some (0, rr)) ∧ reQ q (-1) o1 T H L G S Z)))) (fun oq14 Sq14 hp15 q14 => ?_)
                rcases q14 with ⟨rfl, hno, hoF⟩ | ⟨hyes, rfl, hre⟩
                · skip
                  show wJ _ _ _ _ _ _ _ _ _ _
                  refine wa_istore (n := 6) rfl ?_
                  refine wa_iload (n := 6) rfl ?_
                  refine wa_iconst ?_
                  refine wa_icmpne (w_rg0 (by omega) (by omega)) (w_rg0 (by omega) (by omega)) ⟨_, rfl⟩ (fun c16 => ?_) (fun c16 => ?_)
                  · skip
                    exact absurd c16 (by omega)
                  · skip
                    refine wa_aload_n (n := 0) rfl ?_
                    refine wa_bipush (w_rg2 (by omega) (by omega)) ?_
                    refine wb_pfi 226 rfl (wy_pr rfl) wt_226 wf_8_16 (n := 16) rfl ⟨(by omega), (by omega)⟩ ?_
                    refine wa_return rfl ?_
                    exact ⟨rfl, Or.inr (Or.inl ⟨hm0, hno, Sq14, hoF, rfl⟩)⟩
                · skip
                  show wJ _ _ _ _ _ _ _ _ _ _
                  obtain ⟨hre1, hre2, ⟨hreC, hreG, hreR⟩, hre4, hreF⟩ := id hre
                  have hreL := hre2.2.2.2.2.1
                  have hrr0 : 0 ≤ rr ∧ rr < 1000000 := by
                    obtain ⟨b1, ⟨b2, b3⟩, b4, b5, b6, b7, b8, b9⟩ := aBr_ok hw (Or.inr hq) (l := (fS (-1) (aNs H (tO T o1).2.1) 0)) (by omega)
                    have hsh := wSh_sh hw ho
                    have hds := nDs_H hw.1 hw.2.1 _ _ hsh.1 hsh.2 rfl
                    have hrl := aRb_ok (fS (-1) (aNs H (tO T o1).2.1) 0) _ _ b1 b2 b3 b4 (nDs_f _ _ hds.1) (fun x hx => ⟨hds.2 x (fS_m _ _ x hx), fun z => by rw [b5] at z; exact absurd z List.not_mem_nil⟩) (by omega)
                    have hll := hrl.1.1.2.1
                    rw [hrr]; have := hrl.2.1; omega
                  have hlen : (aBr T H q).1.length = T.length := (aBr_ok (l := (fS (-1) (aNs H (tO T o1).2.1) 0)) hw (Or.inr hq) (by omega)).2.2.2.2.2.2.2
                  have hL2 := hreL.2
                  rw [hlen] at hL2
                  have hA3 := (c_th hre2.1 (k := o1) ho0.1 (by rw [hlen]; exact ho0.2)).1
                  have hepA : -1 ≤ Sq14 130 o1 ∧ Sq14 130 o1 ≤ 9000001 := by rw [hA3.2.2.2.2.1]; exact aBr_ep hw (Or.inr hq) ho hep hch
                  refine wa_istore (n := 6) rfl ?_
                  refine wa_iload (n := 6) rfl ?_
                  refine wa_iconst ?_
                  refine wa_icmpne (w_rg0 (by omega) (by omega)) (w_rg0 (by omega) (by omega)) ⟨_, rfl⟩ (fun c17 => ?_) (fun c17 => ?_)
                  · skip
                    refine wa_aload_n (n := 0) rfl ?_
                    refine wb_gf4 226 rfl (wy_pr rfl) wt_226 wf_8_0 (v := 72) wl_226_0 ?_
                    refine wb_gf4 72 rfl (wy_pr rfl) wt_72 wf_2_2 (v := 126) wl_72_2 ?_
                    refine wa_iconst ?_
                    refine wb_aald5 126 1 rfl rfl (wy_pr rfl) wt_126 (by rw [show _ = _ from (((hreF 126 (-1) (by decide) (by decide) (by unfold cMr; omega)).trans ((cl_126 hC))))]; omega) wl_126_1 ?_
                    refine wa_iload_n (n := 3) rfl ?_
                    refine wa_iload (n := 6) rfl ?_
                    refine wb_iast 128 rfl (wy_pr rfl) wt_128 (n := (Sq14 127 (-1))) ((hreL.1 1 (by decide))) (by omega) (by omega) ⟨(by omega), (by omega)⟩ ?_
                    refine wa_aload_n (n := 0) rfl ?_
                    refine wb_gf4 226 rfl (wy_pr rfl) wt_226 wf_8_0 (v := 72) wl_226_0 ?_
                    refine wa_iload_n (n := 3) rfl ?_
                    have e72 : (w_up Sq14 128 o1 rr) 72 11 = S 72 11 := ((w_up_slot (by first | decide | omega)).trans ((hreF 72 11 (by first | decide | omega) (by first | decide | omega) (by unfold cMr; omega))))
                    have e130 : (w_up Sq14 128 o1 rr) 130 o1 = Sq14 130 o1 := w_up_slot (by first | decide | omega)
                    have eA72 : Sq14 72 11 = S 72 11 := hreF 72 11 (by first | decide | omega) (by first | decide | omega) (by unfold cMr; omega)
                    have eL : ∀ x : Nat, x < 10 → (w_up Sq14 128 o1 rr) (127 + x) (-1) = (w_up Sq14 128 o1 rr) 127 (-1) := fun x hx => (w_up_no (by omega)).trans ((hreL.1 x hx).trans (w_up_no (by omega)).symm)
                    have eL7 : (w_up Sq14 128 o1 rr) 127 (-1) = Sq14 127 (-1) := w_up_no (by omega)
                    refine wa_cv 72 rfl (wy_pr rfl) wt_72 (M2 := mS []) rfl at_XH_noteChange ⟨_, rfl⟩ rfl rfl ⟨trivial, (Or.inr ⟨wy_pr rfl, mS_no rfl⟩), trivial, trivial, trivial, trivial, trivial, trivial⟩ trivial (fun _ _ q => mS_sub (by decide) q) (wJ_mono (nc_ok (S := (w_up Sq14 128 o1 rr)) (k := o1) (ep := Sq14 130 o1) (ch := Sq14 72 11) eL ⟨by omega, by omega⟩ (by omega) e130 ⟨hepA.1, by omega⟩ (e72.trans eA72.symm) ⟨by omega, by omega⟩ (w_CL_up hreC (by omega))) (fun o Z hz => (⟨hz.1, hz.2⟩ : o = .inl none ∧ ncZ o1 rr (Sq14 130 o1) (Sq14 72 11) Sq14 = Z))) (fun oq18 Sq18 hp19 q18 => ?_)
                    rcases q18 with ⟨rfl, rfl⟩
                    show wJ _ _ _ _ _ _ _ _ _ _
                    refine wa_aload_n (n := 0) rfl ?_
                    refine wa_iconst ?_
                    refine wa_aload_n (n := 0) rfl ?_
                    refine wb_gf4 226 rfl (wy_pr rfl) wt_226 wf_8_3 (v := 227) wl_226_3 ?_
                    refine wb_gf4 227 rfl (wy_pr rfl) wt_227 wf_7_0 (v := 228) wl_227_0 ?_
                    refine wa_iload_n (n := 1) rfl ?_
                    refine wb_bald 228 rfl (wy_pr rfl) wt_228 (n := (S 228 (-1))) (((ncZ_e 228 (-1) (by decide) (by omega)).trans (((hreF 228 (-1) (by decide) (by decide) (by unfold cMr; omega)).trans (rfl))))) (by omega) (by omega) (v := kx) (((ncZ_e 228 ((h - 1) - 1) (by decide) (by omega)).trans (((hreF 228 ((h - 1) - 1) (by decide) (by decide) (by unfold cMr; omega)).trans (hkx))))) (fun r20 => ?_)
                    refine wa_iload_n (n := 3) rfl ?_
                    refine wa_i2l (w_rg0 (by omega) (by omega)) ?_
                    refine wa_cv 226 rfl (wy_pr rfl) wt_226 (M2 := mS [228, 229]) rfl at_XK_give ⟨_, rfl⟩ rfl rfl ⟨trivial, (Or.inr ⟨wy_pr rfl, mS_no rfl⟩), trivial, trivial, trivial, trivial, trivial, trivial⟩ trivial (fun _ _ q => mS_sub (by decide) q) (gw_226 (S := (ncZ o1 rr (Sq14 130 o1) (Sq14 72 11) Sq14)) (n := 2) (k := kx) (v := o1) (h := h) (c := c) (p := p) (ln := (S 228 (-1))) (ncZ_c hreC (by omega)) (ncZ_g hreG (by omega)) ⟨by omega, by omega⟩ ⟨by omega, by omega⟩ (((ncZ_e 227 2 (by decide) (by omega)).trans (((hreF 227 2 (by decide) (by decide) (by unfold cMr; omega)).trans (bh))))) (((ncZ_e 226 4 (by decide) (by omega)).trans (((hreF 226 4 (by decide) (by decide) (by unfold cMr; omega)).trans (bc))))) (((ncZ_e 231 (c - 1) (by decide) (by omega)).trans (((hreF 231 (c - 1) (by decide) (by decide) (by unfold cMr; omega)).trans (bp))))) (((ncZ_e 228 (-1) (by decide) (by omega)).trans (((hreF 228 (-1) (by decide) (by decide) (by unfold cMr; omega)).trans (rfl))))) (((ncZ_e 229 (-1) (by decide) (by omega)).trans (((hreF 229 (-1) (by decide) (by decide) (by unfold cMr; omega)).trans (bl1))))) ⟨by omega, by omega⟩ ⟨by omega, by omega, by omega⟩ ⟨by omega, by omega⟩ ⟨by omega, by omega⟩) (fun oq21 Sq21 hp22 q21 => ?_)
                    rcases q21 with ⟨rfl, A21, ra21, rfl⟩
                    show wJ _ _ _ _ _ _ _ _ _ _
                    refine wa_return rfl ?_
                    exact ⟨rfl, Or.inr (Or.inr ⟨hm0, hyes, Sq14, hre, A21, ra21, rfl⟩)⟩
                  · skip
                    exact absurd c17 (by omega)
              · skip
                exact absurd c12 (by omega)
            · skip
              exact absurd c9 (by omega)
        · skip
          refine wa_aload_n (n := 0) rfl ?_
          refine wb_gf4 226 rfl (wy_pr rfl) wt_226 wf_8_3 (v := 227) wl_226_3 ?_
          refine wb_gf4 227 rfl (wy_pr rfl) wt_227 wf_7_0 (v := 228) wl_227_0 ?_
          refine wa_iload_n (n := 1) rfl ?_
          refine wb_bald 228 rfl (wy_pr rfl) wt_228 (n := (S 228 (-1))) (rfl) (by omega) (by omega) (v := ky) (hky) (fun r23 => ?_)
          refine wa_iconst ?_
          refine wa_icmpne (w_rg0 (by omega) (by omega)) (w_rg0 (by omega) (by omega)) ⟨_, rfl⟩ (fun c24 => ?_) (fun c24 => ?_)
          · skip
            exact absurd c24 (by omega)
          · skip
            refine wa_fall ⟨_, rfl⟩ ?_
            refine wa_iconst ?_
            refine wa_goto ⟨_, rfl⟩ ?_
            refine wa_zreturn rfl (Or.inr rfl) ?_
            show wJ _ _ _ _ _ _ _ _ _ _
            refine wa_ifeq (w_rg0 (by omega) (by omega)) ⟨_, rfl⟩ (fun c25 => ?_) (fun c25 => ?_)
            · skip
              exact absurd c25 (by omega)
            · skip
              refine wa_fall ⟨_, rfl⟩ ?_
              refine wa_iconst ?_
              refine wa_goto ⟨_, rfl⟩ ?_
              refine wa_zreturn rfl (Or.inr rfl) ?_
              show wJ _ _ _ _ _ _ _ _ _ _
              refine wa_ifne (w_rg0 (by omega) (by omega)) ⟨_, rfl⟩ (fun c26 => ?_) (fun c26 => ?_)
              · skip
                refine wa_aload_n (n := 0) rfl ?_
                refine wb_gf4 226 rfl (wy_pr rfl) wt_226 wf_8_3 (v := 227) wl_226_3 ?_
                refine wb_gf4 227 rfl (wy_pr rfl) wt_227 wf_7_1 (v := 229) wl_227_1 ?_
                refine wa_iload_n (n := 1) rfl ?_
                refine wb_lald 229 rfl (wy_pr rfl) wt_229 (n := (S 228 (-1))) (bl1) (by omega) (by omega) (v := o1) (hvx) (fun r27 => ?_)
                refine wb_l2i_r (wb_l2i_id ⟨(by omega), (by omega)⟩) ?_
                refine wa_istore_n (n := 3) rfl ?_
                refine wa_aload_n (n := 0) rfl ?_
                refine wb_gf4 226 rfl (wy_pr rfl) wt_226 wf_8_3 (v := 227) wl_226_3 ?_
                refine wb_gf4 227 rfl (wy_pr rfl) wt_227 wf_7_0 (v := 228) wl_227_0 ?_
                refine wa_iload_n (n := 2) rfl ?_
                refine wb_bald 228 rfl (wy_pr rfl) wt_228 (n := (S 228 (-1))) (rfl) (by omega) (by omega) (v := ky) (hky) (fun r28 => ?_)
                refine wa_ifne (w_rg0 (by omega) (by omega)) ⟨_, rfl⟩ (fun c29 => ?_) (fun c29 => ?_)
                · skip
                  refine wa_aload_n (n := 0) rfl ?_
                  refine wb_gf4 226 rfl (wy_pr rfl) wt_226 wf_8_3 (v := 227) wl_226_3 ?_
                  refine wb_gf4 227 rfl (wy_pr rfl) wt_227 wf_7_1 (v := 229) wl_227_1 ?_
                  refine wa_iload_n (n := 2) rfl ?_
                  refine wb_lald 229 rfl (wy_pr rfl) wt_229 (n := (S 228 (-1))) (bl1) (by omega) (by omega) (v := q) (hvy) (fun r30 => ?_)
                  refine wb_l2i_r (wb_l2i_id ⟨(by omega), (by omega)⟩) ?_
                  refine wa_fall ⟨_, rfl⟩ ?_
                  refine wa_istore (n := 4) rfl ?_
                  refine wa_iload (n := 4) rfl ?_
                  refine wa_istore (n := 5) rfl ?_
                  refine wa_iconst ?_
                  refine wa_istore (n := 6) rfl ?_
                  refine wa_fall ⟨_, rfl⟩ ?_
                  refine wJ_S (tl_226 (one := (h - 1) - 1) (oth := h - 1) (o1 := o1) (q := q) hC hsw ht hlt hw hT ⟨by omega, by omega⟩ ⟨⟨by omega, by omega⟩, ⟨by omega, by omega⟩, by omega, by omega⟩ (T.length + 1) q 0 (by omega) (by omega) (Or.inr hq) (fun hz => ⟨rfl, Or.inl ⟨hhm.trans hz, rfl⟩⟩) (fun hz u2 i2 => ?_)) ⟨rfl, rfl, rfl, rfl, rfl, rfl, rfl, trivial⟩
                  have hm0 : hm = 0 := hhm.trans hz
                  refine wa_aload_n (n := 0) rfl ?_
                  refine wb_gf4 226 rfl (wy_pr rfl) wt_226 wf_8_0 (v := 72) wl_226_0 ?_
                  refine wa_iload_n (n := 3) rfl ?_
                  refine wa_iload (n := 4) rfl ?_
                  refine wa_iconst ?_
                  refine wa_cv 72 rfl (wy_pr rfl) wt_72 (M2 := mS [144, 145, 146, 147, 148]) rfl at_XH_reshaped ⟨_, rfl⟩ rfl rfl ⟨(Or.inr ⟨wy_pr rfl, mS_no rfl⟩), trivial, trivial, trivial, trivial, trivial, trivial, trivial⟩ trivial (fun _ _ q => mS_sub (by decide) q) (wJ_mono (c_re1 (k := o1) (wo := -1) hC hI hx1 hW hsw hw ho hq (by decide) hu4 hnb h56) (fun o Z hz => (by rw [hrr]; exact hz : (o = .inl (some (0, -1)) ∧ 4000 < S 150 4 + aMb H q (fS (-1) (aNs H (tO T o1).2.1) 0) ∧ oF S Z) ∨ (S 150 4 + aMb H q (fS (-1) (aNs H (tO T o1).2.1) 0) ≤ 4000 ∧ o = .inl (some (0, rr)) ∧ reQ q (-1) o1 T H L G S Z)))) (fun oq31 Sq31 hp32 q31 => ?_)
                  rcases q31 with ⟨rfl, hno, hoF⟩ | ⟨hyes, rfl, hre⟩
                  · skip
                    show wJ _ _ _ _ _ _ _ _ _ _
                    refine wa_istore (n := 6) rfl ?_
                    refine wa_iload (n := 6) rfl ?_
                    refine wa_iconst ?_
                    refine wa_icmpne (w_rg0 (by omega) (by omega)) (w_rg0 (by omega) (by omega)) ⟨_, rfl⟩ (fun c33 => ?_) (fun c33 => ?_)
                    · skip
                      exact absurd c33 (by omega)
                    · skip
                      refine wa_aload_n (n := 0) rfl ?_
                      refine wa_bipush (w_rg2 (by omega) (by omega)) ?_
                      refine wb_pfi 226 rfl (wy_pr rfl) wt_226 wf_8_16 (n := 16) rfl ⟨(by omega), (by omega)⟩ ?_
                      refine wa_return rfl ?_
                      exact ⟨rfl, Or.inr (Or.inl ⟨hm0, hno, Sq31, hoF, rfl⟩)⟩
                  · skip
                    show wJ _ _ _ _ _ _ _ _ _ _
                    obtain ⟨hre1, hre2, ⟨hreC, hreG, hreR⟩, hre4, hreF⟩ := id hre
                    have hreL := hre2.2.2.2.2.1
                    have hrr0 : 0 ≤ rr ∧ rr < 1000000 := by
                      obtain ⟨b1, ⟨b2, b3⟩, b4, b5, b6, b7, b8, b9⟩ := aBr_ok hw (Or.inr hq) (l := (fS (-1) (aNs H (tO T o1).2.1) 0)) (by omega)
                      have hsh := wSh_sh hw ho
                      have hds := nDs_H hw.1 hw.2.1 _ _ hsh.1 hsh.2 rfl
                      have hrl := aRb_ok (fS (-1) (aNs H (tO T o1).2.1) 0) _ _ b1 b2 b3 b4 (nDs_f _ _ hds.1) (fun x hx => ⟨hds.2 x (fS_m _ _ x hx), fun z => by rw [b5] at z; exact absurd z List.not_mem_nil⟩) (by omega)
                      have hll := hrl.1.1.2.1
                      rw [hrr]; have := hrl.2.1; omega
                    have hlen : (aBr T H q).1.length = T.length := (aBr_ok (l := (fS (-1) (aNs H (tO T o1).2.1) 0)) hw (Or.inr hq) (by omega)).2.2.2.2.2.2.2
                    have hL2 := hreL.2
                    rw [hlen] at hL2
                    have hA3 := (c_th hre2.1 (k := o1) ho0.1 (by rw [hlen]; exact ho0.2)).1
                    have hepA : -1 ≤ Sq31 130 o1 ∧ Sq31 130 o1 ≤ 9000001 := by rw [hA3.2.2.2.2.1]; exact aBr_ep hw (Or.inr hq) ho hep hch
                    refine wa_istore (n := 6) rfl ?_
                    refine wa_iload (n := 6) rfl ?_
                    refine wa_iconst ?_
                    refine wa_icmpne (w_rg0 (by omega) (by omega)) (w_rg0 (by omega) (by omega)) ⟨_, rfl⟩ (fun c34 => ?_) (fun c34 => ?_)
                    · skip
                      refine wa_aload_n (n := 0) rfl ?_
                      refine wb_gf4 226 rfl (wy_pr rfl) wt_226 wf_8_0 (v := 72) wl_226_0 ?_
                      refine wb_gf4 72 rfl (wy_pr rfl) wt_72 wf_2_2 (v := 126) wl_72_2 ?_
                      refine wa_iconst ?_
                      refine wb_aald5 126 1 rfl rfl (wy_pr rfl) wt_126 (by rw [show _ = _ from (((hreF 126 (-1) (by decide) (by decide) (by unfold cMr; omega)).trans ((cl_126 hC))))]; omega) wl_126_1 ?_
                      refine wa_iload_n (n := 3) rfl ?_
                      refine wa_iload (n := 6) rfl ?_
                      refine wb_iast 128 rfl (wy_pr rfl) wt_128 (n := (Sq31 127 (-1))) ((hreL.1 1 (by decide))) (by omega) (by omega) ⟨(by omega), (by omega)⟩ ?_
                      refine wa_aload_n (n := 0) rfl ?_
                      refine wb_gf4 226 rfl (wy_pr rfl) wt_226 wf_8_0 (v := 72) wl_226_0 ?_
                      refine wa_iload_n (n := 3) rfl ?_
                      have e72 : (w_up Sq31 128 o1 rr) 72 11 = S 72 11 := ((w_up_slot (by first | decide | omega)).trans ((hreF 72 11 (by first | decide | omega) (by first | decide | omega) (by unfold cMr; omega))))
                      have e130 : (w_up Sq31 128 o1 rr) 130 o1 = Sq31 130 o1 := w_up_slot (by first | decide | omega)
                      have eA72 : Sq31 72 11 = S 72 11 := hreF 72 11 (by first | decide | omega) (by first | decide | omega) (by unfold cMr; omega)
                      have eL : ∀ x : Nat, x < 10 → (w_up Sq31 128 o1 rr) (127 + x) (-1) = (w_up Sq31 128 o1 rr) 127 (-1) := fun x hx => (w_up_no (by omega)).trans ((hreL.1 x hx).trans (w_up_no (by omega)).symm)
                      have eL7 : (w_up Sq31 128 o1 rr) 127 (-1) = Sq31 127 (-1) := w_up_no (by omega)
                      refine wa_cv 72 rfl (wy_pr rfl) wt_72 (M2 := mS []) rfl at_XH_noteChange ⟨_, rfl⟩ rfl rfl ⟨trivial, (Or.inr ⟨wy_pr rfl, mS_no rfl⟩), trivial, trivial, trivial, trivial, trivial, trivial⟩ trivial (fun _ _ q => mS_sub (by decide) q) (wJ_mono (nc_ok (S := (w_up Sq31 128 o1 rr)) (k := o1) (ep := Sq31 130 o1) (ch := Sq31 72 11) eL ⟨by omega, by omega⟩ (by omega) e130 ⟨hepA.1, by omega⟩ (e72.trans eA72.symm) ⟨by omega, by omega⟩ (w_CL_up hreC (by omega))) (fun o Z hz => (⟨hz.1, hz.2⟩ : o = .inl none ∧ ncZ o1 rr (Sq31 130 o1) (Sq31 72 11) Sq31 = Z))) (fun oq35 Sq35 hp36 q35 => ?_)
                      rcases q35 with ⟨rfl, rfl⟩
                      show wJ _ _ _ _ _ _ _ _ _ _
                      refine wa_aload_n (n := 0) rfl ?_
                      refine wa_iconst ?_
                      refine wa_aload_n (n := 0) rfl ?_
                      refine wb_gf4 226 rfl (wy_pr rfl) wt_226 wf_8_3 (v := 227) wl_226_3 ?_
                      refine wb_gf4 227 rfl (wy_pr rfl) wt_227 wf_7_0 (v := 228) wl_227_0 ?_
                      refine wa_iload_n (n := 1) rfl ?_
                      refine wb_bald 228 rfl (wy_pr rfl) wt_228 (n := (S 228 (-1))) (((ncZ_e 228 (-1) (by decide) (by omega)).trans (((hreF 228 (-1) (by decide) (by decide) (by unfold cMr; omega)).trans (rfl))))) (by omega) (by omega) (v := kx) (((ncZ_e 228 ((h - 1) - 1) (by decide) (by omega)).trans (((hreF 228 ((h - 1) - 1) (by decide) (by decide) (by unfold cMr; omega)).trans (hkx))))) (fun r37 => ?_)
                      refine wa_iload_n (n := 3) rfl ?_
                      refine wa_i2l (w_rg0 (by omega) (by omega)) ?_
                      refine wa_cv 226 rfl (wy_pr rfl) wt_226 (M2 := mS [228, 229]) rfl at_XK_give ⟨_, rfl⟩ rfl rfl ⟨trivial, (Or.inr ⟨wy_pr rfl, mS_no rfl⟩), trivial, trivial, trivial, trivial, trivial, trivial⟩ trivial (fun _ _ q => mS_sub (by decide) q) (gw_226 (S := (ncZ o1 rr (Sq31 130 o1) (Sq31 72 11) Sq31)) (n := 2) (k := kx) (v := o1) (h := h) (c := c) (p := p) (ln := (S 228 (-1))) (ncZ_c hreC (by omega)) (ncZ_g hreG (by omega)) ⟨by omega, by omega⟩ ⟨by omega, by omega⟩ (((ncZ_e 227 2 (by decide) (by omega)).trans (((hreF 227 2 (by decide) (by decide) (by unfold cMr; omega)).trans (bh))))) (((ncZ_e 226 4 (by decide) (by omega)).trans (((hreF 226 4 (by decide) (by decide) (by unfold cMr; omega)).trans (bc))))) (((ncZ_e 231 (c - 1) (by decide) (by omega)).trans (((hreF 231 (c - 1) (by decide) (by decide) (by unfold cMr; omega)).trans (bp))))) (((ncZ_e 228 (-1) (by decide) (by omega)).trans (((hreF 228 (-1) (by decide) (by decide) (by unfold cMr; omega)).trans (rfl))))) (((ncZ_e 229 (-1) (by decide) (by omega)).trans (((hreF 229 (-1) (by decide) (by decide) (by unfold cMr; omega)).trans (bl1))))) ⟨by omega, by omega⟩ ⟨by omega, by omega, by omega⟩ ⟨by omega, by omega⟩ ⟨by omega, by omega⟩) (fun oq38 Sq38 hp39 q38 => ?_)
                      rcases q38 with ⟨rfl, A38, ra38, rfl⟩
                      show wJ _ _ _ _ _ _ _ _ _ _
                      refine wa_return rfl ?_
                      exact ⟨rfl, Or.inr (Or.inr ⟨hm0, hyes, Sq31, hre, A38, ra38, rfl⟩)⟩
                    · skip
                      exact absurd c34 (by omega)
                · skip
                  exact absurd c29 (by omega)
              · skip
                exact absurd c26 (by omega)
  · skip
    refine wa_aload_n (n := 0) rfl ?_
    refine wb_gf4 226 rfl (wy_pr rfl) wt_226 wf_8_3 (v := 227) wl_226_3 ?_
    refine wb_gf4 227 rfl (wy_pr rfl) wt_227 wf_7_0 (v := 228) wl_227_0 ?_
    refine wa_iload_n (n := 1) rfl ?_
    refine wb_bald 228 rfl (wy_pr rfl) wt_228 (n := (S 228 (-1))) (rfl) (by omega) (by omega) (v := kx) (hkx) (fun r40 => ?_)
    refine wa_iconst ?_
    refine wa_icmpne (w_rg0 (by omega) (by omega)) (w_rg0 (by omega) (by omega)) ⟨_, rfl⟩ (fun c41 => ?_) (fun c41 => ?_)
    · skip
      exact absurd c41 (by omega)
    · skip
      refine wa_fall ⟨_, rfl⟩ ?_
      refine wa_iconst ?_
      refine wa_goto ⟨_, rfl⟩ ?_
      refine wa_zreturn rfl (Or.inr rfl) ?_
      show wJ _ _ _ _ _ _ _ _ _ _
      refine wa_ifeq (w_rg0 (by omega) (by omega)) ⟨_, rfl⟩ (fun c42 => ?_) (fun c42 => ?_)
      · skip
        exact absurd c42 (by omega)
      · skip
        refine wa_aload_n (n := 0) rfl ?_
        refine wa_iload_n (n := 2) rfl ?_
        refine wa_cv 226 rfl (wy_pr rfl) wt_226 (M2 := mS [228, 229, 144, 145, 146, 147, 148]) rfl at_XK_isPrototype ⟨_, rfl⟩ rfl rfl ⟨(Or.inr ⟨wy_pr rfl, mS_no rfl⟩), trivial, trivial, trivial⟩ trivial (fun _ _ q => q) ?_ (fun _ _ _ q => q)
        refine wa_aload_n (n := 0) rfl ?_
        refine wb_gf4 226 rfl (wy_pr rfl) wt_226 wf_8_3 (v := 227) wl_226_3 ?_
        refine wb_gf4 227 rfl (wy_pr rfl) wt_227 wf_7_0 (v := 228) wl_227_0 ?_
        refine wa_iload_n (n := 1) rfl ?_
        refine wb_bald 228 rfl (wy_pr rfl) wt_228 (n := (S 228 (-1))) (rfl) (by omega) (by omega) (v := ky) (hky) (fun r43 => ?_)
        refine wa_ifeq (w_rg0 (by omega) (by omega)) ⟨_, rfl⟩ (fun c44 => ?_) (fun c44 => ?_)
        · skip
          exact absurd c44 (by omega)
        · skip
          refine wa_aload_n (n := 0) rfl ?_
          refine wa_iload_n (n := 1) rfl ?_
          refine wa_cv 226 rfl (wy_pr rfl) wt_226 (M2 := mS [228, 229, 144, 145, 146, 147, 148]) rfl at_XK_isHolder ⟨_, rfl⟩ rfl rfl ⟨(Or.inr ⟨wy_pr rfl, mS_no rfl⟩), trivial, trivial⟩ trivial (fun _ _ q => q) ?_ (fun _ _ _ q => q)
          refine wa_aload_n (n := 0) rfl ?_
          refine wb_gf4 226 rfl (wy_pr rfl) wt_226 wf_8_3 (v := 227) wl_226_3 ?_
          refine wb_gf4 227 rfl (wy_pr rfl) wt_227 wf_7_0 (v := 228) wl_227_0 ?_
          refine wa_iload_n (n := 1) rfl ?_
          refine wb_bald 228 rfl (wy_pr rfl) wt_228 (n := (S 228 (-1))) (rfl) (by omega) (by omega) (v := ky) (hky) (fun r45 => ?_)
          refine wa_iconst ?_
          refine wa_icmpeq (w_rg0 (by omega) (by omega)) (w_rg0 (by omega) (by omega)) ⟨_, rfl⟩ (fun c46 => ?_) (fun c46 => ?_)
          · skip
            refine wa_iconst ?_
            refine wa_goto ⟨_, rfl⟩ ?_
            refine wa_zreturn rfl (Or.inr rfl) ?_
            show wJ _ _ _ _ _ _ _ _ _ _
            refine wa_ifeq (w_rg0 (by omega) (by omega)) ⟨_, rfl⟩ (fun c47 => ?_) (fun c47 => ?_)
            · skip
              exact absurd c47 (by omega)
            · skip
              refine wa_fall ⟨_, rfl⟩ ?_
              refine wa_iconst ?_
              refine wa_goto ⟨_, rfl⟩ ?_
              refine wa_zreturn rfl (Or.inr rfl) ?_
              show wJ _ _ _ _ _ _ _ _ _ _
              refine wa_ifne (w_rg0 (by omega) (by omega)) ⟨_, rfl⟩ (fun c48 => ?_) (fun c48 => ?_)
              · skip
                refine wa_aload_n (n := 0) rfl ?_
                refine wb_gf4 226 rfl (wy_pr rfl) wt_226 wf_8_3 (v := 227) wl_226_3 ?_
                refine wb_gf4 227 rfl (wy_pr rfl) wt_227 wf_7_1 (v := 229) wl_227_1 ?_
                refine wa_iload_n (n := 1) rfl ?_
                refine wb_lald 229 rfl (wy_pr rfl) wt_229 (n := (S 228 (-1))) (bl1) (by omega) (by omega) (v := o1) (hvx) (fun r49 => ?_)
                refine wb_l2i_r (wb_l2i_id ⟨(by omega), (by omega)⟩) ?_
                refine wa_istore_n (n := 3) rfl ?_
                refine wa_aload_n (n := 0) rfl ?_
                refine wb_gf4 226 rfl (wy_pr rfl) wt_226 wf_8_3 (v := 227) wl_226_3 ?_
                refine wb_gf4 227 rfl (wy_pr rfl) wt_227 wf_7_0 (v := 228) wl_227_0 ?_
                refine wa_iload_n (n := 2) rfl ?_
                refine wb_bald 228 rfl (wy_pr rfl) wt_228 (n := (S 228 (-1))) (rfl) (by omega) (by omega) (v := ky) (hky) (fun r50 => ?_)
                refine wa_ifne (w_rg0 (by omega) (by omega)) ⟨_, rfl⟩ (fun c51 => ?_) (fun c51 => ?_)
                · skip
                  refine wa_aload_n (n := 0) rfl ?_
                  refine wb_gf4 226 rfl (wy_pr rfl) wt_226 wf_8_3 (v := 227) wl_226_3 ?_
                  refine wb_gf4 227 rfl (wy_pr rfl) wt_227 wf_7_1 (v := 229) wl_227_1 ?_
                  refine wa_iload_n (n := 2) rfl ?_
                  refine wb_lald 229 rfl (wy_pr rfl) wt_229 (n := (S 228 (-1))) (bl1) (by omega) (by omega) (v := q) (hvy) (fun r52 => ?_)
                  refine wb_l2i_r (wb_l2i_id ⟨(by omega), (by omega)⟩) ?_
                  refine wa_fall ⟨_, rfl⟩ ?_
                  refine wa_istore (n := 4) rfl ?_
                  refine wa_iload (n := 4) rfl ?_
                  refine wa_istore (n := 5) rfl ?_
                  refine wa_iconst ?_
                  refine wa_istore (n := 6) rfl ?_
                  refine wa_fall ⟨_, rfl⟩ ?_
                  refine wJ_S (tl_226 (one := (h - 1) - 1) (oth := h - 1) (o1 := o1) (q := q) hC hsw ht hlt hw hT ⟨by omega, by omega⟩ ⟨⟨by omega, by omega⟩, ⟨by omega, by omega⟩, by omega, by omega⟩ (T.length + 1) q 0 (by omega) (by omega) (Or.inr hq) (fun hz => ⟨rfl, Or.inl ⟨hhm.trans hz, rfl⟩⟩) (fun hz u2 i2 => ?_)) ⟨rfl, rfl, rfl, rfl, rfl, rfl, rfl, trivial⟩
                  have hm0 : hm = 0 := hhm.trans hz
                  refine wa_aload_n (n := 0) rfl ?_
                  refine wb_gf4 226 rfl (wy_pr rfl) wt_226 wf_8_0 (v := 72) wl_226_0 ?_
                  refine wa_iload_n (n := 3) rfl ?_
                  refine wa_iload (n := 4) rfl ?_
                  refine wa_iconst ?_
                  refine wa_cv 72 rfl (wy_pr rfl) wt_72 (M2 := mS [144, 145, 146, 147, 148]) rfl at_XH_reshaped ⟨_, rfl⟩ rfl rfl ⟨(Or.inr ⟨wy_pr rfl, mS_no rfl⟩), trivial, trivial, trivial, trivial, trivial, trivial, trivial⟩ trivial (fun _ _ q => mS_sub (by decide) q) (wJ_mono (c_re1 (k := o1) (wo := -1) hC hI hx1 hW hsw hw ho hq (by decide) hu4 hnb h56) (fun o Z hz => (by rw [hrr]; exact hz : (o = .inl (some (0, -1)) ∧ 4000 < S 150 4 + aMb H q (fS (-1) (aNs H (tO T o1).2.1) 0) ∧ oF S Z) ∨ (S 150 4 + aMb H q (fS (-1) (aNs H (tO T o1).2.1) 0) ≤ 4000 ∧ o = .inl (some (0, rr)) ∧ reQ q (-1) o1 T H L G S Z)))) (fun oq53 Sq53 hp54 q53 => ?_)
                  rcases q53 with ⟨rfl, hno, hoF⟩ | ⟨hyes, rfl, hre⟩
                  · skip
                    show wJ _ _ _ _ _ _ _ _ _ _
                    refine wa_istore (n := 6) rfl ?_
                    refine wa_iload (n := 6) rfl ?_
                    refine wa_iconst ?_
                    refine wa_icmpne (w_rg0 (by omega) (by omega)) (w_rg0 (by omega) (by omega)) ⟨_, rfl⟩ (fun c55 => ?_) (fun c55 => ?_)
                    · skip
                      exact absurd c55 (by omega)
                    · skip
                      refine wa_aload_n (n := 0) rfl ?_
                      refine wa_bipush (w_rg2 (by omega) (by omega)) ?_
                      refine wb_pfi 226 rfl (wy_pr rfl) wt_226 wf_8_16 (n := 16) rfl ⟨(by omega), (by omega)⟩ ?_
                      refine wa_return rfl ?_
                      exact ⟨rfl, Or.inr (Or.inl ⟨hm0, hno, Sq53, hoF, rfl⟩)⟩
                  · skip
                    show wJ _ _ _ _ _ _ _ _ _ _
                    obtain ⟨hre1, hre2, ⟨hreC, hreG, hreR⟩, hre4, hreF⟩ := id hre
                    have hreL := hre2.2.2.2.2.1
                    have hrr0 : 0 ≤ rr ∧ rr < 1000000 := by
                      obtain ⟨b1, ⟨b2, b3⟩, b4, b5, b6, b7, b8, b9⟩ := aBr_ok hw (Or.inr hq) (l := (fS (-1) (aNs H (tO T o1).2.1) 0)) (by omega)
                      have hsh := wSh_sh hw ho
                      have hds := nDs_H hw.1 hw.2.1 _ _ hsh.1 hsh.2 rfl
                      have hrl := aRb_ok (fS (-1) (aNs H (tO T o1).2.1) 0) _ _ b1 b2 b3 b4 (nDs_f _ _ hds.1) (fun x hx => ⟨hds.2 x (fS_m _ _ x hx), fun z => by rw [b5] at z; exact absurd z List.not_mem_nil⟩) (by omega)
                      have hll := hrl.1.1.2.1
                      rw [hrr]; have := hrl.2.1; omega
                    have hlen : (aBr T H q).1.length = T.length := (aBr_ok (l := (fS (-1) (aNs H (tO T o1).2.1) 0)) hw (Or.inr hq) (by omega)).2.2.2.2.2.2.2
                    have hL2 := hreL.2
                    rw [hlen] at hL2
                    have hA3 := (c_th hre2.1 (k := o1) ho0.1 (by rw [hlen]; exact ho0.2)).1
                    have hepA : -1 ≤ Sq53 130 o1 ∧ Sq53 130 o1 ≤ 9000001 := by rw [hA3.2.2.2.2.1]; exact aBr_ep hw (Or.inr hq) ho hep hch
                    refine wa_istore (n := 6) rfl ?_
                    refine wa_iload (n := 6) rfl ?_
                    refine wa_iconst ?_
                    refine wa_icmpne (w_rg0 (by omega) (by omega)) (w_rg0 (by omega) (by omega)) ⟨_, rfl⟩ (fun c56 => ?_) (fun c56 => ?_)
                    · skip
                      refine wa_aload_n (n := 0) rfl ?_
                      refine wb_gf4 226 rfl (wy_pr rfl) wt_226 wf_8_0 (v := 72) wl_226_0 ?_
                      refine wb_gf4 72 rfl (wy_pr rfl) wt_72 wf_2_2 (v := 126) wl_72_2 ?_
                      refine wa_iconst ?_
                      refine wb_aald5 126 1 rfl rfl (wy_pr rfl) wt_126 (by rw [show _ = _ from (((hreF 126 (-1) (by decide) (by decide) (by unfold cMr; omega)).trans ((cl_126 hC))))]; omega) wl_126_1 ?_
                      refine wa_iload_n (n := 3) rfl ?_
                      refine wa_iload (n := 6) rfl ?_
                      refine wb_iast 128 rfl (wy_pr rfl) wt_128 (n := (Sq53 127 (-1))) ((hreL.1 1 (by decide))) (by omega) (by omega) ⟨(by omega), (by omega)⟩ ?_
                      refine wa_aload_n (n := 0) rfl ?_
                      refine wb_gf4 226 rfl (wy_pr rfl) wt_226 wf_8_0 (v := 72) wl_226_0 ?_
                      refine wa_iload_n (n := 3) rfl ?_
                      have e72 : (w_up Sq53 128 o1 rr) 72 11 = S 72 11 := ((w_up_slot (by first | decide | omega)).trans ((hreF 72 11 (by first | decide | omega) (by first | decide | omega) (by unfold cMr; omega))))
                      have e130 : (w_up Sq53 128 o1 rr) 130 o1 = Sq53 130 o1 := w_up_slot (by first | decide | omega)
                      have eA72 : Sq53 72 11 = S 72 11 := hreF 72 11 (by first | decide | omega) (by first | decide | omega) (by unfold cMr; omega)
                      have eL : ∀ x : Nat, x < 10 → (w_up Sq53 128 o1 rr) (127 + x) (-1) = (w_up Sq53 128 o1 rr) 127 (-1) := fun x hx => (w_up_no (by omega)).trans ((hreL.1 x hx).trans (w_up_no (by omega)).symm)
                      have eL7 : (w_up Sq53 128 o1 rr) 127 (-1) = Sq53 127 (-1) := w_up_no (by omega)
                      refine wa_cv 72 rfl (wy_pr rfl) wt_72 (M2 := mS []) rfl at_XH_noteChange ⟨_, rfl⟩ rfl rfl ⟨trivial, (Or.inr ⟨wy_pr rfl, mS_no rfl⟩), trivial, trivial, trivial, trivial, trivial, trivial⟩ trivial (fun _ _ q => mS_sub (by decide) q) (wJ_mono (nc_ok (S := (w_up Sq53 128 o1 rr)) (k := o1) (ep := Sq53 130 o1) (ch := Sq53 72 11) eL ⟨by omega, by omega⟩ (by omega) e130 ⟨hepA.1, by omega⟩ (e72.trans eA72.symm) ⟨by omega, by omega⟩ (w_CL_up hreC (by omega))) (fun o Z hz => (⟨hz.1, hz.2⟩ : o = .inl none ∧ ncZ o1 rr (Sq53 130 o1) (Sq53 72 11) Sq53 = Z))) (fun oq57 Sq57 hp58 q57 => ?_)
                      rcases q57 with ⟨rfl, rfl⟩
                      show wJ _ _ _ _ _ _ _ _ _ _
                      refine wa_aload_n (n := 0) rfl ?_
                      refine wa_iconst ?_
                      refine wa_aload_n (n := 0) rfl ?_
                      refine wb_gf4 226 rfl (wy_pr rfl) wt_226 wf_8_3 (v := 227) wl_226_3 ?_
                      refine wb_gf4 227 rfl (wy_pr rfl) wt_227 wf_7_0 (v := 228) wl_227_0 ?_
                      refine wa_iload_n (n := 1) rfl ?_
                      refine wb_bald 228 rfl (wy_pr rfl) wt_228 (n := (S 228 (-1))) (((ncZ_e 228 (-1) (by decide) (by omega)).trans (((hreF 228 (-1) (by decide) (by decide) (by unfold cMr; omega)).trans (rfl))))) (by omega) (by omega) (v := kx) (((ncZ_e 228 ((h - 1) - 1) (by decide) (by omega)).trans (((hreF 228 ((h - 1) - 1) (by decide) (by decide) (by unfold cMr; omega)).trans (hkx))))) (fun r59 => ?_)
                      refine wa_iload_n (n := 3) rfl ?_
                      refine wa_i2l (w_rg0 (by omega) (by omega)) ?_
                      refine wa_cv 226 rfl (wy_pr rfl) wt_226 (M2 := mS [228, 229]) rfl at_XK_give ⟨_, rfl⟩ rfl rfl ⟨trivial, (Or.inr ⟨wy_pr rfl, mS_no rfl⟩), trivial, trivial, trivial, trivial, trivial, trivial⟩ trivial (fun _ _ q => mS_sub (by decide) q) (gw_226 (S := (ncZ o1 rr (Sq53 130 o1) (Sq53 72 11) Sq53)) (n := 2) (k := kx) (v := o1) (h := h) (c := c) (p := p) (ln := (S 228 (-1))) (ncZ_c hreC (by omega)) (ncZ_g hreG (by omega)) ⟨by omega, by omega⟩ ⟨by omega, by omega⟩ (((ncZ_e 227 2 (by decide) (by omega)).trans (((hreF 227 2 (by decide) (by decide) (by unfold cMr; omega)).trans (bh))))) (((ncZ_e 226 4 (by decide) (by omega)).trans (((hreF 226 4 (by decide) (by decide) (by unfold cMr; omega)).trans (bc))))) (((ncZ_e 231 (c - 1) (by decide) (by omega)).trans (((hreF 231 (c - 1) (by decide) (by decide) (by unfold cMr; omega)).trans (bp))))) (((ncZ_e 228 (-1) (by decide) (by omega)).trans (((hreF 228 (-1) (by decide) (by decide) (by unfold cMr; omega)).trans (rfl))))) (((ncZ_e 229 (-1) (by decide) (by omega)).trans (((hreF 229 (-1) (by decide) (by decide) (by unfold cMr; omega)).trans (bl1))))) ⟨by omega, by omega⟩ ⟨by omega, by omega, by omega⟩ ⟨by omega, by omega⟩ ⟨by omega, by omega⟩) (fun oq60 Sq60 hp61 q60 => ?_)
                      rcases q60 with ⟨rfl, A60, ra60, rfl⟩
                      show wJ _ _ _ _ _ _ _ _ _ _
                      refine wa_return rfl ?_
                      exact ⟨rfl, Or.inr (Or.inr ⟨hm0, hyes, Sq53, hre, A60, ra60, rfl⟩)⟩
                    · skip
                      exact absurd c56 (by omega)
                · skip
                  exact absurd c51 (by omega)
              · skip
                exact absurd c48 (by omega)
          · skip
            refine wa_aload_n (n := 0) rfl ?_
            refine wb_gf4 226 rfl (wy_pr rfl) wt_226 wf_8_3 (v := 227) wl_226_3 ?_
            refine wb_gf4 227 rfl (wy_pr rfl) wt_227 wf_7_0 (v := 228) wl_227_0 ?_
            refine wa_iload_n (n := 1) rfl ?_
            refine wb_bald 228 rfl (wy_pr rfl) wt_228 (n := (S 228 (-1))) (rfl) (by omega) (by omega) (v := ky) (hky) (fun r62 => ?_)
            refine wa_iconst ?_
            refine wa_icmpne (w_rg0 (by omega) (by omega)) (w_rg0 (by omega) (by omega)) ⟨_, rfl⟩ (fun c63 => ?_) (fun c63 => ?_)
            · skip
              exact absurd c63 (by omega)
            · skip
              refine wa_fall ⟨_, rfl⟩ ?_
              refine wa_iconst ?_
              refine wa_goto ⟨_, rfl⟩ ?_
              refine wa_zreturn rfl (Or.inr rfl) ?_
              show wJ _ _ _ _ _ _ _ _ _ _
              refine wa_ifeq (w_rg0 (by omega) (by omega)) ⟨_, rfl⟩ (fun c64 => ?_) (fun c64 => ?_)
              · skip
                exact absurd c64 (by omega)
              · skip
                refine wa_fall ⟨_, rfl⟩ ?_
                refine wa_iconst ?_
                refine wa_goto ⟨_, rfl⟩ ?_
                refine wa_zreturn rfl (Or.inr rfl) ?_
                show wJ _ _ _ _ _ _ _ _ _ _
                refine wa_ifne (w_rg0 (by omega) (by omega)) ⟨_, rfl⟩ (fun c65 => ?_) (fun c65 => ?_)
                · skip
                  refine wa_aload_n (n := 0) rfl ?_
                  refine wb_gf4 226 rfl (wy_pr rfl) wt_226 wf_8_3 (v := 227) wl_226_3 ?_
                  refine wb_gf4 227 rfl (wy_pr rfl) wt_227 wf_7_1 (v := 229) wl_227_1 ?_
                  refine wa_iload_n (n := 1) rfl ?_
                  refine wb_lald 229 rfl (wy_pr rfl) wt_229 (n := (S 228 (-1))) (bl1) (by omega) (by omega) (v := o1) (hvx) (fun r66 => ?_)
                  refine wb_l2i_r (wb_l2i_id ⟨(by omega), (by omega)⟩) ?_
                  refine wa_istore_n (n := 3) rfl ?_
                  refine wa_aload_n (n := 0) rfl ?_
                  refine wb_gf4 226 rfl (wy_pr rfl) wt_226 wf_8_3 (v := 227) wl_226_3 ?_
                  refine wb_gf4 227 rfl (wy_pr rfl) wt_227 wf_7_0 (v := 228) wl_227_0 ?_
                  refine wa_iload_n (n := 2) rfl ?_
                  refine wb_bald 228 rfl (wy_pr rfl) wt_228 (n := (S 228 (-1))) (rfl) (by omega) (by omega) (v := ky) (hky) (fun r67 => ?_)
                  refine wa_ifne (w_rg0 (by omega) (by omega)) ⟨_, rfl⟩ (fun c68 => ?_) (fun c68 => ?_)
                  · skip
                    refine wa_aload_n (n := 0) rfl ?_
                    refine wb_gf4 226 rfl (wy_pr rfl) wt_226 wf_8_3 (v := 227) wl_226_3 ?_
                    refine wb_gf4 227 rfl (wy_pr rfl) wt_227 wf_7_1 (v := 229) wl_227_1 ?_
                    refine wa_iload_n (n := 2) rfl ?_
                    refine wb_lald 229 rfl (wy_pr rfl) wt_229 (n := (S 228 (-1))) (bl1) (by omega) (by omega) (v := q) (hvy) (fun r69 => ?_)
                    refine wb_l2i_r (wb_l2i_id ⟨(by omega), (by omega)⟩) ?_
                    refine wa_fall ⟨_, rfl⟩ ?_
                    refine wa_istore (n := 4) rfl ?_
                    refine wa_iload (n := 4) rfl ?_
                    refine wa_istore (n := 5) rfl ?_
                    refine wa_iconst ?_
                    refine wa_istore (n := 6) rfl ?_
                    refine wa_fall ⟨_, rfl⟩ ?_
                    refine wJ_S (tl_226 (one := (h - 1) - 1) (oth := h - 1) (o1 := o1) (q := q) hC hsw ht hlt hw hT ⟨by omega, by omega⟩ ⟨⟨by omega, by omega⟩, ⟨by omega, by omega⟩, by omega, by omega⟩ (T.length + 1) q 0 (by omega) (by omega) (Or.inr hq) (fun hz => ⟨rfl, Or.inl ⟨hhm.trans hz, rfl⟩⟩) (fun hz u2 i2 => ?_)) ⟨rfl, rfl, rfl, rfl, rfl, rfl, rfl, trivial⟩
                    have hm0 : hm = 0 := hhm.trans hz
                    refine wa_aload_n (n := 0) rfl ?_
                    refine wb_gf4 226 rfl (wy_pr rfl) wt_226 wf_8_0 (v := 72) wl_226_0 ?_
                    refine wa_iload_n (n := 3) rfl ?_
                    refine wa_iload (n := 4) rfl ?_
                    refine wa_iconst ?_
                    refine wa_cv 72 rfl (wy_pr rfl) wt_72 (M2 := mS [144, 145, 146, 147, 148]) rfl at_XH_reshaped ⟨_, rfl⟩ rfl rfl ⟨(Or.inr ⟨wy_pr rfl, mS_no rfl⟩), trivial, trivial, trivial, trivial, trivial, trivial, trivial⟩ trivial (fun _ _ q => mS_sub (by decide) q) (wJ_mono (c_re1 (k := o1) (wo := -1) hC hI hx1 hW hsw hw ho hq (by decide) hu4 hnb h56) (fun o Z hz => (by rw [hrr]; exact hz : (o = .inl (some (0, -1)) ∧ 4000 < S 150 4 + aMb H q (fS (-1) (aNs H (tO T o1).2.1) 0) ∧ oF S Z) ∨ (S 150 4 + aMb H q (fS (-1) (aNs H (tO T o1).2.1) 0) ≤ 4000 ∧ o = .inl (some (0, rr)) ∧ reQ q (-1) o1 T H L G S Z)))) (fun oq70 Sq70 hp71 q70 => ?_)
                    rcases q70 with ⟨rfl, hno, hoF⟩ | ⟨hyes, rfl, hre⟩
                    · skip
                      show wJ _ _ _ _ _ _ _ _ _ _
                      refine wa_istore (n := 6) rfl ?_
                      refine wa_iload (n := 6) rfl ?_
                      refine wa_iconst ?_
                      refine wa_icmpne (w_rg0 (by omega) (by omega)) (w_rg0 (by omega) (by omega)) ⟨_, rfl⟩ (fun c72 => ?_) (fun c72 => ?_)
                      · skip
                        exact absurd c72 (by omega)
                      · skip
                        refine wa_aload_n (n := 0) rfl ?_
                        refine wa_bipush (w_rg2 (by omega) (by omega)) ?_
                        refine wb_pfi 226 rfl (wy_pr rfl) wt_226 wf_8_16 (n := 16) rfl ⟨(by omega), (by omega)⟩ ?_
                        refine wa_return rfl ?_
                        exact ⟨rfl, Or.inr (Or.inl ⟨hm0, hno, Sq70, hoF, rfl⟩)⟩
                    · skip
                      show wJ _ _ _ _ _ _ _ _ _ _
                      obtain ⟨hre1, hre2, ⟨hreC, hreG, hreR⟩, hre4, hreF⟩ := id hre
                      have hreL := hre2.2.2.2.2.1
                      have hrr0 : 0 ≤ rr ∧ rr < 1000000 := by
                        obtain ⟨b1, ⟨b2, b3⟩, b4, b5, b6, b7, b8, b9⟩ := aBr_ok hw (Or.inr hq) (l := (fS (-1) (aNs H (tO T o1).2.1) 0)) (by omega)
                        have hsh := wSh_sh hw ho
                        have hds := nDs_H hw.1 hw.2.1 _ _ hsh.1 hsh.2 rfl
                        have hrl := aRb_ok (fS (-1) (aNs H (tO T o1).2.1) 0) _ _ b1 b2 b3 b4 (nDs_f _ _ hds.1) (fun x hx => ⟨hds.2 x (fS_m _ _ x hx), fun z => by rw [b5] at z; exact absurd z List.not_mem_nil⟩) (by omega)
                        have hll := hrl.1.1.2.1
                        rw [hrr]; have := hrl.2.1; omega
                      have hlen : (aBr T H q).1.length = T.length := (aBr_ok (l := (fS (-1) (aNs H (tO T o1).2.1) 0)) hw (Or.inr hq) (by omega)).2.2.2.2.2.2.2
                      have hL2 := hreL.2
                      rw [hlen] at hL2
                      have hA3 := (c_th hre2.1 (k := o1) ho0.1 (by rw [hlen]; exact ho0.2)).1
                      have hepA : -1 ≤ Sq70 130 o1 ∧ Sq70 130 o1 ≤ 9000001 := by rw [hA3.2.2.2.2.1]; exact aBr_ep hw (Or.inr hq) ho hep hch
                      refine wa_istore (n := 6) rfl ?_
                      refine wa_iload (n := 6) rfl ?_
                      refine wa_iconst ?_
                      refine wa_icmpne (w_rg0 (by omega) (by omega)) (w_rg0 (by omega) (by omega)) ⟨_, rfl⟩ (fun c73 => ?_) (fun c73 => ?_)
                      · skip
                        refine wa_aload_n (n := 0) rfl ?_
                        refine wb_gf4 226 rfl (wy_pr rfl) wt_226 wf_8_0 (v := 72) wl_226_0 ?_
                        refine wb_gf4 72 rfl (wy_pr rfl) wt_72 wf_2_2 (v := 126) wl_72_2 ?_
                        refine wa_iconst ?_
                        refine wb_aald5 126 1 rfl rfl (wy_pr rfl) wt_126 (by rw [show _ = _ from (((hreF 126 (-1) (by decide) (by decide) (by unfold cMr; omega)).trans ((cl_126 hC))))]; omega) wl_126_1 ?_
                        refine wa_iload_n (n := 3) rfl ?_
                        refine wa_iload (n := 6) rfl ?_
                        refine wb_iast 128 rfl (wy_pr rfl) wt_128 (n := (Sq70 127 (-1))) ((hreL.1 1 (by decide))) (by omega) (by omega) ⟨(by omega), (by omega)⟩ ?_
                        refine wa_aload_n (n := 0) rfl ?_
                        refine wb_gf4 226 rfl (wy_pr rfl) wt_226 wf_8_0 (v := 72) wl_226_0 ?_
                        refine wa_iload_n (n := 3) rfl ?_
                        have e72 : (w_up Sq70 128 o1 rr) 72 11 = S 72 11 := ((w_up_slot (by first | decide | omega)).trans ((hreF 72 11 (by first | decide | omega) (by first | decide | omega) (by unfold cMr; omega))))
                        have e130 : (w_up Sq70 128 o1 rr) 130 o1 = Sq70 130 o1 := w_up_slot (by first | decide | omega)
                        have eA72 : Sq70 72 11 = S 72 11 := hreF 72 11 (by first | decide | omega) (by first | decide | omega) (by unfold cMr; omega)
                        have eL : ∀ x : Nat, x < 10 → (w_up Sq70 128 o1 rr) (127 + x) (-1) = (w_up Sq70 128 o1 rr) 127 (-1) := fun x hx => (w_up_no (by omega)).trans ((hreL.1 x hx).trans (w_up_no (by omega)).symm)
                        have eL7 : (w_up Sq70 128 o1 rr) 127 (-1) = Sq70 127 (-1) := w_up_no (by omega)
                        refine wa_cv 72 rfl (wy_pr rfl) wt_72 (M2 := mS []) rfl at_XH_noteChange ⟨_, rfl⟩ rfl rfl ⟨trivial, (Or.inr ⟨wy_pr rfl, mS_no rfl⟩), trivial, trivial, trivial, trivial, trivial, trivial⟩ trivial (fun _ _ q => mS_sub (by decide) q) (wJ_mono (nc_ok (S := (w_up Sq70 128 o1 rr)) (k := o1) (ep := Sq70 130 o1) (ch := Sq70 72 11) eL ⟨by omega, by omega⟩ (by omega) e130 ⟨hepA.1, by omega⟩ (e72.trans eA72.symm) ⟨by omega, by omega⟩ (w_CL_up hreC (by omega))) (fun o Z hz => (⟨hz.1, hz.2⟩ : o = .inl none ∧ ncZ o1 rr (Sq70 130 o1) (Sq70 72 11) Sq70 = Z))) (fun oq74 Sq74 hp75 q74 => ?_)
                        rcases q74 with ⟨rfl, rfl⟩
                        show wJ _ _ _ _ _ _ _ _ _ _
                        refine wa_aload_n (n := 0) rfl ?_
                        refine wa_iconst ?_
                        refine wa_aload_n (n := 0) rfl ?_
                        refine wb_gf4 226 rfl (wy_pr rfl) wt_226 wf_8_3 (v := 227) wl_226_3 ?_
                        refine wb_gf4 227 rfl (wy_pr rfl) wt_227 wf_7_0 (v := 228) wl_227_0 ?_
                        refine wa_iload_n (n := 1) rfl ?_
                        refine wb_bald 228 rfl (wy_pr rfl) wt_228 (n := (S 228 (-1))) (((ncZ_e 228 (-1) (by decide) (by omega)).trans (((hreF 228 (-1) (by decide) (by decide) (by unfold cMr; omega)).trans (rfl))))) (by omega) (by omega) (v := kx) (((ncZ_e 228 ((h - 1) - 1) (by decide) (by omega)).trans (((hreF 228 ((h - 1) - 1) (by decide) (by decide) (by unfold cMr; omega)).trans (hkx))))) (fun r76 => ?_)
                        refine wa_iload_n (n := 3) rfl ?_
                        refine wa_i2l (w_rg0 (by omega) (by omega)) ?_
                        refine wa_cv 226 rfl (wy_pr rfl) wt_226 (M2 := mS [228, 229]) rfl at_XK_give ⟨_, rfl⟩ rfl rfl ⟨trivial, (Or.inr ⟨wy_pr rfl, mS_no rfl⟩), trivial, trivial, trivial, trivial, trivial, trivial⟩ trivial (fun _ _ q => mS_sub (by decide) q) (gw_226 (S := (ncZ o1 rr (Sq70 130 o1) (Sq70 72 11) Sq70)) (n := 2) (k := kx) (v := o1) (h := h) (c := c) (p := p) (ln := (S 228 (-1))) (ncZ_c hreC (by omega)) (ncZ_g hreG (by omega)) ⟨by omega, by omega⟩ ⟨by omega, by omega⟩ (((ncZ_e 227 2 (by decide) (by omega)).trans (((hreF 227 2 (by decide) (by decide) (by unfold cMr; omega)).trans (bh))))) (((ncZ_e 226 4 (by decide) (by omega)).trans (((hreF 226 4 (by decide) (by decide) (by unfold cMr; omega)).trans (bc))))) (((ncZ_e 231 (c - 1) (by decide) (by omega)).trans (((hreF 231 (c - 1) (by decide) (by decide) (by unfold cMr; omega)).trans (bp))))) (((ncZ_e 228 (-1) (by decide) (by omega)).trans (((hreF 228 (-1) (by decide) (by decide) (by unfold cMr; omega)).trans (rfl))))) (((ncZ_e 229 (-1) (by decide) (by omega)).trans (((hreF 229 (-1) (by decide) (by decide) (by unfold cMr; omega)).trans (bl1))))) ⟨by omega, by omega⟩ ⟨by omega, by omega, by omega⟩ ⟨by omega, by omega⟩ ⟨by omega, by omega⟩) (fun oq77 Sq77 hp78 q77 => ?_)
                        rcases q77 with ⟨rfl, A77, ra77, rfl⟩
                        show wJ _ _ _ _ _ _ _ _ _ _
                        refine wa_return rfl ?_
                        exact ⟨rfl, Or.inr (Or.inr ⟨hm0, hyes, Sq70, hre, A77, ra77, rfl⟩)⟩
                      · skip
                        exact absurd c73 (by omega)
                  · skip
                    exact absurd c68 (by omega)
                · skip
                  exact absurd c65 (by omega)
end Wfl
