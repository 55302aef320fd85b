/-! PART ft: drop of the class, by tasks and worlds. -/
section Wft
variable {xs : List (Nat × List Int32)} {M : Nat → Prop} {d : Nat} {S S0 Z A B : wS} {H : List aH} {T : List aO} {L : List aC} {G : Int → aV} {sl : Nat → List Int} {K : aK} {t b q o1 k p wo : Int} {w : Nat} {N : List (List Int)} {x : List Int}
theorem c_re (hC : w_CL S) (hI : gI S) (hx1 : pe_at (pe_GA xs).xs 1 = some (1, tx_1)) (hW : cWd S T L G) (h : cSw S T H) (hw : wSh T H) (hk : isO T k) (hp : p = -1 ∨ isO T p) (hwo : -1 ≤ wo ∧ wo ≤ 100000) (hu : 0 ≤ S 150 4 ∧ S 150 4 ≤ 4000 ∧ (H.length : Int) ≤ S 150 4 + 1) (hnb : ∀ s : Int, 0 ≤ s → s < (H.length : Int) → qNm H s ≤ 100000) (h56 : S 156 (-1) = 65) : wJ (pe_GA xs) wY0 (mS [144, 145, 146, 147, 148]) (d + 4) t_XH_reshaped ((pe_at t_XH_reshaped.bl 0).getD (0, [])).2 [(0, (2, 72)), (1, (0, k)), (2, (0, p)), (3, (0, wo))] [] S (fun o Z => (o = .inl (some (0, -1)) ∧ 4000 < S 150 4 + aMb H p (fS wo (aNs H (tO T k).2.1) 0) ∧ oF S Z) ∨ (S 150 4 + aMb H p (fS wo (aNs H (tO T k).2.1) 0) ≤ 4000 ∧ o = .inl (some (0, rsS T H p (fS wo (aNs H (tO T k).2.1) 0))) ∧ reQ p wo k T H L G S Z)) := by
  rcases hp with rfl | hp
  · exact c_re0 hC hI hx1 hW h hw hk hwo hu hnb h56
  · exact c_re1 hC hI hx1 hW h hw hk hp hwo hu hnb h56
/-- what drop may change of the class -/
def cMd (j : Nat) (x : Int) : Prop := cMt j x ∨ j = 134 ∨ j = 141 ∨ j = 142
theorem dr_tail {k wo sh : Int} {m : Nat} {u : aV} (hw : w = 215 ∨ w = 226) (hk : cTk w S K) (h3 : 0 < K.2.1.length) (h4 : K.1.length ≤ 2001) (hm : m ≤ K.1.length) (hk0 : 0 ≤ k ∧ k < (T.length : Int)) (hlen : (rsT T H q).length = T.length) (hix : 0 ≤ wo ∧ wo < ((tO (rsT T H q) k).2.2.2.2.2.2.length : Int)) (h : reQ q wo k T H L G S A) (hd : dv_ag k wo A B) (hs : sO w (K.1.length : Int) (K.2.1.length : Int) (K.2.1.getD (K.2.1.length - 1) (0, 0, 0, (0, 0, []), 0, 0, 0)).2.1 (m : Int) u.1 u.2.1 (ncZ k sh (B 130 k) (B 72 11) B) Z) (hu : u.1 ≠ 3) (hu2 : u.2.2 = []) : cTk w Z (kP K m u) ∧ cWd Z (tNc (tDp (rsT T H q) k wo) k sh (S 72 11)) L G ∧ cSw Z (tNc (tDp (rsT T H q) k wo) k sh (S 72 11)) (rsH T H q (fS wo (aNs H (tO T k).2.1) 0)) ∧ cFm w cMd S Z ∧ (Z 150 4 = S 150 4 + aMb H q (fS wo (aNs H (tO T k).2.1) 0) ∧ ∀ x : Int, x ≠ 4 → Z 150 x = S 150 x) ∧ Z 72 11 = S 72 11 + (if (tO (rsT T H q) k).2.2.2.2.1 = -1 then 0 else 1) ∧ (cPo S → cPo Z) ∧ Z w 16 = S w 16 := by
  have hg : wG = 1000000 := rfl
  have fA : cFm w cMd S A := cFm_m (fun _ _ z => Or.inl z) (re_fm hw h)
  obtain ⟨r1, r2, ⟨r3, r4, r5⟩, r6, fr⟩ := id h
  obtain ⟨-, -, d3, d4, d5, d6⟩ := id hd
  have k1 : k < ((rsT T H q).length : Int) := by rw [hlen]; exact hk0.2
  have fB : cFm w cMd A B := ⟨fun j x _ _ _ j3 => d4 j x (by unfold cMd at j3; omega) (by unfold cMd at j3; omega) (by unfold cMd at j3; omega), fun j j0 j1 => d4 j (-1) (by omega) (by omega) (by omega), d5, d6⟩
  have fN : cFm w cMd B (ncZ k sh (B 130 k) (B 72 11) B) := cFm_m (fun _ _ z => Or.inl z) (nc_fm (sh := sh) (e := B 130 k) (ch := B 72 11) hw d5 hk0.1)
  have fZ := cFr_sO hw (cFr_rfl fN.2.2.1) (by omega) hs
  have e11 : B 72 11 = S 72 11 := (d4 72 11 (by first | decide | omega) (by first | decide | omega) (Or.inl (by first | decide | omega))).trans (fr 72 11 (by first | decide | omega) (by first | decide | omega) (by unfold cMr; omega))
  have eA : ∀ (j : Nat) (x : Int), j < 237 → (j < 144 ∨ 150 < j) → j ≠ 156 → j ≠ 130 → j ≠ 132 → (j ≠ 72 ∨ x ≠ 8) → j ≠ 134 → j ≠ 141 → j ≠ 142 → B j x = S j x := fun j x j0 j1 j2 j3 j4 j5 j6 j7 j8 => (d4 j x j7 j8 (Or.inl j6)).trans (fr j x (by omega) (by omega) (by unfold cMr; omega))
  have eN : ∀ (j : Nat) (x : Int), j ≠ 128 → j ≠ 130 → j ≠ 131 → (j ≠ 72 ∨ x ≠ 11) → (ncZ k sh (B 130 k) (B 72 11) B) j x = B j x := fun j x j0 j1 j2 j3 => ncZ_e j x ⟨j0, j1, j2⟩ j3
  have zf : ∀ (j : Nat) (x : Int), j < 215 → Z j x = (ncZ k sh (B 130 k) (B 72 11) B) j x := fun j x j0 => fZ.1 j x (by omega) (by omega) (by omega)
  have hkN : cTk w (ncZ k sh (B 130 k) (B 72 11) B) K := cTk_fr hk (cTx_of ((eN 2 1 (by first | decide | omega) (by first | decide | omega) (by first | decide | omega) (by first | decide | omega)).trans (eA 2 1 (by first | decide | omega) (by first | decide | omega) (by first | decide | omega) (by first | decide | omega) (by first | decide | omega) (by first | decide | omega) (by first | decide | omega) (by first | decide | omega) (by first | decide | omega))) (fun x => (eN 3 x (by first | decide | omega) (by first | decide | omega) (by first | decide | omega) (Or.inl (by first | decide | omega))).trans (eA 3 x (by first | decide | omega) (by first | decide | omega) (by first | decide | omega) (by first | decide | omega) (by first | decide | omega) (Or.inl (by first | decide | omega)) (by first | decide | omega) (by first | decide | omega) (by first | decide | omega)))) (fun j y j0 j1 => (eN j y (by omega) (by omega) (by omega) (by omega)).trans (eA j y (by omega) (by omega) (by omega) (by omega) (by omega) (by omega) (by omega) (by omega) (by omega)))
  have hWB := cWd_dv r2 hk0.1 k1 hix hd
  have hWN := cWd_nc (sh := sh) hWB hk0.1 (by rw [tDp_l]; exact k1)
  have hSB : cSw B (tDp (rsT T H q) k wo) (rsH T H q (fS wo (aNs H (tO T k).2.1) 0)) := cSw_T (cSw_ag r1 (fun j x hj => d4 j x (by omega) (by omega) (by omega))) tDp_l
  have hSN : cSw (ncZ k sh (B 130 k) (B 72 11) B) (tNc (tDp (rsT T H q) k wo) k sh (B 72 11)) (rsH T H q (fS wo (aNs H (tO T k).2.1) 0)) := cSw_nc hSB
  rw [e11] at hWN hSN
  rw [e11] at hs fZ zf hkN eN fN
  have c130 : B 130 k = (tO (rsT T H q) k).2.2.2.2.1 := (d4 130 k (by first | decide | omega) (by first | decide | omega) (Or.inl (by first | decide | omega))).trans (c_th r2.1 hk0.1 k1).1.2.2.2.2.1
  have n3 : A 72 3 = (T.length : Int) := by rw [r2.1.1]; exact congrArg _ hlen
  refine ⟨cTk_sO hkN hw hs rfl rfl h3 rfl hm (by omega) ⟨rfl, fun _ => ⟨rfl, hu2⟩, fun q => absurd q hu⟩, cWd_fr hw hWN fZ, cSw_ag hSN (fun j x hj => zf j x (by omega)), cFm_tr (cFm_tr (cFm_tr fA fB) fN) (cFm_r fZ), ⟨?_, fun x hx => ?_⟩, ?_, fun po => ?_, ?_⟩
  · exact (zf 150 4 (by first | decide | omega)).trans ((eN 150 4 (by first | decide | omega) (by first | decide | omega) (by first | decide | omega) (by first | decide | omega)).trans ((d4 150 4 (by first | decide | omega) (by first | decide | omega) (Or.inl (by first | decide | omega))).trans r6))
  · exact (zf 150 x (by first | decide | omega)).trans ((eN 150 x (by first | decide | omega) (by first | decide | omega) (by first | decide | omega) (by first | decide | omega)).trans ((d4 150 x (by first | decide | omega) (by first | decide | omega) (Or.inl (by first | decide | omega))).trans (fr 150 x (by first | decide | omega) (by first | decide | omega) (by unfold cMr; omega))))
  · rw [zf 72 11 (by first | decide | omega), ← c130]
    unfold ncZ
    by_cases c : B 130 k = -1
    · rw [if_pos c, if_pos c, w_up_slot (by first | decide | omega), e11]; omega
    · rw [if_neg c, if_neg c]
      exact (w_up_slot (by first | decide | omega)).trans (w_up_same _ _ _ _)
  · have poA : cPo A := cPo_ag po (fr 72 3 (by first | decide | omega) (by first | decide | omega) (by unfold cMr; omega)) (fun x => ⟨fr 134 x (by first | decide | omega) (by first | decide | omega) (by unfold cMr; omega), fr 135 x (by first | decide | omega) (by first | decide | omega) (by unfold cMr; omega)⟩) (fr 140 2 (by first | decide | omega) (by first | decide | omega) (by unfold cMr; omega)) (fr 150 1 (by first | decide | omega) (by first | decide | omega) (by unfold cMr; omega))
    have poB := cPo_dv poA ⟨hk0.1, by rw [n3]; exact hk0.2⟩ hd
    exact cPo_ag poB ((zf 72 3 (by first | decide | omega)).trans (eN 72 3 (by first | decide | omega) (by first | decide | omega) (by first | decide | omega) (by first | decide | omega))) (fun x => ⟨(zf 134 x (by first | decide | omega)).trans (eN 134 x (by first | decide | omega) (by first | decide | omega) (by first | decide | omega) (Or.inl (by first | decide | omega))), (zf 135 x (by first | decide | omega)).trans (eN 135 x (by first | decide | omega) (by first | decide | omega) (by first | decide | omega) (Or.inl (by first | decide | omega)))⟩) ((zf 140 2 (by first | decide | omega)).trans (eN 140 2 (by first | decide | omega) (by first | decide | omega) (by first | decide | omega) (by first | decide | omega))) ((zf 150 1 (by first | decide | omega)).trans (eN 150 1 (by first | decide | omega) (by first | decide | omega) (by first | decide | omega) (by first | decide | omega)))
  · exact (sO_16 hw hs).trans ((eN w 16 (by omega) (by omega) (by omega) (by omega)).trans (eA w 16 (by omega) (by omega) (by omega) (by omega) (by omega) (by omega) (by omega) (by omega) (by omega)))
set_option maxHeartbeats 4000000 in
theorem xb4_215 {c p h kx q vy s nx : Int} (hP : xP 215 c p h S) (hx1 : pe_at (pe_GA xs).xs 1 = some (1, tx_1)) (hky : S 217 (h - 1) = 3) (hvy0 : S 218 (h - 1) = vy) (hkx : S 217 (h - 1 - 1) = kx) (hvx : S 218 (h - 1 - 1) = q) (hh1 : 2 ≤ h) (hvy : vy = s * 4294967296 + (x.length : Int)) (hs : 0 ≤ s ∧ s + (x.length : Int) ≤ S 2 1) (he : ∀ i : Nat, i < x.length → S 3 (s + (i : Int)) = x.getD i 0) (hWd : wd_at S 2 1024) (hWL : wd_L S 2 1024) (hWv : wv_L S 2) (hN : cL 9 10 N S) (hp3 : S 2 1 ≤ S 3 (-1) ∧ S 3 (-1) ≤ 10000000) (hsw : cSw S T H) (hW : cWd S T L G) (hw : wSh T H) (hq : isO T q) (hT : (T.length : Int) ≤ 8000) (hk45 : kx = 4 ∨ kx = 5) (hu4 : 0 ≤ S 150 4 ∧ S 150 4 ≤ 4000 ∧ (H.length : Int) ≤ S 150 4 + 1) (hnb : ∀ s : Int, 0 ≤ s → s < (H.length : Int) → qNm H s ≤ 100000) (hch : 0 ≤ S 72 11 ∧ S 72 11 ≤ 9000000) (hep : ∀ k : Int, isO T k → (tO T k).2.2.2.2.1 ≤ S 72 11) (h56 : S 156 (-1) = 65) (hnx : nx = ixL N x) : wJ (pe_GA xs) wY0 (mS [217, 218, 144, 145, 146, 147, 148]) (d + 11) t_XK_callBuiltin ((pe_at t_XK_callBuiltin.bl 0).getD (0, [])).2 [(0, (2, 215)), (1, (0, 4))] [] S (fun o Z => o = .inl none ∧ (((nx = -1 ∨ (aIx T nx q) = -1) ∧ sO 215 h c p 2 1 0 S Z) ∨ (nx ≠ -1 ∧ (aIx T nx q) ≠ -1 ∧ 4000 < S 150 4 + aMb H (aPr T H q) (fS (aIx T nx q) (aNs H (tO T q).2.1) 0) ∧ ∃ A : wS, oF S A ∧ w_up A 215 16 99 = Z) ∨ (nx ≠ -1 ∧ (aIx T nx q) ≠ -1 ∧ S 150 4 + aMb H (aPr T H q) (fS (aIx T nx q) (aNs H (tO T q).2.1) 0) ≤ 4000 ∧ ∃ A B : wS, reQ (aPr T H q) (aIx T nx q) q T H L G S A ∧ dv_ag q (aIx T nx q) A B ∧ sO 215 h c p 2 1 1 (ncZ q (rsS T H (aPr T H q) (fS (aIx T nx q) (aNs H (tO T q).2.1) 0)) (B 130 q) (B 72 11) B) Z))) := by
  obtain ⟨⟨hC, hI⟩, ⟨bc, bc0, bc1⟩, ⟨bp, bp0, bp1⟩, ⟨bh, bh0, bh1, bh2⟩, bl1, bl2, bl3⟩ := id hP
  replace bp : S 220 (c - 1) = p := bp
  replace bh : S 216 2 = h := bh
  replace bh2 : h ≤ S 217 (-1) := bh2
  replace bl1 : S 218 (-1) = S 217 (-1) := bl1
  replace bl2 : 64 ≤ S 217 (-1) := bl2
  replace bl3 : S 217 (-1) ≤ 4095 := bl3
  have hg : wG = 1000000 := rfl
  obtain ⟨ht, -, -, -, hlt, -⟩ := id hW
  obtain ⟨hth, t2, t3, t4⟩ := id hlt
  obtain ⟨h1, ⟨l1, l2, l3, l4⟩, -, -⟩ := id hsw
  have hq0 := hq.1
  have hH4 := hw.1.2.1
  have hnr : -1 ≤ nx ∧ nx ≤ 4000 := by have := @ixL_rr N x; have := hN.1; have := hWv.2.2.2.2.2.2.1; omega
  have g4 := hw.2.2.2.1 q hq
  obtain ⟨iy, hiy⟩ : ∃ iy : Int, iy = (aIx T nx q) := ⟨_, rfl⟩
  rw [← hiy]
  have hiy2 : iy = lIx nx (aNs H (tO T q).2.1) 0 := by rw [hiy, ← g4.1]; rfl
  have hir := aIx_rg (T := T) (nm := nx) (k := q)
  rw [← hiy] at hir
  have hl64 := g4.2
  obtain ⟨pq, hpq⟩ : ∃ pq : Int, pq = (aPr T H q) := ⟨_, rfl⟩
  have hpr : pq = -1 ∨ isO T pq := by rw [hpq]; exact wSh_pr hw hq
  have hpg : -1 ≤ pq ∧ pq < (T.length : Int) := by rcases hpr with z | z; omega; have := z.1; omega
  rw [← hpq]
  obtain ⟨rr, hrr⟩ : ∃ rr : Int, rr = rsS T H pq (fS iy (aNs H (tO T q).2.1) 0) := ⟨_, rfl⟩
  rw [← hrr]
  have hsh := wSh_sh hw hq
  obtain ⟨e1, e2, e3⟩ := hIx_o (nm := 0) h1 ht hw hq
  have e28 : S 128 q = (tO T q).2.1 := (c_th ht hq0.1 hq0.2).1.2.1
  have e44 : S 144 (tO T q).2.1 = pq := by rw [hpq, ← e28]; exact e2
  refine wa_aload_n (n := 0) rfl ?_
  refine wb_gf4 215 rfl (wy_pr rfl) wt_215 wf_8_3 (v := 216) wl_215_3 ?_
  refine wb_gfi 216 rfl (wy_pr rfl) wt_216 wf_7_2 (v := h) (bh) (fun r1 => ?_)
  refine wa_iconst ?_
  refine wa_isub ?_
  refine wa_istore_n (n := 2) rfl ?_
  refine wa_aload_n (n := 0) rfl ?_
  refine wb_gf4 215 rfl (wy_pr rfl) wt_215 wf_8_3 (v := 216) wl_215_3 ?_
  refine wb_gf4 216 rfl (wy_pr rfl) wt_216 wf_7_0 (v := 217) wl_216_0 ?_
  refine wa_iload_n (n := 2) rfl ?_
  refine wb_bald 217 rfl (wy_pr rfl) wt_217 (n := (S 217 (-1))) (rfl) (by omega) (by omega) (v := 3) (hky) (fun r2 => ?_)
  refine wa_istore_n (n := 3) rfl ?_
  refine wa_aload_n (n := 0) rfl ?_
  refine wb_gf4 215 rfl (wy_pr rfl) wt_215 wf_8_3 (v := 216) wl_215_3 ?_
  refine wb_gf4 216 rfl (wy_pr rfl) wt_216 wf_7_1 (v := 218) wl_216_1 ?_
  refine wa_iload_n (n := 2) rfl ?_
  refine wb_lald 218 rfl (wy_pr rfl) wt_218 (n := (S 217 (-1))) (bl1) (by omega) (by omega) (v := vy) (hvy0) (fun r3 => ?_)
  refine wa_lstore (n := 4) rfl ?_
  refine wa_iload_n (n := 1) rfl ?_
  refine wb_sw (w_rg0 (by omega) (by omega)) (tb := 11) rfl ⟨_, rfl⟩ ?_
  refine wa_aload_n (n := 0) rfl ?_
  refine wa_iload_n (n := 2) rfl ?_
  refine wa_iconst ?_
  refine wa_isub ?_
  refine wa_cv 215 rfl (wy_pr rfl) wt_215 (M2 := mS [217, 218, 144, 145, 146, 147, 148]) rfl at_XK_isHolder ⟨_, rfl⟩ rfl rfl ⟨trivial, trivial, trivial, (Or.inr ⟨wy_pr rfl, mS_no rfl⟩), trivial, trivial⟩ trivial (fun _ _ q => q) ?_ (fun _ _ _ q => q)
  refine wa_aload_n (n := 0) rfl ?_
  refine wb_gf4 215 rfl (wy_pr rfl) wt_215 wf_8_3 (v := 216) wl_215_3 ?_
  refine wb_gf4 216 rfl (wy_pr rfl) wt_216 wf_7_0 (v := 217) wl_216_0 ?_
  refine wa_iload_n (n := 1) rfl ?_
  refine wb_bald 217 rfl (wy_pr rfl) wt_217 (n := (S 217 (-1))) (rfl) (by omega) (by omega) (v := kx) (hkx) (fun r4 => ?_)
  refine wa_iconst ?_
  refine wa_icmpeq (w_rg0 (by omega) (by omega)) (w_rg0 (by omega) (by omega)) ⟨_, rfl⟩ (fun c5 => ?_) (fun c5 => ?_)
  · skip
    refine wa_iconst ?_
    refine wa_goto ⟨_, rfl⟩ ?_
    refine wa_zreturn rfl (Or.inr rfl) ?_
    show wJ _ _ _ _ _ _ _ _ _ _
    refine wa_ifeq (w_rg0 (by omega) (by omega)) ⟨_, rfl⟩ (fun c6 => ?_) (fun c6 => ?_)
    · skip
      exact absurd c6 (by omega)
    · skip
      refine wa_iload_n (n := 3) rfl ?_
      refine wa_iconst ?_
      refine wa_icmpne (w_rg0 (by omega) (by omega)) (w_rg0 (by omega) (by omega)) ⟨_, rfl⟩ (fun c7 => ?_) (fun c7 => ?_)
      · skip
        exact absurd c7 (by omega)
      · skip
        refine wa_aload_n (n := 0) rfl ?_
        refine wa_iload_n (n := 1) rfl ?_
        refine wa_aload_n (n := 0) rfl ?_
        refine wb_gf4 215 rfl (wy_pr rfl) wt_215 wf_8_3 (v := 216) wl_215_3 ?_
        refine wb_gf4 216 rfl (wy_pr rfl) wt_216 wf_7_1 (v := 218) wl_216_1 ?_
        refine wa_iload_n (n := 2) rfl ?_
        refine wa_iconst ?_
        refine wa_isub ?_
        refine wb_lald 218 rfl (wy_pr rfl) wt_218 (n := (S 217 (-1))) (bl1) (by omega) (by omega) (v := q) (hvx) (fun r8 => ?_)
        refine wb_l2i_r (wb_l2i_id ⟨(by omega), (by omega)⟩) ?_
        refine wa_lload (n := 4) rfl ?_
        refine wa_cv 215 rfl (wy_pr rfl) wt_215 (M2 := mS [217, 218, 144, 145, 146, 147, 148]) rfl at_XK_askFor ⟨_, rfl⟩ rfl rfl ⟨trivial, trivial, trivial, (Or.inr ⟨wy_pr rfl, mS_no rfl⟩), trivial, trivial⟩ trivial (fun _ _ q => q) ?_ (fun _ _ _ q => q)
        refine wa_aload_n (n := 0) rfl ?_
        refine wb_gf4 215 rfl (wy_pr rfl) wt_215 wf_8_0 (v := 72) wl_215_0 ?_
        refine wb_gf4 72 rfl (wy_pr rfl) wt_72 wf_2_0 (v := 2) wl_72_0 ?_
        refine wa_aload_n (n := 0) rfl ?_
        refine wb_gf4 215 rfl (wy_pr rfl) wt_215 wf_8_0 (v := 72) wl_215_0 ?_
        refine wb_gf4 72 rfl (wy_pr rfl) wt_72 wf_2_0 (v := 2) wl_72_0 ?_
        refine wb_gf4 2 rfl (wy_pr rfl) wt_2 wf_9_0 (v := 3) wl_2_0 ?_
        refine wa_lload_n (n := 3) rfl ?_
        refine wa_cs (M2 := mS [217, 218, 144, 145, 146, 147, 148]) rfl at_X_sliceStart ⟨_, rfl⟩ rfl rfl ⟨(Or.inr ⟨wy_pr rfl, mS_no rfl⟩), trivial, trivial, trivial, trivial⟩ ⟨(Or.inr ⟨wy_pr rfl, mS_no rfl⟩), (Or.inr ⟨wy_pr rfl, mS_no rfl⟩), trivial⟩ (fun _ _ q => q) ?_ (fun _ _ _ q => q)
        refine wa_lload_n (n := 0) rfl ?_
        refine wa_bipush (w_rg2 (by omega) (by omega)) ?_
        refine wa_lushr ?_
        refine wb_l2i_r (y := s) (by rw [hvy]; exact sl_s ⟨by omega, by omega⟩ ⟨by omega, by omega⟩) ?_
        refine wa_ireturn rfl ?_
        show wJ _ _ _ _ _ _ _ _ _ _
        refine wa_lload_n (n := 3) rfl ?_
        refine wa_cs (M2 := mS [217, 218, 144, 145, 146, 147, 148]) rfl at_X_sliceSize ⟨_, rfl⟩ rfl rfl ⟨(Or.inr ⟨wy_pr rfl, mS_no rfl⟩), trivial, trivial, trivial, trivial⟩ ⟨trivial, (Or.inr ⟨wy_pr rfl, mS_no rfl⟩), (Or.inr ⟨wy_pr rfl, mS_no rfl⟩), trivial⟩ (fun _ _ q => q) ?_ (fun _ _ _ q => q)
        refine wa_lload_n (n := 0) rfl ?_
        refine wb_l2i_r (y := (x.length : Int)) (by rw [hvy]; exact sl_z ⟨by omega, by omega⟩ ⟨by omega, by omega⟩) ?_
        refine wa_ireturn rfl ?_
        show wJ _ _ _ _ _ _ _ _ _ _
        refine wa_cv 2 rfl (wy_pr rfl) wt_2 (M2 := mS []) rfl at_XW_nameAt ⟨_, rfl⟩ rfl rfl ⟨(Or.inr ⟨wy_pr rfl, mS_no rfl⟩), trivial, trivial, trivial, trivial⟩ trivial (fun _ _ q => mS_sub (by decide) q) (wJ_mono (c_nm hWd hWL hWv hN hs hp3 he) (fun o Z hz => (⟨hz.1, by rw [hnx]; exact hz.2⟩ : S = Z ∧ o = .inl (some (0, nx))))) (fun oq9 Sq9 hp10 q9 => ?_)
        rcases q9 with ⟨rfl, rfl⟩
        show wJ _ _ _ _ _ _ _ _ _ _
        refine wa_istore (n := 5) rfl ?_
        refine wa_iload_n (n := 1) rfl ?_
        refine wa_iconst ?_
        refine wa_icmpne (w_rg0 (by omega) (by omega)) (w_rg0 (by omega) (by omega)) ⟨_, rfl⟩ (fun c11 => ?_) (fun c11 => ?_)
        · skip
          refine wa_iload (n := 5) rfl ?_
          refine wa_iconst ?_
          refine wa_icmpne (w_rg0 (by omega) (by omega)) (w_rg0 (by omega) (by omega)) ⟨_, rfl⟩ (fun c12 => ?_) (fun c12 => ?_)
          · skip
            refine wa_aload_n (n := 0) rfl ?_
            refine wb_gf4 215 rfl (wy_pr rfl) wt_215 wf_8_0 (v := 72) wl_215_0 ?_
            refine wa_aload_n (n := 0) rfl ?_
            refine wb_gf4 215 rfl (wy_pr rfl) wt_215 wf_8_0 (v := 72) wl_215_0 ?_
            refine wb_gf4 72 rfl (wy_pr rfl) wt_72 wf_2_2 (v := 126) wl_72_2 ?_
            refine wa_iconst ?_
            refine wb_aald5 126 1 rfl rfl (wy_pr rfl) wt_126 (by rw [show _ = _ from ((cl_126 hC))]; omega) wl_126_1 ?_
            refine wa_iload_n (n := 2) rfl ?_
            refine wb_iald 128 rfl (wy_pr rfl) wt_128 (n := (S 127 (-1))) ((hth 1 (by decide))) (by omega) (by omega) (v := (tO T q).2.1) (e28) (fun r13 => ?_)
            refine wa_iload (n := 5) rfl ?_
            refine wa_cv 72 rfl (wy_pr rfl) wt_72 (M2 := mS []) rfl at_XH_indexIn ⟨_, rfl⟩ rfl rfl ⟨trivial, (Or.inr ⟨wy_pr rfl, mS_no rfl⟩), trivial, trivial, trivial, trivial⟩ trivial (fun _ _ q => mS_sub (by decide) q) (wJ_mono (c_ix hC hsw hw ⟨hsh.1, hsh.2⟩ ⟨by omega, by omega⟩) (fun o Z hz => (⟨hz.1, by rw [hiy2]; exact hz.2⟩ : S = Z ∧ o = .inl (some (0, iy))))) (fun oq14 Sq14 hp15 q14 => ?_)
            rcases q14 with ⟨rfl, rfl⟩
            show wJ _ _ _ _ _ _ _ _ _ _
            refine wa_fall ⟨_, rfl⟩ ?_
            refine wa_istore (n := 6) rfl ?_
            refine wa_iload (n := 6) rfl ?_
            refine wa_iconst ?_
            refine wa_icmpeq (w_rg0 (by omega) (by omega)) (w_rg0 (by omega) (by omega)) ⟨_, rfl⟩ (fun c16 => ?_) (fun c16 => ?_)
            · skip
              refine wa_aload_n (n := 0) rfl ?_
              refine wa_iconst ?_
              refine wa_iconst ?_
              refine wa_iload (n := 6) rfl ?_
              refine wa_iconst ?_
              refine wa_icmpeq (w_rg0 (by omega) (by omega)) (w_rg0 (by omega) (by omega)) ⟨_, rfl⟩ (fun c17 => ?_) (fun c17 => ?_)
              · skip
                refine wb_lconst (m := 0) rfl ?_
                refine wa_fall ⟨_, rfl⟩ ?_
                refine wa_cv 215 rfl (wy_pr rfl) wt_215 (M2 := mS [217, 218]) rfl at_XK_give ⟨_, rfl⟩ rfl rfl ⟨trivial, trivial, (Or.inr ⟨wy_pr rfl, mS_no rfl⟩), trivial, trivial, trivial, trivial⟩ trivial (fun _ _ q => mS_sub (by decide) q) (gw_215 (S := S) (n := 2) (k := 1) (v := 0) (h := h) (c := c) (p := p) (ln := (S 217 (-1))) hC hI ⟨by omega, by omega⟩ ⟨by omega, by omega⟩ (bh) (bc) (bp) (rfl) (bl1) ⟨by omega, by omega⟩ ⟨by omega, by omega, by omega⟩ ⟨by omega, by omega⟩ ⟨by omega, by omega⟩) (fun oq18 Sq18 hp19 q18 => ?_)
                rcases q18 with ⟨rfl, A18, ra18, rfl⟩
                show wJ _ _ _ _ _ _ _ _ _ _
                refine wa_return rfl ?_
                show wJ _ _ _ _ _ _ _ _ _ _
                refine wa_goto ⟨_, rfl⟩ ?_
                refine wa_return rfl ?_
                exact ⟨rfl, Or.inl ⟨by omega, A18, ra18, rfl⟩⟩
              · skip
                exact absurd c17 (by omega)
            · skip
              refine wa_aload_n (n := 0) rfl ?_
              refine wb_gf4 215 rfl (wy_pr rfl) wt_215 wf_8_0 (v := 72) wl_215_0 ?_
              refine wa_iload_n (n := 2) rfl ?_
              refine wa_aload_n (n := 0) rfl ?_
              refine wb_gf4 215 rfl (wy_pr rfl) wt_215 wf_8_0 (v := 72) wl_215_0 ?_
              refine wa_iload_n (n := 2) rfl ?_
              refine wa_cv 72 rfl (wy_pr rfl) wt_72 (M2 := mS [217, 218, 144, 145, 146, 147, 148]) rfl at_XH_protoOf ⟨_, rfl⟩ rfl rfl ⟨trivial, trivial, (Or.inr ⟨wy_pr rfl, mS_no rfl⟩), trivial, trivial, trivial, trivial⟩ ⟨trivial, (Or.inr ⟨wy_pr rfl, mS_no rfl⟩), trivial⟩ (fun _ _ q => q) ?_ (fun _ _ _ q => q)
              refine wa_aload_n (n := 0) rfl ?_
              refine wb_gf4 72 rfl (wy_pr rfl) wt_72 wf_2_7 (v := 143) wl_72_7 ?_
              refine wa_iconst ?_
              refine wb_aald5 143 0 rfl rfl (wy_pr rfl) wt_143 (by rw [show _ = _ from ((cl_143 hC))]; omega) wl_143_0 ?_
              refine wa_aload_n (n := 0) rfl ?_
              refine wb_gf4 72 rfl (wy_pr rfl) wt_72 wf_2_2 (v := 126) wl_72_2 ?_
              refine wa_iconst ?_
              refine wb_aald5 126 1 rfl rfl (wy_pr rfl) wt_126 (by rw [show _ = _ from ((cl_126 hC))]; omega) wl_126_1 ?_
              refine wa_iload_n (n := 1) rfl ?_
              refine wb_iald 128 rfl (wy_pr rfl) wt_128 (n := (S 127 (-1))) ((hth 1 (by decide))) (by omega) (by omega) (v := (tO T q).2.1) (e28) (fun r20 => ?_)
              refine wb_iald 144 rfl (wy_pr rfl) wt_144 (n := (S 144 (-1))) (rfl) (by omega) (by omega) (v := pq) (e44) (fun r21 => ?_)
              refine wa_ireturn rfl ?_
              show wJ _ _ _ _ _ _ _ _ _ _
              refine wa_iload (n := 6) rfl ?_
              refine wa_cv 72 rfl (wy_pr rfl) wt_72 (M2 := mS [144, 145, 146, 147, 148]) rfl at_XH_reshaped ⟨_, rfl⟩ rfl rfl ⟨trivial, trivial, (Or.inr ⟨wy_pr rfl, mS_no rfl⟩), trivial, trivial, trivial, trivial⟩ trivial (fun _ _ q => mS_sub (by decide) q) (wJ_mono (c_re (k := q) (p := pq) (wo := iy) hC hI hx1 hW hsw hw hq hpr ⟨by omega, by omega⟩ hu4 hnb h56) (fun o Z hz => (by rw [hrr]; exact hz : (o = .inl (some (0, -1)) ∧ 4000 < S 150 4 + aMb H pq (fS iy (aNs H (tO T q).2.1) 0) ∧ oF S Z) ∨ (S 150 4 + aMb H pq (fS iy (aNs H (tO T q).2.1) 0) ≤ 4000 ∧ o = .inl (some (0, rr)) ∧ reQ pq iy q T H L G S Z)))) (fun oq22 Sq22 hp23 q22 => ?_)
              rcases q22 with ⟨rfl, hno, hoF⟩ | ⟨hyes, rfl, hre⟩
              · skip
                show wJ _ _ _ _ _ _ _ _ _ _
                refine wa_istore (n := 7) rfl ?_
                refine wa_iload (n := 7) rfl ?_
                refine wa_iconst ?_
                refine wa_icmpne (w_rg0 (by omega) (by omega)) (w_rg0 (by omega) (by omega)) ⟨_, rfl⟩ (fun c24 => ?_) (fun c24 => ?_)
                · skip
                  exact absurd c24 (by omega)
                · skip
                  refine wa_aload_n (n := 0) rfl ?_
                  refine wa_bipush (w_rg2 (by omega) (by omega)) ?_
                  refine wb_pfi 215 rfl (wy_pr rfl) wt_215 wf_8_16 (n := 16) rfl ⟨(by omega), (by omega)⟩ ?_
                  refine wa_return rfl ?_
                  show wJ _ _ _ _ _ _ _ _ _ _
                  refine wa_goto ⟨_, rfl⟩ ?_
                  refine wa_return rfl ?_
                  exact ⟨rfl, Or.inr (Or.inl ⟨by omega, by omega, hno, Sq22, hoF, rfl⟩)⟩
              · skip
                show wJ _ _ _ _ _ _ _ _ _ _
                obtain ⟨hre1, hre2, ⟨hreC, hreG, hreR⟩, hre4, hreF⟩ := id hre
                have hreL := hre2.2.2.2.2.1
                have hds0 := nDs_H hw.1 hw.2.1 _ _ hsh.1 hsh.2 rfl
                obtain ⟨rs1, rs2, rs3, rs4, rs5, rs6, rs7, rs8⟩ := rsh_ok (l := (fS iy (aNs H (tO T q).2.1) 0)) hw hpr (nDs_f _ _ hds0.1) (fun y hy => hds0.2 y (fS_m _ _ y hy)) (by omega)
                have hrr0 : 0 ≤ rr ∧ rr < 1000000 := by
                  have hll := rs1.1.2.1
                  rw [hrr]; exact ⟨rs2.1, Int.lt_trans rs2.2 (by omega)⟩
                have hlen : (aBr T H pq).1.length = T.length := (aBr_ok (l := (fS iy (aNs H (tO T q).2.1) 0)) hw hpr (by omega)).2.2.2.2.2.2.2
                have hL2 := hreL.2
                rw [hlen] at hL2
                obtain ⟨hA3, ⟨hA4, hA5, hA6, hA7⟩, -⟩ := c_th hre2.1 (k := q) hq0.1 (by rw [hlen]; exact hq0.2)
                have hepA : -1 ≤ Sq22 130 q ∧ Sq22 130 q ≤ 9000001 := by rw [hA3.2.2.2.2.1]; exact aBr_ep hw hpr hq hep hch
                have hpl : (tO (aBr T H pq).1 q).2.2.2.2.2.2 = (tO T q).2.2.2.2.2.2 := congrArg (fun z => z.2) (aBr_t hpr hq0.1).2.2
                rw [hpl] at hA4
                obtain ⟨hcn5, ⟨hcn6, hcn7⟩, hcn8, hcn9⟩ := hre2.2.2.2.1.2
                refine wa_istore (n := 7) rfl ?_
                refine wa_iload (n := 7) rfl ?_
                refine wa_iconst ?_
                refine wa_icmpne (w_rg0 (by omega) (by omega)) (w_rg0 (by omega) (by omega)) ⟨_, rfl⟩ (fun c25 => ?_) (fun c25 => ?_)
                · skip
                  refine wa_aload_n (n := 0) rfl ?_
                  refine wb_gf4 215 rfl (wy_pr rfl) wt_215 wf_8_0 (v := 72) wl_215_0 ?_
                  refine wb_gf4 72 rfl (wy_pr rfl) wt_72 wf_2_2 (v := 126) wl_72_2 ?_
                  refine wa_iconst ?_
                  refine wb_aald5 126 1 rfl rfl (wy_pr rfl) wt_126 (by rw [show _ = _ from (((hreF 126 (-1) (by decide) (by decide) (by unfold cMr; omega)).trans ((cl_126 hC))))]; omega) wl_126_1 ?_
                  refine wa_iload_n (n := 2) rfl ?_
                  refine wa_iload (n := 7) rfl ?_
                  refine wb_iast 128 rfl (wy_pr rfl) wt_128 (n := (Sq22 127 (-1))) ((hreL.1 1 (by decide))) (by omega) (by omega) ⟨(by omega), (by omega)⟩ ?_
                  refine wa_aload_n (n := 0) rfl ?_
                  refine wb_gf4 215 rfl (wy_pr rfl) wt_215 wf_8_0 (v := 72) wl_215_0 ?_
                  refine wa_iload_n (n := 2) rfl ?_
                  refine wa_iload (n := 6) rfl ?_
                  have dL7 : (w_up Sq22 128 q rr) 127 (-1) = Sq22 127 (-1) := w_up_no (by omega)
                  have d141 : (w_up Sq22 128 q rr) 141 (-1) = Sq22 141 (-1) := w_up_slot (by first | decide | omega)
                  have d142 : (w_up Sq22 128 q rr) 142 (-1) = Sq22 142 (-1) := w_up_slot (by first | decide | omega)
                  have d133 : (w_up Sq22 128 q rr) 133 q = Sq22 133 q := w_up_slot (by first | decide | omega)
                  have d134 : (w_up Sq22 128 q rr) 134 q = Sq22 134 q := w_up_slot (by first | decide | omega)
                  refine wa_cv 72 rfl (wy_pr rfl) wt_72 (M2 := mS []) rfl at_XH_dropValue ⟨_, rfl⟩ rfl rfl ⟨trivial, trivial, trivial, (Or.inr ⟨wy_pr rfl, mS_no rfl⟩), trivial, trivial, trivial, trivial⟩ trivial (fun _ _ q => mS_sub (by decide) q) (dv_ok (S := (w_up Sq22 128 q rr)) (k := q) (ix := iy) (st := Sq22 133 q) (sz := Sq22 134 q) (w_CL_up hreC (by omega)) (gI_up hreG (by omega) (by omega) (by omega)) (by rw [d142, d141]; exact hcn5) (by rw [d141]; exact hcn9) (fun x hx => (w_up_no (by omega)).trans ((hreL.1 x hx).trans (w_up_no (by omega)).symm)) ⟨by omega, by omega⟩ (by omega) d133 d134 ⟨by omega, by omega⟩ ⟨by omega, by omega⟩) (fun oq26 Sq26 hp27 q26 => ?_)
                  rcases q26 with ⟨rfl, hdv⟩
                  show wJ _ _ _ _ _ _ _ _ _ _
                  obtain ⟨B0, hdB, hBz⟩ := dv_sh (by omega) hdv
                  subst hBz
                  obtain ⟨-, -, -, hdB4, hdB5, hdB6⟩ := id hdB
                  have hBC := dv_cl hreC (by omega) hdB
                  have hBl : ∀ x : Nat, x < 10 → B0 (127 + x) (-1) = Sq22 (127 + x) (-1) := fun x hx => hdB4 (127 + x) (-1) (by omega) (by omega) (Or.inr (by omega))
                  have hBL : ∀ x : Nat, x < 10 → B0 (127 + x) (-1) = B0 127 (-1) := fun x hx => (hBl x hx).trans ((hreL.1 x hx).trans (hBl 0 (by first | decide | omega)).symm)
                  have hBL0 : B0 127 (-1) = Sq22 127 (-1) := hBl 0 (by first | decide | omega)
                  have hB130 : B0 130 q = Sq22 130 q := hdB4 130 q (by first | decide | omega) (by first | decide | omega) (Or.inl (by first | decide | omega))
                  refine wa_aload_n (n := 0) rfl ?_
                  refine wb_gf4 215 rfl (wy_pr rfl) wt_215 wf_8_0 (v := 72) wl_215_0 ?_
                  refine wa_iload_n (n := 2) rfl ?_
                  have e72 : (w_up B0 128 q rr) 72 11 = S 72 11 := ((w_up_slot (by first | decide | omega)).trans (((hdB4 72 11 (by first | decide | omega) (by first | decide | omega) (Or.inl (by first | decide | omega))).trans ((hreF 72 11 (by first | decide | omega) (by first | decide | omega) (by unfold cMr; omega))))))
                  have e130 : (w_up B0 128 q rr) 130 q = B0 130 q := w_up_slot (by first | decide | omega)
                  have eB72 : B0 72 11 = S 72 11 := (w_up_slot (by first | decide | omega)).symm.trans e72
                  have eL : ∀ x : Nat, x < 10 → (w_up B0 128 q rr) (127 + x) (-1) = (w_up B0 128 q rr) 127 (-1) := fun x hx => (w_up_no (by omega)).trans ((hBL x hx).trans (w_up_no (by omega)).symm)
                  have eL7 : (w_up B0 128 q rr) 127 (-1) = B0 127 (-1) := w_up_no (by omega)
                  refine wa_cv 72 rfl (wy_pr rfl) wt_72 (M2 := mS []) rfl at_XH_noteChange ⟨_, rfl⟩ rfl rfl ⟨trivial, trivial, trivial, (Or.inr ⟨wy_pr rfl, mS_no rfl⟩), trivial, trivial, trivial, trivial⟩ trivial (fun _ _ q => mS_sub (by decide) q) (wJ_mono (nc_ok (S := (w_up B0 128 q rr)) (k := q) (ep := B0 130 q) (ch := B0 72 11) eL ⟨by omega, by omega⟩ (by omega) e130 ⟨by omega, by omega⟩ (e72.trans eB72.symm) ⟨by omega, by omega⟩ (w_CL_up hBC (by omega))) (fun o Z hz => (⟨hz.1, hz.2⟩ : o = .inl none ∧ ncZ q rr (B0 130 q) (B0 72 11) B0 = Z))) (fun oq28 Sq28 hp29 q28 => ?_)
                  rcases q28 with ⟨rfl, rfl⟩
                  show wJ _ _ _ _ _ _ _ _ _ _
                  refine wa_fall ⟨_, rfl⟩ ?_
                  refine wa_aload_n (n := 0) rfl ?_
                  refine wa_iconst ?_
                  refine wa_iconst ?_
                  refine wa_iload (n := 6) rfl ?_
                  refine wa_iconst ?_
                  refine wa_icmpeq (w_rg0 (by omega) (by omega)) (w_rg0 (by omega) (by omega)) ⟨_, rfl⟩ (fun c30 => ?_) (fun c30 => ?_)
                  · skip
                    exact absurd c30 (by omega)
                  · skip
                    refine wb_lconst (m := 1) rfl ?_
                    refine wa_goto ⟨_, rfl⟩ ?_
                    refine wa_cv 215 rfl (wy_pr rfl) wt_215 (M2 := mS [217, 218]) rfl at_XK_give ⟨_, rfl⟩ rfl rfl ⟨trivial, trivial, trivial, (Or.inr ⟨wy_pr rfl, mS_no rfl⟩), trivial, trivial, trivial, trivial⟩ trivial (fun _ _ q => mS_sub (by decide) q) (gw_215 (S := (ncZ q rr (B0 130 q) (B0 72 11) B0)) (n := 2) (k := 1) (v := 1) (h := h) (c := c) (p := p) (ln := (S 217 (-1))) (ncZ_c hBC (by omega)) (ncZ_g hdB5 (by omega)) ⟨by omega, by omega⟩ ⟨by omega, by omega⟩ (((ncZ_e 216 2 (by decide) (by omega)).trans (((hdB4 216 2 (by decide) (by decide) (Or.inl (by decide))).trans (((hreF 216 2 (by decide) (by decide) (by unfold cMr; omega)).trans (bh))))))) (((ncZ_e 215 4 (by decide) (by omega)).trans (((hdB4 215 4 (by decide) (by decide) (Or.inl (by decide))).trans (((hreF 215 4 (by decide) (by decide) (by unfold cMr; omega)).trans (bc))))))) (((ncZ_e 220 (c - 1) (by decide) (by omega)).trans (((hdB4 220 (c - 1) (by decide) (by decide) (Or.inl (by decide))).trans (((hreF 220 (c - 1) (by decide) (by decide) (by unfold cMr; omega)).trans (bp))))))) (((ncZ_e 217 (-1) (by decide) (by omega)).trans (((hdB4 217 (-1) (by decide) (by decide) (Or.inl (by decide))).trans (((hreF 217 (-1) (by decide) (by decide) (by unfold cMr; omega)).trans (rfl))))))) (((ncZ_e 218 (-1) (by decide) (by omega)).trans (((hdB4 218 (-1) (by decide) (by decide) (Or.inl (by decide))).trans (((hreF 218 (-1) (by decide) (by decide) (by unfold cMr; omega)).trans (bl1))))))) ⟨by omega, by omega⟩ ⟨by omega, by omega, by omega⟩ ⟨by omega, by omega⟩ ⟨by omega, by omega⟩) (fun oq31 Sq31 hp32 q31 => ?_)
                    rcases q31 with ⟨rfl, A31, ra31, rfl⟩
                    show wJ _ _ _ _ _ _ _ _ _ _
                    refine wa_return rfl ?_
                    show wJ _ _ _ _ _ _ _ _ _ _
                    refine wa_goto ⟨_, rfl⟩ ?_
                    refine wa_return rfl ?_
                    exact ⟨rfl, Or.inr (Or.inr ⟨by omega, by omega, hyes, Sq22, B0, hre, hdB, A31, ra31, rfl⟩)⟩
                · skip
                  exact absurd c25 (by omega)
          · skip
            refine wa_iconst ?_
            refine wa_goto ⟨_, rfl⟩ ?_
            refine wa_istore (n := 6) rfl ?_
            refine wa_iload (n := 6) rfl ?_
            refine wa_iconst ?_
            refine wa_icmpeq (w_rg0 (by omega) (by omega)) (w_rg0 (by omega) (by omega)) ⟨_, rfl⟩ (fun c33 => ?_) (fun c33 => ?_)
            · skip
              refine wa_aload_n (n := 0) rfl ?_
              refine wa_iconst ?_
              refine wa_iconst ?_
              refine wa_iload (n := 6) rfl ?_
              refine wa_iconst ?_
              refine wa_icmpeq (w_rg0 (by omega) (by omega)) (w_rg0 (by omega) (by omega)) ⟨_, rfl⟩ (fun c34 => ?_) (fun c34 => ?_)
              · skip
                refine wb_lconst (m := 0) rfl ?_
                refine wa_fall ⟨_, rfl⟩ ?_
                refine wa_cv 215 rfl (wy_pr rfl) wt_215 (M2 := mS [217, 218]) rfl at_XK_give ⟨_, rfl⟩ rfl rfl ⟨trivial, trivial, (Or.inr ⟨wy_pr rfl, mS_no rfl⟩), trivial, trivial, trivial, trivial⟩ trivial (fun _ _ q => mS_sub (by decide) q) (gw_215 (S := S) (n := 2) (k := 1) (v := 0) (h := h) (c := c) (p := p) (ln := (S 217 (-1))) hC hI ⟨by omega, by omega⟩ ⟨by omega, by omega⟩ (bh) (bc) (bp) (rfl) (bl1) ⟨by omega, by omega⟩ ⟨by omega, by omega, by omega⟩ ⟨by omega, by omega⟩ ⟨by omega, by omega⟩) (fun oq35 Sq35 hp36 q35 => ?_)
                rcases q35 with ⟨rfl, A35, ra35, rfl⟩
                show wJ _ _ _ _ _ _ _ _ _ _
                refine wa_return rfl ?_
                show wJ _ _ _ _ _ _ _ _ _ _
                refine wa_goto ⟨_, rfl⟩ ?_
                refine wa_return rfl ?_
                exact ⟨rfl, Or.inl ⟨by omega, A35, ra35, rfl⟩⟩
              · skip
                exact absurd c34 (by omega)
            · skip
              exact absurd c33 (by omega)
        · skip
          exact absurd c11 (by omega)
  · skip
    refine wa_aload_n (n := 0) rfl ?_
    refine wb_gf4 215 rfl (wy_pr rfl) wt_215 wf_8_3 (v := 216) wl_215_3 ?_
    refine wb_gf4 216 rfl (wy_pr rfl) wt_216 wf_7_0 (v := 217) wl_216_0 ?_
    refine wa_iload_n (n := 1) rfl ?_
    refine wb_bald 217 rfl (wy_pr rfl) wt_217 (n := (S 217 (-1))) (rfl) (by omega) (by omega) (v := kx) (hkx) (fun r37 => ?_)
    refine wa_iconst ?_
    refine wa_icmpne (w_rg0 (by omega) (by omega)) (w_rg0 (by omega) (by omega)) ⟨_, rfl⟩ (fun c38 => ?_) (fun c38 => ?_)
    · skip
      exact absurd c38 (by omega)
    · skip
      refine wa_fall ⟨_, rfl⟩ ?_
      refine wa_iconst ?_
      refine wa_goto ⟨_, rfl⟩ ?_
      refine wa_zreturn rfl (Or.inr rfl) ?_
      show wJ _ _ _ _ _ _ _ _ _ _
      refine wa_ifeq (w_rg0 (by omega) (by omega)) ⟨_, rfl⟩ (fun c39 => ?_) (fun c39 => ?_)
      · skip
        exact absurd c39 (by omega)
      · skip
        refine wa_iload_n (n := 3) rfl ?_
        refine wa_iconst ?_
        refine wa_icmpne (w_rg0 (by omega) (by omega)) (w_rg0 (by omega) (by omega)) ⟨_, rfl⟩ (fun c40 => ?_) (fun c40 => ?_)
        · skip
          exact absurd c40 (by omega)
        · skip
          refine wa_aload_n (n := 0) rfl ?_
          refine wa_iload_n (n := 1) rfl ?_
          refine wa_aload_n (n := 0) rfl ?_
          refine wb_gf4 215 rfl (wy_pr rfl) wt_215 wf_8_3 (v := 216) wl_215_3 ?_
          refine wb_gf4 216 rfl (wy_pr rfl) wt_216 wf_7_1 (v := 218) wl_216_1 ?_
          refine wa_iload_n (n := 2) rfl ?_
          refine wa_iconst ?_
          refine wa_isub ?_
          refine wb_lald 218 rfl (wy_pr rfl) wt_218 (n := (S 217 (-1))) (bl1) (by omega) (by omega) (v := q) (hvx) (fun r41 => ?_)
          refine wb_l2i_r (wb_l2i_id ⟨(by omega), (by omega)⟩) ?_
          refine wa_lload (n := 4) rfl ?_
          refine wa_cv 215 rfl (wy_pr rfl) wt_215 (M2 := mS [217, 218, 144, 145, 146, 147, 148]) rfl at_XK_askFor ⟨_, rfl⟩ rfl rfl ⟨trivial, trivial, trivial, (Or.inr ⟨wy_pr rfl, mS_no rfl⟩), trivial, trivial⟩ trivial (fun _ _ q => q) ?_ (fun _ _ _ q => q)
          refine wa_aload_n (n := 0) rfl ?_
          refine wb_gf4 215 rfl (wy_pr rfl) wt_215 wf_8_0 (v := 72) wl_215_0 ?_
          refine wb_gf4 72 rfl (wy_pr rfl) wt_72 wf_2_0 (v := 2) wl_72_0 ?_
          refine wa_aload_n (n := 0) rfl ?_
          refine wb_gf4 215 rfl (wy_pr rfl) wt_215 wf_8_0 (v := 72) wl_215_0 ?_
          refine wb_gf4 72 rfl (wy_pr rfl) wt_72 wf_2_0 (v := 2) wl_72_0 ?_
          refine wb_gf4 2 rfl (wy_pr rfl) wt_2 wf_9_0 (v := 3) wl_2_0 ?_
          refine wa_lload_n (n := 3) rfl ?_
          refine wa_cs (M2 := mS [217, 218, 144, 145, 146, 147, 148]) rfl at_X_sliceStart ⟨_, rfl⟩ rfl rfl ⟨(Or.inr ⟨wy_pr rfl, mS_no rfl⟩), trivial, trivial, trivial, trivial⟩ ⟨(Or.inr ⟨wy_pr rfl, mS_no rfl⟩), (Or.inr ⟨wy_pr rfl, mS_no rfl⟩), trivial⟩ (fun _ _ q => q) ?_ (fun _ _ _ q => q)
          refine wa_lload_n (n := 0) rfl ?_
          refine wa_bipush (w_rg2 (by omega) (by omega)) ?_
          refine wa_lushr ?_
          refine wb_l2i_r (y := s) (by rw [hvy]; exact sl_s ⟨by omega, by omega⟩ ⟨by omega, by omega⟩) ?_
          refine wa_ireturn rfl ?_
          show wJ _ _ _ _ _ _ _ _ _ _
          refine wa_lload_n (n := 3) rfl ?_
          refine wa_cs (M2 := mS [217, 218, 144, 145, 146, 147, 148]) rfl at_X_sliceSize ⟨_, rfl⟩ rfl rfl ⟨(Or.inr ⟨wy_pr rfl, mS_no rfl⟩), trivial, trivial, trivial, trivial⟩ ⟨trivial, (Or.inr ⟨wy_pr rfl, mS_no rfl⟩), (Or.inr ⟨wy_pr rfl, mS_no rfl⟩), trivial⟩ (fun _ _ q => q) ?_ (fun _ _ _ q => q)
          refine wa_lload_n (n := 0) rfl ?_
          refine wb_l2i_r (y := (x.length : Int)) (by rw [hvy]; exact sl_z ⟨by omega, by omega⟩ ⟨by omega, by omega⟩) ?_
          refine wa_ireturn rfl ?_
          show wJ _ _ _ _ _ _ _ _ _ _
          refine wa_cv 2 rfl (wy_pr rfl) wt_2 (M2 := mS []) rfl at_XW_nameAt ⟨_, rfl⟩ rfl rfl ⟨(Or.inr ⟨wy_pr rfl, mS_no rfl⟩), trivial, trivial, trivial, trivial⟩ trivial (fun _ _ q => mS_sub (by decide) q) (wJ_mono (c_nm hWd hWL hWv hN hs hp3 he) (fun o Z hz => (⟨hz.1, by rw [hnx]; exact hz.2⟩ : S = Z ∧ o = .inl (some (0, nx))))) (fun oq42 Sq42 hp43 q42 => ?_)
          rcases q42 with ⟨rfl, rfl⟩
          show wJ _ _ _ _ _ _ _ _ _ _
          refine wa_istore (n := 5) rfl ?_
          refine wa_iload_n (n := 1) rfl ?_
          refine wa_iconst ?_
          refine wa_icmpne (w_rg0 (by omega) (by omega)) (w_rg0 (by omega) (by omega)) ⟨_, rfl⟩ (fun c44 => ?_) (fun c44 => ?_)
          · skip
            refine wa_iload (n := 5) rfl ?_
            refine wa_iconst ?_
            refine wa_icmpne (w_rg0 (by omega) (by omega)) (w_rg0 (by omega) (by omega)) ⟨_, rfl⟩ (fun c45 => ?_) (fun c45 => ?_)
            · skip
              refine wa_aload_n (n := 0) rfl ?_
              refine wb_gf4 215 rfl (wy_pr rfl) wt_215 wf_8_0 (v := 72) wl_215_0 ?_
              refine wa_aload_n (n := 0) rfl ?_
              refine wb_gf4 215 rfl (wy_pr rfl) wt_215 wf_8_0 (v := 72) wl_215_0 ?_
              refine wb_gf4 72 rfl (wy_pr rfl) wt_72 wf_2_2 (v := 126) wl_72_2 ?_
              refine wa_iconst ?_
              refine wb_aald5 126 1 rfl rfl (wy_pr rfl) wt_126 (by rw [show _ = _ from ((cl_126 hC))]; omega) wl_126_1 ?_
              refine wa_iload_n (n := 2) rfl ?_
              refine wb_iald 128 rfl (wy_pr rfl) wt_128 (n := (S 127 (-1))) ((hth 1 (by decide))) (by omega) (by omega) (v := (tO T q).2.1) (e28) (fun r46 => ?_)
              refine wa_iload (n := 5) rfl ?_
              refine wa_cv 72 rfl (wy_pr rfl) wt_72 (M2 := mS []) rfl at_XH_indexIn ⟨_, rfl⟩ rfl rfl ⟨trivial, (Or.inr ⟨wy_pr rfl, mS_no rfl⟩), trivial, trivial, trivial, trivial⟩ trivial (fun _ _ q => mS_sub (by decide) q) (wJ_mono (c_ix hC hsw hw ⟨hsh.1, hsh.2⟩ ⟨by omega, by omega⟩) (fun o Z hz => (⟨hz.1, by rw [hiy2]; exact hz.2⟩ : S = Z ∧ o = .inl (some (0, iy))))) (fun oq47 Sq47 hp48 q47 => ?_)
              rcases q47 with ⟨rfl, rfl⟩
              show wJ _ _ _ _ _ _ _ _ _ _
              refine wa_fall ⟨_, rfl⟩ ?_
              refine wa_istore (n := 6) rfl ?_
              refine wa_iload (n := 6) rfl ?_
              refine wa_iconst ?_
              refine wa_icmpeq (w_rg0 (by omega) (by omega)) (w_rg0 (by omega) (by omega)) ⟨_, rfl⟩ (fun c49 => ?_) (fun c49 => ?_)
              · skip
                refine wa_aload_n (n := 0) rfl ?_
                refine wa_iconst ?_
                refine wa_iconst ?_
                refine wa_iload (n := 6) rfl ?_
                refine wa_iconst ?_
                refine wa_icmpeq (w_rg0 (by omega) (by omega)) (w_rg0 (by omega) (by omega)) ⟨_, rfl⟩ (fun c50 => ?_) (fun c50 => ?_)
                · skip
                  refine wb_lconst (m := 0) rfl ?_
                  refine wa_fall ⟨_, rfl⟩ ?_
                  refine wa_cv 215 rfl (wy_pr rfl) wt_215 (M2 := mS [217, 218]) rfl at_XK_give ⟨_, rfl⟩ rfl rfl ⟨trivial, trivial, (Or.inr ⟨wy_pr rfl, mS_no rfl⟩), trivial, trivial, trivial, trivial⟩ trivial (fun _ _ q => mS_sub (by decide) q) (gw_215 (S := S) (n := 2) (k := 1) (v := 0) (h := h) (c := c) (p := p) (ln := (S 217 (-1))) hC hI ⟨by omega, by omega⟩ ⟨by omega, by omega⟩ (bh) (bc) (bp) (rfl) (bl1) ⟨by omega, by omega⟩ ⟨by omega, by omega, by omega⟩ ⟨by omega, by omega⟩ ⟨by omega, by omega⟩) (fun oq51 Sq51 hp52 q51 => ?_)
                  rcases q51 with ⟨rfl, A51, ra51, rfl⟩
                  show wJ _ _ _ _ _ _ _ _ _ _
                  refine wa_return rfl ?_
                  show wJ _ _ _ _ _ _ _ _ _ _
                  refine wa_goto ⟨_, rfl⟩ ?_
                  refine wa_return rfl ?_
                  exact ⟨rfl, Or.inl ⟨by omega, A51, ra51, rfl⟩⟩
                · skip
                  exact absurd c50 (by omega)
              · skip
                refine wa_aload_n (n := 0) rfl ?_
                refine wb_gf4 215 rfl (wy_pr rfl) wt_215 wf_8_0 (v := 72) wl_215_0 ?_
                refine wa_iload_n (n := 2) rfl ?_
                refine wa_aload_n (n := 0) rfl ?_
                refine wb_gf4 215 rfl (wy_pr rfl) wt_215 wf_8_0 (v := 72) wl_215_0 ?_
                refine wa_iload_n (n := 2) rfl ?_
                refine wa_cv 72 rfl (wy_pr rfl) wt_72 (M2 := mS [217, 218, 144, 145, 146, 147, 148]) rfl at_XH_protoOf ⟨_, rfl⟩ rfl rfl ⟨trivial, trivial, (Or.inr ⟨wy_pr rfl, mS_no rfl⟩), trivial, trivial, trivial, trivial⟩ ⟨trivial, (Or.inr ⟨wy_pr rfl, mS_no rfl⟩), trivial⟩ (fun _ _ q => q) ?_ (fun _ _ _ q => q)
                refine wa_aload_n (n := 0) rfl ?_
                refine wb_gf4 72 rfl (wy_pr rfl) wt_72 wf_2_7 (v := 143) wl_72_7 ?_
                refine wa_iconst ?_
                refine wb_aald5 143 0 rfl rfl (wy_pr rfl) wt_143 (by rw [show _ = _ from ((cl_143 hC))]; omega) wl_143_0 ?_
                refine wa_aload_n (n := 0) rfl ?_
                refine wb_gf4 72 rfl (wy_pr rfl) wt_72 wf_2_2 (v := 126) wl_72_2 ?_
                refine wa_iconst ?_
                refine wb_aald5 126 1 rfl rfl (wy_pr rfl) wt_126 (by rw [show _ = _ from ((cl_126 hC))]; omega) wl_126_1 ?_
                refine wa_iload_n (n := 1) rfl ?_
                refine wb_iald 128 rfl (wy_pr rfl) wt_128 (n := (S 127 (-1))) ((hth 1 (by decide))) (by omega) (by omega) (v := (tO T q).2.1) (e28) (fun r53 => ?_)
                refine wb_iald 144 rfl (wy_pr rfl) wt_144 (n := (S 144 (-1))) (rfl) (by omega) (by omega) (v := pq) (e44) (fun r54 => ?_)
                refine wa_ireturn rfl ?_
                show wJ _ _ _ _ _ _ _ _ _ _
                refine wa_iload (n := 6) rfl ?_
                refine wa_cv 72 rfl (wy_pr rfl) wt_72 (M2 := mS [144, 145, 146, 147, 148]) rfl at_XH_reshaped ⟨_, rfl⟩ rfl rfl ⟨trivial, trivial, (Or.inr ⟨wy_pr rfl, mS_no rfl⟩), trivial, trivial, trivial, trivial⟩ trivial (fun _ _ q => mS_sub (by decide) q) (wJ_mono (c_re (k := q) (p := pq) (wo := iy) hC hI hx1 hW hsw hw hq hpr ⟨by omega, by omega⟩ hu4 hnb h56) (fun o Z hz => (by rw [hrr]; exact hz : (o = .inl (some (0, -1)) ∧ 4000 < S 150 4 + aMb H pq (fS iy (aNs H (tO T q).2.1) 0) ∧ oF S Z) ∨ (S 150 4 + aMb H pq (fS iy (aNs H (tO T q).2.1) 0) ≤ 4000 ∧ o = .inl (some (0, rr)) ∧ reQ pq iy q T H L G S Z)))) (fun oq55 Sq55 hp56 q55 => ?_)
                rcases q55 with ⟨rfl, hno, hoF⟩ | ⟨hyes, rfl, hre⟩
                · skip
                  show wJ _ _ _ _ _ _ _ _ _ _
                  refine wa_istore (n := 7) rfl ?_
                  refine wa_iload (n := 7) rfl ?_
                  refine wa_iconst ?_
                  refine wa_icmpne (w_rg0 (by omega) (by omega)) (w_rg0 (by omega) (by omega)) ⟨_, rfl⟩ (fun c57 => ?_) (fun c57 => ?_)
                  · skip
                    exact absurd c57 (by omega)
                  · skip
                    refine wa_aload_n (n := 0) rfl ?_
                    refine wa_bipush (w_rg2 (by omega) (by omega)) ?_
                    refine wb_pfi 215 rfl (wy_pr rfl) wt_215 wf_8_16 (n := 16) rfl ⟨(by omega), (by omega)⟩ ?_
                    refine wa_return rfl ?_
                    show wJ _ _ _ _ _ _ _ _ _ _
                    refine wa_goto ⟨_, rfl⟩ ?_
                    refine wa_return rfl ?_
                    exact ⟨rfl, Or.inr (Or.inl ⟨by omega, by omega, hno, Sq55, hoF, rfl⟩)⟩
                · skip
                  show wJ _ _ _ _ _ _ _ _ _ _
                  obtain ⟨hre1, hre2, ⟨hreC, hreG, hreR⟩, hre4, hreF⟩ := id hre
                  have hreL := hre2.2.2.2.2.1
                  have hds0 := nDs_H hw.1 hw.2.1 _ _ hsh.1 hsh.2 rfl
                  obtain ⟨rs1, rs2, rs3, rs4, rs5, rs6, rs7, rs8⟩ := rsh_ok (l := (fS iy (aNs H (tO T q).2.1) 0)) hw hpr (nDs_f _ _ hds0.1) (fun y hy => hds0.2 y (fS_m _ _ y hy)) (by omega)
                  have hrr0 : 0 ≤ rr ∧ rr < 1000000 := by
                    have hll := rs1.1.2.1
                    rw [hrr]; exact ⟨rs2.1, Int.lt_trans rs2.2 (by omega)⟩
                  have hlen : (aBr T H pq).1.length = T.length := (aBr_ok (l := (fS iy (aNs H (tO T q).2.1) 0)) hw hpr (by omega)).2.2.2.2.2.2.2
                  have hL2 := hreL.2
                  rw [hlen] at hL2
                  obtain ⟨hA3, ⟨hA4, hA5, hA6, hA7⟩, -⟩ := c_th hre2.1 (k := q) hq0.1 (by rw [hlen]; exact hq0.2)
                  have hepA : -1 ≤ Sq55 130 q ∧ Sq55 130 q ≤ 9000001 := by rw [hA3.2.2.2.2.1]; exact aBr_ep hw hpr hq hep hch
                  have hpl : (tO (aBr T H pq).1 q).2.2.2.2.2.2 = (tO T q).2.2.2.2.2.2 := congrArg (fun z => z.2) (aBr_t hpr hq0.1).2.2
                  rw [hpl] at hA4
                  obtain ⟨hcn5, ⟨hcn6, hcn7⟩, hcn8, hcn9⟩ := hre2.2.2.2.1.2
                  refine wa_istore (n := 7) rfl ?_
                  refine wa_iload (n := 7) rfl ?_
                  refine wa_iconst ?_
                  refine wa_icmpne (w_rg0 (by omega) (by omega)) (w_rg0 (by omega) (by omega)) ⟨_, rfl⟩ (fun c58 => ?_) (fun c58 => ?_)
                  · skip
                    refine wa_aload_n (n := 0) rfl ?_
                    refine wb_gf4 215 rfl (wy_pr rfl) wt_215 wf_8_0 (v := 72) wl_215_0 ?_
                    refine wb_gf4 72 rfl (wy_pr rfl) wt_72 wf_2_2 (v := 126) wl_72_2 ?_
                    refine wa_iconst ?_
                    refine wb_aald5 126 1 rfl rfl (wy_pr rfl) wt_126 (by rw [show _ = _ from (((hreF 126 (-1) (by decide) (by decide) (by unfold cMr; omega)).trans ((cl_126 hC))))]; omega) wl_126_1 ?_
                    refine wa_iload_n (n := 2) rfl ?_
                    refine wa_iload (n := 7) rfl ?_
                    refine wb_iast 128 rfl (wy_pr rfl) wt_128 (n := (Sq55 127 (-1))) ((hreL.1 1 (by decide))) (by omega) (by omega) ⟨(by omega), (by omega)⟩ ?_
                    refine wa_aload_n (n := 0) rfl ?_
                    refine wb_gf4 215 rfl (wy_pr rfl) wt_215 wf_8_0 (v := 72) wl_215_0 ?_
                    refine wa_iload_n (n := 2) rfl ?_
                    refine wa_iload (n := 6) rfl ?_
                    have dL7 : (w_up Sq55 128 q rr) 127 (-1) = Sq55 127 (-1) := w_up_no (by omega)
                    have d141 : (w_up Sq55 128 q rr) 141 (-1) = Sq55 141 (-1) := w_up_slot (by first | decide | omega)
                    have d142 : (w_up Sq55 128 q rr) 142 (-1) = Sq55 142 (-1) := w_up_slot (by first | decide | omega)
                    have d133 : (w_up Sq55 128 q rr) 133 q = Sq55 133 q := w_up_slot (by first | decide | omega)
                    have d134 : (w_up Sq55 128 q rr) 134 q = Sq55 134 q := w_up_slot (by first | decide | omega)
                    refine wa_cv 72 rfl (wy_pr rfl) wt_72 (M2 := mS []) rfl at_XH_dropValue ⟨_, rfl⟩ rfl rfl ⟨trivial, trivial, trivial, (Or.inr ⟨wy_pr rfl, mS_no rfl⟩), trivial, trivial, trivial, trivial⟩ trivial (fun _ _ q => mS_sub (by decide) q) (dv_ok (S := (w_up Sq55 128 q rr)) (k := q) (ix := iy) (st := Sq55 133 q) (sz := Sq55 134 q) (w_CL_up hreC (by omega)) (gI_up hreG (by omega) (by omega) (by omega)) (by rw [d142, d141]; exact hcn5) (by rw [d141]; exact hcn9) (fun x hx => (w_up_no (by omega)).trans ((hreL.1 x hx).trans (w_up_no (by omega)).symm)) ⟨by omega, by omega⟩ (by omega) d133 d134 ⟨by omega, by omega⟩ ⟨by omega, by omega⟩) (fun oq59 Sq59 hp60 q59 => ?_)
                    rcases q59 with ⟨rfl, hdv⟩
                    show wJ _ _ _ _ _ _ _ _ _ _
                    obtain ⟨B0, hdB, hBz⟩ := dv_sh (by omega) hdv
                    subst hBz
                    obtain ⟨-, -, -, hdB4, hdB5, hdB6⟩ := id hdB
                    have hBC := dv_cl hreC (by omega) hdB
                    have hBl : ∀ x : Nat, x < 10 → B0 (127 + x) (-1) = Sq55 (127 + x) (-1) := fun x hx => hdB4 (127 + x) (-1) (by omega) (by omega) (Or.inr (by omega))
                    have hBL : ∀ x : Nat, x < 10 → B0 (127 + x) (-1) = B0 127 (-1) := fun x hx => (hBl x hx).trans ((hreL.1 x hx).trans (hBl 0 (by first | decide | omega)).symm)
                    have hBL0 : B0 127 (-1) = Sq55 127 (-1) := hBl 0 (by first | decide | omega)
                    have hB130 : B0 130 q = Sq55 130 q := hdB4 130 q (by first | decide | omega) (by first | decide | omega) (Or.inl (by first | decide | omega))
                    refine wa_aload_n (n := 0) rfl ?_
                    refine wb_gf4 215 rfl (wy_pr rfl) wt_215 wf_8_0 (v := 72) wl_215_0 ?_
                    refine wa_iload_n (n := 2) rfl ?_
                    have e72 : (w_up B0 128 q rr) 72 11 = S 72 11 := ((w_up_slot (by first | decide | omega)).trans (((hdB4 72 11 (by first | decide | omega) (by first | decide | omega) (Or.inl (by first | decide | omega))).trans ((hreF 72 11 (by first | decide | omega) (by first | decide | omega) (by unfold cMr; omega))))))
                    have e130 : (w_up B0 128 q rr) 130 q = B0 130 q := w_up_slot (by first | decide | omega)
                    have eB72 : B0 72 11 = S 72 11 := (w_up_slot (by first | decide | omega)).symm.trans e72
                    have eL : ∀ x : Nat, x < 10 → (w_up B0 128 q rr) (127 + x) (-1) = (w_up B0 128 q rr) 127 (-1) := fun x hx => (w_up_no (by omega)).trans ((hBL x hx).trans (w_up_no (by omega)).symm)
                    have eL7 : (w_up B0 128 q rr) 127 (-1) = B0 127 (-1) := w_up_no (by omega)
                    refine wa_cv 72 rfl (wy_pr rfl) wt_72 (M2 := mS []) rfl at_XH_noteChange ⟨_, rfl⟩ rfl rfl ⟨trivial, trivial, trivial, (Or.inr ⟨wy_pr rfl, mS_no rfl⟩), trivial, trivial, trivial, trivial⟩ trivial (fun _ _ q => mS_sub (by decide) q) (wJ_mono (nc_ok (S := (w_up B0 128 q rr)) (k := q) (ep := B0 130 q) (ch := B0 72 11) eL ⟨by omega, by omega⟩ (by omega) e130 ⟨by omega, by omega⟩ (e72.trans eB72.symm) ⟨by omega, by omega⟩ (w_CL_up hBC (by omega))) (fun o Z hz => (⟨hz.1, hz.2⟩ : o = .inl none ∧ ncZ q rr (B0 130 q) (B0 72 11) B0 = Z))) (fun oq61 Sq61 hp62 q61 => ?_)
                    rcases q61 with ⟨rfl, rfl⟩
                    show wJ _ _ _ _ _ _ _ _ _ _
                    refine wa_fall ⟨_, rfl⟩ ?_
                    refine wa_aload_n (n := 0) rfl ?_
                    refine wa_iconst ?_
                    refine wa_iconst ?_
                    refine wa_iload (n := 6) rfl ?_
                    refine wa_iconst ?_
                    refine wa_icmpeq (w_rg0 (by omega) (by omega)) (w_rg0 (by omega) (by omega)) ⟨_, rfl⟩ (fun c63 => ?_) (fun c63 => ?_)
                    · skip
                      exact absurd c63 (by omega)
                    · skip
                      refine wb_lconst (m := 1) rfl ?_
                      refine wa_goto ⟨_, rfl⟩ ?_
                      refine wa_cv 215 rfl (wy_pr rfl) wt_215 (M2 := mS [217, 218]) rfl at_XK_give ⟨_, rfl⟩ rfl rfl ⟨trivial, trivial, trivial, (Or.inr ⟨wy_pr rfl, mS_no rfl⟩), trivial, trivial, trivial, trivial⟩ trivial (fun _ _ q => mS_sub (by decide) q) (gw_215 (S := (ncZ q rr (B0 130 q) (B0 72 11) B0)) (n := 2) (k := 1) (v := 1) (h := h) (c := c) (p := p) (ln := (S 217 (-1))) (ncZ_c hBC (by omega)) (ncZ_g hdB5 (by omega)) ⟨by omega, by omega⟩ ⟨by omega, by omega⟩ (((ncZ_e 216 2 (by decide) (by omega)).trans (((hdB4 216 2 (by decide) (by decide) (Or.inl (by decide))).trans (((hreF 216 2 (by decide) (by decide) (by unfold cMr; omega)).trans (bh))))))) (((ncZ_e 215 4 (by decide) (by omega)).trans (((hdB4 215 4 (by decide) (by decide) (Or.inl (by decide))).trans (((hreF 215 4 (by decide) (by decide) (by unfold cMr; omega)).trans (bc))))))) (((ncZ_e 220 (c - 1) (by decide) (by omega)).trans (((hdB4 220 (c - 1) (by decide) (by decide) (Or.inl (by decide))).trans (((hreF 220 (c - 1) (by decide) (by decide) (by unfold cMr; omega)).trans (bp))))))) (((ncZ_e 217 (-1) (by decide) (by omega)).trans (((hdB4 217 (-1) (by decide) (by decide) (Or.inl (by decide))).trans (((hreF 217 (-1) (by decide) (by decide) (by unfold cMr; omega)).trans (rfl))))))) (((ncZ_e 218 (-1) (by decide) (by omega)).trans (((hdB4 218 (-1) (by decide) (by decide) (Or.inl (by decide))).trans (((hreF 218 (-1) (by decide) (by decide) (by unfold cMr; omega)).trans (bl1))))))) ⟨by omega, by omega⟩ ⟨by omega, by omega, by omega⟩ ⟨by omega, by omega⟩ ⟨by omega, by omega⟩) (fun oq64 Sq64 hp65 q64 => ?_)
                      rcases q64 with ⟨rfl, A64, ra64, rfl⟩
                      show wJ _ _ _ _ _ _ _ _ _ _
                      refine wa_return rfl ?_
                      show wJ _ _ _ _ _ _ _ _ _ _
                      refine wa_goto ⟨_, rfl⟩ ?_
                      refine wa_return rfl ?_
                      exact ⟨rfl, Or.inr (Or.inr ⟨by omega, by omega, hyes, Sq55, B0, hre, hdB, A64, ra64, rfl⟩)⟩
                  · skip
                    exact absurd c58 (by omega)
            · skip
              refine wa_iconst ?_
              refine wa_goto ⟨_, rfl⟩ ?_
              refine wa_istore (n := 6) rfl ?_
              refine wa_iload (n := 6) rfl ?_
              refine wa_iconst ?_
              refine wa_icmpeq (w_rg0 (by omega) (by omega)) (w_rg0 (by omega) (by omega)) ⟨_, rfl⟩ (fun c66 => ?_) (fun c66 => ?_)
              · skip
                refine wa_aload_n (n := 0) rfl ?_
                refine wa_iconst ?_
                refine wa_iconst ?_
                refine wa_iload (n := 6) rfl ?_
                refine wa_iconst ?_
                refine wa_icmpeq (w_rg0 (by omega) (by omega)) (w_rg0 (by omega) (by omega)) ⟨_, rfl⟩ (fun c67 => ?_) (fun c67 => ?_)
                · skip
                  refine wb_lconst (m := 0) rfl ?_
                  refine wa_fall ⟨_, rfl⟩ ?_
                  refine wa_cv 215 rfl (wy_pr rfl) wt_215 (M2 := mS [217, 218]) rfl at_XK_give ⟨_, rfl⟩ rfl rfl ⟨trivial, trivial, (Or.inr ⟨wy_pr rfl, mS_no rfl⟩), trivial, trivial, trivial, trivial⟩ trivial (fun _ _ q => mS_sub (by decide) q) (gw_215 (S := S) (n := 2) (k := 1) (v := 0) (h := h) (c := c) (p := p) (ln := (S 217 (-1))) hC hI ⟨by omega, by omega⟩ ⟨by omega, by omega⟩ (bh) (bc) (bp) (rfl) (bl1) ⟨by omega, by omega⟩ ⟨by omega, by omega, by omega⟩ ⟨by omega, by omega⟩ ⟨by omega, by omega⟩) (fun oq68 Sq68 hp69 q68 => ?_)
                  rcases q68 with ⟨rfl, A68, ra68, rfl⟩
                  show wJ _ _ _ _ _ _ _ _ _ _
                  refine wa_return rfl ?_
                  show wJ _ _ _ _ _ _ _ _ _ _
                  refine wa_goto ⟨_, rfl⟩ ?_
                  refine wa_return rfl ?_
                  exact ⟨rfl, Or.inl ⟨by omega, A68, ra68, rfl⟩⟩
                · skip
                  exact absurd c67 (by omega)
              · skip
                exact absurd c66 (by omega)
          · skip
            exact absurd c44 (by omega)
theorem zb4_215 {nx : Int} (h : stC 215 S K) (hi : cIn S K 28 4 b) (hx1 : pe_at (pe_GA xs).xs 1 = some (1, tx_1)) (hWd : wd_at S 2 1024) (hWL : wd_L S 2 1024) (hWv : wv_L S 2) (hN : cL 9 10 N S) (hp3 : cTt S) (hW : cWd S T L G) (hsw : cSw S T H) (hwS : wSh T H) (hT : (T.length : Int) ≤ 8000) (hu4 : 0 ≤ S 150 4 ∧ S 150 4 ≤ 4000 ∧ (H.length : Int) ≤ S 150 4 + 1) (hnb : ∀ s : Int, 0 ≤ s → s < (H.length : Int) → qNm H s ≤ 100000) (hch : 0 ≤ S 72 11 ∧ S 72 11 ≤ 9000000) (hep : ∀ k : Int, isO T k → (tO T k).2.2.2.2.1 ≤ S 72 11) (h56 : S 156 (-1) = 65) (hh1 : 2 ≤ K.1.length) (hx : (K.1.getD (K.1.length - 2) (0, 0, [])).1 = 4 ∨ (K.1.getD (K.1.length - 2) (0, 0, [])).1 = 5) (hq : isO T (K.1.getD (K.1.length - 2) (0, 0, [])).2.1) (hy : (K.1.getD (K.1.length - 1) (0, 0, [])).1 = 3) (hnx : nx = ixL N (K.1.getD (K.1.length - 1) (0, 0, [])).2.2) (hm0 : nx ≠ -1 ∧ (aIx T nx (K.1.getD (K.1.length - 2) (0, 0, [])).2.1) ≠ -1) (hm : S 150 4 + aMb H (aPr T H (K.1.getD (K.1.length - 2) (0, 0, [])).2.1) (fS (aIx T nx (K.1.getD (K.1.length - 2) (0, 0, [])).2.1) (aNs H (tO T (K.1.getD (K.1.length - 2) (0, 0, [])).2.1).2.1) 0) ≤ 4000) : cSm xs d 215 [217, 218, 144, 145, 146, 147, 148] cMd S (kP K 2 (1, 1, [])) (fun Z => cWd Z (tNc (tDp (rsT T H (aPr T H (K.1.getD (K.1.length - 2) (0, 0, [])).2.1)) (K.1.getD (K.1.length - 2) (0, 0, [])).2.1 (aIx T nx (K.1.getD (K.1.length - 2) (0, 0, [])).2.1)) (K.1.getD (K.1.length - 2) (0, 0, [])).2.1 (rsS T H (aPr T H (K.1.getD (K.1.length - 2) (0, 0, [])).2.1) (fS (aIx T nx (K.1.getD (K.1.length - 2) (0, 0, [])).2.1) (aNs H (tO T (K.1.getD (K.1.length - 2) (0, 0, [])).2.1).2.1) 0)) (S 72 11)) L G ∧ cSw Z (tNc (tDp (rsT T H (aPr T H (K.1.getD (K.1.length - 2) (0, 0, [])).2.1)) (K.1.getD (K.1.length - 2) (0, 0, [])).2.1 (aIx T nx (K.1.getD (K.1.length - 2) (0, 0, [])).2.1)) (K.1.getD (K.1.length - 2) (0, 0, [])).2.1 (rsS T H (aPr T H (K.1.getD (K.1.length - 2) (0, 0, [])).2.1) (fS (aIx T nx (K.1.getD (K.1.length - 2) (0, 0, [])).2.1) (aNs H (tO T (K.1.getD (K.1.length - 2) (0, 0, [])).2.1).2.1) 0)) (S 72 11)) (rsH T H (aPr T H (K.1.getD (K.1.length - 2) (0, 0, [])).2.1) (fS (aIx T nx (K.1.getD (K.1.length - 2) (0, 0, [])).2.1) (aNs H (tO T (K.1.getD (K.1.length - 2) (0, 0, [])).2.1).2.1) 0)) ∧ (Z 150 4 = S 150 4 + aMb H (aPr T H (K.1.getD (K.1.length - 2) (0, 0, [])).2.1) (fS (aIx T nx (K.1.getD (K.1.length - 2) (0, 0, [])).2.1) (aNs H (tO T (K.1.getD (K.1.length - 2) (0, 0, [])).2.1).2.1) 0) ∧ ∀ x : Int, x ≠ 4 → Z 150 x = S 150 x) ∧ Z 72 11 = S 72 11 + (if (tO (rsT T H (aPr T H (K.1.getD (K.1.length - 2) (0, 0, [])).2.1)) (K.1.getD (K.1.length - 2) (0, 0, [])).2.1).2.2.2.2.1 = -1 then 0 else 1) ∧ (cPo S → cPo Z)) := by
  obtain ⟨h1, ⟨h2, h2b⟩, ⟨h3, h4, h5⟩, -⟩ := id h
  have hk : cTk 215 (w_up S 215 16 0) K := cTk_16 h1 (Or.inl rfl)
  have hf : cFr 215 S (w_up S 215 16 0) := cFr_up (Or.inl rfl) (cFr_rfl h2b) (by first | decide | omega) (by omega)
  have hcy := c_at h1 (i := K.1.length - 1) (by omega) (j := (K.1.length : Int) - 1) (by omega)
  have hcx := c_at h1 (i := K.1.length - 2) (by omega) (j := (K.1.length : Int) - 1 - 1) (by omega)
  have hvx : S 218 ((K.1.length : Int) - 1 - 1) = (K.1.getD (K.1.length - 2) (0, 0, [])).2.1 := cV_v hcx (by omega)
  obtain ⟨s, s1, s2, s3⟩ := cV_t hcy hy
  have ef : ∀ (j : Nat) (x : Int), j < 215 → (w_up S 215 16 0) j x = S j x := fun j x j0 => w_up_slot (by omega)
  have ek : ∀ j : Nat, j < 215 → (w_up S 215 16 0) j = S j := fun j j0 => funext (fun x => ef j x j0)
  have hWd2 : wd_at (w_up S 215 16 0) 2 1024 := wd_at_ag hWd (fun x hx => ek (2 + x) (by omega))
  have hWL2 : wd_L (w_up S 215 16 0) 2 1024 := wd_L_ag hWL (fun x hx => ef (2 + x) _ (by omega))
  have hWv2 : wv_L (w_up S 215 16 0) 2 := by
    unfold wv_L
    rw [ek 7 (by first | decide | omega), ek 9 (by first | decide | omega), ek 8 (by first | decide | omega), ek 10 (by first | decide | omega), ef 2 10 (by first | decide | omega), ef 2 7 (by first | decide | omega), ef 2 12 (by first | decide | omega)]
    exact hWv
  have hN2 : cL 9 10 N (w_up S 215 16 0) := by
    unfold cL wqL
    rw [ef 2 10 (by first | decide | omega), ef 2 7 (by first | decide | omega), ek 9 (by first | decide | omega), ek 3 (by first | decide | omega), ek 4 (by first | decide | omega), ek 5 (by first | decide | omega)]
    exact hN
  have e4 : (w_up S 215 16 0) 150 4 = S 150 4 := ef 150 4 (by first | decide | omega)
  have e11 : (w_up S 215 16 0) 72 11 = S 72 11 := ef 72 11 (by first | decide | omega)
  have hcal := xb4_215 (xs := xs) (d := d) (x := (K.1.getD (K.1.length - 1) (0, 0, [])).2.2) (s := s) (nx := nx) (xP_of (Or.inl rfl) h) hx1 ((w_up_slot (by first | decide | omega)).trans (hcy.1.trans hy)) rfl ((w_up_slot (by first | decide | omega)).trans hcx.1) ((w_up_slot (by first | decide | omega)).trans hvx) (by omega) ((w_up_slot (by first | decide | omega)).trans s1) (by rw [ef 2 1 (by first | decide | omega)]; exact s2) (fun i hi2 => (ef 3 _ (by first | decide | omega)).trans (s3 i hi2)) hWd2 hWL2 hWv2 hN2 (by rw [ef 2 1 (by first | decide | omega), ef 3 _ (by first | decide | omega)]; exact ⟨hp3.2.1, hp3.2.2⟩) (cSw_up hsw (by first | decide | omega)) (cWd_up hW (by first | decide | omega)) hwS hq hT hx (by rw [e4]; exact hu4) hnb (by rw [e11]; exact hch) (by rw [e11]; exact hep) (by rw [ef 156 _ (by first | decide | omega)]; exact h56) hnx
  have poT : cPo S → cPo (w_up S 215 16 0) := fun po => cPo_ag po (ef 72 3 (by first | decide | omega)) (fun x => ⟨ef 134 x (by first | decide | omega), ef 135 x (by first | decide | omega)⟩) (ef 140 2 (by first | decide | omega)) (ef 150 1 (by first | decide | omega))
  have hpr := wSh_pr hwS hq
  have hlen : (rsT T H (aPr T H (K.1.getD (K.1.length - 2) (0, 0, [])).2.1)).length = T.length := (aBr_ok (l := (fS (aIx T nx (K.1.getD (K.1.length - 2) (0, 0, [])).2.1) (aNs H (tO T (K.1.getD (K.1.length - 2) (0, 0, [])).2.1).2.1) 0)) hwS hpr (by have := hwS.1.2.1; omega)).2.2.2.2.2.2.2
  have hir := aIx_rg (T := T) (nm := nx) (k := (K.1.getD (K.1.length - 2) (0, 0, [])).2.1)
  have hpl : (tO (aBr T H (aPr T H (K.1.getD (K.1.length - 2) (0, 0, [])).2.1)).1 (K.1.getD (K.1.length - 2) (0, 0, [])).2.1).2.2.2.2.2.2 = (tO T (K.1.getD (K.1.length - 2) (0, 0, [])).2.1).2.2.2.2.2.2 := congrArg (fun z => z.2) (aBr_t hpr hq.1.1).2.2
  refine cg_b_215 h hi.1 hi.2.1 hi.2.2 (by first | decide | omega) (fun q => by omega) (by first | decide | omega) (by unfold mS; decide) hcal (fun Z hz => ?_)
  rcases hz with ⟨z, -⟩ | ⟨-, -, z, -⟩ | ⟨-, -, -, A, B, hA, hB, hs⟩
  · omega
  · rw [e4] at z; omega
  · obtain ⟨g1, g2, g3, g4, ⟨g5, g6⟩, g7, g8, g9⟩ := dr_tail (m := 2) (u := (1, 1, [])) (Or.inl rfl) hk h3 h4 hh1 hq.1 hlen ⟨by omega, by rw [show (tO (rsT T H (aPr T H (K.1.getD (K.1.length - 2) (0, 0, [])).2.1)) (K.1.getD (K.1.length - 2) (0, 0, [])).2.1).2.2.2.2.2.2 = (tO T (K.1.getD (K.1.length - 2) (0, 0, [])).2.1).2.2.2.2.2.2 from hpl]; exact hir.2⟩ hA hB hs (by first | decide | omega) rfl
    rw [e11] at g2 g3 g7
    exact ⟨g9.trans (w_up_same _ _ _ _), g1, cFm_tr (cFm_r hf) g4, g2, g3, ⟨g5.trans (by rw [e4]), fun x hx4 => (g6 x hx4).trans (ef 150 x (by first | decide | omega))⟩, g7, fun po => g8 (poT po)⟩
theorem zb4n_215 {nx : Int} (h : stC 215 S K) (hi : cIn S K 28 4 b) (hx1 : pe_at (pe_GA xs).xs 1 = some (1, tx_1)) (hWd : wd_at S 2 1024) (hWL : wd_L S 2 1024) (hWv : wv_L S 2) (hN : cL 9 10 N S) (hp3 : cTt S) (hW : cWd S T L G) (hsw : cSw S T H) (hwS : wSh T H) (hT : (T.length : Int) ≤ 8000) (hu4 : 0 ≤ S 150 4 ∧ S 150 4 ≤ 4000 ∧ (H.length : Int) ≤ S 150 4 + 1) (hnb : ∀ s : Int, 0 ≤ s → s < (H.length : Int) → qNm H s ≤ 100000) (hch : 0 ≤ S 72 11 ∧ S 72 11 ≤ 9000000) (hep : ∀ k : Int, isO T k → (tO T k).2.2.2.2.1 ≤ S 72 11) (h56 : S 156 (-1) = 65) (hh1 : 2 ≤ K.1.length) (hx : (K.1.getD (K.1.length - 2) (0, 0, [])).1 = 4 ∨ (K.1.getD (K.1.length - 2) (0, 0, [])).1 = 5) (hq : isO T (K.1.getD (K.1.length - 2) (0, 0, [])).2.1) (hy : (K.1.getD (K.1.length - 1) (0, 0, [])).1 = 3) (hnx : nx = ixL N (K.1.getD (K.1.length - 1) (0, 0, [])).2.2) (hm0 : nx = -1 ∨ (aIx T nx (K.1.getD (K.1.length - 2) (0, 0, [])).2.1) = -1) : cSx xs d 215 [217, 218, 144, 145, 146, 147, 148] S (kP K 2 (1, 0, [])) := by
  obtain ⟨h1, ⟨h2, h2b⟩, ⟨h3, h4, h5⟩, -⟩ := id h
  have hk : cTk 215 (w_up S 215 16 0) K := cTk_16 h1 (Or.inl rfl)
  have hf : cFr 215 S (w_up S 215 16 0) := cFr_up (Or.inl rfl) (cFr_rfl h2b) (by first | decide | omega) (by omega)
  have hcy := c_at h1 (i := K.1.length - 1) (by omega) (j := (K.1.length : Int) - 1) (by omega)
  have hcx := c_at h1 (i := K.1.length - 2) (by omega) (j := (K.1.length : Int) - 1 - 1) (by omega)
  have hvx : S 218 ((K.1.length : Int) - 1 - 1) = (K.1.getD (K.1.length - 2) (0, 0, [])).2.1 := cV_v hcx (by omega)
  obtain ⟨s, s1, s2, s3⟩ := cV_t hcy hy
  have ef : ∀ (j : Nat) (x : Int), j < 215 → (w_up S 215 16 0) j x = S j x := fun j x j0 => w_up_slot (by omega)
  have ek : ∀ j : Nat, j < 215 → (w_up S 215 16 0) j = S j := fun j j0 => funext (fun x => ef j x j0)
  have hWd2 : wd_at (w_up S 215 16 0) 2 1024 := wd_at_ag hWd (fun x hx => ek (2 + x) (by omega))
  have hWL2 : wd_L (w_up S 215 16 0) 2 1024 := wd_L_ag hWL (fun x hx => ef (2 + x) _ (by omega))
  have hWv2 : wv_L (w_up S 215 16 0) 2 := by
    unfold wv_L
    rw [ek 7 (by first | decide | omega), ek 9 (by first | decide | omega), ek 8 (by first | decide | omega), ek 10 (by first | decide | omega), ef 2 10 (by first | decide | omega), ef 2 7 (by first | decide | omega), ef 2 12 (by first | decide | omega)]
    exact hWv
  have hN2 : cL 9 10 N (w_up S 215 16 0) := by
    unfold cL wqL
    rw [ef 2 10 (by first | decide | omega), ef 2 7 (by first | decide | omega), ek 9 (by first | decide | omega), ek 3 (by first | decide | omega), ek 4 (by first | decide | omega), ek 5 (by first | decide | omega)]
    exact hN
  have e4 : (w_up S 215 16 0) 150 4 = S 150 4 := ef 150 4 (by first | decide | omega)
  have e11 : (w_up S 215 16 0) 72 11 = S 72 11 := ef 72 11 (by first | decide | omega)
  have hcal := xb4_215 (xs := xs) (d := d) (x := (K.1.getD (K.1.length - 1) (0, 0, [])).2.2) (s := s) (nx := nx) (xP_of (Or.inl rfl) h) hx1 ((w_up_slot (by first | decide | omega)).trans (hcy.1.trans hy)) rfl ((w_up_slot (by first | decide | omega)).trans hcx.1) ((w_up_slot (by first | decide | omega)).trans hvx) (by omega) ((w_up_slot (by first | decide | omega)).trans s1) (by rw [ef 2 1 (by first | decide | omega)]; exact s2) (fun i hi2 => (ef 3 _ (by first | decide | omega)).trans (s3 i hi2)) hWd2 hWL2 hWv2 hN2 (by rw [ef 2 1 (by first | decide | omega), ef 3 _ (by first | decide | omega)]; exact ⟨hp3.2.1, hp3.2.2⟩) (cSw_up hsw (by first | decide | omega)) (cWd_up hW (by first | decide | omega)) hwS hq hT hx (by rw [e4]; exact hu4) hnb (by rw [e11]; exact hch) (by rw [e11]; exact hep) (by rw [ef 156 _ (by first | decide | omega)]; exact h56) hnx
  exact cs_b_215 (m := 2) h hi.1 hi.2.1 hi.2.2 (by first | decide | omega) (fun q => by omega) (by first | decide | omega) (by unfold mS; decide) (wJ_mono hcal (fun o Z hz => ⟨hz.1, by
    rcases hz.2 with ⟨-, z⟩ | ⟨z1, z2, -⟩ | ⟨z1, z2, -⟩
    · exact z
    · omega
    · omega⟩)) rfl hh1 (cV_e (by first | decide | omega) rfl)
theorem zb4m_215 {nx : Int} (h : stC 215 S K) (hi : cIn S K 28 4 b) (hx1 : pe_at (pe_GA xs).xs 1 = some (1, tx_1)) (hWd : wd_at S 2 1024) (hWL : wd_L S 2 1024) (hWv : wv_L S 2) (hN : cL 9 10 N S) (hp3 : cTt S) (hW : cWd S T L G) (hsw : cSw S T H) (hwS : wSh T H) (hT : (T.length : Int) ≤ 8000) (hu4 : 0 ≤ S 150 4 ∧ S 150 4 ≤ 4000 ∧ (H.length : Int) ≤ S 150 4 + 1) (hnb : ∀ s : Int, 0 ≤ s → s < (H.length : Int) → qNm H s ≤ 100000) (hch : 0 ≤ S 72 11 ∧ S 72 11 ≤ 9000000) (hep : ∀ k : Int, isO T k → (tO T k).2.2.2.2.1 ≤ S 72 11) (h56 : S 156 (-1) = 65) (hh1 : 2 ≤ K.1.length) (hx : (K.1.getD (K.1.length - 2) (0, 0, [])).1 = 4 ∨ (K.1.getD (K.1.length - 2) (0, 0, [])).1 = 5) (hq : isO T (K.1.getD (K.1.length - 2) (0, 0, [])).2.1) (hy : (K.1.getD (K.1.length - 1) (0, 0, [])).1 = 3) (hnx : nx = ixL N (K.1.getD (K.1.length - 1) (0, 0, [])).2.2) (hm0 : nx ≠ -1 ∧ (aIx T nx (K.1.getD (K.1.length - 2) (0, 0, [])).2.1) ≠ -1) (hm : 4000 < S 150 4 + aMb H (aPr T H (K.1.getD (K.1.length - 2) (0, 0, [])).2.1) (fS (aIx T nx (K.1.getD (K.1.length - 2) (0, 0, [])).2.1) (aNs H (tO T (K.1.getD (K.1.length - 2) (0, 0, [])).2.1).2.1) 0)) : cSo xs d 215 [217, 218, 144, 145, 146, 147, 148] cMo S K := by
  obtain ⟨h1, ⟨h2, h2b⟩, ⟨h3, h4, h5⟩, -⟩ := id h
  have hk : cTk 215 (w_up S 215 16 0) K := cTk_16 h1 (Or.inl rfl)
  have hf : cFr 215 S (w_up S 215 16 0) := cFr_up (Or.inl rfl) (cFr_rfl h2b) (by first | decide | omega) (by omega)
  have hcy := c_at h1 (i := K.1.length - 1) (by omega) (j := (K.1.length : Int) - 1) (by omega)
  have hcx := c_at h1 (i := K.1.length - 2) (by omega) (j := (K.1.length : Int) - 1 - 1) (by omega)
  have hvx : S 218 ((K.1.length : Int) - 1 - 1) = (K.1.getD (K.1.length - 2) (0, 0, [])).2.1 := cV_v hcx (by omega)
  obtain ⟨s, s1, s2, s3⟩ := cV_t hcy hy
  have ef : ∀ (j : Nat) (x : Int), j < 215 → (w_up S 215 16 0) j x = S j x := fun j x j0 => w_up_slot (by omega)
  have ek : ∀ j : Nat, j < 215 → (w_up S 215 16 0) j = S j := fun j j0 => funext (fun x => ef j x j0)
  have hWd2 : wd_at (w_up S 215 16 0) 2 1024 := wd_at_ag hWd (fun x hx => ek (2 + x) (by omega))
  have hWL2 : wd_L (w_up S 215 16 0) 2 1024 := wd_L_ag hWL (fun x hx => ef (2 + x) _ (by omega))
  have hWv2 : wv_L (w_up S 215 16 0) 2 := by
    unfold wv_L
    rw [ek 7 (by first | decide | omega), ek 9 (by first | decide | omega), ek 8 (by first | decide | omega), ek 10 (by first | decide | omega), ef 2 10 (by first | decide | omega), ef 2 7 (by first | decide | omega), ef 2 12 (by first | decide | omega)]
    exact hWv
  have hN2 : cL 9 10 N (w_up S 215 16 0) := by
    unfold cL wqL
    rw [ef 2 10 (by first | decide | omega), ef 2 7 (by first | decide | omega), ek 9 (by first | decide | omega), ek 3 (by first | decide | omega), ek 4 (by first | decide | omega), ek 5 (by first | decide | omega)]
    exact hN
  have e4 : (w_up S 215 16 0) 150 4 = S 150 4 := ef 150 4 (by first | decide | omega)
  have e11 : (w_up S 215 16 0) 72 11 = S 72 11 := ef 72 11 (by first | decide | omega)
  have hcal := xb4_215 (xs := xs) (d := d) (x := (K.1.getD (K.1.length - 1) (0, 0, [])).2.2) (s := s) (nx := nx) (xP_of (Or.inl rfl) h) hx1 ((w_up_slot (by first | decide | omega)).trans (hcy.1.trans hy)) rfl ((w_up_slot (by first | decide | omega)).trans hcx.1) ((w_up_slot (by first | decide | omega)).trans hvx) (by omega) ((w_up_slot (by first | decide | omega)).trans s1) (by rw [ef 2 1 (by first | decide | omega)]; exact s2) (fun i hi2 => (ef 3 _ (by first | decide | omega)).trans (s3 i hi2)) hWd2 hWL2 hWv2 hN2 (by rw [ef 2 1 (by first | decide | omega), ef 3 _ (by first | decide | omega)]; exact ⟨hp3.2.1, hp3.2.2⟩) (cSw_up hsw (by first | decide | omega)) (cWd_up hW (by first | decide | omega)) hwS hq hT hx (by rw [e4]; exact hu4) hnb (by rw [e11]; exact hch) (by rw [e11]; exact hep) (by rw [ef 156 _ (by first | decide | omega)]; exact h56) hnx
  refine wJ_mono (cm_b_215 (R := fun Z => ∃ A : wS, oF (w_up S 215 16 0) A ∧ w_up A 215 16 99 = Z) h hi.1 hi.2.1 hi.2.2 (by first | decide | omega) (fun q => by omega) (by first | decide | omega) (by unfold mS; decide) (wJ_mono hcal (fun o Z hz => ⟨hz.1, by
    rcases hz.2 with ⟨z, -⟩ | ⟨-, -, -, z⟩ | ⟨-, -, z, -⟩
    · omega
    · exact z
    · rw [e4] at z; omega⟩)) (fun Z hz => by obtain ⟨A, -, rfl⟩ := hz; exact w_up_same _ _ _ _)) (fun o Z2 hz => ?_)
  obtain ⟨hz0, Z, ⟨A, hA, rfl⟩, rfl⟩ := hz
  exact ⟨hz0, cTk_st (cTk_16 (oF_tk (Or.inl rfl) hA hk) (Or.inl rfl)) (Or.inl rfl), cFm_up (Or.inl rfl) (cFm_up (Or.inl rfl) (cFm_tr (cFm_r hf) (oF_fm (Or.inl rfl) hA)) (by first | decide | omega) (Or.inl (by omega)) (by first | decide | omega)) (by first | decide | omega) (Or.inl (by omega)) (by first | decide | omega)⟩
set_option maxHeartbeats 4000000 in
theorem xb4_226 {c p h kx q vy s nx : Int} (hP : xP 226 c p h S) (hx1 : pe_at (pe_GA xs).xs 1 = some (1, tx_1)) (hky : S 228 (h - 1) = 3) (hvy0 : S 229 (h - 1) = vy) (hkx : S 228 (h - 1 - 1) = kx) (hvx : S 229 (h - 1 - 1) = q) (hh1 : 2 ≤ h) (hvy : vy = s * 4294967296 + (x.length : Int)) (hs : 0 ≤ s ∧ s + (x.length : Int) ≤ S 2 1) (he : ∀ i : Nat, i < x.length → S 3 (s + (i : Int)) = x.getD i 0) (hWd : wd_at S 2 1024) (hWL : wd_L S 2 1024) (hWv : wv_L S 2) (hN : cL 9 10 N S) (hp3 : S 2 1 ≤ S 3 (-1) ∧ S 3 (-1) ≤ 10000000) (hsw : cSw S T H) (hW : cWd S T L G) (hw : wSh T H) (hq : isO T q) (hT : (T.length : Int) ≤ 8000) (hk45 : kx = 4 ∨ kx = 5) (hu4 : 0 ≤ S 150 4 ∧ S 150 4 ≤ 4000 ∧ (H.length : Int) ≤ S 150 4 + 1) (hnb : ∀ s : Int, 0 ≤ s → s < (H.length : Int) → qNm H s ≤ 100000) (hch : 0 ≤ S 72 11 ∧ S 72 11 ≤ 9000000) (hep : ∀ k : Int, isO T k → (tO T k).2.2.2.2.1 ≤ S 72 11) (h56 : S 156 (-1) = 65) (hnx : nx = ixL N x) : wJ (pe_GA xs) wY0 (mS [228, 229, 144, 145, 146, 147, 148]) (d + 11) t_XK_callBuiltin ((pe_at t_XK_callBuiltin.bl 0).getD (0, [])).2 [(0, (2, 226)), (1, (0, 4))] [] S (fun o Z => o = .inl none ∧ (((nx = -1 ∨ (aIx T nx q) = -1) ∧ sO 226 h c p 2 1 0 S Z) ∨ (nx ≠ -1 ∧ (aIx T nx q) ≠ -1 ∧ 4000 < S 150 4 + aMb H (aPr T H q) (fS (aIx T nx q) (aNs H (tO T q).2.1) 0) ∧ ∃ A : wS, oF S A ∧ w_up A 226 16 99 = Z) ∨ (nx ≠ -1 ∧ (aIx T nx q) ≠ -1 ∧ S 150 4 + aMb H (aPr T H q) (fS (aIx T nx q) (aNs H (tO T q).2.1) 0) ≤ 4000 ∧ ∃ A B : wS, reQ (aPr T H q) (aIx T nx q) q T H L G S A ∧ dv_ag q (aIx T nx q) A B ∧ sO 226 h c p 2 1 1 (ncZ q (rsS T H (aPr T H q) (fS (aIx T nx q) (aNs H (tO T q).2.1) 0)) (B 130 q) (B 72 11) B) Z))) := by
  obtain ⟨⟨hC, hI⟩, ⟨bc, bc0, bc1⟩, ⟨bp, bp0, bp1⟩, ⟨bh, bh0, bh1, bh2⟩, bl1, bl2, bl3⟩ := id hP
  replace bp : S 231 (c - 1) = p := bp
  replace bh : S 227 2 = h := bh
  replace bh2 : h ≤ S 228 (-1) := bh2
  replace bl1 : S 229 (-1) = S 228 (-1) := bl1
  replace bl2 : 64 ≤ S 228 (-1) := bl2
  replace bl3 : S 228 (-1) ≤ 4095 := bl3
  have hg : wG = 1000000 := rfl
  obtain ⟨ht, -, -, -, hlt, -⟩ := id hW
  obtain ⟨hth, t2, t3, t4⟩ := id hlt
  obtain ⟨h1, ⟨l1, l2, l3, l4⟩, -, -⟩ := id hsw
  have hq0 := hq.1
  have hH4 := hw.1.2.1
  have hnr : -1 ≤ nx ∧ nx ≤ 4000 := by have := @ixL_rr N x; have := hN.1; have := hWv.2.2.2.2.2.2.1; omega
  have g4 := hw.2.2.2.1 q hq
  obtain ⟨iy, hiy⟩ : ∃ iy : Int, iy = (aIx T nx q) := ⟨_, rfl⟩
  rw [← hiy]
  have hiy2 : iy = lIx nx (aNs H (tO T q).2.1) 0 := by rw [hiy, ← g4.1]; rfl
  have hir := aIx_rg (T := T) (nm := nx) (k := q)
  rw [← hiy] at hir
  have hl64 := g4.2
  obtain ⟨pq, hpq⟩ : ∃ pq : Int, pq = (aPr T H q) := ⟨_, rfl⟩
  have hpr : pq = -1 ∨ isO T pq := by rw [hpq]; exact wSh_pr hw hq
  have hpg : -1 ≤ pq ∧ pq < (T.length : Int) := by rcases hpr with z | z; omega; have := z.1; omega
  rw [← hpq]
  obtain ⟨rr, hrr⟩ : ∃ rr : Int, rr = rsS T H pq (fS iy (aNs H (tO T q).2.1) 0) := ⟨_, rfl⟩
  rw [← hrr]
  have hsh := wSh_sh hw hq
  obtain ⟨e1, e2, e3⟩ := hIx_o (nm := 0) h1 ht hw hq
  have e28 : S 128 q = (tO T q).2.1 := (c_th ht hq0.1 hq0.2).1.2.1
  have e44 : S 144 (tO T q).2.1 = pq := by rw [hpq, ← e28]; exact e2
  refine wa_aload_n (n := 0) rfl ?_
  refine wb_gf4 226 rfl (wy_pr rfl) wt_226 wf_8_3 (v := 227) wl_226_3 ?_
  refine wb_gfi 227 rfl (wy_pr rfl) wt_227 wf_7_2 (v := h) (bh) (fun r1 => ?_)
  refine wa_iconst ?_
  refine wa_isub ?_
  refine wa_istore_n (n := 2) rfl ?_
  refine wa_aload_n (n := 0) rfl ?_
  refine wb_gf4 226 rfl (wy_pr rfl) wt_226 wf_8_3 (v := 227) wl_226_3 ?_
  refine wb_gf4 227 rfl (wy_pr rfl) wt_227 wf_7_0 (v := 228) wl_227_0 ?_
  refine wa_iload_n (n := 2) rfl ?_
  refine wb_bald 228 rfl (wy_pr rfl) wt_228 (n := (S 228 (-1))) (rfl) (by omega) (by omega) (v := 3) (hky) (fun r2 => ?_)
  refine wa_istore_n (n := 3) rfl ?_
  refine wa_aload_n (n := 0) rfl ?_
  refine wb_gf4 226 rfl (wy_pr rfl) wt_226 wf_8_3 (v := 227) wl_226_3 ?_
  refine wb_gf4 227 rfl (wy_pr rfl) wt_227 wf_7_1 (v := 229) wl_227_1 ?_
  refine wa_iload_n (n := 2) rfl ?_
  refine wb_lald 229 rfl (wy_pr rfl) wt_229 (n := (S 228 (-1))) (bl1) (by omega) (by omega) (v := vy) (hvy0) (fun r3 => ?_)
  refine wa_lstore (n := 4) rfl ?_
  refine wa_iload_n (n := 1) rfl ?_
  refine wb_sw (w_rg0 (by omega) (by omega)) (tb := 11) rfl ⟨_, rfl⟩ ?_
  refine wa_aload_n (n := 0) rfl ?_
  refine wa_iload_n (n := 2) rfl ?_
  refine wa_iconst ?_
  refine wa_isub ?_
  refine wa_cv 226 rfl (wy_pr rfl) wt_226 (M2 := mS [228, 229, 144, 145, 146, 147, 148]) rfl at_XK_isHolder ⟨_, rfl⟩ rfl rfl ⟨trivial, trivial, trivial, (Or.inr ⟨wy_pr rfl, mS_no rfl⟩), trivial, trivial⟩ trivial (fun _ _ q => q) ?_ (fun _ _ _ q => q)
  refine wa_aload_n (n := 0) rfl ?_
  refine wb_gf4 226 rfl (wy_pr rfl) wt_226 wf_8_3 (v := 227) wl_226_3 ?_
  refine wb_gf4 227 rfl (wy_pr rfl) wt_227 wf_7_0 (v := 228) wl_227_0 ?_
  refine wa_iload_n (n := 1) rfl ?_
  refine wb_bald 228 rfl (wy_pr rfl) wt_228 (n := (S 228 (-1))) (rfl) (by omega) (by omega) (v := kx) (hkx) (fun r4 => ?_)
  refine wa_iconst ?_
  refine wa_icmpeq (w_rg0 (by omega) (by omega)) (w_rg0 (by omega) (by omega)) ⟨_, rfl⟩ (fun c5 => ?_) (fun c5 => ?_)
  · skip
    refine wa_iconst ?_
    refine wa_goto ⟨_, rfl⟩ ?_
    refine wa_zreturn rfl (Or.inr rfl) ?_
    show wJ _ _ _ _ _ _ _ _ _ _
    refine wa_ifeq (w_rg0 (by omega) (by omega)) ⟨_, rfl⟩ (fun c6 => ?_) (fun c6 => ?_)
    · skip
      exact absurd c6 (by omega)
    · skip
      refine wa_iload_n (n := 3) rfl ?_
      refine wa_iconst ?_
      refine wa_icmpne (w_rg0 (by omega) (by omega)) (w_rg0 (by omega) (by omega)) ⟨_, rfl⟩ (fun c7 => ?_) (fun c7 => ?_)
      · skip
        exact absurd c7 (by omega)
      · skip
        refine wa_aload_n (n := 0) rfl ?_
        refine wa_iload_n (n := 1) rfl ?_
        refine wa_aload_n (n := 0) rfl ?_
        refine wb_gf4 226 rfl (wy_pr rfl) wt_226 wf_8_3 (v := 227) wl_226_3 ?_
        refine wb_gf4 227 rfl (wy_pr rfl) wt_227 wf_7_1 (v := 229) wl_227_1 ?_
        refine wa_iload_n (n := 2) rfl ?_
        refine wa_iconst ?_
        refine wa_isub ?_
        refine wb_lald 229 rfl (wy_pr rfl) wt_229 (n := (S 228 (-1))) (bl1) (by omega) (by omega) (v := q) (hvx) (fun r8 => ?_)
        refine wb_l2i_r (wb_l2i_id ⟨(by omega), (by omega)⟩) ?_
        refine wa_lload (n := 4) rfl ?_
        refine wa_cv 226 rfl (wy_pr rfl) wt_226 (M2 := mS [228, 229, 144, 145, 146, 147, 148]) rfl at_XK_askFor ⟨_, rfl⟩ rfl rfl ⟨trivial, trivial, trivial, (Or.inr ⟨wy_pr rfl, mS_no rfl⟩), trivial, trivial⟩ trivial (fun _ _ q => q) ?_ (fun _ _ _ q => q)
        refine wa_aload_n (n := 0) rfl ?_
        refine wb_gf4 226 rfl (wy_pr rfl) wt_226 wf_8_0 (v := 72) wl_226_0 ?_
        refine wb_gf4 72 rfl (wy_pr rfl) wt_72 wf_2_0 (v := 2) wl_72_0 ?_
        refine wa_aload_n (n := 0) rfl ?_
        refine wb_gf4 226 rfl (wy_pr rfl) wt_226 wf_8_0 (v := 72) wl_226_0 ?_
        refine wb_gf4 72 rfl (wy_pr rfl) wt_72 wf_2_0 (v := 2) wl_72_0 ?_
        refine wb_gf4 2 rfl (wy_pr rfl) wt_2 wf_9_0 (v := 3) wl_2_0 ?_
        refine wa_lload_n (n := 3) rfl ?_
        refine wa_cs (M2 := mS [228, 229, 144, 145, 146, 147, 148]) rfl at_X_sliceStart ⟨_, rfl⟩ rfl rfl ⟨(Or.inr ⟨wy_pr rfl, mS_no rfl⟩), trivial, trivial, trivial, trivial⟩ ⟨(Or.inr ⟨wy_pr rfl, mS_no rfl⟩), (Or.inr ⟨wy_pr rfl, mS_no rfl⟩), trivial⟩ (fun _ _ q => q) ?_ (fun _ _ _ q => q)
        refine wa_lload_n (n := 0) rfl ?_
        refine wa_bipush (w_rg2 (by omega) (by omega)) ?_
        refine wa_lushr ?_
        refine wb_l2i_r (y := s) (by rw [hvy]; exact sl_s ⟨by omega, by omega⟩ ⟨by omega, by omega⟩) ?_
        refine wa_ireturn rfl ?_
        show wJ _ _ _ _ _ _ _ _ _ _
        refine wa_lload_n (n := 3) rfl ?_
        refine wa_cs (M2 := mS [228, 229, 144, 145, 146, 147, 148]) rfl at_X_sliceSize ⟨_, rfl⟩ rfl rfl ⟨(Or.inr ⟨wy_pr rfl, mS_no rfl⟩), trivial, trivial, trivial, trivial⟩ ⟨trivial, (Or.inr ⟨wy_pr rfl, mS_no rfl⟩), (Or.inr ⟨wy_pr rfl, mS_no rfl⟩), trivial⟩ (fun _ _ q => q) ?_ (fun _ _ _ q => q)
        refine wa_lload_n (n := 0) rfl ?_
        refine wb_l2i_r (y := (x.length : Int)) (by rw [hvy]; exact sl_z ⟨by omega, by omega⟩ ⟨by omega, by omega⟩) ?_
        refine wa_ireturn rfl ?_
        show wJ _ _ _ _ _ _ _ _ _ _
        refine wa_cv 2 rfl (wy_pr rfl) wt_2 (M2 := mS []) rfl at_XW_nameAt ⟨_, rfl⟩ rfl rfl ⟨(Or.inr ⟨wy_pr rfl, mS_no rfl⟩), trivial, trivial, trivial, trivial⟩ trivial (fun _ _ q => mS_sub (by decide) q) (wJ_mono (c_nm hWd hWL hWv hN hs hp3 he) (fun o Z hz => (⟨hz.1, by rw [hnx]; exact hz.2⟩ : S = Z ∧ o = .inl (some (0, nx))))) (fun oq9 Sq9 hp10 q9 => ?_)
        rcases q9 with ⟨rfl, rfl⟩
        show wJ _ _ _ _ _ _ _ _ _ _
        refine wa_istore (n := 5) rfl ?_
        refine wa_iload_n (n := 1) rfl ?_
        refine wa_iconst ?_
        refine wa_icmpne (w_rg0 (by omega) (by omega)) (w_rg0 (by omega) (by omega)) ⟨_, rfl⟩ (fun c11 => ?_) (fun c11 => ?_)
        · skip
          refine wa_iload (n := 5) rfl ?_
          refine wa_iconst ?_
          refine wa_icmpne (w_rg0 (by omega) (by omega)) (w_rg0 (by omega) (by omega)) ⟨_, rfl⟩ (fun c12 => ?_) (fun c12 => ?_)
          · skip
            refine wa_aload_n (n := 0) rfl ?_
            refine wb_gf4 226 rfl (wy_pr rfl) wt_226 wf_8_0 (v := 72) wl_226_0 ?_
            refine wa_aload_n (n := 0) rfl ?_
            refine wb_gf4 226 rfl (wy_pr rfl) wt_226 wf_8_0 (v := 72) wl_226_0 ?_
            refine wb_gf4 72 rfl (wy_pr rfl) wt_72 wf_2_2 (v := 126) wl_72_2 ?_
            refine wa_iconst ?_
            refine wb_aald5 126 1 rfl rfl (wy_pr rfl) wt_126 (by rw [show _ = _ from ((cl_126 hC))]; omega) wl_126_1 ?_
            refine wa_iload_n (n := 2) rfl ?_
            refine wb_iald 128 rfl (wy_pr rfl) wt_128 (n := (S 127 (-1))) ((hth 1 (by decide))) (by omega) (by omega) (v := (tO T q).2.1) (e28) (fun r13 => ?_)
            refine wa_iload (n := 5) rfl ?_
            refine wa_cv 72 rfl (wy_pr rfl) wt_72 (M2 := mS []) rfl at_XH_indexIn ⟨_, rfl⟩ rfl rfl ⟨trivial, (Or.inr ⟨wy_pr rfl, mS_no rfl⟩), trivial, trivial, trivial, trivial⟩ trivial (fun _ _ q => mS_sub (by decide) q) (wJ_mono (c_ix hC hsw hw ⟨hsh.1, hsh.2⟩ ⟨by omega, by omega⟩) (fun o Z hz => (⟨hz.1, by rw [hiy2]; exact hz.2⟩ : S = Z ∧ o = .inl (some (0, iy))))) (fun oq14 Sq14 hp15 q14 => ?_)
            rcases q14 with ⟨rfl, rfl⟩
            show wJ _ _ _ _ _ _ _ _ _ _
            refine wa_fall ⟨_, rfl⟩ ?_
            refine wa_istore (n := 6) rfl ?_
            refine wa_iload (n := 6) rfl ?_
            refine wa_iconst ?_
            refine wa_icmpeq (w_rg0 (by omega) (by omega)) (w_rg0 (by omega) (by omega)) ⟨_, rfl⟩ (fun c16 => ?_) (fun c16 => ?_)
            · skip
              refine wa_aload_n (n := 0) rfl ?_
              refine wa_iconst ?_
              refine wa_iconst ?_
              refine wa_iload (n := 6) rfl ?_
              refine wa_iconst ?_
              refine wa_icmpeq (w_rg0 (by omega) (by omega)) (w_rg0 (by omega) (by omega)) ⟨_, rfl⟩ (fun c17 => ?_) (fun c17 => ?_)
              · skip
                refine wb_lconst (m := 0) rfl ?_
                refine wa_fall ⟨_, rfl⟩ ?_
                refine wa_cv 226 rfl (wy_pr rfl) wt_226 (M2 := mS [228, 229]) rfl at_XK_give ⟨_, rfl⟩ rfl rfl ⟨trivial, trivial, (Or.inr ⟨wy_pr rfl, mS_no rfl⟩), trivial, trivial, trivial, trivial⟩ trivial (fun _ _ q => mS_sub (by decide) q) (gw_226 (S := S) (n := 2) (k := 1) (v := 0) (h := h) (c := c) (p := p) (ln := (S 228 (-1))) hC hI ⟨by omega, by omega⟩ ⟨by omega, by omega⟩ (bh) (bc) (bp) (rfl) (bl1) ⟨by omega, by omega⟩ ⟨by omega, by omega, by omega⟩ ⟨by omega, by omega⟩ ⟨by omega, by omega⟩) (fun oq18 Sq18 hp19 q18 => ?_)
                rcases q18 with ⟨rfl, A18, ra18, rfl⟩
                show wJ _ _ _ _ _ _ _ _ _ _
                refine wa_return rfl ?_
                show wJ _ _ _ _ _ _ _ _ _ _
                refine wa_goto ⟨_, rfl⟩ ?_
                refine wa_return rfl ?_
                exact ⟨rfl, Or.inl ⟨by omega, A18, ra18, rfl⟩⟩
              · skip
                exact absurd c17 (by omega)
            · skip
              refine wa_aload_n (n := 0) rfl ?_
              refine wb_gf4 226 rfl (wy_pr rfl) wt_226 wf_8_0 (v := 72) wl_226_0 ?_
              refine wa_iload_n (n := 2) rfl ?_
              refine wa_aload_n (n := 0) rfl ?_
              refine wb_gf4 226 rfl (wy_pr rfl) wt_226 wf_8_0 (v := 72) wl_226_0 ?_
              refine wa_iload_n (n := 2) rfl ?_
              refine wa_cv 72 rfl (wy_pr rfl) wt_72 (M2 := mS [228, 229, 144, 145, 146, 147, 148]) rfl at_XH_protoOf ⟨_, rfl⟩ rfl rfl ⟨trivial, trivial, (Or.inr ⟨wy_pr rfl, mS_no rfl⟩), trivial, trivial, trivial, trivial⟩ ⟨trivial, (Or.inr ⟨wy_pr rfl, mS_no rfl⟩), trivial⟩ (fun _ _ q => q) ?_ (fun _ _ _ q => q)
              refine wa_aload_n (n := 0) rfl ?_
              refine wb_gf4 72 rfl (wy_pr rfl) wt_72 wf_2_7 (v := 143) wl_72_7 ?_
              refine wa_iconst ?_
              refine wb_aald5 143 0 rfl rfl (wy_pr rfl) wt_143 (by rw [show _ = _ from ((cl_143 hC))]; omega) wl_143_0 ?_
              refine wa_aload_n (n := 0) rfl ?_
              refine wb_gf4 72 rfl (wy_pr rfl) wt_72 wf_2_2 (v := 126) wl_72_2 ?_
              refine wa_iconst ?_
              refine wb_aald5 126 1 rfl rfl (wy_pr rfl) wt_126 (by rw [show _ = _ from ((cl_126 hC))]; omega) wl_126_1 ?_
              refine wa_iload_n (n := 1) rfl ?_
              refine wb_iald 128 rfl (wy_pr rfl) wt_128 (n := (S 127 (-1))) ((hth 1 (by decide))) (by omega) (by omega) (v := (tO T q).2.1) (e28) (fun r20 => ?_)
              refine wb_iald 144 rfl (wy_pr rfl) wt_144 (n := (S 144 (-1))) (rfl) (by omega) (by omega) (v := pq) (e44) (fun r21 => ?_)
              refine wa_ireturn rfl ?_
              show wJ _ _ _ _ _ _ _ _ _ _
              refine wa_iload (n := 6) rfl ?_
              refine wa_cv 72 rfl (wy_pr rfl) wt_72 (M2 := mS [144, 145, 146, 147, 148]) rfl at_XH_reshaped ⟨_, rfl⟩ rfl rfl ⟨trivial, trivial, (Or.inr ⟨wy_pr rfl, mS_no rfl⟩), trivial, trivial, trivial, trivial⟩ trivial (fun _ _ q => mS_sub (by decide) q) (wJ_mono (c_re (k := q) (p := pq) (wo := iy) hC hI hx1 hW hsw hw hq hpr ⟨by omega, by omega⟩ hu4 hnb h56) (fun o Z hz => (by rw [hrr]; exact hz : (o = .inl (some (0, -1)) ∧ 4000 < S 150 4 + aMb H pq (fS iy (aNs H (tO T q).2.1) 0) ∧ oF S Z) ∨ (S 150 4 + aMb H pq (fS iy (aNs H (tO T q).2.1) 0) ≤ 4000 ∧ o = .inl (some (0, rr)) ∧ reQ pq iy q T H L G S Z)))) (fun oq22 Sq22 hp23 q22 => ?_)
              rcases q22 with ⟨rfl, hno, hoF⟩ | ⟨hyes, rfl, hre⟩
              · skip
                show wJ _ _ _ _ _ _ _ _ _ _
                refine wa_istore (n := 7) rfl ?_
                refine wa_iload (n := 7) rfl ?_
                refine wa_iconst ?_
                refine wa_icmpne (w_rg0 (by omega) (by omega)) (w_rg0 (by omega) (by omega)) ⟨_, rfl⟩ (fun c24 => ?_) (fun c24 => ?_)
                · skip
                  exact absurd c24 (by omega)
                · skip
                  refine wa_aload_n (n := 0) rfl ?_
                  refine wa_bipush (w_rg2 (by omega) (by omega)) ?_
                  refine wb_pfi 226 rfl (wy_pr rfl) wt_226 wf_8_16 (n := 16) rfl ⟨(by omega), (by omega)⟩ ?_
                  refine wa_return rfl ?_
                  show wJ _ _ _ _ _ _ _ _ _ _
                  refine wa_goto ⟨_, rfl⟩ ?_
                  refine wa_return rfl ?_
                  exact ⟨rfl, Or.inr (Or.inl ⟨by omega, by omega, hno, Sq22, hoF, rfl⟩)⟩
              · skip
                show wJ _ _ _ _ _ _ _ _ _ _
                obtain ⟨hre1, hre2, ⟨hreC, hreG, hreR⟩, hre4, hreF⟩ := id hre
                have hreL := hre2.2.2.2.2.1
                have hds0 := nDs_H hw.1 hw.2.1 _ _ hsh.1 hsh.2 rfl
                obtain ⟨rs1, rs2, rs3, rs4, rs5, rs6, rs7, rs8⟩ := rsh_ok (l := (fS iy (aNs H (tO T q).2.1) 0)) hw hpr (nDs_f _ _ hds0.1) (fun y hy => hds0.2 y (fS_m _ _ y hy)) (by omega)
                have hrr0 : 0 ≤ rr ∧ rr < 1000000 := by
                  have hll := rs1.1.2.1
                  rw [hrr]; exact ⟨rs2.1, Int.lt_trans rs2.2 (by omega)⟩
                have hlen : (aBr T H pq).1.length = T.length := (aBr_ok (l := (fS iy (aNs H (tO T q).2.1) 0)) hw hpr (by omega)).2.2.2.2.2.2.2
                have hL2 := hreL.2
                rw [hlen] at hL2
                obtain ⟨hA3, ⟨hA4, hA5, hA6, hA7⟩, -⟩ := c_th hre2.1 (k := q) hq0.1 (by rw [hlen]; exact hq0.2)
                have hepA : -1 ≤ Sq22 130 q ∧ Sq22 130 q ≤ 9000001 := by rw [hA3.2.2.2.2.1]; exact aBr_ep hw hpr hq hep hch
                have hpl : (tO (aBr T H pq).1 q).2.2.2.2.2.2 = (tO T q).2.2.2.2.2.2 := congrArg (fun z => z.2) (aBr_t hpr hq0.1).2.2
                rw [hpl] at hA4
                obtain ⟨hcn5, ⟨hcn6, hcn7⟩, hcn8, hcn9⟩ := hre2.2.2.2.1.2
                refine wa_istore (n := 7) rfl ?_
                refine wa_iload (n := 7) rfl ?_
                refine wa_iconst ?_
                refine wa_icmpne (w_rg0 (by omega) (by omega)) (w_rg0 (by omega) (by omega)) ⟨_, rfl⟩ (fun c25 => ?_) (fun c25 => ?_)
                · skip
                  refine wa_aload_n (n := 0) rfl ?_
                  refine wb_gf4 226 rfl (wy_pr rfl) wt_226 wf_8_0 (v := 72) wl_226_0 ?_
                  refine wb_gf4 72 rfl (wy_pr rfl) wt_72 wf_2_2 (v := 126) wl_72_2 ?_
                  refine wa_iconst ?_
                  refine wb_aald5 126 1 rfl rfl (wy_pr rfl) wt_126 (by rw [show _ = _ from (((hreF 126 (-1) (by decide) (by decide) (by unfold cMr; omega)).trans ((cl_126 hC))))]; omega) wl_126_1 ?_
                  refine wa_iload_n (n := 2) rfl ?_
                  refine wa_iload (n := 7) rfl ?_
                  refine wb_iast 128 rfl (wy_pr rfl) wt_128 (n := (Sq22 127 (-1))) ((hreL.1 1 (by decide))) (by omega) (by omega) ⟨(by omega), (by omega)⟩ ?_
                  refine wa_aload_n (n := 0) rfl ?_
                  refine wb_gf4 226 rfl (wy_pr rfl) wt_226 wf_8_0 (v := 72) wl_226_0 ?_
                  refine wa_iload_n (n := 2) rfl ?_
                  refine wa_iload (n := 6) rfl ?_
                  have dL7 : (w_up Sq22 128 q rr) 127 (-1) = Sq22 127 (-1) := w_up_no (by omega)
                  have d141 : (w_up Sq22 128 q rr) 141 (-1) = Sq22 141 (-1) := w_up_slot (by first | decide | omega)
                  have d142 : (w_up Sq22 128 q rr) 142 (-1) = Sq22 142 (-1) := w_up_slot (by first | decide | omega)
                  have d133 : (w_up Sq22 128 q rr) 133 q = Sq22 133 q := w_up_slot (by first | decide | omega)
                  have d134 : (w_up Sq22 128 q rr) 134 q = Sq22 134 q := w_up_slot (by first | decide | omega)
                  refine wa_cv 72 rfl (wy_pr rfl) wt_72 (M2 := mS []) rfl at_XH_dropValue ⟨_, rfl⟩ rfl rfl ⟨trivial, trivial, trivial, (Or.inr ⟨wy_pr rfl, mS_no rfl⟩), trivial, trivial, trivial, trivial⟩ trivial (fun _ _ q => mS_sub (by decide) q) (dv_ok (S := (w_up Sq22 128 q rr)) (k := q) (ix := iy) (st := Sq22 133 q) (sz := Sq22 134 q) (w_CL_up hreC (by omega)) (gI_up hreG (by omega) (by omega) (by omega)) (by rw [d142, d141]; exact hcn5) (by rw [d141]; exact hcn9) (fun x hx => (w_up_no (by omega)).trans ((hreL.1 x hx).trans (w_up_no (by omega)).symm)) ⟨by omega, by omega⟩ (by omega) d133 d134 ⟨by omega, by omega⟩ ⟨by omega, by omega⟩) (fun oq26 Sq26 hp27 q26 => ?_)
                  rcases q26 with ⟨rfl, hdv⟩
                  show wJ _ _ _ _ _ _ _ _ _ _
                  obtain ⟨B0, hdB, hBz⟩ := dv_sh (by omega) hdv
                  subst hBz
                  obtain ⟨-, -, -, hdB4, hdB5, hdB6⟩ := id hdB
                  have hBC := dv_cl hreC (by omega) hdB
                  have hBl : ∀ x : Nat, x < 10 → B0 (127 + x) (-1) = Sq22 (127 + x) (-1) := fun x hx => hdB4 (127 + x) (-1) (by omega) (by omega) (Or.inr (by omega))
                  have hBL : ∀ x : Nat, x < 10 → B0 (127 + x) (-1) = B0 127 (-1) := fun x hx => (hBl x hx).trans ((hreL.1 x hx).trans (hBl 0 (by first | decide | omega)).symm)
                  have hBL0 : B0 127 (-1) = Sq22 127 (-1) := hBl 0 (by first | decide | omega)
                  have hB130 : B0 130 q = Sq22 130 q := hdB4 130 q (by first | decide | omega) (by first | decide | omega) (Or.inl (by first | decide | omega))
                  refine wa_aload_n (n := 0) rfl ?_
                  refine wb_gf4 226 rfl (wy_pr rfl) wt_226 wf_8_0 (v := 72) wl_226_0 ?_
                  refine wa_iload_n (n := 2) rfl ?_
                  have e72 : (w_up B0 128 q rr) 72 11 = S 72 11 := ((w_up_slot (by first | decide | omega)).trans (((hdB4 72 11 (by first | decide | omega) (by first | decide | omega) (Or.inl (by first | decide | omega))).trans ((hreF 72 11 (by first | decide | omega) (by first | decide | omega) (by unfold cMr; omega))))))
                  have e130 : (w_up B0 128 q rr) 130 q = B0 130 q := w_up_slot (by first | decide | omega)
                  have eB72 : B0 72 11 = S 72 11 := (w_up_slot (by first | decide | omega)).symm.trans e72
                  have eL : ∀ x : Nat, x < 10 → (w_up B0 128 q rr) (127 + x) (-1) = (w_up B0 128 q rr) 127 (-1) := fun x hx => (w_up_no (by omega)).trans ((hBL x hx).trans (w_up_no (by omega)).symm)
                  have eL7 : (w_up B0 128 q rr) 127 (-1) = B0 127 (-1) := w_up_no (by omega)
                  refine wa_cv 72 rfl (wy_pr rfl) wt_72 (M2 := mS []) rfl at_XH_noteChange ⟨_, rfl⟩ rfl rfl ⟨trivial, trivial, trivial, (Or.inr ⟨wy_pr rfl, mS_no rfl⟩), trivial, trivial, trivial, trivial⟩ trivial (fun _ _ q => mS_sub (by decide) q) (wJ_mono (nc_ok (S := (w_up B0 128 q rr)) (k := q) (ep := B0 130 q) (ch := B0 72 11) eL ⟨by omega, by omega⟩ (by omega) e130 ⟨by omega, by omega⟩ (e72.trans eB72.symm) ⟨by omega, by omega⟩ (w_CL_up hBC (by omega))) (fun o Z hz => (⟨hz.1, hz.2⟩ : o = .inl none ∧ ncZ q rr (B0 130 q) (B0 72 11) B0 = Z))) (fun oq28 Sq28 hp29 q28 => ?_)
                  rcases q28 with ⟨rfl, rfl⟩
                  show wJ _ _ _ _ _ _ _ _ _ _
                  refine wa_fall ⟨_, rfl⟩ ?_
                  refine wa_aload_n (n := 0) rfl ?_
                  refine wa_iconst ?_
                  refine wa_iconst ?_
                  refine wa_iload (n := 6) rfl ?_
                  refine wa_iconst ?_
                  refine wa_icmpeq (w_rg0 (by omega) (by omega)) (w_rg0 (by omega) (by omega)) ⟨_, rfl⟩ (fun c30 => ?_) (fun c30 => ?_)
                  · skip
                    exact absurd c30 (by omega)
                  · skip
                    refine wb_lconst (m := 1) rfl ?_
                    refine wa_goto ⟨_, rfl⟩ ?_
                    refine wa_cv 226 rfl (wy_pr rfl) wt_226 (M2 := mS [228, 229]) rfl at_XK_give ⟨_, rfl⟩ rfl rfl ⟨trivial, trivial, trivial, (Or.inr ⟨wy_pr rfl, mS_no rfl⟩), trivial, trivial, trivial, trivial⟩ trivial (fun _ _ q => mS_sub (by decide) q) (gw_226 (S := (ncZ q rr (B0 130 q) (B0 72 11) B0)) (n := 2) (k := 1) (v := 1) (h := h) (c := c) (p := p) (ln := (S 228 (-1))) (ncZ_c hBC (by omega)) (ncZ_g hdB5 (by omega)) ⟨by omega, by omega⟩ ⟨by omega, by omega⟩ (((ncZ_e 227 2 (by decide) (by omega)).trans (((hdB4 227 2 (by decide) (by decide) (Or.inl (by decide))).trans (((hreF 227 2 (by decide) (by decide) (by unfold cMr; omega)).trans (bh))))))) (((ncZ_e 226 4 (by decide) (by omega)).trans (((hdB4 226 4 (by decide) (by decide) (Or.inl (by decide))).trans (((hreF 226 4 (by decide) (by decide) (by unfold cMr; omega)).trans (bc))))))) (((ncZ_e 231 (c - 1) (by decide) (by omega)).trans (((hdB4 231 (c - 1) (by decide) (by decide) (Or.inl (by decide))).trans (((hreF 231 (c - 1) (by decide) (by decide) (by unfold cMr; omega)).trans (bp))))))) (((ncZ_e 228 (-1) (by decide) (by omega)).trans (((hdB4 228 (-1) (by decide) (by decide) (Or.inl (by decide))).trans (((hreF 228 (-1) (by decide) (by decide) (by unfold cMr; omega)).trans (rfl))))))) (((ncZ_e 229 (-1) (by decide) (by omega)).trans (((hdB4 229 (-1) (by decide) (by decide) (Or.inl (by decide))).trans (((hreF 229 (-1) (by decide) (by decide) (by unfold cMr; omega)).trans (bl1))))))) ⟨by omega, by omega⟩ ⟨by omega, by omega, by omega⟩ ⟨by omega, by omega⟩ ⟨by omega, by omega⟩) (fun oq31 Sq31 hp32 q31 => ?_)
                    rcases q31 with ⟨rfl, A31, ra31, rfl⟩
                    show wJ _ _ _ _ _ _ _ _ _ _
                    refine wa_return rfl ?_
                    show wJ _ _ _ _ _ _ _ _ _ _
                    refine wa_goto ⟨_, rfl⟩ ?_
                    refine wa_return rfl ?_
                    exact ⟨rfl, Or.inr (Or.inr ⟨by omega, by omega, hyes, Sq22, B0, hre, hdB, A31, ra31, rfl⟩)⟩
                · skip
                  exact absurd c25 (by omega)
          · skip
            refine wa_iconst ?_
            refine wa_goto ⟨_, rfl⟩ ?_
            refine wa_istore (n := 6) rfl ?_
            refine wa_iload (n := 6) rfl ?_
            refine wa_iconst ?_
            refine wa_icmpeq (w_rg0 (by omega) (by omega)) (w_rg0 (by omega) (by omega)) ⟨_, rfl⟩ (fun c33 => ?_) (fun c33 => ?_)
            · skip
              refine wa_aload_n (n := 0) rfl ?_
              refine wa_iconst ?_
              refine wa_iconst ?_
              refine wa_iload (n := 6) rfl ?_
              refine wa_iconst ?_
              refine wa_icmpeq (w_rg0 (by omega) (by omega)) (w_rg0 (by omega) (by omega)) ⟨_, rfl⟩ (fun c34 => ?_) (fun c34 => ?_)
              · skip
                refine wb_lconst (m := 0) rfl ?_
                refine wa_fall ⟨_, rfl⟩ ?_
                refine wa_cv 226 rfl (wy_pr rfl) wt_226 (M2 := mS [228, 229]) rfl at_XK_give ⟨_, rfl⟩ rfl rfl ⟨trivial, trivial, (Or.inr ⟨wy_pr rfl, mS_no rfl⟩), trivial, trivial, trivial, trivial⟩ trivial (fun _ _ q => mS_sub (by decide) q) (gw_226 (S := S) (n := 2) (k := 1) (v := 0) (h := h) (c := c) (p := p) (ln := (S 228 (-1))) hC hI ⟨by omega, by omega⟩ ⟨by omega, by omega⟩ (bh) (bc) (bp) (rfl) (bl1) ⟨by omega, by omega⟩ ⟨by omega, by omega, by omega⟩ ⟨by omega, by omega⟩ ⟨by omega, by omega⟩) (fun oq35 Sq35 hp36 q35 => ?_)
                rcases q35 with ⟨rfl, A35, ra35, rfl⟩
                show wJ _ _ _ _ _ _ _ _ _ _
                refine wa_return rfl ?_
                show wJ _ _ _ _ _ _ _ _ _ _
                refine wa_goto ⟨_, rfl⟩ ?_
                refine wa_return rfl ?_
                exact ⟨rfl, Or.inl ⟨by omega, A35, ra35, rfl⟩⟩
              · skip
                exact absurd c34 (by omega)
            · skip
              exact absurd c33 (by omega)
        · skip
          exact absurd c11 (by omega)
  · skip
    refine wa_aload_n (n := 0) rfl ?_
    refine wb_gf4 226 rfl (wy_pr rfl) wt_226 wf_8_3 (v := 227) wl_226_3 ?_
    refine wb_gf4 227 rfl (wy_pr rfl) wt_227 wf_7_0 (v := 228) wl_227_0 ?_
    refine wa_iload_n (n := 1) rfl ?_
    refine wb_bald 228 rfl (wy_pr rfl) wt_228 (n := (S 228 (-1))) (rfl) (by omega) (by omega) (v := kx) (hkx) (fun r37 => ?_)
    refine wa_iconst ?_
    refine wa_icmpne (w_rg0 (by omega) (by omega)) (w_rg0 (by omega) (by omega)) ⟨_, rfl⟩ (fun c38 => ?_) (fun c38 => ?_)
    · skip
      exact absurd c38 (by omega)
    · skip
      refine wa_fall ⟨_, rfl⟩ ?_
      refine wa_iconst ?_
      refine wa_goto ⟨_, rfl⟩ ?_
      refine wa_zreturn rfl (Or.inr rfl) ?_
      show wJ _ _ _ _ _ _ _ _ _ _
      refine wa_ifeq (w_rg0 (by omega) (by omega)) ⟨_, rfl⟩ (fun c39 => ?_) (fun c39 => ?_)
      · skip
        exact absurd c39 (by omega)
      · skip
        refine wa_iload_n (n := 3) rfl ?_
        refine wa_iconst ?_
        refine wa_icmpne (w_rg0 (by omega) (by omega)) (w_rg0 (by omega) (by omega)) ⟨_, rfl⟩ (fun c40 => ?_) (fun c40 => ?_)
        · skip
          exact absurd c40 (by omega)
        · skip
          refine wa_aload_n (n := 0) rfl ?_
          refine wa_iload_n (n := 1) rfl ?_
          refine wa_aload_n (n := 0) rfl ?_
          refine wb_gf4 226 rfl (wy_pr rfl) wt_226 wf_8_3 (v := 227) wl_226_3 ?_
          refine wb_gf4 227 rfl (wy_pr rfl) wt_227 wf_7_1 (v := 229) wl_227_1 ?_
          refine wa_iload_n (n := 2) rfl ?_
          refine wa_iconst ?_
          refine wa_isub ?_
          refine wb_lald 229 rfl (wy_pr rfl) wt_229 (n := (S 228 (-1))) (bl1) (by omega) (by omega) (v := q) (hvx) (fun r41 => ?_)
          refine wb_l2i_r (wb_l2i_id ⟨(by omega), (by omega)⟩) ?_
          refine wa_lload (n := 4) rfl ?_
          refine wa_cv 226 rfl (wy_pr rfl) wt_226 (M2 := mS [228, 229, 144, 145, 146, 147, 148]) rfl at_XK_askFor ⟨_, rfl⟩ rfl rfl ⟨trivial, trivial, trivial, (Or.inr ⟨wy_pr rfl, mS_no rfl⟩), trivial, trivial⟩ trivial (fun _ _ q => q) ?_ (fun _ _ _ q => q)
          refine wa_aload_n (n := 0) rfl ?_
          refine wb_gf4 226 rfl (wy_pr rfl) wt_226 wf_8_0 (v := 72) wl_226_0 ?_
          refine wb_gf4 72 rfl (wy_pr rfl) wt_72 wf_2_0 (v := 2) wl_72_0 ?_
          refine wa_aload_n (n := 0) rfl ?_
          refine wb_gf4 226 rfl (wy_pr rfl) wt_226 wf_8_0 (v := 72) wl_226_0 ?_
          refine wb_gf4 72 rfl (wy_pr rfl) wt_72 wf_2_0 (v := 2) wl_72_0 ?_
          refine wb_gf4 2 rfl (wy_pr rfl) wt_2 wf_9_0 (v := 3) wl_2_0 ?_
          refine wa_lload_n (n := 3) rfl ?_
          refine wa_cs (M2 := mS [228, 229, 144, 145, 146, 147, 148]) rfl at_X_sliceStart ⟨_, rfl⟩ rfl rfl ⟨(Or.inr ⟨wy_pr rfl, mS_no rfl⟩), trivial, trivial, trivial, trivial⟩ ⟨(Or.inr ⟨wy_pr rfl, mS_no rfl⟩), (Or.inr ⟨wy_pr rfl, mS_no rfl⟩), trivial⟩ (fun _ _ q => q) ?_ (fun _ _ _ q => q)
          refine wa_lload_n (n := 0) rfl ?_
          refine wa_bipush (w_rg2 (by omega) (by omega)) ?_
          refine wa_lushr ?_
          refine wb_l2i_r (y := s) (by rw [hvy]; exact sl_s ⟨by omega, by omega⟩ ⟨by omega, by omega⟩) ?_
          refine wa_ireturn rfl ?_
          show wJ _ _ _ _ _ _ _ _ _ _
          refine wa_lload_n (n := 3) rfl ?_
          refine wa_cs (M2 := mS [228, 229, 144, 145, 146, 147, 148]) rfl at_X_sliceSize ⟨_, rfl⟩ rfl rfl ⟨(Or.inr ⟨wy_pr rfl, mS_no rfl⟩), trivial, trivial, trivial, trivial⟩ ⟨trivial, (Or.inr ⟨wy_pr rfl, mS_no rfl⟩), (Or.inr ⟨wy_pr rfl, mS_no rfl⟩), trivial⟩ (fun _ _ q => q) ?_ (fun _ _ _ q => q)
          refine wa_lload_n (n := 0) rfl ?_
          refine wb_l2i_r (y := (x.length : Int)) (by rw [hvy]; exact sl_z ⟨by omega, by omega⟩ ⟨by omega, by omega⟩) ?_
          refine wa_ireturn rfl ?_
          show wJ _ _ _ _ _ _ _ _ _ _
          refine wa_cv 2 rfl (wy_pr rfl) wt_2 (M2 := mS []) rfl at_XW_nameAt ⟨_, rfl⟩ rfl rfl ⟨(Or.inr ⟨wy_pr rfl, mS_no rfl⟩), trivial, trivial, trivial, trivial⟩ trivial (fun _ _ q => mS_sub (by decide) q) (wJ_mono (c_nm hWd hWL hWv hN hs hp3 he) (fun o Z hz => (⟨hz.1, by rw [hnx]; exact hz.2⟩ : S = Z ∧ o = .inl (some (0, nx))))) (fun oq42 Sq42 hp43 q42 => ?_)
          rcases q42 with ⟨rfl, rfl⟩
          show wJ _ _ _ _ _ _ _ _ _ _
          refine wa_istore (n := 5) rfl ?_
          refine wa_iload_n (n := 1) rfl ?_
          refine wa_iconst ?_
          refine wa_icmpne (w_rg0 (by omega) (by omega)) (w_rg0 (by omega) (by omega)) ⟨_, rfl⟩ (fun c44 => ?_) (fun c44 => ?_)
          · skip
            refine wa_iload (n := 5) rfl ?_
            refine wa_iconst ?_
            refine wa_icmpne (w_rg0 (by omega) (by omega)) (w_rg0 (by omega) (by omega)) ⟨_, rfl⟩ (fun c45 => ?_) (fun c45 => ?_)
            · skip
              refine wa_aload_n (n := 0) rfl ?_
              refine wb_gf4 226 rfl (wy_pr rfl) wt_226 wf_8_0 (v := 72) wl_226_0 ?_
              refine wa_aload_n (n := 0) rfl ?_
              refine wb_gf4 226 rfl (wy_pr rfl) wt_226 wf_8_0 (v := 72) wl_226_0 ?_
              refine wb_gf4 72 rfl (wy_pr rfl) wt_72 wf_2_2 (v := 126) wl_72_2 ?_
              refine wa_iconst ?_
              refine wb_aald5 126 1 rfl rfl (wy_pr rfl) wt_126 (by rw [show _ = _ from ((cl_126 hC))]; omega) wl_126_1 ?_
              refine wa_iload_n (n := 2) rfl ?_
              refine wb_iald 128 rfl (wy_pr rfl) wt_128 (n := (S 127 (-1))) ((hth 1 (by decide))) (by omega) (by omega) (v := (tO T q).2.1) (e28) (fun r46 => ?_)
              refine wa_iload (n := 5) rfl ?_
              refine wa_cv 72 rfl (wy_pr rfl) wt_72 (M2 := mS []) rfl at_XH_indexIn ⟨_, rfl⟩ rfl rfl ⟨trivial, (Or.inr ⟨wy_pr rfl, mS_no rfl⟩), trivial, trivial, trivial, trivial⟩ trivial (fun _ _ q => mS_sub (by decide) q) (wJ_mono (c_ix hC hsw hw ⟨hsh.1, hsh.2⟩ ⟨by omega, by omega⟩) (fun o Z hz => (⟨hz.1, by rw [hiy2]; exact hz.2⟩ : S = Z ∧ o = .inl (some (0, iy))))) (fun oq47 Sq47 hp48 q47 => ?_)
              rcases q47 with ⟨rfl, rfl⟩
              show wJ _ _ _ _ _ _ _ _ _ _
              refine wa_fall ⟨_, rfl⟩ ?_
              refine wa_istore (n := 6) rfl ?_
              refine wa_iload (n := 6) rfl ?_
              refine wa_iconst ?_
              refine wa_icmpeq (w_rg0 (by omega) (by omega)) (w_rg0 (by omega) (by omega)) ⟨_, rfl⟩ (fun c49 => ?_) (fun c49 => ?_)
              · skip
                refine wa_aload_n (n := 0) rfl ?_
                refine wa_iconst ?_
                refine wa_iconst ?_
                refine wa_iload (n := 6) rfl ?_
                refine wa_iconst ?_
                refine wa_icmpeq (w_rg0 (by omega) (by omega)) (w_rg0 (by omega) (by omega)) ⟨_, rfl⟩ (fun c50 => ?_) (fun c50 => ?_)
                · skip
                  refine wb_lconst (m := 0) rfl ?_
                  refine wa_fall ⟨_, rfl⟩ ?_
                  refine wa_cv 226 rfl (wy_pr rfl) wt_226 (M2 := mS [228, 229]) rfl at_XK_give ⟨_, rfl⟩ rfl rfl ⟨trivial, trivial, (Or.inr ⟨wy_pr rfl, mS_no rfl⟩), trivial, trivial, trivial, trivial⟩ trivial (fun _ _ q => mS_sub (by decide) q) (gw_226 (S := S) (n := 2) (k := 1) (v := 0) (h := h) (c := c) (p := p) (ln := (S 228 (-1))) hC hI ⟨by omega, by omega⟩ ⟨by omega, by omega⟩ (bh) (bc) (bp) (rfl) (bl1) ⟨by omega, by omega⟩ ⟨by omega, by omega, by omega⟩ ⟨by omega, by omega⟩ ⟨by omega, by omega⟩) (fun oq51 Sq51 hp52 q51 => ?_)
                  rcases q51 with ⟨rfl, A51, ra51, rfl⟩
                  show wJ _ _ _ _ _ _ _ _ _ _
                  refine wa_return rfl ?_
                  show wJ _ _ _ _ _ _ _ _ _ _
                  refine wa_goto ⟨_, rfl⟩ ?_
                  refine wa_return rfl ?_
                  exact ⟨rfl, Or.inl ⟨by omega, A51, ra51, rfl⟩⟩
                · skip
                  exact absurd c50 (by omega)
              · skip
                refine wa_aload_n (n := 0) rfl ?_
                refine wb_gf4 226 rfl (wy_pr rfl) wt_226 wf_8_0 (v := 72) wl_226_0 ?_
                refine wa_iload_n (n := 2) rfl ?_
                refine wa_aload_n (n := 0) rfl ?_
                refine wb_gf4 226 rfl (wy_pr rfl) wt_226 wf_8_0 (v := 72) wl_226_0 ?_
                refine wa_iload_n (n := 2) rfl ?_
                refine wa_cv 72 rfl (wy_pr rfl) wt_72 (M2 := mS [228, 229, 144, 145, 146, 147, 148]) rfl at_XH_protoOf ⟨_, rfl⟩ rfl rfl ⟨trivial, trivial, (Or.inr ⟨wy_pr rfl, mS_no rfl⟩), trivial, trivial, trivial, trivial⟩ ⟨trivial, (Or.inr ⟨wy_pr rfl, mS_no rfl⟩), trivial⟩ (fun _ _ q => q) ?_ (fun _ _ _ q => q)
                refine wa_aload_n (n := 0) rfl ?_
                refine wb_gf4 72 rfl (wy_pr rfl) wt_72 wf_2_7 (v := 143) wl_72_7 ?_
                refine wa_iconst ?_
                refine wb_aald5 143 0 rfl rfl (wy_pr rfl) wt_143 (by rw [show _ = _ from ((cl_143 hC))]; omega) wl_143_0 ?_
                refine wa_aload_n (n := 0) rfl ?_
                refine wb_gf4 72 rfl (wy_pr rfl) wt_72 wf_2_2 (v := 126) wl_72_2 ?_
                refine wa_iconst ?_
                refine wb_aald5 126 1 rfl rfl (wy_pr rfl) wt_126 (by rw [show _ = _ from ((cl_126 hC))]; omega) wl_126_1 ?_
                refine wa_iload_n (n := 1) rfl ?_
                refine wb_iald 128 rfl (wy_pr rfl) wt_128 (n := (S 127 (-1))) ((hth 1 (by decide))) (by omega) (by omega) (v := (tO T q).2.1) (e28) (fun r53 => ?_)
                refine wb_iald 144 rfl (wy_pr rfl) wt_144 (n := (S 144 (-1))) (rfl) (by omega) (by omega) (v := pq) (e44) (fun r54 => ?_)
                refine wa_ireturn rfl ?_
                show wJ _ _ _ _ _ _ _ _ _ _
                refine wa_iload (n := 6) rfl ?_
                refine wa_cv 72 rfl (wy_pr rfl) wt_72 (M2 := mS [144, 145, 146, 147, 148]) rfl at_XH_reshaped ⟨_, rfl⟩ rfl rfl ⟨trivial, trivial, (Or.inr ⟨wy_pr rfl, mS_no rfl⟩), trivial, trivial, trivial, trivial⟩ trivial (fun _ _ q => mS_sub (by decide) q) (wJ_mono (c_re (k := q) (p := pq) (wo := iy) hC hI hx1 hW hsw hw hq hpr ⟨by omega, by omega⟩ hu4 hnb h56) (fun o Z hz => (by rw [hrr]; exact hz : (o = .inl (some (0, -1)) ∧ 4000 < S 150 4 + aMb H pq (fS iy (aNs H (tO T q).2.1) 0) ∧ oF S Z) ∨ (S 150 4 + aMb H pq (fS iy (aNs H (tO T q).2.1) 0) ≤ 4000 ∧ o = .inl (some (0, rr)) ∧ reQ pq iy q T H L G S Z)))) (fun oq55 Sq55 hp56 q55 => ?_)
                rcases q55 with ⟨rfl, hno, hoF⟩ | ⟨hyes, rfl, hre⟩
                · skip
                  show wJ _ _ _ _ _ _ _ _ _ _
                  refine wa_istore (n := 7) rfl ?_
                  refine wa_iload (n := 7) rfl ?_
                  refine wa_iconst ?_
                  refine wa_icmpne (w_rg0 (by omega) (by omega)) (w_rg0 (by omega) (by omega)) ⟨_, rfl⟩ (fun c57 => ?_) (fun c57 => ?_)
                  · skip
                    exact absurd c57 (by omega)
                  · skip
                    refine wa_aload_n (n := 0) rfl ?_
                    refine wa_bipush (w_rg2 (by omega) (by omega)) ?_
                    refine wb_pfi 226 rfl (wy_pr rfl) wt_226 wf_8_16 (n := 16) rfl ⟨(by omega), (by omega)⟩ ?_
                    refine wa_return rfl ?_
                    show wJ _ _ _ _ _ _ _ _ _ _
                    refine wa_goto ⟨_, rfl⟩ ?_
                    refine wa_return rfl ?_
                    exact ⟨rfl, Or.inr (Or.inl ⟨by omega, by omega, hno, Sq55, hoF, rfl⟩)⟩
                · skip
                  show wJ _ _ _ _ _ _ _ _ _ _
                  obtain ⟨hre1, hre2, ⟨hreC, hreG, hreR⟩, hre4, hreF⟩ := id hre
                  have hreL := hre2.2.2.2.2.1
                  have hds0 := nDs_H hw.1 hw.2.1 _ _ hsh.1 hsh.2 rfl
                  obtain ⟨rs1, rs2, rs3, rs4, rs5, rs6, rs7, rs8⟩ := rsh_ok (l := (fS iy (aNs H (tO T q).2.1) 0)) hw hpr (nDs_f _ _ hds0.1) (fun y hy => hds0.2 y (fS_m _ _ y hy)) (by omega)
                  have hrr0 : 0 ≤ rr ∧ rr < 1000000 := by
                    have hll := rs1.1.2.1
                    rw [hrr]; exact ⟨rs2.1, Int.lt_trans rs2.2 (by omega)⟩
                  have hlen : (aBr T H pq).1.length = T.length := (aBr_ok (l := (fS iy (aNs H (tO T q).2.1) 0)) hw hpr (by omega)).2.2.2.2.2.2.2
                  have hL2 := hreL.2
                  rw [hlen] at hL2
                  obtain ⟨hA3, ⟨hA4, hA5, hA6, hA7⟩, -⟩ := c_th hre2.1 (k := q) hq0.1 (by rw [hlen]; exact hq0.2)
                  have hepA : -1 ≤ Sq55 130 q ∧ Sq55 130 q ≤ 9000001 := by rw [hA3.2.2.2.2.1]; exact aBr_ep hw hpr hq hep hch
                  have hpl : (tO (aBr T H pq).1 q).2.2.2.2.2.2 = (tO T q).2.2.2.2.2.2 := congrArg (fun z => z.2) (aBr_t hpr hq0.1).2.2
                  rw [hpl] at hA4
                  obtain ⟨hcn5, ⟨hcn6, hcn7⟩, hcn8, hcn9⟩ := hre2.2.2.2.1.2
                  refine wa_istore (n := 7) rfl ?_
                  refine wa_iload (n := 7) rfl ?_
                  refine wa_iconst ?_
                  refine wa_icmpne (w_rg0 (by omega) (by omega)) (w_rg0 (by omega) (by omega)) ⟨_, rfl⟩ (fun c58 => ?_) (fun c58 => ?_)
                  · skip
                    refine wa_aload_n (n := 0) rfl ?_
                    refine wb_gf4 226 rfl (wy_pr rfl) wt_226 wf_8_0 (v := 72) wl_226_0 ?_
                    refine wb_gf4 72 rfl (wy_pr rfl) wt_72 wf_2_2 (v := 126) wl_72_2 ?_
                    refine wa_iconst ?_
                    refine wb_aald5 126 1 rfl rfl (wy_pr rfl) wt_126 (by rw [show _ = _ from (((hreF 126 (-1) (by decide) (by decide) (by unfold cMr; omega)).trans ((cl_126 hC))))]; omega) wl_126_1 ?_
                    refine wa_iload_n (n := 2) rfl ?_
                    refine wa_iload (n := 7) rfl ?_
                    refine wb_iast 128 rfl (wy_pr rfl) wt_128 (n := (Sq55 127 (-1))) ((hreL.1 1 (by decide))) (by omega) (by omega) ⟨(by omega), (by omega)⟩ ?_
                    refine wa_aload_n (n := 0) rfl ?_
                    refine wb_gf4 226 rfl (wy_pr rfl) wt_226 wf_8_0 (v := 72) wl_226_0 ?_
                    refine wa_iload_n (n := 2) rfl ?_
                    refine wa_iload (n := 6) rfl ?_
                    have dL7 : (w_up Sq55 128 q rr) 127 (-1) = Sq55 127 (-1) := w_up_no (by omega)
                    have d141 : (w_up Sq55 128 q rr) 141 (-1) = Sq55 141 (-1) := w_up_slot (by first | decide | omega)
                    have d142 : (w_up Sq55 128 q rr) 142 (-1) = Sq55 142 (-1) := w_up_slot (by first | decide | omega)
                    have d133 : (w_up Sq55 128 q rr) 133 q = Sq55 133 q := w_up_slot (by first | decide | omega)
                    have d134 : (w_up Sq55 128 q rr) 134 q = Sq55 134 q := w_up_slot (by first | decide | omega)
                    refine wa_cv 72 rfl (wy_pr rfl) wt_72 (M2 := mS []) rfl at_XH_dropValue ⟨_, rfl⟩ rfl rfl ⟨trivial, trivial, trivial, (Or.inr ⟨wy_pr rfl, mS_no rfl⟩), trivial, trivial, trivial, trivial⟩ trivial (fun _ _ q => mS_sub (by decide) q) (dv_ok (S := (w_up Sq55 128 q rr)) (k := q) (ix := iy) (st := Sq55 133 q) (sz := Sq55 134 q) (w_CL_up hreC (by omega)) (gI_up hreG (by omega) (by omega) (by omega)) (by rw [d142, d141]; exact hcn5) (by rw [d141]; exact hcn9) (fun x hx => (w_up_no (by omega)).trans ((hreL.1 x hx).trans (w_up_no (by omega)).symm)) ⟨by omega, by omega⟩ (by omega) d133 d134 ⟨by omega, by omega⟩ ⟨by omega, by omega⟩) (fun oq59 Sq59 hp60 q59 => ?_)
                    rcases q59 with ⟨rfl, hdv⟩
                    show wJ _ _ _ _ _ _ _ _ _ _
                    obtain ⟨B0, hdB, hBz⟩ := dv_sh (by omega) hdv
                    subst hBz
                    obtain ⟨-, -, -, hdB4, hdB5, hdB6⟩ := id hdB
                    have hBC := dv_cl hreC (by omega) hdB
                    have hBl : ∀ x : Nat, x < 10 → B0 (127 + x) (-1) = Sq55 (127 + x) (-1) := fun x hx => hdB4 (127 + x) (-1) (by omega) (by omega) (Or.inr (by omega))
                    have hBL : ∀ x : Nat, x < 10 → B0 (127 + x) (-1) = B0 127 (-1) := fun x hx => (hBl x hx).trans ((hreL.1 x hx).trans (hBl 0 (by first | decide | omega)).symm)
                    have hBL0 : B0 127 (-1) = Sq55 127 (-1) := hBl 0 (by first | decide | omega)
                    have hB130 : B0 130 q = Sq55 130 q := hdB4 130 q (by first | decide | omega) (by first | decide | omega) (Or.inl (by first | decide | omega))
                    refine wa_aload_n (n := 0) rfl ?_
                    refine wb_gf4 226 rfl (wy_pr rfl) wt_226 wf_8_0 (v := 72) wl_226_0 ?_
                    refine wa_iload_n (n := 2) rfl ?_
                    have e72 : (w_up B0 128 q rr) 72 11 = S 72 11 := ((w_up_slot (by first | decide | omega)).trans (((hdB4 72 11 (by first | decide | omega) (by first | decide | omega) (Or.inl (by first | decide | omega))).trans ((hreF 72 11 (by first | decide | omega) (by first | decide | omega) (by unfold cMr; omega))))))
                    have e130 : (w_up B0 128 q rr) 130 q = B0 130 q := w_up_slot (by first | decide | omega)
                    have eB72 : B0 72 11 = S 72 11 := (w_up_slot (by first | decide | omega)).symm.trans e72
                    have eL : ∀ x : Nat, x < 10 → (w_up B0 128 q rr) (127 + x) (-1) = (w_up B0 128 q rr) 127 (-1) := fun x hx => (w_up_no (by omega)).trans ((hBL x hx).trans (w_up_no (by omega)).symm)
                    have eL7 : (w_up B0 128 q rr) 127 (-1) = B0 127 (-1) := w_up_no (by omega)
                    refine wa_cv 72 rfl (wy_pr rfl) wt_72 (M2 := mS []) rfl at_XH_noteChange ⟨_, rfl⟩ rfl rfl ⟨trivial, trivial, trivial, (Or.inr ⟨wy_pr rfl, mS_no rfl⟩), trivial, trivial, trivial, trivial⟩ trivial (fun _ _ q => mS_sub (by decide) q) (wJ_mono (nc_ok (S := (w_up B0 128 q rr)) (k := q) (ep := B0 130 q) (ch := B0 72 11) eL ⟨by omega, by omega⟩ (by omega) e130 ⟨by omega, by omega⟩ (e72.trans eB72.symm) ⟨by omega, by omega⟩ (w_CL_up hBC (by omega))) (fun o Z hz => (⟨hz.1, hz.2⟩ : o = .inl none ∧ ncZ q rr (B0 130 q) (B0 72 11) B0 = Z))) (fun oq61 Sq61 hp62 q61 => ?_)
                    rcases q61 with ⟨rfl, rfl⟩
                    show wJ _ _ _ _ _ _ _ _ _ _
                    refine wa_fall ⟨_, rfl⟩ ?_
                    refine wa_aload_n (n := 0) rfl ?_
                    refine wa_iconst ?_
                    refine wa_iconst ?_
                    refine wa_iload (n := 6) rfl ?_
                    refine wa_iconst ?_
                    refine wa_icmpeq (w_rg0 (by omega) (by omega)) (w_rg0 (by omega) (by omega)) ⟨_, rfl⟩ (fun c63 => ?_) (fun c63 => ?_)
                    · skip
                      exact absurd c63 (by omega)
                    · skip
                      refine wb_lconst (m := 1) rfl ?_
                      refine wa_goto ⟨_, rfl⟩ ?_
                      refine wa_cv 226 rfl (wy_pr rfl) wt_226 (M2 := mS [228, 229]) rfl at_XK_give ⟨_, rfl⟩ rfl rfl ⟨trivial, trivial, trivial, (Or.inr ⟨wy_pr rfl, mS_no rfl⟩), trivial, trivial, trivial, trivial⟩ trivial (fun _ _ q => mS_sub (by decide) q) (gw_226 (S := (ncZ q rr (B0 130 q) (B0 72 11) B0)) (n := 2) (k := 1) (v := 1) (h := h) (c := c) (p := p) (ln := (S 228 (-1))) (ncZ_c hBC (by omega)) (ncZ_g hdB5 (by omega)) ⟨by omega, by omega⟩ ⟨by omega, by omega⟩ (((ncZ_e 227 2 (by decide) (by omega)).trans (((hdB4 227 2 (by decide) (by decide) (Or.inl (by decide))).trans (((hreF 227 2 (by decide) (by decide) (by unfold cMr; omega)).trans (bh))))))) (((ncZ_e 226 4 (by decide) (by omega)).trans (((hdB4 226 4 (by decide) (by decide) (Or.inl (by decide))).trans (((hreF 226 4 (by decide) (by decide) (by unfold cMr; omega)).trans (bc))))))) (((ncZ_e 231 (c - 1) (by decide) (by omega)).trans (((hdB4 231 (c - 1) (by decide) (by decide) (Or.inl (by decide))).trans (((hreF 231 (c - 1) (by decide) (by decide) (by unfold cMr; omega)).trans (bp))))))) (((ncZ_e 228 (-1) (by decide) (by omega)).trans (((hdB4 228 (-1) (by decide) (by decide) (Or.inl (by decide))).trans (((hreF 228 (-1) (by decide) (by decide) (by unfold cMr; omega)).trans (rfl))))))) (((ncZ_e 229 (-1) (by decide) (by omega)).trans (((hdB4 229 (-1) (by decide) (by decide) (Or.inl (by decide))).trans (((hreF 229 (-1) (by decide) (by decide) (by unfold cMr; omega)).trans (bl1))))))) ⟨by omega, by omega⟩ ⟨by omega, by omega, by omega⟩ ⟨by omega, by omega⟩ ⟨by omega, by omega⟩) (fun oq64 Sq64 hp65 q64 => ?_)
                      rcases q64 with ⟨rfl, A64, ra64, rfl⟩
                      show wJ _ _ _ _ _ _ _ _ _ _
                      refine wa_return rfl ?_
                      show wJ _ _ _ _ _ _ _ _ _ _
                      refine wa_goto ⟨_, rfl⟩ ?_
                      refine wa_return rfl ?_
                      exact ⟨rfl, Or.inr (Or.inr ⟨by omega, by omega, hyes, Sq55, B0, hre, hdB, A64, ra64, rfl⟩)⟩
                  · skip
                    exact absurd c58 (by omega)
            · skip
              refine wa_iconst ?_
              refine wa_goto ⟨_, rfl⟩ ?_
              refine wa_istore (n := 6) rfl ?_
              refine wa_iload (n := 6) rfl ?_
              refine wa_iconst ?_
              refine wa_icmpeq (w_rg0 (by omega) (by omega)) (w_rg0 (by omega) (by omega)) ⟨_, rfl⟩ (fun c66 => ?_) (fun c66 => ?_)
              · skip
                refine wa_aload_n (n := 0) rfl ?_
                refine wa_iconst ?_
                refine wa_iconst ?_
                refine wa_iload (n := 6) rfl ?_
                refine wa_iconst ?_
                refine wa_icmpeq (w_rg0 (by omega) (by omega)) (w_rg0 (by omega) (by omega)) ⟨_, rfl⟩ (fun c67 => ?_) (fun c67 => ?_)
                · skip
                  refine wb_lconst (m := 0) rfl ?_
                  refine wa_fall ⟨_, rfl⟩ ?_
                  refine wa_cv 226 rfl (wy_pr rfl) wt_226 (M2 := mS [228, 229]) rfl at_XK_give ⟨_, rfl⟩ rfl rfl ⟨trivial, trivial, (Or.inr ⟨wy_pr rfl, mS_no rfl⟩), trivial, trivial, trivial, trivial⟩ trivial (fun _ _ q => mS_sub (by decide) q) (gw_226 (S := S) (n := 2) (k := 1) (v := 0) (h := h) (c := c) (p := p) (ln := (S 228 (-1))) hC hI ⟨by omega, by omega⟩ ⟨by omega, by omega⟩ (bh) (bc) (bp) (rfl) (bl1) ⟨by omega, by omega⟩ ⟨by omega, by omega, by omega⟩ ⟨by omega, by omega⟩ ⟨by omega, by omega⟩) (fun oq68 Sq68 hp69 q68 => ?_)
                  rcases q68 with ⟨rfl, A68, ra68, rfl⟩
                  show wJ _ _ _ _ _ _ _ _ _ _
                  refine wa_return rfl ?_
                  show wJ _ _ _ _ _ _ _ _ _ _
                  refine wa_goto ⟨_, rfl⟩ ?_
                  refine wa_return rfl ?_
                  exact ⟨rfl, Or.inl ⟨by omega, A68, ra68, rfl⟩⟩
                · skip
                  exact absurd c67 (by omega)
              · skip
                exact absurd c66 (by omega)
          · skip
            exact absurd c44 (by omega)
theorem zb4_226 {nx : Int} (h : stC 226 S K) (hi : cIn S K 28 4 b) (hx1 : pe_at (pe_GA xs).xs 1 = some (1, tx_1)) (hWd : wd_at S 2 1024) (hWL : wd_L S 2 1024) (hWv : wv_L S 2) (hN : cL 9 10 N S) (hp3 : cTt S) (hW : cWd S T L G) (hsw : cSw S T H) (hwS : wSh T H) (hT : (T.length : Int) ≤ 8000) (hu4 : 0 ≤ S 150 4 ∧ S 150 4 ≤ 4000 ∧ (H.length : Int) ≤ S 150 4 + 1) (hnb : ∀ s : Int, 0 ≤ s → s < (H.length : Int) → qNm H s ≤ 100000) (hch : 0 ≤ S 72 11 ∧ S 72 11 ≤ 9000000) (hep : ∀ k : Int, isO T k → (tO T k).2.2.2.2.1 ≤ S 72 11) (h56 : S 156 (-1) = 65) (hh1 : 2 ≤ K.1.length) (hx : (K.1.getD (K.1.length - 2) (0, 0, [])).1 = 4 ∨ (K.1.getD (K.1.length - 2) (0, 0, [])).1 = 5) (hq : isO T (K.1.getD (K.1.length - 2) (0, 0, [])).2.1) (hy : (K.1.getD (K.1.length - 1) (0, 0, [])).1 = 3) (hnx : nx = ixL N (K.1.getD (K.1.length - 1) (0, 0, [])).2.2) (hm0 : nx ≠ -1 ∧ (aIx T nx (K.1.getD (K.1.length - 2) (0, 0, [])).2.1) ≠ -1) (hm : S 150 4 + aMb H (aPr T H (K.1.getD (K.1.length - 2) (0, 0, [])).2.1) (fS (aIx T nx (K.1.getD (K.1.length - 2) (0, 0, [])).2.1) (aNs H (tO T (K.1.getD (K.1.length - 2) (0, 0, [])).2.1).2.1) 0) ≤ 4000) : cSm xs d 226 [228, 229, 144, 145, 146, 147, 148] cMd S (kP K 2 (1, 1, [])) (fun Z => cWd Z (tNc (tDp (rsT T H (aPr T H (K.1.getD (K.1.length - 2) (0, 0, [])).2.1)) (K.1.getD (K.1.length - 2) (0, 0, [])).2.1 (aIx T nx (K.1.getD (K.1.length - 2) (0, 0, [])).2.1)) (K.1.getD (K.1.length - 2) (0, 0, [])).2.1 (rsS T H (aPr T H (K.1.getD (K.1.length - 2) (0, 0, [])).2.1) (fS (aIx T nx (K.1.getD (K.1.length - 2) (0, 0, [])).2.1) (aNs H (tO T (K.1.getD (K.1.length - 2) (0, 0, [])).2.1).2.1) 0)) (S 72 11)) L G ∧ cSw Z (tNc (tDp (rsT T H (aPr T H (K.1.getD (K.1.length - 2) (0, 0, [])).2.1)) (K.1.getD (K.1.length - 2) (0, 0, [])).2.1 (aIx T nx (K.1.getD (K.1.length - 2) (0, 0, [])).2.1)) (K.1.getD (K.1.length - 2) (0, 0, [])).2.1 (rsS T H (aPr T H (K.1.getD (K.1.length - 2) (0, 0, [])).2.1) (fS (aIx T nx (K.1.getD (K.1.length - 2) (0, 0, [])).2.1) (aNs H (tO T (K.1.getD (K.1.length - 2) (0, 0, [])).2.1).2.1) 0)) (S 72 11)) (rsH T H (aPr T H (K.1.getD (K.1.length - 2) (0, 0, [])).2.1) (fS (aIx T nx (K.1.getD (K.1.length - 2) (0, 0, [])).2.1) (aNs H (tO T (K.1.getD (K.1.length - 2) (0, 0, [])).2.1).2.1) 0)) ∧ (Z 150 4 = S 150 4 + aMb H (aPr T H (K.1.getD (K.1.length - 2) (0, 0, [])).2.1) (fS (aIx T nx (K.1.getD (K.1.length - 2) (0, 0, [])).2.1) (aNs H (tO T (K.1.getD (K.1.length - 2) (0, 0, [])).2.1).2.1) 0) ∧ ∀ x : Int, x ≠ 4 → Z 150 x = S 150 x) ∧ Z 72 11 = S 72 11 + (if (tO (rsT T H (aPr T H (K.1.getD (K.1.length - 2) (0, 0, [])).2.1)) (K.1.getD (K.1.length - 2) (0, 0, [])).2.1).2.2.2.2.1 = -1 then 0 else 1) ∧ (cPo S → cPo Z)) := by
  obtain ⟨h1, ⟨h2, h2b⟩, ⟨h3, h4, h5⟩, -⟩ := id h
  have hk : cTk 226 (w_up S 226 16 0) K := cTk_16 h1 (Or.inr rfl)
  have hf : cFr 226 S (w_up S 226 16 0) := cFr_up (Or.inr rfl) (cFr_rfl h2b) (by first | decide | omega) (by omega)
  have hcy := c_at h1 (i := K.1.length - 1) (by omega) (j := (K.1.length : Int) - 1) (by omega)
  have hcx := c_at h1 (i := K.1.length - 2) (by omega) (j := (K.1.length : Int) - 1 - 1) (by omega)
  have hvx : S 229 ((K.1.length : Int) - 1 - 1) = (K.1.getD (K.1.length - 2) (0, 0, [])).2.1 := cV_v hcx (by omega)
  obtain ⟨s, s1, s2, s3⟩ := cV_t hcy hy
  have ef : ∀ (j : Nat) (x : Int), j < 215 → (w_up S 226 16 0) j x = S j x := fun j x j0 => w_up_slot (by omega)
  have ek : ∀ j : Nat, j < 215 → (w_up S 226 16 0) j = S j := fun j j0 => funext (fun x => ef j x j0)
  have hWd2 : wd_at (w_up S 226 16 0) 2 1024 := wd_at_ag hWd (fun x hx => ek (2 + x) (by omega))
  have hWL2 : wd_L (w_up S 226 16 0) 2 1024 := wd_L_ag hWL (fun x hx => ef (2 + x) _ (by omega))
  have hWv2 : wv_L (w_up S 226 16 0) 2 := by
    unfold wv_L
    rw [ek 7 (by first | decide | omega), ek 9 (by first | decide | omega), ek 8 (by first | decide | omega), ek 10 (by first | decide | omega), ef 2 10 (by first | decide | omega), ef 2 7 (by first | decide | omega), ef 2 12 (by first | decide | omega)]
    exact hWv
  have hN2 : cL 9 10 N (w_up S 226 16 0) := by
    unfold cL wqL
    rw [ef 2 10 (by first | decide | omega), ef 2 7 (by first | decide | omega), ek 9 (by first | decide | omega), ek 3 (by first | decide | omega), ek 4 (by first | decide | omega), ek 5 (by first | decide | omega)]
    exact hN
  have e4 : (w_up S 226 16 0) 150 4 = S 150 4 := ef 150 4 (by first | decide | omega)
  have e11 : (w_up S 226 16 0) 72 11 = S 72 11 := ef 72 11 (by first | decide | omega)
  have hcal := xb4_226 (xs := xs) (d := d) (x := (K.1.getD (K.1.length - 1) (0, 0, [])).2.2) (s := s) (nx := nx) (xP_of (Or.inr rfl) h) hx1 ((w_up_slot (by first | decide | omega)).trans (hcy.1.trans hy)) rfl ((w_up_slot (by first | decide | omega)).trans hcx.1) ((w_up_slot (by first | decide | omega)).trans hvx) (by omega) ((w_up_slot (by first | decide | omega)).trans s1) (by rw [ef 2 1 (by first | decide | omega)]; exact s2) (fun i hi2 => (ef 3 _ (by first | decide | omega)).trans (s3 i hi2)) hWd2 hWL2 hWv2 hN2 (by rw [ef 2 1 (by first | decide | omega), ef 3 _ (by first | decide | omega)]; exact ⟨hp3.2.1, hp3.2.2⟩) (cSw_up hsw (by first | decide | omega)) (cWd_up hW (by first | decide | omega)) hwS hq hT hx (by rw [e4]; exact hu4) hnb (by rw [e11]; exact hch) (by rw [e11]; exact hep) (by rw [ef 156 _ (by first | decide | omega)]; exact h56) hnx
  have poT : cPo S → cPo (w_up S 226 16 0) := fun po => cPo_ag po (ef 72 3 (by first | decide | omega)) (fun x => ⟨ef 134 x (by first | decide | omega), ef 135 x (by first | decide | omega)⟩) (ef 140 2 (by first | decide | omega)) (ef 150 1 (by first | decide | omega))
  have hpr := wSh_pr hwS hq
  have hlen : (rsT T H (aPr T H (K.1.getD (K.1.length - 2) (0, 0, [])).2.1)).length = T.length := (aBr_ok (l := (fS (aIx T nx (K.1.getD (K.1.length - 2) (0, 0, [])).2.1) (aNs H (tO T (K.1.getD (K.1.length - 2) (0, 0, [])).2.1).2.1) 0)) hwS hpr (by have := hwS.1.2.1; omega)).2.2.2.2.2.2.2
  have hir := aIx_rg (T := T) (nm := nx) (k := (K.1.getD (K.1.length - 2) (0, 0, [])).2.1)
  have hpl : (tO (aBr T H (aPr T H (K.1.getD (K.1.length - 2) (0, 0, [])).2.1)).1 (K.1.getD (K.1.length - 2) (0, 0, [])).2.1).2.2.2.2.2.2 = (tO T (K.1.getD (K.1.length - 2) (0, 0, [])).2.1).2.2.2.2.2.2 := congrArg (fun z => z.2) (aBr_t hpr hq.1.1).2.2
  refine cg_b_226 h hi.1 hi.2.1 hi.2.2 (by first | decide | omega) (fun q => by omega) (by first | decide | omega) (by unfold mS; decide) hcal (fun Z hz => ?_)
  rcases hz with ⟨z, -⟩ | ⟨-, -, z, -⟩ | ⟨-, -, -, A, B, hA, hB, hs⟩
  · omega
  · rw [e4] at z; omega
  · obtain ⟨g1, g2, g3, g4, ⟨g5, g6⟩, g7, g8, g9⟩ := dr_tail (m := 2) (u := (1, 1, [])) (Or.inr rfl) hk h3 h4 hh1 hq.1 hlen ⟨by omega, by rw [show (tO (rsT T H (aPr T H (K.1.getD (K.1.length - 2) (0, 0, [])).2.1)) (K.1.getD (K.1.length - 2) (0, 0, [])).2.1).2.2.2.2.2.2 = (tO T (K.1.getD (K.1.length - 2) (0, 0, [])).2.1).2.2.2.2.2.2 from hpl]; exact hir.2⟩ hA hB hs (by first | decide | omega) rfl
    rw [e11] at g2 g3 g7
    exact ⟨g9.trans (w_up_same _ _ _ _), g1, cFm_tr (cFm_r hf) g4, g2, g3, ⟨g5.trans (by rw [e4]), fun x hx4 => (g6 x hx4).trans (ef 150 x (by first | decide | omega))⟩, g7, fun po => g8 (poT po)⟩
theorem zb4n_226 {nx : Int} (h : stC 226 S K) (hi : cIn S K 28 4 b) (hx1 : pe_at (pe_GA xs).xs 1 = some (1, tx_1)) (hWd : wd_at S 2 1024) (hWL : wd_L S 2 1024) (hWv : wv_L S 2) (hN : cL 9 10 N S) (hp3 : cTt S) (hW : cWd S T L G) (hsw : cSw S T H) (hwS : wSh T H) (hT : (T.length : Int) ≤ 8000) (hu4 : 0 ≤ S 150 4 ∧ S 150 4 ≤ 4000 ∧ (H.length : Int) ≤ S 150 4 + 1) (hnb : ∀ s : Int, 0 ≤ s → s < (H.length : Int) → qNm H s ≤ 100000) (hch : 0 ≤ S 72 11 ∧ S 72 11 ≤ 9000000) (hep : ∀ k : Int, isO T k → (tO T k).2.2.2.2.1 ≤ S 72 11) (h56 : S 156 (-1) = 65) (hh1 : 2 ≤ K.1.length) (hx : (K.1.getD (K.1.length - 2) (0, 0, [])).1 = 4 ∨ (K.1.getD (K.1.length - 2) (0, 0, [])).1 = 5) (hq : isO T (K.1.getD (K.1.length - 2) (0, 0, [])).2.1) (hy : (K.1.getD (K.1.length - 1) (0, 0, [])).1 = 3) (hnx : nx = ixL N (K.1.getD (K.1.length - 1) (0, 0, [])).2.2) (hm0 : nx = -1 ∨ (aIx T nx (K.1.getD (K.1.length - 2) (0, 0, [])).2.1) = -1) : cSx xs d 226 [228, 229, 144, 145, 146, 147, 148] S (kP K 2 (1, 0, [])) := by
  obtain ⟨h1, ⟨h2, h2b⟩, ⟨h3, h4, h5⟩, -⟩ := id h
  have hk : cTk 226 (w_up S 226 16 0) K := cTk_16 h1 (Or.inr rfl)
  have hf : cFr 226 S (w_up S 226 16 0) := cFr_up (Or.inr rfl) (cFr_rfl h2b) (by first | decide | omega) (by omega)
  have hcy := c_at h1 (i := K.1.length - 1) (by omega) (j := (K.1.length : Int) - 1) (by omega)
  have hcx := c_at h1 (i := K.1.length - 2) (by omega) (j := (K.1.length : Int) - 1 - 1) (by omega)
  have hvx : S 229 ((K.1.length : Int) - 1 - 1) = (K.1.getD (K.1.length - 2) (0, 0, [])).2.1 := cV_v hcx (by omega)
  obtain ⟨s, s1, s2, s3⟩ := cV_t hcy hy
  have ef : ∀ (j : Nat) (x : Int), j < 215 → (w_up S 226 16 0) j x = S j x := fun j x j0 => w_up_slot (by omega)
  have ek : ∀ j : Nat, j < 215 → (w_up S 226 16 0) j = S j := fun j j0 => funext (fun x => ef j x j0)
  have hWd2 : wd_at (w_up S 226 16 0) 2 1024 := wd_at_ag hWd (fun x hx => ek (2 + x) (by omega))
  have hWL2 : wd_L (w_up S 226 16 0) 2 1024 := wd_L_ag hWL (fun x hx => ef (2 + x) _ (by omega))
  have hWv2 : wv_L (w_up S 226 16 0) 2 := by
    unfold wv_L
    rw [ek 7 (by first | decide | omega), ek 9 (by first | decide | omega), ek 8 (by first | decide | omega), ek 10 (by first | decide | omega), ef 2 10 (by first | decide | omega), ef 2 7 (by first | decide | omega), ef 2 12 (by first | decide | omega)]
    exact hWv
  have hN2 : cL 9 10 N (w_up S 226 16 0) := by
    unfold cL wqL
    rw [ef 2 10 (by first | decide | omega), ef 2 7 (by first | decide | omega), ek 9 (by first | decide | omega), ek 3 (by first | decide | omega), ek 4 (by first | decide | omega), ek 5 (by first | decide | omega)]
    exact hN
  have e4 : (w_up S 226 16 0) 150 4 = S 150 4 := ef 150 4 (by first | decide | omega)
  have e11 : (w_up S 226 16 0) 72 11 = S 72 11 := ef 72 11 (by first | decide | omega)
  have hcal := xb4_226 (xs := xs) (d := d) (x := (K.1.getD (K.1.length - 1) (0, 0, [])).2.2) (s := s) (nx := nx) (xP_of (Or.inr rfl) h) hx1 ((w_up_slot (by first | decide | omega)).trans (hcy.1.trans hy)) rfl ((w_up_slot (by first | decide | omega)).trans hcx.1) ((w_up_slot (by first | decide | omega)).trans hvx) (by omega) ((w_up_slot (by first | decide | omega)).trans s1) (by rw [ef 2 1 (by first | decide | omega)]; exact s2) (fun i hi2 => (ef 3 _ (by first | decide | omega)).trans (s3 i hi2)) hWd2 hWL2 hWv2 hN2 (by rw [ef 2 1 (by first | decide | omega), ef 3 _ (by first | decide | omega)]; exact ⟨hp3.2.1, hp3.2.2⟩) (cSw_up hsw (by first | decide | omega)) (cWd_up hW (by first | decide | omega)) hwS hq hT hx (by rw [e4]; exact hu4) hnb (by rw [e11]; exact hch) (by rw [e11]; exact hep) (by rw [ef 156 _ (by first | decide | omega)]; exact h56) hnx
  exact cs_b_226 (m := 2) h hi.1 hi.2.1 hi.2.2 (by first | decide | omega) (fun q => by omega) (by first | decide | omega) (by unfold mS; decide) (wJ_mono hcal (fun o Z hz => ⟨hz.1, by
    rcases hz.2 with ⟨-, z⟩ | ⟨z1, z2, -⟩ | ⟨z1, z2, -⟩
    · exact z
    · omega
    · omega⟩)) rfl hh1 (cV_e (by first | decide | omega) rfl)
theorem zb4m_226 {nx : Int} (h : stC 226 S K) (hi : cIn S K 28 4 b) (hx1 : pe_at (pe_GA xs).xs 1 = some (1, tx_1)) (hWd : wd_at S 2 1024) (hWL : wd_L S 2 1024) (hWv : wv_L S 2) (hN : cL 9 10 N S) (hp3 : cTt S) (hW : cWd S T L G) (hsw : cSw S T H) (hwS : wSh T H) (hT : (T.length : Int) ≤ 8000) (hu4 : 0 ≤ S 150 4 ∧ S 150 4 ≤ 4000 ∧ (H.length : Int) ≤ S 150 4 + 1) (hnb : ∀ s : Int, 0 ≤ s → s < (H.length : Int) → qNm H s ≤ 100000) (hch : 0 ≤ S 72 11 ∧ S 72 11 ≤ 9000000) (hep : ∀ k : Int, isO T k → (tO T k).2.2.2.2.1 ≤ S 72 11) (h56 : S 156 (-1) = 65) (hh1 : 2 ≤ K.1.length) (hx : (K.1.getD (K.1.length - 2) (0, 0, [])).1 = 4 ∨ (K.1.getD (K.1.length - 2) (0, 0, [])).1 = 5) (hq : isO T (K.1.getD (K.1.length - 2) (0, 0, [])).2.1) (hy : (K.1.getD (K.1.length - 1) (0, 0, [])).1 = 3) (hnx : nx = ixL N (K.1.getD (K.1.length - 1) (0, 0, [])).2.2) (hm0 : nx ≠ -1 ∧ (aIx T nx (K.1.getD (K.1.length - 2) (0, 0, [])).2.1) ≠ -1) (hm : 4000 < S 150 4 + aMb H (aPr T H (K.1.getD (K.1.length - 2) (0, 0, [])).2.1) (fS (aIx T nx (K.1.getD (K.1.length - 2) (0, 0, [])).2.1) (aNs H (tO T (K.1.getD (K.1.length - 2) (0, 0, [])).2.1).2.1) 0)) : cSo xs d 226 [228, 229, 144, 145, 146, 147, 148] cMo S K := by
  obtain ⟨h1, ⟨h2, h2b⟩, ⟨h3, h4, h5⟩, -⟩ := id h
  have hk : cTk 226 (w_up S 226 16 0) K := cTk_16 h1 (Or.inr rfl)
  have hf : cFr 226 S (w_up S 226 16 0) := cFr_up (Or.inr rfl) (cFr_rfl h2b) (by first | decide | omega) (by omega)
  have hcy := c_at h1 (i := K.1.length - 1) (by omega) (j := (K.1.length : Int) - 1) (by omega)
  have hcx := c_at h1 (i := K.1.length - 2) (by omega) (j := (K.1.length : Int) - 1 - 1) (by omega)
  have hvx : S 229 ((K.1.length : Int) - 1 - 1) = (K.1.getD (K.1.length - 2) (0, 0, [])).2.1 := cV_v hcx (by omega)
  obtain ⟨s, s1, s2, s3⟩ := cV_t hcy hy
  have ef : ∀ (j : Nat) (x : Int), j < 215 → (w_up S 226 16 0) j x = S j x := fun j x j0 => w_up_slot (by omega)
  have ek : ∀ j : Nat, j < 215 → (w_up S 226 16 0) j = S j := fun j j0 => funext (fun x => ef j x j0)
  have hWd2 : wd_at (w_up S 226 16 0) 2 1024 := wd_at_ag hWd (fun x hx => ek (2 + x) (by omega))
  have hWL2 : wd_L (w_up S 226 16 0) 2 1024 := wd_L_ag hWL (fun x hx => ef (2 + x) _ (by omega))
  have hWv2 : wv_L (w_up S 226 16 0) 2 := by
    unfold wv_L
    rw [ek 7 (by first | decide | omega), ek 9 (by first | decide | omega), ek 8 (by first | decide | omega), ek 10 (by first | decide | omega), ef 2 10 (by first | decide | omega), ef 2 7 (by first | decide | omega), ef 2 12 (by first | decide | omega)]
    exact hWv
  have hN2 : cL 9 10 N (w_up S 226 16 0) := by
    unfold cL wqL
    rw [ef 2 10 (by first | decide | omega), ef 2 7 (by first | decide | omega), ek 9 (by first | decide | omega), ek 3 (by first | decide | omega), ek 4 (by first | decide | omega), ek 5 (by first | decide | omega)]
    exact hN
  have e4 : (w_up S 226 16 0) 150 4 = S 150 4 := ef 150 4 (by first | decide | omega)
  have e11 : (w_up S 226 16 0) 72 11 = S 72 11 := ef 72 11 (by first | decide | omega)
  have hcal := xb4_226 (xs := xs) (d := d) (x := (K.1.getD (K.1.length - 1) (0, 0, [])).2.2) (s := s) (nx := nx) (xP_of (Or.inr rfl) h) hx1 ((w_up_slot (by first | decide | omega)).trans (hcy.1.trans hy)) rfl ((w_up_slot (by first | decide | omega)).trans hcx.1) ((w_up_slot (by first | decide | omega)).trans hvx) (by omega) ((w_up_slot (by first | decide | omega)).trans s1) (by rw [ef 2 1 (by first | decide | omega)]; exact s2) (fun i hi2 => (ef 3 _ (by first | decide | omega)).trans (s3 i hi2)) hWd2 hWL2 hWv2 hN2 (by rw [ef 2 1 (by first | decide | omega), ef 3 _ (by first | decide | omega)]; exact ⟨hp3.2.1, hp3.2.2⟩) (cSw_up hsw (by first | decide | omega)) (cWd_up hW (by first | decide | omega)) hwS hq hT hx (by rw [e4]; exact hu4) hnb (by rw [e11]; exact hch) (by rw [e11]; exact hep) (by rw [ef 156 _ (by first | decide | omega)]; exact h56) hnx
  refine wJ_mono (cm_b_226 (R := fun Z => ∃ A : wS, oF (w_up S 226 16 0) A ∧ w_up A 226 16 99 = Z) h hi.1 hi.2.1 hi.2.2 (by first | decide | omega) (fun q => by omega) (by first | decide | omega) (by unfold mS; decide) (wJ_mono hcal (fun o Z hz => ⟨hz.1, by
    rcases hz.2 with ⟨z, -⟩ | ⟨-, -, -, z⟩ | ⟨-, -, z, -⟩
    · omega
    · exact z
    · rw [e4] at z; omega⟩)) (fun Z hz => by obtain ⟨A, -, rfl⟩ := hz; exact w_up_same _ _ _ _)) (fun o Z2 hz => ?_)
  obtain ⟨hz0, Z, ⟨A, hA, rfl⟩, rfl⟩ := hz
  exact ⟨hz0, cTk_st (cTk_16 (oF_tk (Or.inr rfl) hA hk) (Or.inr rfl)) (Or.inr rfl), cFm_up (Or.inr rfl) (cFm_up (Or.inr rfl) (cFm_tr (cFm_r hf) (oF_fm (Or.inr rfl) hA)) (by first | decide | omega) (Or.inl (by omega)) (by first | decide | omega)) (by first | decide | omega) (Or.inl (by omega)) (by first | decide | omega)⟩
end Wft
