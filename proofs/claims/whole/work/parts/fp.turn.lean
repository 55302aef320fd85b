/-! PART fp: turn, of both, by tasks and worlds. -/
section Wfp
variable {xs : List (Nat × List Int32)} {M : Nat → Prop} {d : Nat} {S S0 Z A B : wS} {H : List aH} {T : List aO} {L : List aC} {G : Int → aV} {sl : Nat → List Int} {K : aK} {t b q o1 : Int} {w : Nat}
/-- what turn may change of the class -/
def cMt (j : Nat) (x : Int) : Prop := (144 ≤ j ∧ j ≤ 149) ∨ (j = 72 ∧ (x = 8 ∨ x = 11)) ∨ (j = 150 ∧ x = 4) ∨ (j = 156 ∧ 0 ≤ x) ∨ j = 128 ∨ (130 ≤ j ∧ j ≤ 132)
def cMo (j : Nat) (x : Int) : Prop := j = 156 ∧ 0 ≤ x
def rMt (j : Nat) (x : Int) : Prop := (329 ≤ j ∧ j ≤ 332) ∨ (j = 237 ∧ (x = 66 ∨ x = 87 ∨ x = 81)) ∨ j = 315 ∨ (322 ≤ j ∧ j ≤ 324)
/-- a step that ends for want of memory; what mk says may have changed -/
def cSo (xs : List (Nat × List Int32)) (d w : Nat) (ml : List Nat) (mk : Nat → Int → Prop) (S : wS) (K : aK) : Prop := wJ (pe_GA xs) wY0 (mS ml) (d + 12) t_XK_step ((pe_at t_XK_step.bl 0).getD (0, [])).2 [(0, (2, w))] [] S (fun o Z => o = .inl (some (0, 0)) ∧ cTk w Z (kSt K) ∧ cFm w mk S Z)
/-- a step, of a method that may make rows grow -/
def cSx (xs : List (Nat × List Int32)) (d w : Nat) (ml : List Nat) (S : wS) (K2 : aK) : Prop := wJ (pe_GA xs) wY0 (mS ml) (d + 12) t_XK_step ((pe_at t_XK_step.bl 0).getD (0, [])).2 [(0, (2, w))] [] S (fun o Z => o = .inl (some (0, 1)) ∧ cTk w Z K2 ∧ cFr w S Z)
theorem oF_fm (hw : w = 215 ∨ w = 226) (h : oF S Z) : cFm w cMo S Z := by
  refine ⟨fun j x _ _ _ j3 => h.1 j x (by unfold cMo at j3; omega), fun j j0 j1 => h.1 j (-1) (by omega), h.2.1, h.2.2⟩
theorem oF_tk (hw : w = 215 ∨ w = 226) (h : oF S Z) (hk : cTk w S K) : cTk w Z K := cTk_fr hk (cTx_of (h.1 2 1 (by first | decide | omega)) (fun x => h.1 3 x (Or.inl (by first | decide | omega)))) (fun j x j0 j1 => h.1 j x (by omega))
/-- the class behind reshaped and noteChange -/
theorem re_fm {k wo : Int} (hw : w = 215 ∨ w = 226) (h : reQ q wo k T H L G S A) : cFm w cMt S A := by
  have hg : wG = 1000000 := rfl
  obtain ⟨-, -, ⟨-, g2, g3⟩, -, fr⟩ := h
  exact ⟨fun j x j0 j1 _ j3 => fr j x j0 j1 (by unfold cMt at j3; unfold cMr; omega), fun j j0 j1 => fr j (-1) (by omega) (by omega) (by unfold cMr; omega), g2, g3⟩
theorem nc_fm {sh e ch : Int} (hw : w = 215 ∨ w = 226) (h : gI A) (ho : 0 ≤ o1) : cFm w cMt A (ncZ o1 sh e ch A) := by
  unfold ncZ
  have h0 : cFm w cMt A (w_up A 128 o1 sh) := cFm_up hw (cFm_r (cFr_rfl h)) ho (Or.inr (by unfold cMt; omega)) (by first | decide | omega)
  by_cases c : e = -1
  · rw [if_pos c]; exact h0
  · rw [if_neg c]
    exact cFm_up hw (cFm_up hw (cFm_up hw h0 ho (Or.inr (by unfold cMt; omega)) (by first | decide | omega)) (by first | decide | omega) (Or.inr (by unfold cMt; omega)) (by first | decide | omega)) ho (Or.inr (by unfold cMt; omega)) (by first | decide | omega)
theorem re_tail {k wo sh : Int} {m : Nat} {u : aV} (hw : w = 215 ∨ w = 226) (hk : cTk w S K) (h3 : 0 < K.2.1.length) (h4 : K.1.length ≤ 2001) (hm : m ≤ K.1.length) (hk0 : 0 ≤ k ∧ k < (T.length : Int)) (hlen : (rsT T H q).length = T.length) (h : reQ q wo k T H L G S A) (hs : sO w (K.1.length : Int) (K.2.1.length : Int) (K.2.1.getD (K.2.1.length - 1) (0, 0, 0, (0, 0, []), 0, 0, 0)).2.1 (m : Int) u.1 u.2.1 (ncZ k sh (A 130 k) (A 72 11) A) Z) (hu : u.1 ≠ 3) (hu2 : u.2.2 = []) : cTk w Z (kP K m u) ∧ cWd Z (tNc (rsT T H q) k sh (S 72 11)) L G ∧ cSw Z (tNc (rsT T H q) k sh (S 72 11)) (rsH T H q (fS wo (aNs H (tO T k).2.1) 0)) ∧ cFm w cMt S Z ∧ (Z 150 4 = S 150 4 + aMb H q (fS wo (aNs H (tO T k).2.1) 0) ∧ ∀ x : Int, x ≠ 4 → Z 150 x = S 150 x) ∧ Z 72 11 = S 72 11 + (if (tO (rsT T H q) k).2.2.2.2.1 = -1 then 0 else 1) ∧ (cPo S → cPo Z) ∧ Z w 16 = S w 16 := by
  have hg : wG = 1000000 := rfl
  have fA := re_fm hw h
  obtain ⟨r1, r2, ⟨r3, r4, r5⟩, r6, fr⟩ := id h
  have fN := nc_fm (sh := sh) (e := A 130 k) (ch := A 72 11) hw r4 hk0.1
  have fZ := cFr_sO hw (cFr_rfl fN.2.2.1) (by omega) hs
  have e11 : A 72 11 = S 72 11 := fr 72 11 (by first | decide | omega) (by first | decide | omega) (by unfold cMr; omega)
  have eA : ∀ (j : Nat) (x : Int), j < 237 → (j < 144 ∨ 150 < j) → j ≠ 156 → j ≠ 130 → j ≠ 132 → (j ≠ 72 ∨ x ≠ 8) → A j x = S j x := fun j x j0 j1 j2 j3 j4 j5 => fr j x (by omega) (by omega) (by unfold cMr; omega)
  have eN : ∀ (j : Nat) (x : Int), j ≠ 128 → j ≠ 130 → j ≠ 131 → (j ≠ 72 ∨ x ≠ 11) → (ncZ k sh (A 130 k) (A 72 11) A) j x = A j x := fun j x j0 j1 j2 j3 => ncZ_e j x ⟨j0, j1, j2⟩ j3
  have zf : ∀ (j : Nat) (x : Int), j < 215 → Z j x = (ncZ k sh (A 130 k) (A 72 11) A) j x := fun j x j0 => fZ.1 j x (by omega) (by omega) (by omega)
  have hkN : cTk w (ncZ k sh (A 130 k) (A 72 11) A) K := cTk_fr hk (cTx_of ((eN 2 1 (by first | decide | omega) (by first | decide | omega) (by first | decide | omega) (by first | decide | omega)).trans (eA 2 1 (by first | decide | omega) (by first | decide | omega) (by first | decide | omega) (by first | decide | omega) (by first | decide | omega) (by first | decide | omega))) (fun x => (eN 3 x (by first | decide | omega) (by first | decide | omega) (by first | decide | omega) (Or.inl (by first | decide | omega))).trans (eA 3 x (by first | decide | omega) (by first | decide | omega) (by first | decide | omega) (by first | decide | omega) (by first | decide | omega) (Or.inl (by first | decide | omega))))) (fun j y j0 j1 => (eN j y (by omega) (by omega) (by omega) (by omega)).trans (eA j y (by omega) (by omega) (by omega) (by omega) (by omega) (by omega)))
  have hWN := cWd_nc (sh := sh) r2 hk0.1 (by rw [show (aBr T H q).1.length = T.length from hlen]; exact hk0.2)
  have hSN : cSw (ncZ k sh (A 130 k) (A 72 11) A) (tNc (rsT T H q) k sh (A 72 11)) (rsH T H q (fS wo (aNs H (tO T k).2.1) 0)) := cSw_nc r1
  rw [e11] at hWN hSN
  rw [e11] at hs fZ zf hkN eN fN
  have c130 : A 130 k = (tO (rsT T H q) k).2.2.2.2.1 := (c_th r2.1 hk0.1 (by rw [show (aBr T H q).1.length = T.length from hlen]; exact hk0.2)).1.2.2.2.2.1
  refine ⟨cTk_sO hkN hw hs rfl rfl h3 rfl hm (by omega) ⟨rfl, fun _ => ⟨rfl, hu2⟩, fun q => absurd q hu⟩, cWd_fr hw hWN fZ, cSw_ag hSN (fun j x hj => zf j x (by omega)), cFm_tr (cFm_tr fA fN) (cFm_r fZ), ⟨?_, fun x hx => ?_⟩, ?_, fun po => ?_, ?_⟩
  · exact (zf 150 4 (by first | decide | omega)).trans ((eN 150 4 (by first | decide | omega) (by first | decide | omega) (by first | decide | omega) (by first | decide | omega)).trans r6)
  · exact (zf 150 x (by first | decide | omega)).trans ((eN 150 x (by first | decide | omega) (by first | decide | omega) (by first | decide | omega) (by first | decide | omega)).trans (fr 150 x (by first | decide | omega) (by first | decide | omega) (by unfold cMr; omega)))
  · rw [zf 72 11 (by first | decide | omega), ← c130]
    unfold ncZ
    by_cases c : A 130 k = -1
    · rw [if_pos c, if_pos c, w_up_slot (by first | decide | omega), e11]; omega
    · rw [if_neg c, if_neg c]
      exact (w_up_slot (by first | decide | omega)).trans (w_up_same _ _ _ _)
  · exact cPo_ag po ((zf 72 3 (by first | decide | omega)).trans ((eN 72 3 (by first | decide | omega) (by first | decide | omega) (by first | decide | omega) (by first | decide | omega)).trans (eA 72 3 (by first | decide | omega) (by first | decide | omega) (by first | decide | omega) (by first | decide | omega) (by first | decide | omega) (by first | decide | omega)))) (fun x => ⟨(zf 134 x (by first | decide | omega)).trans ((eN 134 x (by first | decide | omega) (by first | decide | omega) (by first | decide | omega) (Or.inl (by first | decide | omega))).trans (eA 134 x (by first | decide | omega) (by first | decide | omega) (by first | decide | omega) (by first | decide | omega) (by first | decide | omega) (Or.inl (by first | decide | omega)))), (zf 135 x (by first | decide | omega)).trans ((eN 135 x (by first | decide | omega) (by first | decide | omega) (by first | decide | omega) (Or.inl (by first | decide | omega))).trans (eA 135 x (by first | decide | omega) (by first | decide | omega) (by first | decide | omega) (by first | decide | omega) (by first | decide | omega) (Or.inl (by first | decide | omega))))⟩) ((zf 140 2 (by first | decide | omega)).trans ((eN 140 2 (by first | decide | omega) (by first | decide | omega) (by first | decide | omega) (by first | decide | omega)).trans (eA 140 2 (by first | decide | omega) (by first | decide | omega) (by first | decide | omega) (by first | decide | omega) (by first | decide | omega) (by first | decide | omega)))) ((zf 150 1 (by first | decide | omega)).trans ((eN 150 1 (by first | decide | omega) (by first | decide | omega) (by first | decide | omega) (by first | decide | omega)).trans (fr 150 1 (by first | decide | omega) (by first | decide | omega) (by unfold cMr; omega))))
  · exact (sO_16 hw hs).trans ((eN w 16 (by omega) (by omega) (by omega) (by omega)).trans (eA w 16 (by omega) (by omega) (by omega) (by omega) (by omega) (by omega)))
theorem xb30_215 {c p h kx o1 vy : Int} (hP : xP 215 c p h S) (hx1 : pe_at (pe_GA xs).xs 1 = some (1, tx_1)) (hky : S 217 (h - 1) = 0) (hvy : S 218 (h - 1) = vy) (hkx : S 217 (h - 1 - 1) = kx) (hvx : S 218 (h - 1 - 1) = o1) (hh1 : 2 ≤ h) (hkx45 : kx = 4 ∨ kx = 5) (ho : isO T o1) (hW : cWd S T L G) (hsw : cSw S T H) (hw : wSh T H) (hT : (T.length : Int) ≤ 8000) (hu4 : 0 ≤ S 150 4 ∧ S 150 4 ≤ 4000 ∧ (H.length : Int) ≤ S 150 4 + 1) (hnb : ∀ s : Int, 0 ≤ s → s < (H.length : Int) → qNm H s ≤ 100000) (hch : 0 ≤ S 72 11 ∧ S 72 11 ≤ 9000000) (hep : ∀ k : Int, isO T k → (tO T k).2.2.2.2.1 ≤ S 72 11) (h56 : S 156 (-1) = 65) : wJ (pe_GA xs) wY0 (mS [217, 218, 144, 145, 146, 147, 148]) (d + 11) t_XK_callBuiltin ((pe_at t_XK_callBuiltin.bl 0).getD (0, [])).2 [(0, (2, 215)), (1, (0, 3))] [] S (fun o Z => o = .inl none ∧ ((hMe (aPr T H) o1 (T.length + 1) (-1) = 1 ∧ w_up S 215 16 12 = Z) ∨ (hMe (aPr T H) o1 (T.length + 1) (-1) = 0 ∧ 4000 < S 150 4 + aMb H (-1) (fS (-1) (aNs H (tO T o1).2.1) 0) ∧ ∃ A : wS, oF S A ∧ w_up A 215 16 99 = Z) ∨ (hMe (aPr T H) o1 (T.length + 1) (-1) = 0 ∧ S 150 4 + aMb H (-1) (fS (-1) (aNs H (tO T o1).2.1) 0) ≤ 4000 ∧ ∃ A : wS, reQ (-1) (-1) o1 T H L G S A ∧ sO 215 h c p 2 kx o1 (ncZ o1 (aRb (-1) (fS (-1) (aNs H (tO T o1).2.1) 0) (aBr T H (-1)).2.1 (aBr T H (-1)).2.2).2 (A 130 o1) (A 72 11) A) Z))) := by
  obtain ⟨⟨hC, hI⟩, ⟨bc, bc0, bc1⟩, ⟨bp, bp0, bp1⟩, ⟨bh, bh0, bh1, bh2⟩, bl1, bl2, bl3⟩ := id hP
  replace bp : S 220 (c - 1) = p := bp
  replace bh : S 216 2 = h := bh
  replace bh2 : h ≤ S 217 (-1) := bh2
  replace bl1 : S 218 (-1) = S 217 (-1) := bl1
  replace bl2 : 64 ≤ S 217 (-1) := bl2
  replace bl3 : S 217 (-1) ≤ 4095 := bl3
  have hg : wG = 1000000 := rfl
  refine wa_aload_n (n := 0) rfl ?_
  refine wb_gf4 215 rfl (wy_pr rfl) wt_215 wf_8_3 (v := 216) wl_215_3 ?_
  refine wb_gfi 216 rfl (wy_pr rfl) wt_216 wf_7_2 (v := h) (bh) (fun r1 => ?_)
  refine wa_iconst ?_
  refine wa_isub ?_
  refine wa_istore_n (n := 2) rfl ?_
  refine wa_aload_n (n := 0) rfl ?_
  refine wb_gf4 215 rfl (wy_pr rfl) wt_215 wf_8_3 (v := 216) wl_215_3 ?_
  refine wb_gf4 216 rfl (wy_pr rfl) wt_216 wf_7_0 (v := 217) wl_216_0 ?_
  refine wa_iload_n (n := 2) rfl ?_
  refine wb_bald 217 rfl (wy_pr rfl) wt_217 (n := (S 217 (-1))) (rfl) (by omega) (by omega) (v := 0) (hky) (fun r2 => ?_)
  refine wa_istore_n (n := 3) rfl ?_
  refine wa_aload_n (n := 0) rfl ?_
  refine wb_gf4 215 rfl (wy_pr rfl) wt_215 wf_8_3 (v := 216) wl_215_3 ?_
  refine wb_gf4 216 rfl (wy_pr rfl) wt_216 wf_7_1 (v := 218) wl_216_1 ?_
  refine wa_iload_n (n := 2) rfl ?_
  refine wb_lald 218 rfl (wy_pr rfl) wt_218 (n := (S 217 (-1))) (bl1) (by omega) (by omega) (v := vy) (hvy) (fun r3 => ?_)
  refine wa_lstore (n := 4) rfl ?_
  refine wa_iload_n (n := 1) rfl ?_
  refine wb_sw (w_rg0 (by omega) (by omega)) (tb := 10) rfl ⟨_, rfl⟩ ?_
  refine wa_aload_n (n := 0) rfl ?_
  refine wa_iload_n (n := 2) rfl ?_
  refine wa_iconst ?_
  refine wa_isub ?_
  refine wa_iload_n (n := 2) rfl ?_
  refine wa_cv 215 rfl (wy_pr rfl) wt_215 (M2 := mS [217, 218, 144, 145, 146, 147, 148]) rfl at_XK_turn ⟨_, rfl⟩ rfl rfl ⟨trivial, trivial, trivial, (Or.inr ⟨wy_pr rfl, mS_no rfl⟩), trivial, trivial⟩ trivial (fun _ _ q => q) (tu0_215 hP hx1 hky hvy hkx hvx hh1 hkx45 ho hW hsw hw hT hu4 hnb hch hep h56) (fun oq4 Sq4 hp5 q4 => ?_)
  rcases q4 with ⟨rfl, hzz⟩
  show wJ _ _ _ _ _ _ _ _ _ _
  refine wa_goto ⟨_, rfl⟩ ?_
  refine wa_return rfl ?_
  exact ⟨rfl, hzz⟩
theorem xb31_215 {c p h kx ky o1 q : Int} (hP : xP 215 c p h S) (hx1 : pe_at (pe_GA xs).xs 1 = some (1, tx_1)) (hky : S 217 (h - 1) = ky) (hvy : S 218 (h - 1) = q) (hkx : S 217 (h - 1 - 1) = kx) (hvx : S 218 (h - 1 - 1) = o1) (hh1 : 2 ≤ h) (hkx45 : kx = 4 ∨ kx = 5) (ho : isO T o1) (hky45 : ky = 4 ∨ ky = 5) (hq : isO T q) (hW : cWd S T L G) (hsw : cSw S T H) (hw : wSh T H) (hT : (T.length : Int) ≤ 8000) (hu4 : 0 ≤ S 150 4 ∧ S 150 4 ≤ 4000 ∧ (H.length : Int) ≤ S 150 4 + 1) (hnb : ∀ s : Int, 0 ≤ s → s < (H.length : Int) → qNm H s ≤ 100000) (hch : 0 ≤ S 72 11 ∧ S 72 11 ≤ 9000000) (hep : ∀ k : Int, isO T k → (tO T k).2.2.2.2.1 ≤ S 72 11) (h56 : S 156 (-1) = 65) : wJ (pe_GA xs) wY0 (mS [217, 218, 144, 145, 146, 147, 148]) (d + 11) t_XK_callBuiltin ((pe_at t_XK_callBuiltin.bl 0).getD (0, [])).2 [(0, (2, 215)), (1, (0, 3))] [] S (fun o Z => o = .inl none ∧ ((hMe (aPr T H) o1 (T.length + 1) q = 1 ∧ w_up S 215 16 12 = Z) ∨ (hMe (aPr T H) o1 (T.length + 1) q = 0 ∧ 4000 < S 150 4 + aMb H q (fS (-1) (aNs H (tO T o1).2.1) 0) ∧ ∃ A : wS, oF S A ∧ w_up A 215 16 99 = Z) ∨ (hMe (aPr T H) o1 (T.length + 1) q = 0 ∧ S 150 4 + aMb H q (fS (-1) (aNs H (tO T o1).2.1) 0) ≤ 4000 ∧ ∃ A : wS, reQ q (-1) o1 T H L G S A ∧ sO 215 h c p 2 kx o1 (ncZ o1 (aRb q (fS (-1) (aNs H (tO T o1).2.1) 0) (aBr T H q).2.1 (aBr T H q).2.2).2 (A 130 o1) (A 72 11) A) Z))) := by
  obtain ⟨⟨hC, hI⟩, ⟨bc, bc0, bc1⟩, ⟨bp, bp0, bp1⟩, ⟨bh, bh0, bh1, bh2⟩, bl1, bl2, bl3⟩ := id hP
  replace bp : S 220 (c - 1) = p := bp
  replace bh : S 216 2 = h := bh
  replace bh2 : h ≤ S 217 (-1) := bh2
  replace bl1 : S 218 (-1) = S 217 (-1) := bl1
  replace bl2 : 64 ≤ S 217 (-1) := bl2
  replace bl3 : S 217 (-1) ≤ 4095 := bl3
  have hg : wG = 1000000 := rfl
  refine wa_aload_n (n := 0) rfl ?_
  refine wb_gf4 215 rfl (wy_pr rfl) wt_215 wf_8_3 (v := 216) wl_215_3 ?_
  refine wb_gfi 216 rfl (wy_pr rfl) wt_216 wf_7_2 (v := h) (bh) (fun r1 => ?_)
  refine wa_iconst ?_
  refine wa_isub ?_
  refine wa_istore_n (n := 2) rfl ?_
  refine wa_aload_n (n := 0) rfl ?_
  refine wb_gf4 215 rfl (wy_pr rfl) wt_215 wf_8_3 (v := 216) wl_215_3 ?_
  refine wb_gf4 216 rfl (wy_pr rfl) wt_216 wf_7_0 (v := 217) wl_216_0 ?_
  refine wa_iload_n (n := 2) rfl ?_
  refine wb_bald 217 rfl (wy_pr rfl) wt_217 (n := (S 217 (-1))) (rfl) (by omega) (by omega) (v := ky) (hky) (fun r2 => ?_)
  refine wa_istore_n (n := 3) rfl ?_
  refine wa_aload_n (n := 0) rfl ?_
  refine wb_gf4 215 rfl (wy_pr rfl) wt_215 wf_8_3 (v := 216) wl_215_3 ?_
  refine wb_gf4 216 rfl (wy_pr rfl) wt_216 wf_7_1 (v := 218) wl_216_1 ?_
  refine wa_iload_n (n := 2) rfl ?_
  refine wb_lald 218 rfl (wy_pr rfl) wt_218 (n := (S 217 (-1))) (bl1) (by omega) (by omega) (v := q) (hvy) (fun r3 => ?_)
  refine wa_lstore (n := 4) rfl ?_
  refine wa_iload_n (n := 1) rfl ?_
  refine wb_sw (w_rg0 (by omega) (by omega)) (tb := 10) rfl ⟨_, rfl⟩ ?_
  refine wa_aload_n (n := 0) rfl ?_
  refine wa_iload_n (n := 2) rfl ?_
  refine wa_iconst ?_
  refine wa_isub ?_
  refine wa_iload_n (n := 2) rfl ?_
  refine wa_cv 215 rfl (wy_pr rfl) wt_215 (M2 := mS [217, 218, 144, 145, 146, 147, 148]) rfl at_XK_turn ⟨_, rfl⟩ rfl rfl ⟨trivial, trivial, trivial, (Or.inr ⟨wy_pr rfl, mS_no rfl⟩), trivial, trivial⟩ trivial (fun _ _ q => q) (tu1_215 hP hx1 hky hvy hkx hvx hh1 hkx45 ho hky45 hq hW hsw hw hT hu4 hnb hch hep h56) (fun oq4 Sq4 hp5 q4 => ?_)
  rcases q4 with ⟨rfl, hzz⟩
  show wJ _ _ _ _ _ _ _ _ _ _
  refine wa_goto ⟨_, rfl⟩ ?_
  refine wa_return rfl ?_
  exact ⟨rfl, hzz⟩
theorem xb3e_215 {c p h kx ky vx vy : Int} (hP : xP 215 c p h S) (hky : S 217 (h - 1) = ky) (hvy : S 218 (h - 1) = vy) (hkx : S 217 (h - 1 - 1) = kx) (hvx : S 218 (h - 1 - 1) = vx) (hh1 : 2 ≤ h) (hke : ¬ ((kx = 4 ∨ kx = 5) ∧ (ky = 0 ∨ ky = 4 ∨ ky = 5))) : wJ (pe_GA xs) wY0 (mS [217, 218]) (d + 11) t_XK_callBuiltin ((pe_at t_XK_callBuiltin.bl 0).getD (0, [])).2 [(0, (2, 215)), (1, (0, 3))] [] S (fun o Z => o = .inl none ∧ w_up S 215 16 12 = Z) := by
  obtain ⟨⟨hC, hI⟩, ⟨bc, bc0, bc1⟩, ⟨bp, bp0, bp1⟩, ⟨bh, bh0, bh1, bh2⟩, bl1, bl2, bl3⟩ := id hP
  replace bp : S 220 (c - 1) = p := bp
  replace bh : S 216 2 = h := bh
  replace bh2 : h ≤ S 217 (-1) := bh2
  replace bl1 : S 218 (-1) = S 217 (-1) := bl1
  replace bl2 : 64 ≤ S 217 (-1) := bl2
  replace bl3 : S 217 (-1) ≤ 4095 := bl3
  refine wa_aload_n (n := 0) rfl ?_
  refine wb_gf4 215 rfl (wy_pr rfl) wt_215 wf_8_3 (v := 216) wl_215_3 ?_
  refine wb_gfi 216 rfl (wy_pr rfl) wt_216 wf_7_2 (v := h) (bh) (fun r1 => ?_)
  refine wa_iconst ?_
  refine wa_isub ?_
  refine wa_istore_n (n := 2) rfl ?_
  refine wa_aload_n (n := 0) rfl ?_
  refine wb_gf4 215 rfl (wy_pr rfl) wt_215 wf_8_3 (v := 216) wl_215_3 ?_
  refine wb_gf4 216 rfl (wy_pr rfl) wt_216 wf_7_0 (v := 217) wl_216_0 ?_
  refine wa_iload_n (n := 2) rfl ?_
  refine wb_bald 217 rfl (wy_pr rfl) wt_217 (n := (S 217 (-1))) (rfl) (by omega) (by omega) (v := ky) (hky) (fun r2 => ?_)
  refine wa_istore_n (n := 3) rfl ?_
  refine wa_aload_n (n := 0) rfl ?_
  refine wb_gf4 215 rfl (wy_pr rfl) wt_215 wf_8_3 (v := 216) wl_215_3 ?_
  refine wb_gf4 216 rfl (wy_pr rfl) wt_216 wf_7_1 (v := 218) wl_216_1 ?_
  refine wa_iload_n (n := 2) rfl ?_
  refine wb_lald 218 rfl (wy_pr rfl) wt_218 (n := (S 217 (-1))) (bl1) (by omega) (by omega) (v := vy) (hvy) (fun r3 => ?_)
  refine wa_lstore (n := 4) rfl ?_
  refine wa_iload_n (n := 1) rfl ?_
  refine wb_sw (w_rg0 (by omega) (by omega)) (tb := 10) rfl ⟨_, rfl⟩ ?_
  refine wa_aload_n (n := 0) rfl ?_
  refine wa_iload_n (n := 2) rfl ?_
  refine wa_iconst ?_
  refine wa_isub ?_
  refine wa_iload_n (n := 2) rfl ?_
  refine wa_cv 215 rfl (wy_pr rfl) wt_215 (M2 := mS [217, 218]) rfl at_XK_turn ⟨_, rfl⟩ rfl rfl ⟨trivial, trivial, trivial, (Or.inr ⟨wy_pr rfl, mS_no rfl⟩), trivial, trivial⟩ trivial (fun _ _ q => q) ?_ (fun _ _ _ q => q)
  refine wa_aload_n (n := 0) rfl ?_
  refine wa_iload_n (n := 1) rfl ?_
  refine wa_cv 215 rfl (wy_pr rfl) wt_215 (M2 := mS [217, 218]) rfl at_XK_isHolder ⟨_, rfl⟩ rfl rfl ⟨(Or.inr ⟨wy_pr rfl, mS_no rfl⟩), trivial, trivial, trivial⟩ trivial (fun _ _ q => q) ?_ (fun _ _ _ q => q)
  refine wa_aload_n (n := 0) rfl ?_
  refine wb_gf4 215 rfl (wy_pr rfl) wt_215 wf_8_3 (v := 216) wl_215_3 ?_
  refine wb_gf4 216 rfl (wy_pr rfl) wt_216 wf_7_0 (v := 217) wl_216_0 ?_
  refine wa_iload_n (n := 1) rfl ?_
  refine wb_bald 217 rfl (wy_pr rfl) wt_217 (n := (S 217 (-1))) (rfl) (by omega) (by omega) (v := kx) (hkx) (fun r4 => ?_)
  refine wa_iconst ?_
  refine wa_icmpeq (w_rg0 (by omega) (by omega)) (w_rg0 (by omega) (by omega)) ⟨_, rfl⟩ (fun c5 => ?_) (fun c5 => ?_)
  · skip
    refine wa_iconst ?_
    refine wa_goto ⟨_, rfl⟩ ?_
    refine wa_zreturn rfl (Or.inr rfl) ?_
    show wJ _ _ _ _ _ _ _ _ _ _
    refine wa_ifeq (w_rg0 (by omega) (by omega)) ⟨_, rfl⟩ (fun c6 => ?_) (fun c6 => ?_)
    · skip
      exact absurd c6 (by omega)
    · skip
      refine wa_aload_n (n := 0) rfl ?_
      refine wa_iload_n (n := 2) rfl ?_
      refine wa_cv 215 rfl (wy_pr rfl) wt_215 (M2 := mS [217, 218]) rfl at_XK_isPrototype ⟨_, rfl⟩ rfl rfl ⟨(Or.inr ⟨wy_pr rfl, mS_no rfl⟩), trivial, trivial, trivial⟩ trivial (fun _ _ q => q) ?_ (fun _ _ _ q => q)
      refine wa_aload_n (n := 0) rfl ?_
      refine wb_gf4 215 rfl (wy_pr rfl) wt_215 wf_8_3 (v := 216) wl_215_3 ?_
      refine wb_gf4 216 rfl (wy_pr rfl) wt_216 wf_7_0 (v := 217) wl_216_0 ?_
      refine wa_iload_n (n := 1) rfl ?_
      refine wb_bald 217 rfl (wy_pr rfl) wt_217 (n := (S 217 (-1))) (rfl) (by omega) (by omega) (v := ky) (hky) (fun r7 => ?_)
      refine wa_ifeq (w_rg0 (by omega) (by omega)) ⟨_, rfl⟩ (fun c8 => ?_) (fun c8 => ?_)
      · skip
        refine wa_iconst ?_
        refine wa_goto ⟨_, rfl⟩ ?_
        refine wa_zreturn rfl (Or.inr rfl) ?_
        show wJ _ _ _ _ _ _ _ _ _ _
        refine wa_ifne (w_rg0 (by omega) (by omega)) ⟨_, rfl⟩ (fun c9 => ?_) (fun c9 => ?_)
        · skip
          refine wa_aload_n (n := 0) rfl ?_
          refine wb_gf4 215 rfl (wy_pr rfl) wt_215 wf_8_3 (v := 216) wl_215_3 ?_
          refine wb_gf4 216 rfl (wy_pr rfl) wt_216 wf_7_1 (v := 218) wl_216_1 ?_
          refine wa_iload_n (n := 1) rfl ?_
          refine wb_lald 218 rfl (wy_pr rfl) wt_218 (n := (S 217 (-1))) (bl1) (by omega) (by omega) (v := vx) (hvx) (fun r10 => ?_)
          refine wb_l2i_r (wb_l2i_id ⟨(by omega), (by omega)⟩) ?_
          refine wa_istore_n (n := 3) rfl ?_
          refine wa_aload_n (n := 0) rfl ?_
          refine wb_gf4 215 rfl (wy_pr rfl) wt_215 wf_8_3 (v := 216) wl_215_3 ?_
          refine wb_gf4 216 rfl (wy_pr rfl) wt_216 wf_7_0 (v := 217) wl_216_0 ?_
          refine wa_iload_n (n := 2) rfl ?_
          refine wb_bald 217 rfl (wy_pr rfl) wt_217 (n := (S 217 (-1))) (rfl) (by omega) (by omega) (v := ky) (hky) (fun r11 => ?_)
          refine wa_ifne (w_rg0 (by omega) (by omega)) ⟨_, rfl⟩ (fun c12 => ?_) (fun c12 => ?_)
          · skip
            exact absurd c12 (by omega)
          · skip
            refine wa_iconst ?_
            refine wa_goto ⟨_, rfl⟩ ?_
            refine wa_istore (n := 4) rfl ?_
            refine wa_iload (n := 4) rfl ?_
            refine wa_istore (n := 5) rfl ?_
            refine wa_iconst ?_
            refine wa_istore (n := 6) rfl ?_
            refine wa_fall ⟨_, rfl⟩ ?_
            exfalso; omega
        · skip
          exact absurd c9 (by omega)
      · skip
        refine wa_aload_n (n := 0) rfl ?_
        refine wa_iload_n (n := 1) rfl ?_
        refine wa_cv 215 rfl (wy_pr rfl) wt_215 (M2 := mS [217, 218]) rfl at_XK_isHolder ⟨_, rfl⟩ rfl rfl ⟨(Or.inr ⟨wy_pr rfl, mS_no rfl⟩), trivial, trivial⟩ trivial (fun _ _ q => q) ?_ (fun _ _ _ q => q)
        refine wa_aload_n (n := 0) rfl ?_
        refine wb_gf4 215 rfl (wy_pr rfl) wt_215 wf_8_3 (v := 216) wl_215_3 ?_
        refine wb_gf4 216 rfl (wy_pr rfl) wt_216 wf_7_0 (v := 217) wl_216_0 ?_
        refine wa_iload_n (n := 1) rfl ?_
        refine wb_bald 217 rfl (wy_pr rfl) wt_217 (n := (S 217 (-1))) (rfl) (by omega) (by omega) (v := ky) (hky) (fun r13 => ?_)
        refine wa_iconst ?_
        refine wa_icmpeq (w_rg0 (by omega) (by omega)) (w_rg0 (by omega) (by omega)) ⟨_, rfl⟩ (fun c14 => ?_) (fun c14 => ?_)
        · skip
          refine wa_iconst ?_
          refine wa_goto ⟨_, rfl⟩ ?_
          refine wa_zreturn rfl (Or.inr rfl) ?_
          show wJ _ _ _ _ _ _ _ _ _ _
          refine wa_ifeq (w_rg0 (by omega) (by omega)) ⟨_, rfl⟩ (fun c15 => ?_) (fun c15 => ?_)
          · skip
            exact absurd c15 (by omega)
          · skip
            refine wa_fall ⟨_, rfl⟩ ?_
            refine wa_iconst ?_
            refine wa_goto ⟨_, rfl⟩ ?_
            refine wa_zreturn rfl (Or.inr rfl) ?_
            show wJ _ _ _ _ _ _ _ _ _ _
            refine wa_ifne (w_rg0 (by omega) (by omega)) ⟨_, rfl⟩ (fun c16 => ?_) (fun c16 => ?_)
            · skip
              refine wa_aload_n (n := 0) rfl ?_
              refine wb_gf4 215 rfl (wy_pr rfl) wt_215 wf_8_3 (v := 216) wl_215_3 ?_
              refine wb_gf4 216 rfl (wy_pr rfl) wt_216 wf_7_1 (v := 218) wl_216_1 ?_
              refine wa_iload_n (n := 1) rfl ?_
              refine wb_lald 218 rfl (wy_pr rfl) wt_218 (n := (S 217 (-1))) (bl1) (by omega) (by omega) (v := vx) (hvx) (fun r17 => ?_)
              refine wb_l2i_r (wb_l2i_id ⟨(by omega), (by omega)⟩) ?_
              refine wa_istore_n (n := 3) rfl ?_
              refine wa_aload_n (n := 0) rfl ?_
              refine wb_gf4 215 rfl (wy_pr rfl) wt_215 wf_8_3 (v := 216) wl_215_3 ?_
              refine wb_gf4 216 rfl (wy_pr rfl) wt_216 wf_7_0 (v := 217) wl_216_0 ?_
              refine wa_iload_n (n := 2) rfl ?_
              refine wb_bald 217 rfl (wy_pr rfl) wt_217 (n := (S 217 (-1))) (rfl) (by omega) (by omega) (v := ky) (hky) (fun r18 => ?_)
              refine wa_ifne (w_rg0 (by omega) (by omega)) ⟨_, rfl⟩ (fun c19 => ?_) (fun c19 => ?_)
              · skip
                refine wa_aload_n (n := 0) rfl ?_
                refine wb_gf4 215 rfl (wy_pr rfl) wt_215 wf_8_3 (v := 216) wl_215_3 ?_
                refine wb_gf4 216 rfl (wy_pr rfl) wt_216 wf_7_1 (v := 218) wl_216_1 ?_
                refine wa_iload_n (n := 2) rfl ?_
                refine wb_lald 218 rfl (wy_pr rfl) wt_218 (n := (S 217 (-1))) (bl1) (by omega) (by omega) (v := vy) (hvy) (fun r20 => ?_)
                refine wb_l2i_r (wb_l2i_id ⟨(by omega), (by omega)⟩) ?_
                refine wa_fall ⟨_, rfl⟩ ?_
                refine wa_istore (n := 4) rfl ?_
                refine wa_iload (n := 4) rfl ?_
                refine wa_istore (n := 5) rfl ?_
                refine wa_iconst ?_
                refine wa_istore (n := 6) rfl ?_
                refine wa_fall ⟨_, rfl⟩ ?_
                exfalso; omega
              · skip
                exact absurd c19 (by omega)
            · skip
              exact absurd c16 (by omega)
        · skip
          refine wa_aload_n (n := 0) rfl ?_
          refine wb_gf4 215 rfl (wy_pr rfl) wt_215 wf_8_3 (v := 216) wl_215_3 ?_
          refine wb_gf4 216 rfl (wy_pr rfl) wt_216 wf_7_0 (v := 217) wl_216_0 ?_
          refine wa_iload_n (n := 1) rfl ?_
          refine wb_bald 217 rfl (wy_pr rfl) wt_217 (n := (S 217 (-1))) (rfl) (by omega) (by omega) (v := ky) (hky) (fun r21 => ?_)
          refine wa_iconst ?_
          refine wa_icmpne (w_rg0 (by omega) (by omega)) (w_rg0 (by omega) (by omega)) ⟨_, rfl⟩ (fun c22 => ?_) (fun c22 => ?_)
          · skip
            refine wa_iconst ?_
            refine wa_fall ⟨_, rfl⟩ ?_
            refine wa_zreturn rfl (Or.inl rfl) ?_
            show wJ _ _ _ _ _ _ _ _ _ _
            refine wa_ifeq (w_rg0 (by omega) (by omega)) ⟨_, rfl⟩ (fun c23 => ?_) (fun c23 => ?_)
            · skip
              refine wa_iconst ?_
              refine wa_fall ⟨_, rfl⟩ ?_
              refine wa_zreturn rfl (Or.inl rfl) ?_
              show wJ _ _ _ _ _ _ _ _ _ _
              refine wa_ifne (w_rg0 (by omega) (by omega)) ⟨_, rfl⟩ (fun c24 => ?_) (fun c24 => ?_)
              · skip
                exact absurd c24 (by omega)
              · skip
                refine wa_fall ⟨_, rfl⟩ ?_
                refine wa_aload_n (n := 0) rfl ?_
                refine wa_bipush (w_rg2 (by omega) (by omega)) ?_
                refine wb_pfi 215 rfl (wy_pr rfl) wt_215 wf_8_16 (n := 16) rfl ⟨(by omega), (by omega)⟩ ?_
                refine wa_return rfl ?_
                show wJ _ _ _ _ _ _ _ _ _ _
                refine wa_goto ⟨_, rfl⟩ ?_
                refine wa_return rfl ?_
                exact ⟨rfl, rfl⟩
            · skip
              exact absurd c23 (by omega)
          · skip
            refine wa_fall ⟨_, rfl⟩ ?_
            refine wa_iconst ?_
            refine wa_goto ⟨_, rfl⟩ ?_
            refine wa_zreturn rfl (Or.inr rfl) ?_
            show wJ _ _ _ _ _ _ _ _ _ _
            refine wa_ifeq (w_rg0 (by omega) (by omega)) ⟨_, rfl⟩ (fun c25 => ?_) (fun c25 => ?_)
            · skip
              exact absurd c25 (by omega)
            · skip
              refine wa_fall ⟨_, rfl⟩ ?_
              refine wa_iconst ?_
              refine wa_goto ⟨_, rfl⟩ ?_
              refine wa_zreturn rfl (Or.inr rfl) ?_
              show wJ _ _ _ _ _ _ _ _ _ _
              refine wa_ifne (w_rg0 (by omega) (by omega)) ⟨_, rfl⟩ (fun c26 => ?_) (fun c26 => ?_)
              · skip
                refine wa_aload_n (n := 0) rfl ?_
                refine wb_gf4 215 rfl (wy_pr rfl) wt_215 wf_8_3 (v := 216) wl_215_3 ?_
                refine wb_gf4 216 rfl (wy_pr rfl) wt_216 wf_7_1 (v := 218) wl_216_1 ?_
                refine wa_iload_n (n := 1) rfl ?_
                refine wb_lald 218 rfl (wy_pr rfl) wt_218 (n := (S 217 (-1))) (bl1) (by omega) (by omega) (v := vx) (hvx) (fun r27 => ?_)
                refine wb_l2i_r (wb_l2i_id ⟨(by omega), (by omega)⟩) ?_
                refine wa_istore_n (n := 3) rfl ?_
                refine wa_aload_n (n := 0) rfl ?_
                refine wb_gf4 215 rfl (wy_pr rfl) wt_215 wf_8_3 (v := 216) wl_215_3 ?_
                refine wb_gf4 216 rfl (wy_pr rfl) wt_216 wf_7_0 (v := 217) wl_216_0 ?_
                refine wa_iload_n (n := 2) rfl ?_
                refine wb_bald 217 rfl (wy_pr rfl) wt_217 (n := (S 217 (-1))) (rfl) (by omega) (by omega) (v := ky) (hky) (fun r28 => ?_)
                refine wa_ifne (w_rg0 (by omega) (by omega)) ⟨_, rfl⟩ (fun c29 => ?_) (fun c29 => ?_)
                · skip
                  refine wa_aload_n (n := 0) rfl ?_
                  refine wb_gf4 215 rfl (wy_pr rfl) wt_215 wf_8_3 (v := 216) wl_215_3 ?_
                  refine wb_gf4 216 rfl (wy_pr rfl) wt_216 wf_7_1 (v := 218) wl_216_1 ?_
                  refine wa_iload_n (n := 2) rfl ?_
                  refine wb_lald 218 rfl (wy_pr rfl) wt_218 (n := (S 217 (-1))) (bl1) (by omega) (by omega) (v := vy) (hvy) (fun r30 => ?_)
                  refine wb_l2i_r (wb_l2i_id ⟨(by omega), (by omega)⟩) ?_
                  refine wa_fall ⟨_, rfl⟩ ?_
                  refine wa_istore (n := 4) rfl ?_
                  refine wa_iload (n := 4) rfl ?_
                  refine wa_istore (n := 5) rfl ?_
                  refine wa_iconst ?_
                  refine wa_istore (n := 6) rfl ?_
                  refine wa_fall ⟨_, rfl⟩ ?_
                  exfalso; omega
                · skip
                  exact absurd c29 (by omega)
              · skip
                exact absurd c26 (by omega)
  · skip
    refine wa_aload_n (n := 0) rfl ?_
    refine wb_gf4 215 rfl (wy_pr rfl) wt_215 wf_8_3 (v := 216) wl_215_3 ?_
    refine wb_gf4 216 rfl (wy_pr rfl) wt_216 wf_7_0 (v := 217) wl_216_0 ?_
    refine wa_iload_n (n := 1) rfl ?_
    refine wb_bald 217 rfl (wy_pr rfl) wt_217 (n := (S 217 (-1))) (rfl) (by omega) (by omega) (v := kx) (hkx) (fun r31 => ?_)
    refine wa_iconst ?_
    refine wa_icmpne (w_rg0 (by omega) (by omega)) (w_rg0 (by omega) (by omega)) ⟨_, rfl⟩ (fun c32 => ?_) (fun c32 => ?_)
    · skip
      refine wa_iconst ?_
      refine wa_fall ⟨_, rfl⟩ ?_
      refine wa_zreturn rfl (Or.inl rfl) ?_
      show wJ _ _ _ _ _ _ _ _ _ _
      refine wa_ifeq (w_rg0 (by omega) (by omega)) ⟨_, rfl⟩ (fun c33 => ?_) (fun c33 => ?_)
      · skip
        refine wa_aload_n (n := 0) rfl ?_
        refine wa_bipush (w_rg2 (by omega) (by omega)) ?_
        refine wb_pfi 215 rfl (wy_pr rfl) wt_215 wf_8_16 (n := 16) rfl ⟨(by omega), (by omega)⟩ ?_
        refine wa_return rfl ?_
        show wJ _ _ _ _ _ _ _ _ _ _
        refine wa_goto ⟨_, rfl⟩ ?_
        refine wa_return rfl ?_
        exact ⟨rfl, rfl⟩
      · skip
        exact absurd c33 (by omega)
    · skip
      refine wa_fall ⟨_, rfl⟩ ?_
      refine wa_iconst ?_
      refine wa_goto ⟨_, rfl⟩ ?_
      refine wa_zreturn rfl (Or.inr rfl) ?_
      show wJ _ _ _ _ _ _ _ _ _ _
      refine wa_ifeq (w_rg0 (by omega) (by omega)) ⟨_, rfl⟩ (fun c34 => ?_) (fun c34 => ?_)
      · skip
        exact absurd c34 (by omega)
      · skip
        refine wa_aload_n (n := 0) rfl ?_
        refine wa_iload_n (n := 2) rfl ?_
        refine wa_cv 215 rfl (wy_pr rfl) wt_215 (M2 := mS [217, 218]) rfl at_XK_isPrototype ⟨_, rfl⟩ rfl rfl ⟨(Or.inr ⟨wy_pr rfl, mS_no rfl⟩), trivial, trivial, trivial⟩ trivial (fun _ _ q => q) ?_ (fun _ _ _ q => q)
        refine wa_aload_n (n := 0) rfl ?_
        refine wb_gf4 215 rfl (wy_pr rfl) wt_215 wf_8_3 (v := 216) wl_215_3 ?_
        refine wb_gf4 216 rfl (wy_pr rfl) wt_216 wf_7_0 (v := 217) wl_216_0 ?_
        refine wa_iload_n (n := 1) rfl ?_
        refine wb_bald 217 rfl (wy_pr rfl) wt_217 (n := (S 217 (-1))) (rfl) (by omega) (by omega) (v := ky) (hky) (fun r35 => ?_)
        refine wa_ifeq (w_rg0 (by omega) (by omega)) ⟨_, rfl⟩ (fun c36 => ?_) (fun c36 => ?_)
        · skip
          refine wa_iconst ?_
          refine wa_goto ⟨_, rfl⟩ ?_
          refine wa_zreturn rfl (Or.inr rfl) ?_
          show wJ _ _ _ _ _ _ _ _ _ _
          refine wa_ifne (w_rg0 (by omega) (by omega)) ⟨_, rfl⟩ (fun c37 => ?_) (fun c37 => ?_)
          · skip
            refine wa_aload_n (n := 0) rfl ?_
            refine wb_gf4 215 rfl (wy_pr rfl) wt_215 wf_8_3 (v := 216) wl_215_3 ?_
            refine wb_gf4 216 rfl (wy_pr rfl) wt_216 wf_7_1 (v := 218) wl_216_1 ?_
            refine wa_iload_n (n := 1) rfl ?_
            refine wb_lald 218 rfl (wy_pr rfl) wt_218 (n := (S 217 (-1))) (bl1) (by omega) (by omega) (v := vx) (hvx) (fun r38 => ?_)
            refine wb_l2i_r (wb_l2i_id ⟨(by omega), (by omega)⟩) ?_
            refine wa_istore_n (n := 3) rfl ?_
            refine wa_aload_n (n := 0) rfl ?_
            refine wb_gf4 215 rfl (wy_pr rfl) wt_215 wf_8_3 (v := 216) wl_215_3 ?_
            refine wb_gf4 216 rfl (wy_pr rfl) wt_216 wf_7_0 (v := 217) wl_216_0 ?_
            refine wa_iload_n (n := 2) rfl ?_
            refine wb_bald 217 rfl (wy_pr rfl) wt_217 (n := (S 217 (-1))) (rfl) (by omega) (by omega) (v := ky) (hky) (fun r39 => ?_)
            refine wa_ifne (w_rg0 (by omega) (by omega)) ⟨_, rfl⟩ (fun c40 => ?_) (fun c40 => ?_)
            · skip
              exact absurd c40 (by omega)
            · skip
              refine wa_iconst ?_
              refine wa_goto ⟨_, rfl⟩ ?_
              refine wa_istore (n := 4) rfl ?_
              refine wa_iload (n := 4) rfl ?_
              refine wa_istore (n := 5) rfl ?_
              refine wa_iconst ?_
              refine wa_istore (n := 6) rfl ?_
              refine wa_fall ⟨_, rfl⟩ ?_
              exfalso; omega
          · skip
            exact absurd c37 (by omega)
        · skip
          refine wa_aload_n (n := 0) rfl ?_
          refine wa_iload_n (n := 1) rfl ?_
          refine wa_cv 215 rfl (wy_pr rfl) wt_215 (M2 := mS [217, 218]) rfl at_XK_isHolder ⟨_, rfl⟩ rfl rfl ⟨(Or.inr ⟨wy_pr rfl, mS_no rfl⟩), trivial, trivial⟩ trivial (fun _ _ q => q) ?_ (fun _ _ _ q => q)
          refine wa_aload_n (n := 0) rfl ?_
          refine wb_gf4 215 rfl (wy_pr rfl) wt_215 wf_8_3 (v := 216) wl_215_3 ?_
          refine wb_gf4 216 rfl (wy_pr rfl) wt_216 wf_7_0 (v := 217) wl_216_0 ?_
          refine wa_iload_n (n := 1) rfl ?_
          refine wb_bald 217 rfl (wy_pr rfl) wt_217 (n := (S 217 (-1))) (rfl) (by omega) (by omega) (v := ky) (hky) (fun r41 => ?_)
          refine wa_iconst ?_
          refine wa_icmpeq (w_rg0 (by omega) (by omega)) (w_rg0 (by omega) (by omega)) ⟨_, rfl⟩ (fun c42 => ?_) (fun c42 => ?_)
          · skip
            refine wa_iconst ?_
            refine wa_goto ⟨_, rfl⟩ ?_
            refine wa_zreturn rfl (Or.inr rfl) ?_
            show wJ _ _ _ _ _ _ _ _ _ _
            refine wa_ifeq (w_rg0 (by omega) (by omega)) ⟨_, rfl⟩ (fun c43 => ?_) (fun c43 => ?_)
            · skip
              exact absurd c43 (by omega)
            · skip
              refine wa_fall ⟨_, rfl⟩ ?_
              refine wa_iconst ?_
              refine wa_goto ⟨_, rfl⟩ ?_
              refine wa_zreturn rfl (Or.inr rfl) ?_
              show wJ _ _ _ _ _ _ _ _ _ _
              refine wa_ifne (w_rg0 (by omega) (by omega)) ⟨_, rfl⟩ (fun c44 => ?_) (fun c44 => ?_)
              · skip
                refine wa_aload_n (n := 0) rfl ?_
                refine wb_gf4 215 rfl (wy_pr rfl) wt_215 wf_8_3 (v := 216) wl_215_3 ?_
                refine wb_gf4 216 rfl (wy_pr rfl) wt_216 wf_7_1 (v := 218) wl_216_1 ?_
                refine wa_iload_n (n := 1) rfl ?_
                refine wb_lald 218 rfl (wy_pr rfl) wt_218 (n := (S 217 (-1))) (bl1) (by omega) (by omega) (v := vx) (hvx) (fun r45 => ?_)
                refine wb_l2i_r (wb_l2i_id ⟨(by omega), (by omega)⟩) ?_
                refine wa_istore_n (n := 3) rfl ?_
                refine wa_aload_n (n := 0) rfl ?_
                refine wb_gf4 215 rfl (wy_pr rfl) wt_215 wf_8_3 (v := 216) wl_215_3 ?_
                refine wb_gf4 216 rfl (wy_pr rfl) wt_216 wf_7_0 (v := 217) wl_216_0 ?_
                refine wa_iload_n (n := 2) rfl ?_
                refine wb_bald 217 rfl (wy_pr rfl) wt_217 (n := (S 217 (-1))) (rfl) (by omega) (by omega) (v := ky) (hky) (fun r46 => ?_)
                refine wa_ifne (w_rg0 (by omega) (by omega)) ⟨_, rfl⟩ (fun c47 => ?_) (fun c47 => ?_)
                · skip
                  refine wa_aload_n (n := 0) rfl ?_
                  refine wb_gf4 215 rfl (wy_pr rfl) wt_215 wf_8_3 (v := 216) wl_215_3 ?_
                  refine wb_gf4 216 rfl (wy_pr rfl) wt_216 wf_7_1 (v := 218) wl_216_1 ?_
                  refine wa_iload_n (n := 2) rfl ?_
                  refine wb_lald 218 rfl (wy_pr rfl) wt_218 (n := (S 217 (-1))) (bl1) (by omega) (by omega) (v := vy) (hvy) (fun r48 => ?_)
                  refine wb_l2i_r (wb_l2i_id ⟨(by omega), (by omega)⟩) ?_
                  refine wa_fall ⟨_, rfl⟩ ?_
                  refine wa_istore (n := 4) rfl ?_
                  refine wa_iload (n := 4) rfl ?_
                  refine wa_istore (n := 5) rfl ?_
                  refine wa_iconst ?_
                  refine wa_istore (n := 6) rfl ?_
                  refine wa_fall ⟨_, rfl⟩ ?_
                  exfalso; omega
                · skip
                  exact absurd c47 (by omega)
              · skip
                exact absurd c44 (by omega)
          · skip
            refine wa_aload_n (n := 0) rfl ?_
            refine wb_gf4 215 rfl (wy_pr rfl) wt_215 wf_8_3 (v := 216) wl_215_3 ?_
            refine wb_gf4 216 rfl (wy_pr rfl) wt_216 wf_7_0 (v := 217) wl_216_0 ?_
            refine wa_iload_n (n := 1) rfl ?_
            refine wb_bald 217 rfl (wy_pr rfl) wt_217 (n := (S 217 (-1))) (rfl) (by omega) (by omega) (v := ky) (hky) (fun r49 => ?_)
            refine wa_iconst ?_
            refine wa_icmpne (w_rg0 (by omega) (by omega)) (w_rg0 (by omega) (by omega)) ⟨_, rfl⟩ (fun c50 => ?_) (fun c50 => ?_)
            · skip
              refine wa_iconst ?_
              refine wa_fall ⟨_, rfl⟩ ?_
              refine wa_zreturn rfl (Or.inl rfl) ?_
              show wJ _ _ _ _ _ _ _ _ _ _
              refine wa_ifeq (w_rg0 (by omega) (by omega)) ⟨_, rfl⟩ (fun c51 => ?_) (fun c51 => ?_)
              · skip
                refine wa_iconst ?_
                refine wa_fall ⟨_, rfl⟩ ?_
                refine wa_zreturn rfl (Or.inl rfl) ?_
                show wJ _ _ _ _ _ _ _ _ _ _
                refine wa_ifne (w_rg0 (by omega) (by omega)) ⟨_, rfl⟩ (fun c52 => ?_) (fun c52 => ?_)
                · skip
                  exact absurd c52 (by omega)
                · skip
                  refine wa_fall ⟨_, rfl⟩ ?_
                  refine wa_aload_n (n := 0) rfl ?_
                  refine wa_bipush (w_rg2 (by omega) (by omega)) ?_
                  refine wb_pfi 215 rfl (wy_pr rfl) wt_215 wf_8_16 (n := 16) rfl ⟨(by omega), (by omega)⟩ ?_
                  refine wa_return rfl ?_
                  show wJ _ _ _ _ _ _ _ _ _ _
                  refine wa_goto ⟨_, rfl⟩ ?_
                  refine wa_return rfl ?_
                  exact ⟨rfl, rfl⟩
              · skip
                exact absurd c51 (by omega)
            · skip
              refine wa_fall ⟨_, rfl⟩ ?_
              refine wa_iconst ?_
              refine wa_goto ⟨_, rfl⟩ ?_
              refine wa_zreturn rfl (Or.inr rfl) ?_
              show wJ _ _ _ _ _ _ _ _ _ _
              refine wa_ifeq (w_rg0 (by omega) (by omega)) ⟨_, rfl⟩ (fun c53 => ?_) (fun c53 => ?_)
              · skip
                exact absurd c53 (by omega)
              · skip
                refine wa_fall ⟨_, rfl⟩ ?_
                refine wa_iconst ?_
                refine wa_goto ⟨_, rfl⟩ ?_
                refine wa_zreturn rfl (Or.inr rfl) ?_
                show wJ _ _ _ _ _ _ _ _ _ _
                refine wa_ifne (w_rg0 (by omega) (by omega)) ⟨_, rfl⟩ (fun c54 => ?_) (fun c54 => ?_)
                · skip
                  refine wa_aload_n (n := 0) rfl ?_
                  refine wb_gf4 215 rfl (wy_pr rfl) wt_215 wf_8_3 (v := 216) wl_215_3 ?_
                  refine wb_gf4 216 rfl (wy_pr rfl) wt_216 wf_7_1 (v := 218) wl_216_1 ?_
                  refine wa_iload_n (n := 1) rfl ?_
                  refine wb_lald 218 rfl (wy_pr rfl) wt_218 (n := (S 217 (-1))) (bl1) (by omega) (by omega) (v := vx) (hvx) (fun r55 => ?_)
                  refine wb_l2i_r (wb_l2i_id ⟨(by omega), (by omega)⟩) ?_
                  refine wa_istore_n (n := 3) rfl ?_
                  refine wa_aload_n (n := 0) rfl ?_
                  refine wb_gf4 215 rfl (wy_pr rfl) wt_215 wf_8_3 (v := 216) wl_215_3 ?_
                  refine wb_gf4 216 rfl (wy_pr rfl) wt_216 wf_7_0 (v := 217) wl_216_0 ?_
                  refine wa_iload_n (n := 2) rfl ?_
                  refine wb_bald 217 rfl (wy_pr rfl) wt_217 (n := (S 217 (-1))) (rfl) (by omega) (by omega) (v := ky) (hky) (fun r56 => ?_)
                  refine wa_ifne (w_rg0 (by omega) (by omega)) ⟨_, rfl⟩ (fun c57 => ?_) (fun c57 => ?_)
                  · skip
                    refine wa_aload_n (n := 0) rfl ?_
                    refine wb_gf4 215 rfl (wy_pr rfl) wt_215 wf_8_3 (v := 216) wl_215_3 ?_
                    refine wb_gf4 216 rfl (wy_pr rfl) wt_216 wf_7_1 (v := 218) wl_216_1 ?_
                    refine wa_iload_n (n := 2) rfl ?_
                    refine wb_lald 218 rfl (wy_pr rfl) wt_218 (n := (S 217 (-1))) (bl1) (by omega) (by omega) (v := vy) (hvy) (fun r58 => ?_)
                    refine wb_l2i_r (wb_l2i_id ⟨(by omega), (by omega)⟩) ?_
                    refine wa_fall ⟨_, rfl⟩ ?_
                    refine wa_istore (n := 4) rfl ?_
                    refine wa_iload (n := 4) rfl ?_
                    refine wa_istore (n := 5) rfl ?_
                    refine wa_iconst ?_
                    refine wa_istore (n := 6) rfl ?_
                    refine wa_fall ⟨_, rfl⟩ ?_
                    exfalso; omega
                  · skip
                    exact absurd c57 (by omega)
                · skip
                  exact absurd c54 (by omega)
theorem zb30_215 (h : stC 215 S K) (hi : cIn S K 28 3 b) (hx1 : pe_at (pe_GA xs).xs 1 = some (1, tx_1)) (hW : cWd S T L G) (hsw : cSw S T H) (hwS : wSh T H) (hT : (T.length : Int) ≤ 8000) (hu4 : 0 ≤ S 150 4 ∧ S 150 4 ≤ 4000 ∧ (H.length : Int) ≤ S 150 4 + 1) (hnb : ∀ s : Int, 0 ≤ s → s < (H.length : Int) → qNm H s ≤ 100000) (hch : 0 ≤ S 72 11 ∧ S 72 11 ≤ 9000000) (hep : ∀ k : Int, isO T k → (tO T k).2.2.2.2.1 ≤ S 72 11) (h56 : S 156 (-1) = 65) (hh1 : 2 ≤ K.1.length) (hx : (K.1.getD (K.1.length - 2) (0, 0, [])).1 = 4 ∨ (K.1.getD (K.1.length - 2) (0, 0, [])).1 = 5) (ho : isO T (K.1.getD (K.1.length - 2) (0, 0, [])).2.1) (hy : (K.1.getD (K.1.length - 1) (0, 0, [])).1 = 0) (hm0 : hMe (aPr T H) (K.1.getD (K.1.length - 2) (0, 0, [])).2.1 (T.length + 1) (-1) = 0) (hm : S 150 4 + aMb H (-1) (fS (-1) (aNs H (tO T (K.1.getD (K.1.length - 2) (0, 0, [])).2.1).2.1) 0) ≤ 4000) : cSm xs d 215 [217, 218, 144, 145, 146, 147, 148] cMt S (kP K 2 (K.1.getD (K.1.length - 2) (0, 0, []))) (fun Z => cWd Z (tNc (rsT T H (-1)) (K.1.getD (K.1.length - 2) (0, 0, [])).2.1 (rsS T H (-1) (fS (-1) (aNs H (tO T (K.1.getD (K.1.length - 2) (0, 0, [])).2.1).2.1) 0)) (S 72 11)) L G ∧ cSw Z (tNc (rsT T H (-1)) (K.1.getD (K.1.length - 2) (0, 0, [])).2.1 (rsS T H (-1) (fS (-1) (aNs H (tO T (K.1.getD (K.1.length - 2) (0, 0, [])).2.1).2.1) 0)) (S 72 11)) (rsH T H (-1) (fS (-1) (aNs H (tO T (K.1.getD (K.1.length - 2) (0, 0, [])).2.1).2.1) 0)) ∧ (Z 150 4 = S 150 4 + aMb H (-1) (fS (-1) (aNs H (tO T (K.1.getD (K.1.length - 2) (0, 0, [])).2.1).2.1) 0) ∧ ∀ x : Int, x ≠ 4 → Z 150 x = S 150 x) ∧ Z 72 11 = S 72 11 + (if (tO (rsT T H (-1)) (K.1.getD (K.1.length - 2) (0, 0, [])).2.1).2.2.2.2.1 = -1 then 0 else 1) ∧ (cPo S → cPo Z)) := by
  obtain ⟨h1, ⟨h2, h2b⟩, ⟨h3, h4, h5⟩, -⟩ := id h
  have hW2 : cWd (w_up S 215 16 0) T L G := cWd_up hW (by first | decide | omega)
  have hsw2 : cSw (w_up S 215 16 0) T H := cSw_up hsw (by first | decide | omega)
  have hk : cTk 215 (w_up S 215 16 0) K := cTk_16 h1 (Or.inl rfl)
  have hf : cFr 215 S (w_up S 215 16 0) := cFr_up (Or.inl rfl) (cFr_rfl h2b) (by first | decide | omega) (by omega)
  have ef : ∀ (j : Nat) (x : Int), j < 215 → (w_up S 215 16 0) j x = S j x := fun j x j0 => w_up_slot (by omega)
  have hcy := c_at h1 (i := K.1.length - 1) (by omega) (j := (K.1.length : Int) - 1) (by omega)
  have hcx := c_at h1 (i := K.1.length - 2) (by omega) (j := (K.1.length : Int) - 1 - 1) (by omega)
  have hvx : S 218 ((K.1.length : Int) - 1 - 1) = (K.1.getD (K.1.length - 2) (0, 0, [])).2.1 := cV_v hcx (by omega)
  have e4 : (w_up S 215 16 0) 150 4 = S 150 4 := ef 150 4 (by first | decide | omega)
  have e11 : (w_up S 215 16 0) 72 11 = S 72 11 := ef 72 11 (by first | decide | omega)
  have poT : cPo S → cPo (w_up S 215 16 0) := fun po => cPo_ag po (ef 72 3 (by first | decide | omega)) (fun x => ⟨ef 134 x (by first | decide | omega), ef 135 x (by first | decide | omega)⟩) (ef 140 2 (by first | decide | omega)) (ef 150 1 (by first | decide | omega))
  have hlen : (rsT T H (-1)).length = T.length := (aBr_ok (l := (fS (-1) (aNs H (tO T (K.1.getD (K.1.length - 2) (0, 0, [])).2.1).2.1) 0)) hwS (Or.inl rfl) (by have := hwS.1.2.1; omega)).2.2.2.2.2.2.2
  refine cg_b_215 h hi.1 hi.2.1 hi.2.2 (by first | decide | omega) (fun q => by omega) (by first | decide | omega) (by unfold mS; decide) (xb30_215 (H := H) (T := T) (L := L) (G := G) (o1 := (K.1.getD (K.1.length - 2) (0, 0, [])).2.1) (xP_of (Or.inl rfl) h) hx1 ((w_up_slot (by first | decide | omega)).trans (hcy.1.trans hy)) rfl ((w_up_slot (by first | decide | omega)).trans hcx.1) ((w_up_slot (by first | decide | omega)).trans hvx) (by omega) hx ho hW2 hsw2 hwS hT (by rw [e4]; exact hu4) hnb (by rw [e11]; exact hch) (by rw [e11]; exact hep) (by rw [ef 156 _ (by first | decide | omega)]; exact h56)) (fun Z hz => ?_)
  rcases hz with ⟨z, -⟩ | ⟨-, z, -⟩ | ⟨-, -, A, hA, hs⟩
  · rw [hm0] at z; exact absurd z (by first | decide | omega)
  · rw [e4] at z; omega
  · obtain ⟨g1, g2, g3, g4, ⟨g5, g6⟩, g7, g8, g9⟩ := re_tail (m := 2) (u := (K.1.getD (K.1.length - 2) (0, 0, []))) (Or.inl rfl) hk h3 h4 hh1 ho.1 hlen hA hs (by omega) (hcx.2.1 (by omega)).2
    rw [e11] at g2 g3 g7
    exact ⟨g9.trans (w_up_same _ _ _ _), g1, cFm_tr (cFm_r hf) g4, g2, g3, ⟨g5.trans (by rw [e4]), fun x hx4 => (g6 x hx4).trans (ef 150 x (by first | decide | omega))⟩, g7, fun po => g8 (poT po)⟩
theorem zb30r_215 (h : stC 215 S K) (hi : cIn S K 28 3 b) (hx1 : pe_at (pe_GA xs).xs 1 = some (1, tx_1)) (hW : cWd S T L G) (hsw : cSw S T H) (hwS : wSh T H) (hT : (T.length : Int) ≤ 8000) (hu4 : 0 ≤ S 150 4 ∧ S 150 4 ≤ 4000 ∧ (H.length : Int) ≤ S 150 4 + 1) (hnb : ∀ s : Int, 0 ≤ s → s < (H.length : Int) → qNm H s ≤ 100000) (hch : 0 ≤ S 72 11 ∧ S 72 11 ≤ 9000000) (hep : ∀ k : Int, isO T k → (tO T k).2.2.2.2.1 ≤ S 72 11) (h56 : S 156 (-1) = 65) (hh1 : 2 ≤ K.1.length) (hx : (K.1.getD (K.1.length - 2) (0, 0, [])).1 = 4 ∨ (K.1.getD (K.1.length - 2) (0, 0, [])).1 = 5) (ho : isO T (K.1.getD (K.1.length - 2) (0, 0, [])).2.1) (hy : (K.1.getD (K.1.length - 1) (0, 0, [])).1 = 0) (hm0 : hMe (aPr T H) (K.1.getD (K.1.length - 2) (0, 0, [])).2.1 (T.length + 1) (-1) = 1) : cSx xs d 215 [217, 218, 144, 145, 146, 147, 148] S (kTh K (2, 12, [])) := by
  obtain ⟨h1, ⟨h2, h2b⟩, ⟨h3, h4, h5⟩, -⟩ := id h
  have hW2 : cWd (w_up S 215 16 0) T L G := cWd_up hW (by first | decide | omega)
  have hsw2 : cSw (w_up S 215 16 0) T H := cSw_up hsw (by first | decide | omega)
  have hk : cTk 215 (w_up S 215 16 0) K := cTk_16 h1 (Or.inl rfl)
  have hf : cFr 215 S (w_up S 215 16 0) := cFr_up (Or.inl rfl) (cFr_rfl h2b) (by first | decide | omega) (by omega)
  have ef : ∀ (j : Nat) (x : Int), j < 215 → (w_up S 215 16 0) j x = S j x := fun j x j0 => w_up_slot (by omega)
  have hcy := c_at h1 (i := K.1.length - 1) (by omega) (j := (K.1.length : Int) - 1) (by omega)
  have hcx := c_at h1 (i := K.1.length - 2) (by omega) (j := (K.1.length : Int) - 1 - 1) (by omega)
  have hvx : S 218 ((K.1.length : Int) - 1 - 1) = (K.1.getD (K.1.length - 2) (0, 0, [])).2.1 := cV_v hcx (by omega)
  have e4 : (w_up S 215 16 0) 150 4 = S 150 4 := ef 150 4 (by first | decide | omega)
  have e11 : (w_up S 215 16 0) 72 11 = S 72 11 := ef 72 11 (by first | decide | omega)
  exact cx_b_215 h hi.1 hi.2.1 hi.2.2 (by first | decide | omega) (fun q => by omega) (by first | decide | omega) (by unfold mS; decide) (by first | decide | omega) (wJ_mono (xb30_215 (H := H) (T := T) (L := L) (G := G) (o1 := (K.1.getD (K.1.length - 2) (0, 0, [])).2.1) (xP_of (Or.inl rfl) h) hx1 ((w_up_slot (by first | decide | omega)).trans (hcy.1.trans hy)) rfl ((w_up_slot (by first | decide | omega)).trans hcx.1) ((w_up_slot (by first | decide | omega)).trans hvx) (by omega) hx ho hW2 hsw2 hwS hT (by rw [e4]; exact hu4) hnb (by rw [e11]; exact hch) (by rw [e11]; exact hep) (by rw [ef 156 _ (by first | decide | omega)]; exact h56)) (fun o Z hz => ⟨hz.1, by
    rcases hz.2 with ⟨-, z⟩ | ⟨z, -⟩ | ⟨z, -⟩
    · exact z
    · rw [hm0] at z; exact absurd z (by first | decide | omega)
    · rw [hm0] at z; exact absurd z (by first | decide | omega)⟩))
theorem zb30m_215 (h : stC 215 S K) (hi : cIn S K 28 3 b) (hx1 : pe_at (pe_GA xs).xs 1 = some (1, tx_1)) (hW : cWd S T L G) (hsw : cSw S T H) (hwS : wSh T H) (hT : (T.length : Int) ≤ 8000) (hu4 : 0 ≤ S 150 4 ∧ S 150 4 ≤ 4000 ∧ (H.length : Int) ≤ S 150 4 + 1) (hnb : ∀ s : Int, 0 ≤ s → s < (H.length : Int) → qNm H s ≤ 100000) (hch : 0 ≤ S 72 11 ∧ S 72 11 ≤ 9000000) (hep : ∀ k : Int, isO T k → (tO T k).2.2.2.2.1 ≤ S 72 11) (h56 : S 156 (-1) = 65) (hh1 : 2 ≤ K.1.length) (hx : (K.1.getD (K.1.length - 2) (0, 0, [])).1 = 4 ∨ (K.1.getD (K.1.length - 2) (0, 0, [])).1 = 5) (ho : isO T (K.1.getD (K.1.length - 2) (0, 0, [])).2.1) (hy : (K.1.getD (K.1.length - 1) (0, 0, [])).1 = 0) (hm0 : hMe (aPr T H) (K.1.getD (K.1.length - 2) (0, 0, [])).2.1 (T.length + 1) (-1) = 0) (hm : 4000 < S 150 4 + aMb H (-1) (fS (-1) (aNs H (tO T (K.1.getD (K.1.length - 2) (0, 0, [])).2.1).2.1) 0)) : cSo xs d 215 [217, 218, 144, 145, 146, 147, 148] cMo S K := by
  obtain ⟨h1, ⟨h2, h2b⟩, ⟨h3, h4, h5⟩, -⟩ := id h
  have hW2 : cWd (w_up S 215 16 0) T L G := cWd_up hW (by first | decide | omega)
  have hsw2 : cSw (w_up S 215 16 0) T H := cSw_up hsw (by first | decide | omega)
  have hk : cTk 215 (w_up S 215 16 0) K := cTk_16 h1 (Or.inl rfl)
  have hf : cFr 215 S (w_up S 215 16 0) := cFr_up (Or.inl rfl) (cFr_rfl h2b) (by first | decide | omega) (by omega)
  have ef : ∀ (j : Nat) (x : Int), j < 215 → (w_up S 215 16 0) j x = S j x := fun j x j0 => w_up_slot (by omega)
  have hcy := c_at h1 (i := K.1.length - 1) (by omega) (j := (K.1.length : Int) - 1) (by omega)
  have hcx := c_at h1 (i := K.1.length - 2) (by omega) (j := (K.1.length : Int) - 1 - 1) (by omega)
  have hvx : S 218 ((K.1.length : Int) - 1 - 1) = (K.1.getD (K.1.length - 2) (0, 0, [])).2.1 := cV_v hcx (by omega)
  have e4 : (w_up S 215 16 0) 150 4 = S 150 4 := ef 150 4 (by first | decide | omega)
  have e11 : (w_up S 215 16 0) 72 11 = S 72 11 := ef 72 11 (by first | decide | omega)
  refine wJ_mono (cm_b_215 (R := fun Z => ∃ A : wS, oF (w_up S 215 16 0) A ∧ w_up A 215 16 99 = Z) h hi.1 hi.2.1 hi.2.2 (by first | decide | omega) (fun q => by omega) (by first | decide | omega) (by unfold mS; decide) (wJ_mono (xb30_215 (H := H) (T := T) (L := L) (G := G) (o1 := (K.1.getD (K.1.length - 2) (0, 0, [])).2.1) (xP_of (Or.inl rfl) h) hx1 ((w_up_slot (by first | decide | omega)).trans (hcy.1.trans hy)) rfl ((w_up_slot (by first | decide | omega)).trans hcx.1) ((w_up_slot (by first | decide | omega)).trans hvx) (by omega) hx ho hW2 hsw2 hwS hT (by rw [e4]; exact hu4) hnb (by rw [e11]; exact hch) (by rw [e11]; exact hep) (by rw [ef 156 _ (by first | decide | omega)]; exact h56)) (fun o Z hz => ⟨hz.1, by
    rcases hz.2 with ⟨z, -⟩ | ⟨-, -, z⟩ | ⟨-, z, -⟩
    · rw [hm0] at z; exact absurd z (by first | decide | omega)
    · exact z
    · rw [e4] at z; omega⟩)) (fun Z hz => by obtain ⟨A, -, rfl⟩ := hz; exact w_up_same _ _ _ _)) (fun o Z2 hz => ?_)
  obtain ⟨hz0, Z, ⟨A, hA, rfl⟩, rfl⟩ := hz
  exact ⟨hz0, cTk_st (cTk_16 (oF_tk (Or.inl rfl) hA hk) (Or.inl rfl)) (Or.inl rfl), cFm_up (Or.inl rfl) (cFm_up (Or.inl rfl) (cFm_tr (cFm_r hf) (oF_fm (Or.inl rfl) hA)) (by first | decide | omega) (Or.inl (by omega)) (by first | decide | omega)) (by first | decide | omega) (Or.inl (by omega)) (by first | decide | omega)⟩
theorem zb31_215 (h : stC 215 S K) (hi : cIn S K 28 3 b) (hx1 : pe_at (pe_GA xs).xs 1 = some (1, tx_1)) (hW : cWd S T L G) (hsw : cSw S T H) (hwS : wSh T H) (hT : (T.length : Int) ≤ 8000) (hu4 : 0 ≤ S 150 4 ∧ S 150 4 ≤ 4000 ∧ (H.length : Int) ≤ S 150 4 + 1) (hnb : ∀ s : Int, 0 ≤ s → s < (H.length : Int) → qNm H s ≤ 100000) (hch : 0 ≤ S 72 11 ∧ S 72 11 ≤ 9000000) (hep : ∀ k : Int, isO T k → (tO T k).2.2.2.2.1 ≤ S 72 11) (h56 : S 156 (-1) = 65) (hh1 : 2 ≤ K.1.length) (hx : (K.1.getD (K.1.length - 2) (0, 0, [])).1 = 4 ∨ (K.1.getD (K.1.length - 2) (0, 0, [])).1 = 5) (ho : isO T (K.1.getD (K.1.length - 2) (0, 0, [])).2.1) (hy : (K.1.getD (K.1.length - 1) (0, 0, [])).1 = 4 ∨ (K.1.getD (K.1.length - 1) (0, 0, [])).1 = 5) (hq : isO T (K.1.getD (K.1.length - 1) (0, 0, [])).2.1) (hm0 : hMe (aPr T H) (K.1.getD (K.1.length - 2) (0, 0, [])).2.1 (T.length + 1) (K.1.getD (K.1.length - 1) (0, 0, [])).2.1 = 0) (hm : S 150 4 + aMb H (K.1.getD (K.1.length - 1) (0, 0, [])).2.1 (fS (-1) (aNs H (tO T (K.1.getD (K.1.length - 2) (0, 0, [])).2.1).2.1) 0) ≤ 4000) : cSm xs d 215 [217, 218, 144, 145, 146, 147, 148] cMt S (kP K 2 (K.1.getD (K.1.length - 2) (0, 0, []))) (fun Z => cWd Z (tNc (rsT T H (K.1.getD (K.1.length - 1) (0, 0, [])).2.1) (K.1.getD (K.1.length - 2) (0, 0, [])).2.1 (rsS T H (K.1.getD (K.1.length - 1) (0, 0, [])).2.1 (fS (-1) (aNs H (tO T (K.1.getD (K.1.length - 2) (0, 0, [])).2.1).2.1) 0)) (S 72 11)) L G ∧ cSw Z (tNc (rsT T H (K.1.getD (K.1.length - 1) (0, 0, [])).2.1) (K.1.getD (K.1.length - 2) (0, 0, [])).2.1 (rsS T H (K.1.getD (K.1.length - 1) (0, 0, [])).2.1 (fS (-1) (aNs H (tO T (K.1.getD (K.1.length - 2) (0, 0, [])).2.1).2.1) 0)) (S 72 11)) (rsH T H (K.1.getD (K.1.length - 1) (0, 0, [])).2.1 (fS (-1) (aNs H (tO T (K.1.getD (K.1.length - 2) (0, 0, [])).2.1).2.1) 0)) ∧ (Z 150 4 = S 150 4 + aMb H (K.1.getD (K.1.length - 1) (0, 0, [])).2.1 (fS (-1) (aNs H (tO T (K.1.getD (K.1.length - 2) (0, 0, [])).2.1).2.1) 0) ∧ ∀ x : Int, x ≠ 4 → Z 150 x = S 150 x) ∧ Z 72 11 = S 72 11 + (if (tO (rsT T H (K.1.getD (K.1.length - 1) (0, 0, [])).2.1) (K.1.getD (K.1.length - 2) (0, 0, [])).2.1).2.2.2.2.1 = -1 then 0 else 1) ∧ (cPo S → cPo Z)) := by
  obtain ⟨h1, ⟨h2, h2b⟩, ⟨h3, h4, h5⟩, -⟩ := id h
  have hW2 : cWd (w_up S 215 16 0) T L G := cWd_up hW (by first | decide | omega)
  have hsw2 : cSw (w_up S 215 16 0) T H := cSw_up hsw (by first | decide | omega)
  have hk : cTk 215 (w_up S 215 16 0) K := cTk_16 h1 (Or.inl rfl)
  have hf : cFr 215 S (w_up S 215 16 0) := cFr_up (Or.inl rfl) (cFr_rfl h2b) (by first | decide | omega) (by omega)
  have ef : ∀ (j : Nat) (x : Int), j < 215 → (w_up S 215 16 0) j x = S j x := fun j x j0 => w_up_slot (by omega)
  have hcy := c_at h1 (i := K.1.length - 1) (by omega) (j := (K.1.length : Int) - 1) (by omega)
  have hcx := c_at h1 (i := K.1.length - 2) (by omega) (j := (K.1.length : Int) - 1 - 1) (by omega)
  have hvx : S 218 ((K.1.length : Int) - 1 - 1) = (K.1.getD (K.1.length - 2) (0, 0, [])).2.1 := cV_v hcx (by omega)
  have e4 : (w_up S 215 16 0) 150 4 = S 150 4 := ef 150 4 (by first | decide | omega)
  have e11 : (w_up S 215 16 0) 72 11 = S 72 11 := ef 72 11 (by first | decide | omega)
  have hvy : S 218 ((K.1.length : Int) - 1) = (K.1.getD (K.1.length - 1) (0, 0, [])).2.1 := cV_v hcy (by omega)
  have poT : cPo S → cPo (w_up S 215 16 0) := fun po => cPo_ag po (ef 72 3 (by first | decide | omega)) (fun x => ⟨ef 134 x (by first | decide | omega), ef 135 x (by first | decide | omega)⟩) (ef 140 2 (by first | decide | omega)) (ef 150 1 (by first | decide | omega))
  have hlen : (rsT T H (K.1.getD (K.1.length - 1) (0, 0, [])).2.1).length = T.length := (aBr_ok (l := (fS (-1) (aNs H (tO T (K.1.getD (K.1.length - 2) (0, 0, [])).2.1).2.1) 0)) hwS (Or.inr hq) (by have := hwS.1.2.1; omega)).2.2.2.2.2.2.2
  refine cg_b_215 h hi.1 hi.2.1 hi.2.2 (by first | decide | omega) (fun q => by omega) (by first | decide | omega) (by unfold mS; decide) (xb31_215 (H := H) (T := T) (L := L) (G := G) (o1 := (K.1.getD (K.1.length - 2) (0, 0, [])).2.1) (q := (K.1.getD (K.1.length - 1) (0, 0, [])).2.1) (xP_of (Or.inl rfl) h) hx1 ((w_up_slot (by first | decide | omega)).trans hcy.1) ((w_up_slot (by first | decide | omega)).trans hvy) ((w_up_slot (by first | decide | omega)).trans hcx.1) ((w_up_slot (by first | decide | omega)).trans hvx) (by omega) hx ho hy hq hW2 hsw2 hwS hT (by rw [e4]; exact hu4) hnb (by rw [e11]; exact hch) (by rw [e11]; exact hep) (by rw [ef 156 _ (by first | decide | omega)]; exact h56)) (fun Z hz => ?_)
  rcases hz with ⟨z, -⟩ | ⟨-, z, -⟩ | ⟨-, -, A, hA, hs⟩
  · rw [hm0] at z; exact absurd z (by first | decide | omega)
  · rw [e4] at z; omega
  · obtain ⟨g1, g2, g3, g4, ⟨g5, g6⟩, g7, g8, g9⟩ := re_tail (m := 2) (u := (K.1.getD (K.1.length - 2) (0, 0, []))) (Or.inl rfl) hk h3 h4 hh1 ho.1 hlen hA hs (by omega) (hcx.2.1 (by omega)).2
    rw [e11] at g2 g3 g7
    exact ⟨g9.trans (w_up_same _ _ _ _), g1, cFm_tr (cFm_r hf) g4, g2, g3, ⟨g5.trans (by rw [e4]), fun x hx4 => (g6 x hx4).trans (ef 150 x (by first | decide | omega))⟩, g7, fun po => g8 (poT po)⟩
theorem zb31r_215 (h : stC 215 S K) (hi : cIn S K 28 3 b) (hx1 : pe_at (pe_GA xs).xs 1 = some (1, tx_1)) (hW : cWd S T L G) (hsw : cSw S T H) (hwS : wSh T H) (hT : (T.length : Int) ≤ 8000) (hu4 : 0 ≤ S 150 4 ∧ S 150 4 ≤ 4000 ∧ (H.length : Int) ≤ S 150 4 + 1) (hnb : ∀ s : Int, 0 ≤ s → s < (H.length : Int) → qNm H s ≤ 100000) (hch : 0 ≤ S 72 11 ∧ S 72 11 ≤ 9000000) (hep : ∀ k : Int, isO T k → (tO T k).2.2.2.2.1 ≤ S 72 11) (h56 : S 156 (-1) = 65) (hh1 : 2 ≤ K.1.length) (hx : (K.1.getD (K.1.length - 2) (0, 0, [])).1 = 4 ∨ (K.1.getD (K.1.length - 2) (0, 0, [])).1 = 5) (ho : isO T (K.1.getD (K.1.length - 2) (0, 0, [])).2.1) (hy : (K.1.getD (K.1.length - 1) (0, 0, [])).1 = 4 ∨ (K.1.getD (K.1.length - 1) (0, 0, [])).1 = 5) (hq : isO T (K.1.getD (K.1.length - 1) (0, 0, [])).2.1) (hm0 : hMe (aPr T H) (K.1.getD (K.1.length - 2) (0, 0, [])).2.1 (T.length + 1) (K.1.getD (K.1.length - 1) (0, 0, [])).2.1 = 1) : cSx xs d 215 [217, 218, 144, 145, 146, 147, 148] S (kTh K (2, 12, [])) := by
  obtain ⟨h1, ⟨h2, h2b⟩, ⟨h3, h4, h5⟩, -⟩ := id h
  have hW2 : cWd (w_up S 215 16 0) T L G := cWd_up hW (by first | decide | omega)
  have hsw2 : cSw (w_up S 215 16 0) T H := cSw_up hsw (by first | decide | omega)
  have hk : cTk 215 (w_up S 215 16 0) K := cTk_16 h1 (Or.inl rfl)
  have hf : cFr 215 S (w_up S 215 16 0) := cFr_up (Or.inl rfl) (cFr_rfl h2b) (by first | decide | omega) (by omega)
  have ef : ∀ (j : Nat) (x : Int), j < 215 → (w_up S 215 16 0) j x = S j x := fun j x j0 => w_up_slot (by omega)
  have hcy := c_at h1 (i := K.1.length - 1) (by omega) (j := (K.1.length : Int) - 1) (by omega)
  have hcx := c_at h1 (i := K.1.length - 2) (by omega) (j := (K.1.length : Int) - 1 - 1) (by omega)
  have hvx : S 218 ((K.1.length : Int) - 1 - 1) = (K.1.getD (K.1.length - 2) (0, 0, [])).2.1 := cV_v hcx (by omega)
  have e4 : (w_up S 215 16 0) 150 4 = S 150 4 := ef 150 4 (by first | decide | omega)
  have e11 : (w_up S 215 16 0) 72 11 = S 72 11 := ef 72 11 (by first | decide | omega)
  have hvy : S 218 ((K.1.length : Int) - 1) = (K.1.getD (K.1.length - 1) (0, 0, [])).2.1 := cV_v hcy (by omega)
  exact cx_b_215 h hi.1 hi.2.1 hi.2.2 (by first | decide | omega) (fun q => by omega) (by first | decide | omega) (by unfold mS; decide) (by first | decide | omega) (wJ_mono (xb31_215 (H := H) (T := T) (L := L) (G := G) (o1 := (K.1.getD (K.1.length - 2) (0, 0, [])).2.1) (q := (K.1.getD (K.1.length - 1) (0, 0, [])).2.1) (xP_of (Or.inl rfl) h) hx1 ((w_up_slot (by first | decide | omega)).trans hcy.1) ((w_up_slot (by first | decide | omega)).trans hvy) ((w_up_slot (by first | decide | omega)).trans hcx.1) ((w_up_slot (by first | decide | omega)).trans hvx) (by omega) hx ho hy hq hW2 hsw2 hwS hT (by rw [e4]; exact hu4) hnb (by rw [e11]; exact hch) (by rw [e11]; exact hep) (by rw [ef 156 _ (by first | decide | omega)]; exact h56)) (fun o Z hz => ⟨hz.1, by
    rcases hz.2 with ⟨-, z⟩ | ⟨z, -⟩ | ⟨z, -⟩
    · exact z
    · rw [hm0] at z; exact absurd z (by first | decide | omega)
    · rw [hm0] at z; exact absurd z (by first | decide | omega)⟩))
theorem zb31m_215 (h : stC 215 S K) (hi : cIn S K 28 3 b) (hx1 : pe_at (pe_GA xs).xs 1 = some (1, tx_1)) (hW : cWd S T L G) (hsw : cSw S T H) (hwS : wSh T H) (hT : (T.length : Int) ≤ 8000) (hu4 : 0 ≤ S 150 4 ∧ S 150 4 ≤ 4000 ∧ (H.length : Int) ≤ S 150 4 + 1) (hnb : ∀ s : Int, 0 ≤ s → s < (H.length : Int) → qNm H s ≤ 100000) (hch : 0 ≤ S 72 11 ∧ S 72 11 ≤ 9000000) (hep : ∀ k : Int, isO T k → (tO T k).2.2.2.2.1 ≤ S 72 11) (h56 : S 156 (-1) = 65) (hh1 : 2 ≤ K.1.length) (hx : (K.1.getD (K.1.length - 2) (0, 0, [])).1 = 4 ∨ (K.1.getD (K.1.length - 2) (0, 0, [])).1 = 5) (ho : isO T (K.1.getD (K.1.length - 2) (0, 0, [])).2.1) (hy : (K.1.getD (K.1.length - 1) (0, 0, [])).1 = 4 ∨ (K.1.getD (K.1.length - 1) (0, 0, [])).1 = 5) (hq : isO T (K.1.getD (K.1.length - 1) (0, 0, [])).2.1) (hm0 : hMe (aPr T H) (K.1.getD (K.1.length - 2) (0, 0, [])).2.1 (T.length + 1) (K.1.getD (K.1.length - 1) (0, 0, [])).2.1 = 0) (hm : 4000 < S 150 4 + aMb H (K.1.getD (K.1.length - 1) (0, 0, [])).2.1 (fS (-1) (aNs H (tO T (K.1.getD (K.1.length - 2) (0, 0, [])).2.1).2.1) 0)) : cSo xs d 215 [217, 218, 144, 145, 146, 147, 148] cMo S K := by
  obtain ⟨h1, ⟨h2, h2b⟩, ⟨h3, h4, h5⟩, -⟩ := id h
  have hW2 : cWd (w_up S 215 16 0) T L G := cWd_up hW (by first | decide | omega)
  have hsw2 : cSw (w_up S 215 16 0) T H := cSw_up hsw (by first | decide | omega)
  have hk : cTk 215 (w_up S 215 16 0) K := cTk_16 h1 (Or.inl rfl)
  have hf : cFr 215 S (w_up S 215 16 0) := cFr_up (Or.inl rfl) (cFr_rfl h2b) (by first | decide | omega) (by omega)
  have ef : ∀ (j : Nat) (x : Int), j < 215 → (w_up S 215 16 0) j x = S j x := fun j x j0 => w_up_slot (by omega)
  have hcy := c_at h1 (i := K.1.length - 1) (by omega) (j := (K.1.length : Int) - 1) (by omega)
  have hcx := c_at h1 (i := K.1.length - 2) (by omega) (j := (K.1.length : Int) - 1 - 1) (by omega)
  have hvx : S 218 ((K.1.length : Int) - 1 - 1) = (K.1.getD (K.1.length - 2) (0, 0, [])).2.1 := cV_v hcx (by omega)
  have e4 : (w_up S 215 16 0) 150 4 = S 150 4 := ef 150 4 (by first | decide | omega)
  have e11 : (w_up S 215 16 0) 72 11 = S 72 11 := ef 72 11 (by first | decide | omega)
  have hvy : S 218 ((K.1.length : Int) - 1) = (K.1.getD (K.1.length - 1) (0, 0, [])).2.1 := cV_v hcy (by omega)
  refine wJ_mono (cm_b_215 (R := fun Z => ∃ A : wS, oF (w_up S 215 16 0) A ∧ w_up A 215 16 99 = Z) h hi.1 hi.2.1 hi.2.2 (by first | decide | omega) (fun q => by omega) (by first | decide | omega) (by unfold mS; decide) (wJ_mono (xb31_215 (H := H) (T := T) (L := L) (G := G) (o1 := (K.1.getD (K.1.length - 2) (0, 0, [])).2.1) (q := (K.1.getD (K.1.length - 1) (0, 0, [])).2.1) (xP_of (Or.inl rfl) h) hx1 ((w_up_slot (by first | decide | omega)).trans hcy.1) ((w_up_slot (by first | decide | omega)).trans hvy) ((w_up_slot (by first | decide | omega)).trans hcx.1) ((w_up_slot (by first | decide | omega)).trans hvx) (by omega) hx ho hy hq hW2 hsw2 hwS hT (by rw [e4]; exact hu4) hnb (by rw [e11]; exact hch) (by rw [e11]; exact hep) (by rw [ef 156 _ (by first | decide | omega)]; exact h56)) (fun o Z hz => ⟨hz.1, by
    rcases hz.2 with ⟨z, -⟩ | ⟨-, -, z⟩ | ⟨-, z, -⟩
    · rw [hm0] at z; exact absurd z (by first | decide | omega)
    · exact z
    · rw [e4] at z; omega⟩)) (fun Z hz => by obtain ⟨A, -, rfl⟩ := hz; exact w_up_same _ _ _ _)) (fun o Z2 hz => ?_)
  obtain ⟨hz0, Z, ⟨A, hA, rfl⟩, rfl⟩ := hz
  exact ⟨hz0, cTk_st (cTk_16 (oF_tk (Or.inl rfl) hA hk) (Or.inl rfl)) (Or.inl rfl), cFm_up (Or.inl rfl) (cFm_up (Or.inl rfl) (cFm_tr (cFm_r hf) (oF_fm (Or.inl rfl) hA)) (by first | decide | omega) (Or.inl (by omega)) (by first | decide | omega)) (by first | decide | omega) (Or.inl (by omega)) (by first | decide | omega)⟩
theorem zb3e_215 (h : stC 215 S K) (hi : cIn S K 28 3 b) (hh1 : 2 ≤ K.1.length) (hy : ¬ (((K.1.getD (K.1.length - 2) (0, 0, [])).1 = 4 ∨ (K.1.getD (K.1.length - 2) (0, 0, [])).1 = 5) ∧ ((K.1.getD (K.1.length - 1) (0, 0, [])).1 = 0 ∨ (K.1.getD (K.1.length - 1) (0, 0, [])).1 = 4 ∨ (K.1.getD (K.1.length - 1) (0, 0, [])).1 = 5))) : cSt xs d 215 S (kTh K (2, 12, [])) := by
  have hcy := c_at h.1 (i := K.1.length - 1) (by omega) (j := (K.1.length : Int) - 1) (by omega)
  have hcx := c_at h.1 (i := K.1.length - 2) (by omega) (j := (K.1.length : Int) - 1 - 1) (by omega)
  exact cx_b_215 h hi.1 hi.2.1 hi.2.2 (by first | decide | omega) (fun q => by omega) (fun x hx => hx) (by unfold mS; decide) (by first | decide | omega) (xb3e_215 (xP_of (Or.inl rfl) h) ((w_up_slot (by first | decide | omega)).trans hcy.1) rfl ((w_up_slot (by first | decide | omega)).trans hcx.1) rfl (by omega) hy)
theorem xb30_226 {c p h kx o1 vy : Int} (hP : xP 226 c p h S) (hx1 : pe_at (pe_GA xs).xs 1 = some (1, tx_1)) (hky : S 228 (h - 1) = 0) (hvy : S 229 (h - 1) = vy) (hkx : S 228 (h - 1 - 1) = kx) (hvx : S 229 (h - 1 - 1) = o1) (hh1 : 2 ≤ h) (hkx45 : kx = 4 ∨ kx = 5) (ho : isO T o1) (hW : cWd S T L G) (hsw : cSw S T H) (hw : wSh T H) (hT : (T.length : Int) ≤ 8000) (hu4 : 0 ≤ S 150 4 ∧ S 150 4 ≤ 4000 ∧ (H.length : Int) ≤ S 150 4 + 1) (hnb : ∀ s : Int, 0 ≤ s → s < (H.length : Int) → qNm H s ≤ 100000) (hch : 0 ≤ S 72 11 ∧ S 72 11 ≤ 9000000) (hep : ∀ k : Int, isO T k → (tO T k).2.2.2.2.1 ≤ S 72 11) (h56 : S 156 (-1) = 65) : wJ (pe_GA xs) wY0 (mS [228, 229, 144, 145, 146, 147, 148]) (d + 11) t_XK_callBuiltin ((pe_at t_XK_callBuiltin.bl 0).getD (0, [])).2 [(0, (2, 226)), (1, (0, 3))] [] S (fun o Z => o = .inl none ∧ ((hMe (aPr T H) o1 (T.length + 1) (-1) = 1 ∧ w_up S 226 16 12 = Z) ∨ (hMe (aPr T H) o1 (T.length + 1) (-1) = 0 ∧ 4000 < S 150 4 + aMb H (-1) (fS (-1) (aNs H (tO T o1).2.1) 0) ∧ ∃ A : wS, oF S A ∧ w_up A 226 16 99 = Z) ∨ (hMe (aPr T H) o1 (T.length + 1) (-1) = 0 ∧ S 150 4 + aMb H (-1) (fS (-1) (aNs H (tO T o1).2.1) 0) ≤ 4000 ∧ ∃ A : wS, reQ (-1) (-1) o1 T H L G S A ∧ sO 226 h c p 2 kx o1 (ncZ o1 (aRb (-1) (fS (-1) (aNs H (tO T o1).2.1) 0) (aBr T H (-1)).2.1 (aBr T H (-1)).2.2).2 (A 130 o1) (A 72 11) A) Z))) := by
  obtain ⟨⟨hC, hI⟩, ⟨bc, bc0, bc1⟩, ⟨bp, bp0, bp1⟩, ⟨bh, bh0, bh1, bh2⟩, bl1, bl2, bl3⟩ := id hP
  replace bp : S 231 (c - 1) = p := bp
  replace bh : S 227 2 = h := bh
  replace bh2 : h ≤ S 228 (-1) := bh2
  replace bl1 : S 229 (-1) = S 228 (-1) := bl1
  replace bl2 : 64 ≤ S 228 (-1) := bl2
  replace bl3 : S 228 (-1) ≤ 4095 := bl3
  have hg : wG = 1000000 := rfl
  refine wa_aload_n (n := 0) rfl ?_
  refine wb_gf4 226 rfl (wy_pr rfl) wt_226 wf_8_3 (v := 227) wl_226_3 ?_
  refine wb_gfi 227 rfl (wy_pr rfl) wt_227 wf_7_2 (v := h) (bh) (fun r1 => ?_)
  refine wa_iconst ?_
  refine wa_isub ?_
  refine wa_istore_n (n := 2) rfl ?_
  refine wa_aload_n (n := 0) rfl ?_
  refine wb_gf4 226 rfl (wy_pr rfl) wt_226 wf_8_3 (v := 227) wl_226_3 ?_
  refine wb_gf4 227 rfl (wy_pr rfl) wt_227 wf_7_0 (v := 228) wl_227_0 ?_
  refine wa_iload_n (n := 2) rfl ?_
  refine wb_bald 228 rfl (wy_pr rfl) wt_228 (n := (S 228 (-1))) (rfl) (by omega) (by omega) (v := 0) (hky) (fun r2 => ?_)
  refine wa_istore_n (n := 3) rfl ?_
  refine wa_aload_n (n := 0) rfl ?_
  refine wb_gf4 226 rfl (wy_pr rfl) wt_226 wf_8_3 (v := 227) wl_226_3 ?_
  refine wb_gf4 227 rfl (wy_pr rfl) wt_227 wf_7_1 (v := 229) wl_227_1 ?_
  refine wa_iload_n (n := 2) rfl ?_
  refine wb_lald 229 rfl (wy_pr rfl) wt_229 (n := (S 228 (-1))) (bl1) (by omega) (by omega) (v := vy) (hvy) (fun r3 => ?_)
  refine wa_lstore (n := 4) rfl ?_
  refine wa_iload_n (n := 1) rfl ?_
  refine wb_sw (w_rg0 (by omega) (by omega)) (tb := 10) rfl ⟨_, rfl⟩ ?_
  refine wa_aload_n (n := 0) rfl ?_
  refine wa_iload_n (n := 2) rfl ?_
  refine wa_iconst ?_
  refine wa_isub ?_
  refine wa_iload_n (n := 2) rfl ?_
  refine wa_cv 226 rfl (wy_pr rfl) wt_226 (M2 := mS [228, 229, 144, 145, 146, 147, 148]) rfl at_XK_turn ⟨_, rfl⟩ rfl rfl ⟨trivial, trivial, trivial, (Or.inr ⟨wy_pr rfl, mS_no rfl⟩), trivial, trivial⟩ trivial (fun _ _ q => q) (tu0_226 hP hx1 hky hvy hkx hvx hh1 hkx45 ho hW hsw hw hT hu4 hnb hch hep h56) (fun oq4 Sq4 hp5 q4 => ?_)
  rcases q4 with ⟨rfl, hzz⟩
  show wJ _ _ _ _ _ _ _ _ _ _
  refine wa_goto ⟨_, rfl⟩ ?_
  refine wa_return rfl ?_
  exact ⟨rfl, hzz⟩
theorem xb31_226 {c p h kx ky o1 q : Int} (hP : xP 226 c p h S) (hx1 : pe_at (pe_GA xs).xs 1 = some (1, tx_1)) (hky : S 228 (h - 1) = ky) (hvy : S 229 (h - 1) = q) (hkx : S 228 (h - 1 - 1) = kx) (hvx : S 229 (h - 1 - 1) = o1) (hh1 : 2 ≤ h) (hkx45 : kx = 4 ∨ kx = 5) (ho : isO T o1) (hky45 : ky = 4 ∨ ky = 5) (hq : isO T q) (hW : cWd S T L G) (hsw : cSw S T H) (hw : wSh T H) (hT : (T.length : Int) ≤ 8000) (hu4 : 0 ≤ S 150 4 ∧ S 150 4 ≤ 4000 ∧ (H.length : Int) ≤ S 150 4 + 1) (hnb : ∀ s : Int, 0 ≤ s → s < (H.length : Int) → qNm H s ≤ 100000) (hch : 0 ≤ S 72 11 ∧ S 72 11 ≤ 9000000) (hep : ∀ k : Int, isO T k → (tO T k).2.2.2.2.1 ≤ S 72 11) (h56 : S 156 (-1) = 65) : wJ (pe_GA xs) wY0 (mS [228, 229, 144, 145, 146, 147, 148]) (d + 11) t_XK_callBuiltin ((pe_at t_XK_callBuiltin.bl 0).getD (0, [])).2 [(0, (2, 226)), (1, (0, 3))] [] S (fun o Z => o = .inl none ∧ ((hMe (aPr T H) o1 (T.length + 1) q = 1 ∧ w_up S 226 16 12 = Z) ∨ (hMe (aPr T H) o1 (T.length + 1) q = 0 ∧ 4000 < S 150 4 + aMb H q (fS (-1) (aNs H (tO T o1).2.1) 0) ∧ ∃ A : wS, oF S A ∧ w_up A 226 16 99 = Z) ∨ (hMe (aPr T H) o1 (T.length + 1) q = 0 ∧ S 150 4 + aMb H q (fS (-1) (aNs H (tO T o1).2.1) 0) ≤ 4000 ∧ ∃ A : wS, reQ q (-1) o1 T H L G S A ∧ sO 226 h c p 2 kx o1 (ncZ o1 (aRb q (fS (-1) (aNs H (tO T o1).2.1) 0) (aBr T H q).2.1 (aBr T H q).2.2).2 (A 130 o1) (A 72 11) A) Z))) := by
  obtain ⟨⟨hC, hI⟩, ⟨bc, bc0, bc1⟩, ⟨bp, bp0, bp1⟩, ⟨bh, bh0, bh1, bh2⟩, bl1, bl2, bl3⟩ := id hP
  replace bp : S 231 (c - 1) = p := bp
  replace bh : S 227 2 = h := bh
  replace bh2 : h ≤ S 228 (-1) := bh2
  replace bl1 : S 229 (-1) = S 228 (-1) := bl1
  replace bl2 : 64 ≤ S 228 (-1) := bl2
  replace bl3 : S 228 (-1) ≤ 4095 := bl3
  have hg : wG = 1000000 := rfl
  refine wa_aload_n (n := 0) rfl ?_
  refine wb_gf4 226 rfl (wy_pr rfl) wt_226 wf_8_3 (v := 227) wl_226_3 ?_
  refine wb_gfi 227 rfl (wy_pr rfl) wt_227 wf_7_2 (v := h) (bh) (fun r1 => ?_)
  refine wa_iconst ?_
  refine wa_isub ?_
  refine wa_istore_n (n := 2) rfl ?_
  refine wa_aload_n (n := 0) rfl ?_
  refine wb_gf4 226 rfl (wy_pr rfl) wt_226 wf_8_3 (v := 227) wl_226_3 ?_
  refine wb_gf4 227 rfl (wy_pr rfl) wt_227 wf_7_0 (v := 228) wl_227_0 ?_
  refine wa_iload_n (n := 2) rfl ?_
  refine wb_bald 228 rfl (wy_pr rfl) wt_228 (n := (S 228 (-1))) (rfl) (by omega) (by omega) (v := ky) (hky) (fun r2 => ?_)
  refine wa_istore_n (n := 3) rfl ?_
  refine wa_aload_n (n := 0) rfl ?_
  refine wb_gf4 226 rfl (wy_pr rfl) wt_226 wf_8_3 (v := 227) wl_226_3 ?_
  refine wb_gf4 227 rfl (wy_pr rfl) wt_227 wf_7_1 (v := 229) wl_227_1 ?_
  refine wa_iload_n (n := 2) rfl ?_
  refine wb_lald 229 rfl (wy_pr rfl) wt_229 (n := (S 228 (-1))) (bl1) (by omega) (by omega) (v := q) (hvy) (fun r3 => ?_)
  refine wa_lstore (n := 4) rfl ?_
  refine wa_iload_n (n := 1) rfl ?_
  refine wb_sw (w_rg0 (by omega) (by omega)) (tb := 10) rfl ⟨_, rfl⟩ ?_
  refine wa_aload_n (n := 0) rfl ?_
  refine wa_iload_n (n := 2) rfl ?_
  refine wa_iconst ?_
  refine wa_isub ?_
  refine wa_iload_n (n := 2) rfl ?_
  refine wa_cv 226 rfl (wy_pr rfl) wt_226 (M2 := mS [228, 229, 144, 145, 146, 147, 148]) rfl at_XK_turn ⟨_, rfl⟩ rfl rfl ⟨trivial, trivial, trivial, (Or.inr ⟨wy_pr rfl, mS_no rfl⟩), trivial, trivial⟩ trivial (fun _ _ q => q) (tu1_226 hP hx1 hky hvy hkx hvx hh1 hkx45 ho hky45 hq hW hsw hw hT hu4 hnb hch hep h56) (fun oq4 Sq4 hp5 q4 => ?_)
  rcases q4 with ⟨rfl, hzz⟩
  show wJ _ _ _ _ _ _ _ _ _ _
  refine wa_goto ⟨_, rfl⟩ ?_
  refine wa_return rfl ?_
  exact ⟨rfl, hzz⟩
theorem xb3e_226 {c p h kx ky vx vy : Int} (hP : xP 226 c p h S) (hky : S 228 (h - 1) = ky) (hvy : S 229 (h - 1) = vy) (hkx : S 228 (h - 1 - 1) = kx) (hvx : S 229 (h - 1 - 1) = vx) (hh1 : 2 ≤ h) (hke : ¬ ((kx = 4 ∨ kx = 5) ∧ (ky = 0 ∨ ky = 4 ∨ ky = 5))) : wJ (pe_GA xs) wY0 (mS [228, 229]) (d + 11) t_XK_callBuiltin ((pe_at t_XK_callBuiltin.bl 0).getD (0, [])).2 [(0, (2, 226)), (1, (0, 3))] [] S (fun o Z => o = .inl none ∧ w_up S 226 16 12 = Z) := by
  obtain ⟨⟨hC, hI⟩, ⟨bc, bc0, bc1⟩, ⟨bp, bp0, bp1⟩, ⟨bh, bh0, bh1, bh2⟩, bl1, bl2, bl3⟩ := id hP
  replace bp : S 231 (c - 1) = p := bp
  replace bh : S 227 2 = h := bh
  replace bh2 : h ≤ S 228 (-1) := bh2
  replace bl1 : S 229 (-1) = S 228 (-1) := bl1
  replace bl2 : 64 ≤ S 228 (-1) := bl2
  replace bl3 : S 228 (-1) ≤ 4095 := bl3
  refine wa_aload_n (n := 0) rfl ?_
  refine wb_gf4 226 rfl (wy_pr rfl) wt_226 wf_8_3 (v := 227) wl_226_3 ?_
  refine wb_gfi 227 rfl (wy_pr rfl) wt_227 wf_7_2 (v := h) (bh) (fun r1 => ?_)
  refine wa_iconst ?_
  refine wa_isub ?_
  refine wa_istore_n (n := 2) rfl ?_
  refine wa_aload_n (n := 0) rfl ?_
  refine wb_gf4 226 rfl (wy_pr rfl) wt_226 wf_8_3 (v := 227) wl_226_3 ?_
  refine wb_gf4 227 rfl (wy_pr rfl) wt_227 wf_7_0 (v := 228) wl_227_0 ?_
  refine wa_iload_n (n := 2) rfl ?_
  refine wb_bald 228 rfl (wy_pr rfl) wt_228 (n := (S 228 (-1))) (rfl) (by omega) (by omega) (v := ky) (hky) (fun r2 => ?_)
  refine wa_istore_n (n := 3) rfl ?_
  refine wa_aload_n (n := 0) rfl ?_
  refine wb_gf4 226 rfl (wy_pr rfl) wt_226 wf_8_3 (v := 227) wl_226_3 ?_
  refine wb_gf4 227 rfl (wy_pr rfl) wt_227 wf_7_1 (v := 229) wl_227_1 ?_
  refine wa_iload_n (n := 2) rfl ?_
  refine wb_lald 229 rfl (wy_pr rfl) wt_229 (n := (S 228 (-1))) (bl1) (by omega) (by omega) (v := vy) (hvy) (fun r3 => ?_)
  refine wa_lstore (n := 4) rfl ?_
  refine wa_iload_n (n := 1) rfl ?_
  refine wb_sw (w_rg0 (by omega) (by omega)) (tb := 10) rfl ⟨_, rfl⟩ ?_
  refine wa_aload_n (n := 0) rfl ?_
  refine wa_iload_n (n := 2) rfl ?_
  refine wa_iconst ?_
  refine wa_isub ?_
  refine wa_iload_n (n := 2) rfl ?_
  refine wa_cv 226 rfl (wy_pr rfl) wt_226 (M2 := mS [228, 229]) rfl at_XK_turn ⟨_, rfl⟩ rfl rfl ⟨trivial, trivial, trivial, (Or.inr ⟨wy_pr rfl, mS_no rfl⟩), trivial, trivial⟩ trivial (fun _ _ q => q) ?_ (fun _ _ _ q => q)
  refine wa_aload_n (n := 0) rfl ?_
  refine wa_iload_n (n := 1) rfl ?_
  refine wa_cv 226 rfl (wy_pr rfl) wt_226 (M2 := mS [228, 229]) rfl at_XK_isHolder ⟨_, rfl⟩ rfl rfl ⟨(Or.inr ⟨wy_pr rfl, mS_no rfl⟩), trivial, trivial, trivial⟩ trivial (fun _ _ q => q) ?_ (fun _ _ _ q => q)
  refine wa_aload_n (n := 0) rfl ?_
  refine wb_gf4 226 rfl (wy_pr rfl) wt_226 wf_8_3 (v := 227) wl_226_3 ?_
  refine wb_gf4 227 rfl (wy_pr rfl) wt_227 wf_7_0 (v := 228) wl_227_0 ?_
  refine wa_iload_n (n := 1) rfl ?_
  refine wb_bald 228 rfl (wy_pr rfl) wt_228 (n := (S 228 (-1))) (rfl) (by omega) (by omega) (v := kx) (hkx) (fun r4 => ?_)
  refine wa_iconst ?_
  refine wa_icmpeq (w_rg0 (by omega) (by omega)) (w_rg0 (by omega) (by omega)) ⟨_, rfl⟩ (fun c5 => ?_) (fun c5 => ?_)
  · skip
    refine wa_iconst ?_
    refine wa_goto ⟨_, rfl⟩ ?_
    refine wa_zreturn rfl (Or.inr rfl) ?_
    show wJ _ _ _ _ _ _ _ _ _ _
    refine wa_ifeq (w_rg0 (by omega) (by omega)) ⟨_, rfl⟩ (fun c6 => ?_) (fun c6 => ?_)
    · skip
      exact absurd c6 (by omega)
    · skip
      refine wa_aload_n (n := 0) rfl ?_
      refine wa_iload_n (n := 2) rfl ?_
      refine wa_cv 226 rfl (wy_pr rfl) wt_226 (M2 := mS [228, 229]) rfl at_XK_isPrototype ⟨_, rfl⟩ rfl rfl ⟨(Or.inr ⟨wy_pr rfl, mS_no rfl⟩), trivial, trivial, trivial⟩ trivial (fun _ _ q => q) ?_ (fun _ _ _ q => q)
      refine wa_aload_n (n := 0) rfl ?_
      refine wb_gf4 226 rfl (wy_pr rfl) wt_226 wf_8_3 (v := 227) wl_226_3 ?_
      refine wb_gf4 227 rfl (wy_pr rfl) wt_227 wf_7_0 (v := 228) wl_227_0 ?_
      refine wa_iload_n (n := 1) rfl ?_
      refine wb_bald 228 rfl (wy_pr rfl) wt_228 (n := (S 228 (-1))) (rfl) (by omega) (by omega) (v := ky) (hky) (fun r7 => ?_)
      refine wa_ifeq (w_rg0 (by omega) (by omega)) ⟨_, rfl⟩ (fun c8 => ?_) (fun c8 => ?_)
      · skip
        refine wa_iconst ?_
        refine wa_goto ⟨_, rfl⟩ ?_
        refine wa_zreturn rfl (Or.inr rfl) ?_
        show wJ _ _ _ _ _ _ _ _ _ _
        refine wa_ifne (w_rg0 (by omega) (by omega)) ⟨_, rfl⟩ (fun c9 => ?_) (fun c9 => ?_)
        · skip
          refine wa_aload_n (n := 0) rfl ?_
          refine wb_gf4 226 rfl (wy_pr rfl) wt_226 wf_8_3 (v := 227) wl_226_3 ?_
          refine wb_gf4 227 rfl (wy_pr rfl) wt_227 wf_7_1 (v := 229) wl_227_1 ?_
          refine wa_iload_n (n := 1) rfl ?_
          refine wb_lald 229 rfl (wy_pr rfl) wt_229 (n := (S 228 (-1))) (bl1) (by omega) (by omega) (v := vx) (hvx) (fun r10 => ?_)
          refine wb_l2i_r (wb_l2i_id ⟨(by omega), (by omega)⟩) ?_
          refine wa_istore_n (n := 3) rfl ?_
          refine wa_aload_n (n := 0) rfl ?_
          refine wb_gf4 226 rfl (wy_pr rfl) wt_226 wf_8_3 (v := 227) wl_226_3 ?_
          refine wb_gf4 227 rfl (wy_pr rfl) wt_227 wf_7_0 (v := 228) wl_227_0 ?_
          refine wa_iload_n (n := 2) rfl ?_
          refine wb_bald 228 rfl (wy_pr rfl) wt_228 (n := (S 228 (-1))) (rfl) (by omega) (by omega) (v := ky) (hky) (fun r11 => ?_)
          refine wa_ifne (w_rg0 (by omega) (by omega)) ⟨_, rfl⟩ (fun c12 => ?_) (fun c12 => ?_)
          · skip
            exact absurd c12 (by omega)
          · skip
            refine wa_iconst ?_
            refine wa_goto ⟨_, rfl⟩ ?_
            refine wa_istore (n := 4) rfl ?_
            refine wa_iload (n := 4) rfl ?_
            refine wa_istore (n := 5) rfl ?_
            refine wa_iconst ?_
            refine wa_istore (n := 6) rfl ?_
            refine wa_fall ⟨_, rfl⟩ ?_
            exfalso; omega
        · skip
          exact absurd c9 (by omega)
      · skip
        refine wa_aload_n (n := 0) rfl ?_
        refine wa_iload_n (n := 1) rfl ?_
        refine wa_cv 226 rfl (wy_pr rfl) wt_226 (M2 := mS [228, 229]) rfl at_XK_isHolder ⟨_, rfl⟩ rfl rfl ⟨(Or.inr ⟨wy_pr rfl, mS_no rfl⟩), trivial, trivial⟩ trivial (fun _ _ q => q) ?_ (fun _ _ _ q => q)
        refine wa_aload_n (n := 0) rfl ?_
        refine wb_gf4 226 rfl (wy_pr rfl) wt_226 wf_8_3 (v := 227) wl_226_3 ?_
        refine wb_gf4 227 rfl (wy_pr rfl) wt_227 wf_7_0 (v := 228) wl_227_0 ?_
        refine wa_iload_n (n := 1) rfl ?_
        refine wb_bald 228 rfl (wy_pr rfl) wt_228 (n := (S 228 (-1))) (rfl) (by omega) (by omega) (v := ky) (hky) (fun r13 => ?_)
        refine wa_iconst ?_
        refine wa_icmpeq (w_rg0 (by omega) (by omega)) (w_rg0 (by omega) (by omega)) ⟨_, rfl⟩ (fun c14 => ?_) (fun c14 => ?_)
        · skip
          refine wa_iconst ?_
          refine wa_goto ⟨_, rfl⟩ ?_
          refine wa_zreturn rfl (Or.inr rfl) ?_
          show wJ _ _ _ _ _ _ _ _ _ _
          refine wa_ifeq (w_rg0 (by omega) (by omega)) ⟨_, rfl⟩ (fun c15 => ?_) (fun c15 => ?_)
          · skip
            exact absurd c15 (by omega)
          · skip
            refine wa_fall ⟨_, rfl⟩ ?_
            refine wa_iconst ?_
            refine wa_goto ⟨_, rfl⟩ ?_
            refine wa_zreturn rfl (Or.inr rfl) ?_
            show wJ _ _ _ _ _ _ _ _ _ _
            refine wa_ifne (w_rg0 (by omega) (by omega)) ⟨_, rfl⟩ (fun c16 => ?_) (fun c16 => ?_)
            · skip
              refine wa_aload_n (n := 0) rfl ?_
              refine wb_gf4 226 rfl (wy_pr rfl) wt_226 wf_8_3 (v := 227) wl_226_3 ?_
              refine wb_gf4 227 rfl (wy_pr rfl) wt_227 wf_7_1 (v := 229) wl_227_1 ?_
              refine wa_iload_n (n := 1) rfl ?_
              refine wb_lald 229 rfl (wy_pr rfl) wt_229 (n := (S 228 (-1))) (bl1) (by omega) (by omega) (v := vx) (hvx) (fun r17 => ?_)
              refine wb_l2i_r (wb_l2i_id ⟨(by omega), (by omega)⟩) ?_
              refine wa_istore_n (n := 3) rfl ?_
              refine wa_aload_n (n := 0) rfl ?_
              refine wb_gf4 226 rfl (wy_pr rfl) wt_226 wf_8_3 (v := 227) wl_226_3 ?_
              refine wb_gf4 227 rfl (wy_pr rfl) wt_227 wf_7_0 (v := 228) wl_227_0 ?_
              refine wa_iload_n (n := 2) rfl ?_
              refine wb_bald 228 rfl (wy_pr rfl) wt_228 (n := (S 228 (-1))) (rfl) (by omega) (by omega) (v := ky) (hky) (fun r18 => ?_)
              refine wa_ifne (w_rg0 (by omega) (by omega)) ⟨_, rfl⟩ (fun c19 => ?_) (fun c19 => ?_)
              · skip
                refine wa_aload_n (n := 0) rfl ?_
                refine wb_gf4 226 rfl (wy_pr rfl) wt_226 wf_8_3 (v := 227) wl_226_3 ?_
                refine wb_gf4 227 rfl (wy_pr rfl) wt_227 wf_7_1 (v := 229) wl_227_1 ?_
                refine wa_iload_n (n := 2) rfl ?_
                refine wb_lald 229 rfl (wy_pr rfl) wt_229 (n := (S 228 (-1))) (bl1) (by omega) (by omega) (v := vy) (hvy) (fun r20 => ?_)
                refine wb_l2i_r (wb_l2i_id ⟨(by omega), (by omega)⟩) ?_
                refine wa_fall ⟨_, rfl⟩ ?_
                refine wa_istore (n := 4) rfl ?_
                refine wa_iload (n := 4) rfl ?_
                refine wa_istore (n := 5) rfl ?_
                refine wa_iconst ?_
                refine wa_istore (n := 6) rfl ?_
                refine wa_fall ⟨_, rfl⟩ ?_
                exfalso; omega
              · skip
                exact absurd c19 (by omega)
            · skip
              exact absurd c16 (by omega)
        · skip
          refine wa_aload_n (n := 0) rfl ?_
          refine wb_gf4 226 rfl (wy_pr rfl) wt_226 wf_8_3 (v := 227) wl_226_3 ?_
          refine wb_gf4 227 rfl (wy_pr rfl) wt_227 wf_7_0 (v := 228) wl_227_0 ?_
          refine wa_iload_n (n := 1) rfl ?_
          refine wb_bald 228 rfl (wy_pr rfl) wt_228 (n := (S 228 (-1))) (rfl) (by omega) (by omega) (v := ky) (hky) (fun r21 => ?_)
          refine wa_iconst ?_
          refine wa_icmpne (w_rg0 (by omega) (by omega)) (w_rg0 (by omega) (by omega)) ⟨_, rfl⟩ (fun c22 => ?_) (fun c22 => ?_)
          · skip
            refine wa_iconst ?_
            refine wa_fall ⟨_, rfl⟩ ?_
            refine wa_zreturn rfl (Or.inl rfl) ?_
            show wJ _ _ _ _ _ _ _ _ _ _
            refine wa_ifeq (w_rg0 (by omega) (by omega)) ⟨_, rfl⟩ (fun c23 => ?_) (fun c23 => ?_)
            · skip
              refine wa_iconst ?_
              refine wa_fall ⟨_, rfl⟩ ?_
              refine wa_zreturn rfl (Or.inl rfl) ?_
              show wJ _ _ _ _ _ _ _ _ _ _
              refine wa_ifne (w_rg0 (by omega) (by omega)) ⟨_, rfl⟩ (fun c24 => ?_) (fun c24 => ?_)
              · skip
                exact absurd c24 (by omega)
              · skip
                refine wa_fall ⟨_, rfl⟩ ?_
                refine wa_aload_n (n := 0) rfl ?_
                refine wa_bipush (w_rg2 (by omega) (by omega)) ?_
                refine wb_pfi 226 rfl (wy_pr rfl) wt_226 wf_8_16 (n := 16) rfl ⟨(by omega), (by omega)⟩ ?_
                refine wa_return rfl ?_
                show wJ _ _ _ _ _ _ _ _ _ _
                refine wa_goto ⟨_, rfl⟩ ?_
                refine wa_return rfl ?_
                exact ⟨rfl, rfl⟩
            · skip
              exact absurd c23 (by omega)
          · skip
            refine wa_fall ⟨_, rfl⟩ ?_
            refine wa_iconst ?_
            refine wa_goto ⟨_, rfl⟩ ?_
            refine wa_zreturn rfl (Or.inr rfl) ?_
            show wJ _ _ _ _ _ _ _ _ _ _
            refine wa_ifeq (w_rg0 (by omega) (by omega)) ⟨_, rfl⟩ (fun c25 => ?_) (fun c25 => ?_)
            · skip
              exact absurd c25 (by omega)
            · skip
              refine wa_fall ⟨_, rfl⟩ ?_
              refine wa_iconst ?_
              refine wa_goto ⟨_, rfl⟩ ?_
              refine wa_zreturn rfl (Or.inr rfl) ?_
              show wJ _ _ _ _ _ _ _ _ _ _
              refine wa_ifne (w_rg0 (by omega) (by omega)) ⟨_, rfl⟩ (fun c26 => ?_) (fun c26 => ?_)
              · skip
                refine wa_aload_n (n := 0) rfl ?_
                refine wb_gf4 226 rfl (wy_pr rfl) wt_226 wf_8_3 (v := 227) wl_226_3 ?_
                refine wb_gf4 227 rfl (wy_pr rfl) wt_227 wf_7_1 (v := 229) wl_227_1 ?_
                refine wa_iload_n (n := 1) rfl ?_
                refine wb_lald 229 rfl (wy_pr rfl) wt_229 (n := (S 228 (-1))) (bl1) (by omega) (by omega) (v := vx) (hvx) (fun r27 => ?_)
                refine wb_l2i_r (wb_l2i_id ⟨(by omega), (by omega)⟩) ?_
                refine wa_istore_n (n := 3) rfl ?_
                refine wa_aload_n (n := 0) rfl ?_
                refine wb_gf4 226 rfl (wy_pr rfl) wt_226 wf_8_3 (v := 227) wl_226_3 ?_
                refine wb_gf4 227 rfl (wy_pr rfl) wt_227 wf_7_0 (v := 228) wl_227_0 ?_
                refine wa_iload_n (n := 2) rfl ?_
                refine wb_bald 228 rfl (wy_pr rfl) wt_228 (n := (S 228 (-1))) (rfl) (by omega) (by omega) (v := ky) (hky) (fun r28 => ?_)
                refine wa_ifne (w_rg0 (by omega) (by omega)) ⟨_, rfl⟩ (fun c29 => ?_) (fun c29 => ?_)
                · skip
                  refine wa_aload_n (n := 0) rfl ?_
                  refine wb_gf4 226 rfl (wy_pr rfl) wt_226 wf_8_3 (v := 227) wl_226_3 ?_
                  refine wb_gf4 227 rfl (wy_pr rfl) wt_227 wf_7_1 (v := 229) wl_227_1 ?_
                  refine wa_iload_n (n := 2) rfl ?_
                  refine wb_lald 229 rfl (wy_pr rfl) wt_229 (n := (S 228 (-1))) (bl1) (by omega) (by omega) (v := vy) (hvy) (fun r30 => ?_)
                  refine wb_l2i_r (wb_l2i_id ⟨(by omega), (by omega)⟩) ?_
                  refine wa_fall ⟨_, rfl⟩ ?_
                  refine wa_istore (n := 4) rfl ?_
                  refine wa_iload (n := 4) rfl ?_
                  refine wa_istore (n := 5) rfl ?_
                  refine wa_iconst ?_
                  refine wa_istore (n := 6) rfl ?_
                  refine wa_fall ⟨_, rfl⟩ ?_
                  exfalso; omega
                · skip
                  exact absurd c29 (by omega)
              · skip
                exact absurd c26 (by omega)
  · skip
    refine wa_aload_n (n := 0) rfl ?_
    refine wb_gf4 226 rfl (wy_pr rfl) wt_226 wf_8_3 (v := 227) wl_226_3 ?_
    refine wb_gf4 227 rfl (wy_pr rfl) wt_227 wf_7_0 (v := 228) wl_227_0 ?_
    refine wa_iload_n (n := 1) rfl ?_
    refine wb_bald 228 rfl (wy_pr rfl) wt_228 (n := (S 228 (-1))) (rfl) (by omega) (by omega) (v := kx) (hkx) (fun r31 => ?_)
    refine wa_iconst ?_
    refine wa_icmpne (w_rg0 (by omega) (by omega)) (w_rg0 (by omega) (by omega)) ⟨_, rfl⟩ (fun c32 => ?_) (fun c32 => ?_)
    · skip
      refine wa_iconst ?_
      refine wa_fall ⟨_, rfl⟩ ?_
      refine wa_zreturn rfl (Or.inl rfl) ?_
      show wJ _ _ _ _ _ _ _ _ _ _
      refine wa_ifeq (w_rg0 (by omega) (by omega)) ⟨_, rfl⟩ (fun c33 => ?_) (fun c33 => ?_)
      · skip
        refine wa_aload_n (n := 0) rfl ?_
        refine wa_bipush (w_rg2 (by omega) (by omega)) ?_
        refine wb_pfi 226 rfl (wy_pr rfl) wt_226 wf_8_16 (n := 16) rfl ⟨(by omega), (by omega)⟩ ?_
        refine wa_return rfl ?_
        show wJ _ _ _ _ _ _ _ _ _ _
        refine wa_goto ⟨_, rfl⟩ ?_
        refine wa_return rfl ?_
        exact ⟨rfl, rfl⟩
      · skip
        exact absurd c33 (by omega)
    · skip
      refine wa_fall ⟨_, rfl⟩ ?_
      refine wa_iconst ?_
      refine wa_goto ⟨_, rfl⟩ ?_
      refine wa_zreturn rfl (Or.inr rfl) ?_
      show wJ _ _ _ _ _ _ _ _ _ _
      refine wa_ifeq (w_rg0 (by omega) (by omega)) ⟨_, rfl⟩ (fun c34 => ?_) (fun c34 => ?_)
      · skip
        exact absurd c34 (by omega)
      · skip
        refine wa_aload_n (n := 0) rfl ?_
        refine wa_iload_n (n := 2) rfl ?_
        refine wa_cv 226 rfl (wy_pr rfl) wt_226 (M2 := mS [228, 229]) rfl at_XK_isPrototype ⟨_, rfl⟩ rfl rfl ⟨(Or.inr ⟨wy_pr rfl, mS_no rfl⟩), trivial, trivial, trivial⟩ trivial (fun _ _ q => q) ?_ (fun _ _ _ q => q)
        refine wa_aload_n (n := 0) rfl ?_
        refine wb_gf4 226 rfl (wy_pr rfl) wt_226 wf_8_3 (v := 227) wl_226_3 ?_
        refine wb_gf4 227 rfl (wy_pr rfl) wt_227 wf_7_0 (v := 228) wl_227_0 ?_
        refine wa_iload_n (n := 1) rfl ?_
        refine wb_bald 228 rfl (wy_pr rfl) wt_228 (n := (S 228 (-1))) (rfl) (by omega) (by omega) (v := ky) (hky) (fun r35 => ?_)
        refine wa_ifeq (w_rg0 (by omega) (by omega)) ⟨_, rfl⟩ (fun c36 => ?_) (fun c36 => ?_)
        · skip
          refine wa_iconst ?_
          refine wa_goto ⟨_, rfl⟩ ?_
          refine wa_zreturn rfl (Or.inr rfl) ?_
          show wJ _ _ _ _ _ _ _ _ _ _
          refine wa_ifne (w_rg0 (by omega) (by omega)) ⟨_, rfl⟩ (fun c37 => ?_) (fun c37 => ?_)
          · skip
            refine wa_aload_n (n := 0) rfl ?_
            refine wb_gf4 226 rfl (wy_pr rfl) wt_226 wf_8_3 (v := 227) wl_226_3 ?_
            refine wb_gf4 227 rfl (wy_pr rfl) wt_227 wf_7_1 (v := 229) wl_227_1 ?_
            refine wa_iload_n (n := 1) rfl ?_
            refine wb_lald 229 rfl (wy_pr rfl) wt_229 (n := (S 228 (-1))) (bl1) (by omega) (by omega) (v := vx) (hvx) (fun r38 => ?_)
            refine wb_l2i_r (wb_l2i_id ⟨(by omega), (by omega)⟩) ?_
            refine wa_istore_n (n := 3) rfl ?_
            refine wa_aload_n (n := 0) rfl ?_
            refine wb_gf4 226 rfl (wy_pr rfl) wt_226 wf_8_3 (v := 227) wl_226_3 ?_
            refine wb_gf4 227 rfl (wy_pr rfl) wt_227 wf_7_0 (v := 228) wl_227_0 ?_
            refine wa_iload_n (n := 2) rfl ?_
            refine wb_bald 228 rfl (wy_pr rfl) wt_228 (n := (S 228 (-1))) (rfl) (by omega) (by omega) (v := ky) (hky) (fun r39 => ?_)
            refine wa_ifne (w_rg0 (by omega) (by omega)) ⟨_, rfl⟩ (fun c40 => ?_) (fun c40 => ?_)
            · skip
              exact absurd c40 (by omega)
            · skip
              refine wa_iconst ?_
              refine wa_goto ⟨_, rfl⟩ ?_
              refine wa_istore (n := 4) rfl ?_
              refine wa_iload (n := 4) rfl ?_
              refine wa_istore (n := 5) rfl ?_
              refine wa_iconst ?_
              refine wa_istore (n := 6) rfl ?_
              refine wa_fall ⟨_, rfl⟩ ?_
              exfalso; omega
          · skip
            exact absurd c37 (by omega)
        · skip
          refine wa_aload_n (n := 0) rfl ?_
          refine wa_iload_n (n := 1) rfl ?_
          refine wa_cv 226 rfl (wy_pr rfl) wt_226 (M2 := mS [228, 229]) rfl at_XK_isHolder ⟨_, rfl⟩ rfl rfl ⟨(Or.inr ⟨wy_pr rfl, mS_no rfl⟩), trivial, trivial⟩ trivial (fun _ _ q => q) ?_ (fun _ _ _ q => q)
          refine wa_aload_n (n := 0) rfl ?_
          refine wb_gf4 226 rfl (wy_pr rfl) wt_226 wf_8_3 (v := 227) wl_226_3 ?_
          refine wb_gf4 227 rfl (wy_pr rfl) wt_227 wf_7_0 (v := 228) wl_227_0 ?_
          refine wa_iload_n (n := 1) rfl ?_
          refine wb_bald 228 rfl (wy_pr rfl) wt_228 (n := (S 228 (-1))) (rfl) (by omega) (by omega) (v := ky) (hky) (fun r41 => ?_)
          refine wa_iconst ?_
          refine wa_icmpeq (w_rg0 (by omega) (by omega)) (w_rg0 (by omega) (by omega)) ⟨_, rfl⟩ (fun c42 => ?_) (fun c42 => ?_)
          · skip
            refine wa_iconst ?_
            refine wa_goto ⟨_, rfl⟩ ?_
            refine wa_zreturn rfl (Or.inr rfl) ?_
            show wJ _ _ _ _ _ _ _ _ _ _
            refine wa_ifeq (w_rg0 (by omega) (by omega)) ⟨_, rfl⟩ (fun c43 => ?_) (fun c43 => ?_)
            · skip
              exact absurd c43 (by omega)
            · skip
              refine wa_fall ⟨_, rfl⟩ ?_
              refine wa_iconst ?_
              refine wa_goto ⟨_, rfl⟩ ?_
              refine wa_zreturn rfl (Or.inr rfl) ?_
              show wJ _ _ _ _ _ _ _ _ _ _
              refine wa_ifne (w_rg0 (by omega) (by omega)) ⟨_, rfl⟩ (fun c44 => ?_) (fun c44 => ?_)
              · skip
                refine wa_aload_n (n := 0) rfl ?_
                refine wb_gf4 226 rfl (wy_pr rfl) wt_226 wf_8_3 (v := 227) wl_226_3 ?_
                refine wb_gf4 227 rfl (wy_pr rfl) wt_227 wf_7_1 (v := 229) wl_227_1 ?_
                refine wa_iload_n (n := 1) rfl ?_
                refine wb_lald 229 rfl (wy_pr rfl) wt_229 (n := (S 228 (-1))) (bl1) (by omega) (by omega) (v := vx) (hvx) (fun r45 => ?_)
                refine wb_l2i_r (wb_l2i_id ⟨(by omega), (by omega)⟩) ?_
                refine wa_istore_n (n := 3) rfl ?_
                refine wa_aload_n (n := 0) rfl ?_
                refine wb_gf4 226 rfl (wy_pr rfl) wt_226 wf_8_3 (v := 227) wl_226_3 ?_
                refine wb_gf4 227 rfl (wy_pr rfl) wt_227 wf_7_0 (v := 228) wl_227_0 ?_
                refine wa_iload_n (n := 2) rfl ?_
                refine wb_bald 228 rfl (wy_pr rfl) wt_228 (n := (S 228 (-1))) (rfl) (by omega) (by omega) (v := ky) (hky) (fun r46 => ?_)
                refine wa_ifne (w_rg0 (by omega) (by omega)) ⟨_, rfl⟩ (fun c47 => ?_) (fun c47 => ?_)
                · skip
                  refine wa_aload_n (n := 0) rfl ?_
                  refine wb_gf4 226 rfl (wy_pr rfl) wt_226 wf_8_3 (v := 227) wl_226_3 ?_
                  refine wb_gf4 227 rfl (wy_pr rfl) wt_227 wf_7_1 (v := 229) wl_227_1 ?_
                  refine wa_iload_n (n := 2) rfl ?_
                  refine wb_lald 229 rfl (wy_pr rfl) wt_229 (n := (S 228 (-1))) (bl1) (by omega) (by omega) (v := vy) (hvy) (fun r48 => ?_)
                  refine wb_l2i_r (wb_l2i_id ⟨(by omega), (by omega)⟩) ?_
                  refine wa_fall ⟨_, rfl⟩ ?_
                  refine wa_istore (n := 4) rfl ?_
                  refine wa_iload (n := 4) rfl ?_
                  refine wa_istore (n := 5) rfl ?_
                  refine wa_iconst ?_
                  refine wa_istore (n := 6) rfl ?_
                  refine wa_fall ⟨_, rfl⟩ ?_
                  exfalso; omega
                · skip
                  exact absurd c47 (by omega)
              · skip
                exact absurd c44 (by omega)
          · skip
            refine wa_aload_n (n := 0) rfl ?_
            refine wb_gf4 226 rfl (wy_pr rfl) wt_226 wf_8_3 (v := 227) wl_226_3 ?_
            refine wb_gf4 227 rfl (wy_pr rfl) wt_227 wf_7_0 (v := 228) wl_227_0 ?_
            refine wa_iload_n (n := 1) rfl ?_
            refine wb_bald 228 rfl (wy_pr rfl) wt_228 (n := (S 228 (-1))) (rfl) (by omega) (by omega) (v := ky) (hky) (fun r49 => ?_)
            refine wa_iconst ?_
            refine wa_icmpne (w_rg0 (by omega) (by omega)) (w_rg0 (by omega) (by omega)) ⟨_, rfl⟩ (fun c50 => ?_) (fun c50 => ?_)
            · skip
              refine wa_iconst ?_
              refine wa_fall ⟨_, rfl⟩ ?_
              refine wa_zreturn rfl (Or.inl rfl) ?_
              show wJ _ _ _ _ _ _ _ _ _ _
              refine wa_ifeq (w_rg0 (by omega) (by omega)) ⟨_, rfl⟩ (fun c51 => ?_) (fun c51 => ?_)
              · skip
                refine wa_iconst ?_
                refine wa_fall ⟨_, rfl⟩ ?_
                refine wa_zreturn rfl (Or.inl rfl) ?_
                show wJ _ _ _ _ _ _ _ _ _ _
                refine wa_ifne (w_rg0 (by omega) (by omega)) ⟨_, rfl⟩ (fun c52 => ?_) (fun c52 => ?_)
                · skip
                  exact absurd c52 (by omega)
                · skip
                  refine wa_fall ⟨_, rfl⟩ ?_
                  refine wa_aload_n (n := 0) rfl ?_
                  refine wa_bipush (w_rg2 (by omega) (by omega)) ?_
                  refine wb_pfi 226 rfl (wy_pr rfl) wt_226 wf_8_16 (n := 16) rfl ⟨(by omega), (by omega)⟩ ?_
                  refine wa_return rfl ?_
                  show wJ _ _ _ _ _ _ _ _ _ _
                  refine wa_goto ⟨_, rfl⟩ ?_
                  refine wa_return rfl ?_
                  exact ⟨rfl, rfl⟩
              · skip
                exact absurd c51 (by omega)
            · skip
              refine wa_fall ⟨_, rfl⟩ ?_
              refine wa_iconst ?_
              refine wa_goto ⟨_, rfl⟩ ?_
              refine wa_zreturn rfl (Or.inr rfl) ?_
              show wJ _ _ _ _ _ _ _ _ _ _
              refine wa_ifeq (w_rg0 (by omega) (by omega)) ⟨_, rfl⟩ (fun c53 => ?_) (fun c53 => ?_)
              · skip
                exact absurd c53 (by omega)
              · skip
                refine wa_fall ⟨_, rfl⟩ ?_
                refine wa_iconst ?_
                refine wa_goto ⟨_, rfl⟩ ?_
                refine wa_zreturn rfl (Or.inr rfl) ?_
                show wJ _ _ _ _ _ _ _ _ _ _
                refine wa_ifne (w_rg0 (by omega) (by omega)) ⟨_, rfl⟩ (fun c54 => ?_) (fun c54 => ?_)
                · skip
                  refine wa_aload_n (n := 0) rfl ?_
                  refine wb_gf4 226 rfl (wy_pr rfl) wt_226 wf_8_3 (v := 227) wl_226_3 ?_
                  refine wb_gf4 227 rfl (wy_pr rfl) wt_227 wf_7_1 (v := 229) wl_227_1 ?_
                  refine wa_iload_n (n := 1) rfl ?_
                  refine wb_lald 229 rfl (wy_pr rfl) wt_229 (n := (S 228 (-1))) (bl1) (by omega) (by omega) (v := vx) (hvx) (fun r55 => ?_)
                  refine wb_l2i_r (wb_l2i_id ⟨(by omega), (by omega)⟩) ?_
                  refine wa_istore_n (n := 3) rfl ?_
                  refine wa_aload_n (n := 0) rfl ?_
                  refine wb_gf4 226 rfl (wy_pr rfl) wt_226 wf_8_3 (v := 227) wl_226_3 ?_
                  refine wb_gf4 227 rfl (wy_pr rfl) wt_227 wf_7_0 (v := 228) wl_227_0 ?_
                  refine wa_iload_n (n := 2) rfl ?_
                  refine wb_bald 228 rfl (wy_pr rfl) wt_228 (n := (S 228 (-1))) (rfl) (by omega) (by omega) (v := ky) (hky) (fun r56 => ?_)
                  refine wa_ifne (w_rg0 (by omega) (by omega)) ⟨_, rfl⟩ (fun c57 => ?_) (fun c57 => ?_)
                  · skip
                    refine wa_aload_n (n := 0) rfl ?_
                    refine wb_gf4 226 rfl (wy_pr rfl) wt_226 wf_8_3 (v := 227) wl_226_3 ?_
                    refine wb_gf4 227 rfl (wy_pr rfl) wt_227 wf_7_1 (v := 229) wl_227_1 ?_
                    refine wa_iload_n (n := 2) rfl ?_
                    refine wb_lald 229 rfl (wy_pr rfl) wt_229 (n := (S 228 (-1))) (bl1) (by omega) (by omega) (v := vy) (hvy) (fun r58 => ?_)
                    refine wb_l2i_r (wb_l2i_id ⟨(by omega), (by omega)⟩) ?_
                    refine wa_fall ⟨_, rfl⟩ ?_
                    refine wa_istore (n := 4) rfl ?_
                    refine wa_iload (n := 4) rfl ?_
                    refine wa_istore (n := 5) rfl ?_
                    refine wa_iconst ?_
                    refine wa_istore (n := 6) rfl ?_
                    refine wa_fall ⟨_, rfl⟩ ?_
                    exfalso; omega
                  · skip
                    exact absurd c57 (by omega)
                · skip
                  exact absurd c54 (by omega)
theorem zb30_226 (h : stC 226 S K) (hi : cIn S K 28 3 b) (hx1 : pe_at (pe_GA xs).xs 1 = some (1, tx_1)) (hW : cWd S T L G) (hsw : cSw S T H) (hwS : wSh T H) (hT : (T.length : Int) ≤ 8000) (hu4 : 0 ≤ S 150 4 ∧ S 150 4 ≤ 4000 ∧ (H.length : Int) ≤ S 150 4 + 1) (hnb : ∀ s : Int, 0 ≤ s → s < (H.length : Int) → qNm H s ≤ 100000) (hch : 0 ≤ S 72 11 ∧ S 72 11 ≤ 9000000) (hep : ∀ k : Int, isO T k → (tO T k).2.2.2.2.1 ≤ S 72 11) (h56 : S 156 (-1) = 65) (hh1 : 2 ≤ K.1.length) (hx : (K.1.getD (K.1.length - 2) (0, 0, [])).1 = 4 ∨ (K.1.getD (K.1.length - 2) (0, 0, [])).1 = 5) (ho : isO T (K.1.getD (K.1.length - 2) (0, 0, [])).2.1) (hy : (K.1.getD (K.1.length - 1) (0, 0, [])).1 = 0) (hm0 : hMe (aPr T H) (K.1.getD (K.1.length - 2) (0, 0, [])).2.1 (T.length + 1) (-1) = 0) (hm : S 150 4 + aMb H (-1) (fS (-1) (aNs H (tO T (K.1.getD (K.1.length - 2) (0, 0, [])).2.1).2.1) 0) ≤ 4000) : cSm xs d 226 [228, 229, 144, 145, 146, 147, 148] cMt S (kP K 2 (K.1.getD (K.1.length - 2) (0, 0, []))) (fun Z => cWd Z (tNc (rsT T H (-1)) (K.1.getD (K.1.length - 2) (0, 0, [])).2.1 (rsS T H (-1) (fS (-1) (aNs H (tO T (K.1.getD (K.1.length - 2) (0, 0, [])).2.1).2.1) 0)) (S 72 11)) L G ∧ cSw Z (tNc (rsT T H (-1)) (K.1.getD (K.1.length - 2) (0, 0, [])).2.1 (rsS T H (-1) (fS (-1) (aNs H (tO T (K.1.getD (K.1.length - 2) (0, 0, [])).2.1).2.1) 0)) (S 72 11)) (rsH T H (-1) (fS (-1) (aNs H (tO T (K.1.getD (K.1.length - 2) (0, 0, [])).2.1).2.1) 0)) ∧ (Z 150 4 = S 150 4 + aMb H (-1) (fS (-1) (aNs H (tO T (K.1.getD (K.1.length - 2) (0, 0, [])).2.1).2.1) 0) ∧ ∀ x : Int, x ≠ 4 → Z 150 x = S 150 x) ∧ Z 72 11 = S 72 11 + (if (tO (rsT T H (-1)) (K.1.getD (K.1.length - 2) (0, 0, [])).2.1).2.2.2.2.1 = -1 then 0 else 1) ∧ (cPo S → cPo Z)) := by
  obtain ⟨h1, ⟨h2, h2b⟩, ⟨h3, h4, h5⟩, -⟩ := id h
  have hW2 : cWd (w_up S 226 16 0) T L G := cWd_up hW (by first | decide | omega)
  have hsw2 : cSw (w_up S 226 16 0) T H := cSw_up hsw (by first | decide | omega)
  have hk : cTk 226 (w_up S 226 16 0) K := cTk_16 h1 (Or.inr rfl)
  have hf : cFr 226 S (w_up S 226 16 0) := cFr_up (Or.inr rfl) (cFr_rfl h2b) (by first | decide | omega) (by omega)
  have ef : ∀ (j : Nat) (x : Int), j < 215 → (w_up S 226 16 0) j x = S j x := fun j x j0 => w_up_slot (by omega)
  have hcy := c_at h1 (i := K.1.length - 1) (by omega) (j := (K.1.length : Int) - 1) (by omega)
  have hcx := c_at h1 (i := K.1.length - 2) (by omega) (j := (K.1.length : Int) - 1 - 1) (by omega)
  have hvx : S 229 ((K.1.length : Int) - 1 - 1) = (K.1.getD (K.1.length - 2) (0, 0, [])).2.1 := cV_v hcx (by omega)
  have e4 : (w_up S 226 16 0) 150 4 = S 150 4 := ef 150 4 (by first | decide | omega)
  have e11 : (w_up S 226 16 0) 72 11 = S 72 11 := ef 72 11 (by first | decide | omega)
  have poT : cPo S → cPo (w_up S 226 16 0) := fun po => cPo_ag po (ef 72 3 (by first | decide | omega)) (fun x => ⟨ef 134 x (by first | decide | omega), ef 135 x (by first | decide | omega)⟩) (ef 140 2 (by first | decide | omega)) (ef 150 1 (by first | decide | omega))
  have hlen : (rsT T H (-1)).length = T.length := (aBr_ok (l := (fS (-1) (aNs H (tO T (K.1.getD (K.1.length - 2) (0, 0, [])).2.1).2.1) 0)) hwS (Or.inl rfl) (by have := hwS.1.2.1; omega)).2.2.2.2.2.2.2
  refine cg_b_226 h hi.1 hi.2.1 hi.2.2 (by first | decide | omega) (fun q => by omega) (by first | decide | omega) (by unfold mS; decide) (xb30_226 (H := H) (T := T) (L := L) (G := G) (o1 := (K.1.getD (K.1.length - 2) (0, 0, [])).2.1) (xP_of (Or.inr rfl) h) hx1 ((w_up_slot (by first | decide | omega)).trans (hcy.1.trans hy)) rfl ((w_up_slot (by first | decide | omega)).trans hcx.1) ((w_up_slot (by first | decide | omega)).trans hvx) (by omega) hx ho hW2 hsw2 hwS hT (by rw [e4]; exact hu4) hnb (by rw [e11]; exact hch) (by rw [e11]; exact hep) (by rw [ef 156 _ (by first | decide | omega)]; exact h56)) (fun Z hz => ?_)
  rcases hz with ⟨z, -⟩ | ⟨-, z, -⟩ | ⟨-, -, A, hA, hs⟩
  · rw [hm0] at z; exact absurd z (by first | decide | omega)
  · rw [e4] at z; omega
  · obtain ⟨g1, g2, g3, g4, ⟨g5, g6⟩, g7, g8, g9⟩ := re_tail (m := 2) (u := (K.1.getD (K.1.length - 2) (0, 0, []))) (Or.inr rfl) hk h3 h4 hh1 ho.1 hlen hA hs (by omega) (hcx.2.1 (by omega)).2
    rw [e11] at g2 g3 g7
    exact ⟨g9.trans (w_up_same _ _ _ _), g1, cFm_tr (cFm_r hf) g4, g2, g3, ⟨g5.trans (by rw [e4]), fun x hx4 => (g6 x hx4).trans (ef 150 x (by first | decide | omega))⟩, g7, fun po => g8 (poT po)⟩
theorem zb30r_226 (h : stC 226 S K) (hi : cIn S K 28 3 b) (hx1 : pe_at (pe_GA xs).xs 1 = some (1, tx_1)) (hW : cWd S T L G) (hsw : cSw S T H) (hwS : wSh T H) (hT : (T.length : Int) ≤ 8000) (hu4 : 0 ≤ S 150 4 ∧ S 150 4 ≤ 4000 ∧ (H.length : Int) ≤ S 150 4 + 1) (hnb : ∀ s : Int, 0 ≤ s → s < (H.length : Int) → qNm H s ≤ 100000) (hch : 0 ≤ S 72 11 ∧ S 72 11 ≤ 9000000) (hep : ∀ k : Int, isO T k → (tO T k).2.2.2.2.1 ≤ S 72 11) (h56 : S 156 (-1) = 65) (hh1 : 2 ≤ K.1.length) (hx : (K.1.getD (K.1.length - 2) (0, 0, [])).1 = 4 ∨ (K.1.getD (K.1.length - 2) (0, 0, [])).1 = 5) (ho : isO T (K.1.getD (K.1.length - 2) (0, 0, [])).2.1) (hy : (K.1.getD (K.1.length - 1) (0, 0, [])).1 = 0) (hm0 : hMe (aPr T H) (K.1.getD (K.1.length - 2) (0, 0, [])).2.1 (T.length + 1) (-1) = 1) : cSx xs d 226 [228, 229, 144, 145, 146, 147, 148] S (kTh K (2, 12, [])) := by
  obtain ⟨h1, ⟨h2, h2b⟩, ⟨h3, h4, h5⟩, -⟩ := id h
  have hW2 : cWd (w_up S 226 16 0) T L G := cWd_up hW (by first | decide | omega)
  have hsw2 : cSw (w_up S 226 16 0) T H := cSw_up hsw (by first | decide | omega)
  have hk : cTk 226 (w_up S 226 16 0) K := cTk_16 h1 (Or.inr rfl)
  have hf : cFr 226 S (w_up S 226 16 0) := cFr_up (Or.inr rfl) (cFr_rfl h2b) (by first | decide | omega) (by omega)
  have ef : ∀ (j : Nat) (x : Int), j < 215 → (w_up S 226 16 0) j x = S j x := fun j x j0 => w_up_slot (by omega)
  have hcy := c_at h1 (i := K.1.length - 1) (by omega) (j := (K.1.length : Int) - 1) (by omega)
  have hcx := c_at h1 (i := K.1.length - 2) (by omega) (j := (K.1.length : Int) - 1 - 1) (by omega)
  have hvx : S 229 ((K.1.length : Int) - 1 - 1) = (K.1.getD (K.1.length - 2) (0, 0, [])).2.1 := cV_v hcx (by omega)
  have e4 : (w_up S 226 16 0) 150 4 = S 150 4 := ef 150 4 (by first | decide | omega)
  have e11 : (w_up S 226 16 0) 72 11 = S 72 11 := ef 72 11 (by first | decide | omega)
  exact cx_b_226 h hi.1 hi.2.1 hi.2.2 (by first | decide | omega) (fun q => by omega) (by first | decide | omega) (by unfold mS; decide) (by first | decide | omega) (wJ_mono (xb30_226 (H := H) (T := T) (L := L) (G := G) (o1 := (K.1.getD (K.1.length - 2) (0, 0, [])).2.1) (xP_of (Or.inr rfl) h) hx1 ((w_up_slot (by first | decide | omega)).trans (hcy.1.trans hy)) rfl ((w_up_slot (by first | decide | omega)).trans hcx.1) ((w_up_slot (by first | decide | omega)).trans hvx) (by omega) hx ho hW2 hsw2 hwS hT (by rw [e4]; exact hu4) hnb (by rw [e11]; exact hch) (by rw [e11]; exact hep) (by rw [ef 156 _ (by first | decide | omega)]; exact h56)) (fun o Z hz => ⟨hz.1, by
    rcases hz.2 with ⟨-, z⟩ | ⟨z, -⟩ | ⟨z, -⟩
    · exact z
    · rw [hm0] at z; exact absurd z (by first | decide | omega)
    · rw [hm0] at z; exact absurd z (by first | decide | omega)⟩))
theorem zb30m_226 (h : stC 226 S K) (hi : cIn S K 28 3 b) (hx1 : pe_at (pe_GA xs).xs 1 = some (1, tx_1)) (hW : cWd S T L G) (hsw : cSw S T H) (hwS : wSh T H) (hT : (T.length : Int) ≤ 8000) (hu4 : 0 ≤ S 150 4 ∧ S 150 4 ≤ 4000 ∧ (H.length : Int) ≤ S 150 4 + 1) (hnb : ∀ s : Int, 0 ≤ s → s < (H.length : Int) → qNm H s ≤ 100000) (hch : 0 ≤ S 72 11 ∧ S 72 11 ≤ 9000000) (hep : ∀ k : Int, isO T k → (tO T k).2.2.2.2.1 ≤ S 72 11) (h56 : S 156 (-1) = 65) (hh1 : 2 ≤ K.1.length) (hx : (K.1.getD (K.1.length - 2) (0, 0, [])).1 = 4 ∨ (K.1.getD (K.1.length - 2) (0, 0, [])).1 = 5) (ho : isO T (K.1.getD (K.1.length - 2) (0, 0, [])).2.1) (hy : (K.1.getD (K.1.length - 1) (0, 0, [])).1 = 0) (hm0 : hMe (aPr T H) (K.1.getD (K.1.length - 2) (0, 0, [])).2.1 (T.length + 1) (-1) = 0) (hm : 4000 < S 150 4 + aMb H (-1) (fS (-1) (aNs H (tO T (K.1.getD (K.1.length - 2) (0, 0, [])).2.1).2.1) 0)) : cSo xs d 226 [228, 229, 144, 145, 146, 147, 148] cMo S K := by
  obtain ⟨h1, ⟨h2, h2b⟩, ⟨h3, h4, h5⟩, -⟩ := id h
  have hW2 : cWd (w_up S 226 16 0) T L G := cWd_up hW (by first | decide | omega)
  have hsw2 : cSw (w_up S 226 16 0) T H := cSw_up hsw (by first | decide | omega)
  have hk : cTk 226 (w_up S 226 16 0) K := cTk_16 h1 (Or.inr rfl)
  have hf : cFr 226 S (w_up S 226 16 0) := cFr_up (Or.inr rfl) (cFr_rfl h2b) (by first | decide | omega) (by omega)
  have ef : ∀ (j : Nat) (x : Int), j < 215 → (w_up S 226 16 0) j x = S j x := fun j x j0 => w_up_slot (by omega)
  have hcy := c_at h1 (i := K.1.length - 1) (by omega) (j := (K.1.length : Int) - 1) (by omega)
  have hcx := c_at h1 (i := K.1.length - 2) (by omega) (j := (K.1.length : Int) - 1 - 1) (by omega)
  have hvx : S 229 ((K.1.length : Int) - 1 - 1) = (K.1.getD (K.1.length - 2) (0, 0, [])).2.1 := cV_v hcx (by omega)
  have e4 : (w_up S 226 16 0) 150 4 = S 150 4 := ef 150 4 (by first | decide | omega)
  have e11 : (w_up S 226 16 0) 72 11 = S 72 11 := ef 72 11 (by first | decide | omega)
  refine wJ_mono (cm_b_226 (R := fun Z => ∃ A : wS, oF (w_up S 226 16 0) A ∧ w_up A 226 16 99 = Z) h hi.1 hi.2.1 hi.2.2 (by first | decide | omega) (fun q => by omega) (by first | decide | omega) (by unfold mS; decide) (wJ_mono (xb30_226 (H := H) (T := T) (L := L) (G := G) (o1 := (K.1.getD (K.1.length - 2) (0, 0, [])).2.1) (xP_of (Or.inr rfl) h) hx1 ((w_up_slot (by first | decide | omega)).trans (hcy.1.trans hy)) rfl ((w_up_slot (by first | decide | omega)).trans hcx.1) ((w_up_slot (by first | decide | omega)).trans hvx) (by omega) hx ho hW2 hsw2 hwS hT (by rw [e4]; exact hu4) hnb (by rw [e11]; exact hch) (by rw [e11]; exact hep) (by rw [ef 156 _ (by first | decide | omega)]; exact h56)) (fun o Z hz => ⟨hz.1, by
    rcases hz.2 with ⟨z, -⟩ | ⟨-, -, z⟩ | ⟨-, z, -⟩
    · rw [hm0] at z; exact absurd z (by first | decide | omega)
    · exact z
    · rw [e4] at z; omega⟩)) (fun Z hz => by obtain ⟨A, -, rfl⟩ := hz; exact w_up_same _ _ _ _)) (fun o Z2 hz => ?_)
  obtain ⟨hz0, Z, ⟨A, hA, rfl⟩, rfl⟩ := hz
  exact ⟨hz0, cTk_st (cTk_16 (oF_tk (Or.inr rfl) hA hk) (Or.inr rfl)) (Or.inr rfl), cFm_up (Or.inr rfl) (cFm_up (Or.inr rfl) (cFm_tr (cFm_r hf) (oF_fm (Or.inr rfl) hA)) (by first | decide | omega) (Or.inl (by omega)) (by first | decide | omega)) (by first | decide | omega) (Or.inl (by omega)) (by first | decide | omega)⟩
theorem zb31_226 (h : stC 226 S K) (hi : cIn S K 28 3 b) (hx1 : pe_at (pe_GA xs).xs 1 = some (1, tx_1)) (hW : cWd S T L G) (hsw : cSw S T H) (hwS : wSh T H) (hT : (T.length : Int) ≤ 8000) (hu4 : 0 ≤ S 150 4 ∧ S 150 4 ≤ 4000 ∧ (H.length : Int) ≤ S 150 4 + 1) (hnb : ∀ s : Int, 0 ≤ s → s < (H.length : Int) → qNm H s ≤ 100000) (hch : 0 ≤ S 72 11 ∧ S 72 11 ≤ 9000000) (hep : ∀ k : Int, isO T k → (tO T k).2.2.2.2.1 ≤ S 72 11) (h56 : S 156 (-1) = 65) (hh1 : 2 ≤ K.1.length) (hx : (K.1.getD (K.1.length - 2) (0, 0, [])).1 = 4 ∨ (K.1.getD (K.1.length - 2) (0, 0, [])).1 = 5) (ho : isO T (K.1.getD (K.1.length - 2) (0, 0, [])).2.1) (hy : (K.1.getD (K.1.length - 1) (0, 0, [])).1 = 4 ∨ (K.1.getD (K.1.length - 1) (0, 0, [])).1 = 5) (hq : isO T (K.1.getD (K.1.length - 1) (0, 0, [])).2.1) (hm0 : hMe (aPr T H) (K.1.getD (K.1.length - 2) (0, 0, [])).2.1 (T.length + 1) (K.1.getD (K.1.length - 1) (0, 0, [])).2.1 = 0) (hm : S 150 4 + aMb H (K.1.getD (K.1.length - 1) (0, 0, [])).2.1 (fS (-1) (aNs H (tO T (K.1.getD (K.1.length - 2) (0, 0, [])).2.1).2.1) 0) ≤ 4000) : cSm xs d 226 [228, 229, 144, 145, 146, 147, 148] cMt S (kP K 2 (K.1.getD (K.1.length - 2) (0, 0, []))) (fun Z => cWd Z (tNc (rsT T H (K.1.getD (K.1.length - 1) (0, 0, [])).2.1) (K.1.getD (K.1.length - 2) (0, 0, [])).2.1 (rsS T H (K.1.getD (K.1.length - 1) (0, 0, [])).2.1 (fS (-1) (aNs H (tO T (K.1.getD (K.1.length - 2) (0, 0, [])).2.1).2.1) 0)) (S 72 11)) L G ∧ cSw Z (tNc (rsT T H (K.1.getD (K.1.length - 1) (0, 0, [])).2.1) (K.1.getD (K.1.length - 2) (0, 0, [])).2.1 (rsS T H (K.1.getD (K.1.length - 1) (0, 0, [])).2.1 (fS (-1) (aNs H (tO T (K.1.getD (K.1.length - 2) (0, 0, [])).2.1).2.1) 0)) (S 72 11)) (rsH T H (K.1.getD (K.1.length - 1) (0, 0, [])).2.1 (fS (-1) (aNs H (tO T (K.1.getD (K.1.length - 2) (0, 0, [])).2.1).2.1) 0)) ∧ (Z 150 4 = S 150 4 + aMb H (K.1.getD (K.1.length - 1) (0, 0, [])).2.1 (fS (-1) (aNs H (tO T (K.1.getD (K.1.length - 2) (0, 0, [])).2.1).2.1) 0) ∧ ∀ x : Int, x ≠ 4 → Z 150 x = S 150 x) ∧ Z 72 11 = S 72 11 + (if (tO (rsT T H (K.1.getD (K.1.length - 1) (0, 0, [])).2.1) (K.1.getD (K.1.length - 2) (0, 0, [])).2.1).2.2.2.2.1 = -1 then 0 else 1) ∧ (cPo S → cPo Z)) := by
  obtain ⟨h1, ⟨h2, h2b⟩, ⟨h3, h4, h5⟩, -⟩ := id h
  have hW2 : cWd (w_up S 226 16 0) T L G := cWd_up hW (by first | decide | omega)
  have hsw2 : cSw (w_up S 226 16 0) T H := cSw_up hsw (by first | decide | omega)
  have hk : cTk 226 (w_up S 226 16 0) K := cTk_16 h1 (Or.inr rfl)
  have hf : cFr 226 S (w_up S 226 16 0) := cFr_up (Or.inr rfl) (cFr_rfl h2b) (by first | decide | omega) (by omega)
  have ef : ∀ (j : Nat) (x : Int), j < 215 → (w_up S 226 16 0) j x = S j x := fun j x j0 => w_up_slot (by omega)
  have hcy := c_at h1 (i := K.1.length - 1) (by omega) (j := (K.1.length : Int) - 1) (by omega)
  have hcx := c_at h1 (i := K.1.length - 2) (by omega) (j := (K.1.length : Int) - 1 - 1) (by omega)
  have hvx : S 229 ((K.1.length : Int) - 1 - 1) = (K.1.getD (K.1.length - 2) (0, 0, [])).2.1 := cV_v hcx (by omega)
  have e4 : (w_up S 226 16 0) 150 4 = S 150 4 := ef 150 4 (by first | decide | omega)
  have e11 : (w_up S 226 16 0) 72 11 = S 72 11 := ef 72 11 (by first | decide | omega)
  have hvy : S 229 ((K.1.length : Int) - 1) = (K.1.getD (K.1.length - 1) (0, 0, [])).2.1 := cV_v hcy (by omega)
  have poT : cPo S → cPo (w_up S 226 16 0) := fun po => cPo_ag po (ef 72 3 (by first | decide | omega)) (fun x => ⟨ef 134 x (by first | decide | omega), ef 135 x (by first | decide | omega)⟩) (ef 140 2 (by first | decide | omega)) (ef 150 1 (by first | decide | omega))
  have hlen : (rsT T H (K.1.getD (K.1.length - 1) (0, 0, [])).2.1).length = T.length := (aBr_ok (l := (fS (-1) (aNs H (tO T (K.1.getD (K.1.length - 2) (0, 0, [])).2.1).2.1) 0)) hwS (Or.inr hq) (by have := hwS.1.2.1; omega)).2.2.2.2.2.2.2
  refine cg_b_226 h hi.1 hi.2.1 hi.2.2 (by first | decide | omega) (fun q => by omega) (by first | decide | omega) (by unfold mS; decide) (xb31_226 (H := H) (T := T) (L := L) (G := G) (o1 := (K.1.getD (K.1.length - 2) (0, 0, [])).2.1) (q := (K.1.getD (K.1.length - 1) (0, 0, [])).2.1) (xP_of (Or.inr rfl) h) hx1 ((w_up_slot (by first | decide | omega)).trans hcy.1) ((w_up_slot (by first | decide | omega)).trans hvy) ((w_up_slot (by first | decide | omega)).trans hcx.1) ((w_up_slot (by first | decide | omega)).trans hvx) (by omega) hx ho hy hq hW2 hsw2 hwS hT (by rw [e4]; exact hu4) hnb (by rw [e11]; exact hch) (by rw [e11]; exact hep) (by rw [ef 156 _ (by first | decide | omega)]; exact h56)) (fun Z hz => ?_)
  rcases hz with ⟨z, -⟩ | ⟨-, z, -⟩ | ⟨-, -, A, hA, hs⟩
  · rw [hm0] at z; exact absurd z (by first | decide | omega)
  · rw [e4] at z; omega
  · obtain ⟨g1, g2, g3, g4, ⟨g5, g6⟩, g7, g8, g9⟩ := re_tail (m := 2) (u := (K.1.getD (K.1.length - 2) (0, 0, []))) (Or.inr rfl) hk h3 h4 hh1 ho.1 hlen hA hs (by omega) (hcx.2.1 (by omega)).2
    rw [e11] at g2 g3 g7
    exact ⟨g9.trans (w_up_same _ _ _ _), g1, cFm_tr (cFm_r hf) g4, g2, g3, ⟨g5.trans (by rw [e4]), fun x hx4 => (g6 x hx4).trans (ef 150 x (by first | decide | omega))⟩, g7, fun po => g8 (poT po)⟩
theorem zb31r_226 (h : stC 226 S K) (hi : cIn S K 28 3 b) (hx1 : pe_at (pe_GA xs).xs 1 = some (1, tx_1)) (hW : cWd S T L G) (hsw : cSw S T H) (hwS : wSh T H) (hT : (T.length : Int) ≤ 8000) (hu4 : 0 ≤ S 150 4 ∧ S 150 4 ≤ 4000 ∧ (H.length : Int) ≤ S 150 4 + 1) (hnb : ∀ s : Int, 0 ≤ s → s < (H.length : Int) → qNm H s ≤ 100000) (hch : 0 ≤ S 72 11 ∧ S 72 11 ≤ 9000000) (hep : ∀ k : Int, isO T k → (tO T k).2.2.2.2.1 ≤ S 72 11) (h56 : S 156 (-1) = 65) (hh1 : 2 ≤ K.1.length) (hx : (K.1.getD (K.1.length - 2) (0, 0, [])).1 = 4 ∨ (K.1.getD (K.1.length - 2) (0, 0, [])).1 = 5) (ho : isO T (K.1.getD (K.1.length - 2) (0, 0, [])).2.1) (hy : (K.1.getD (K.1.length - 1) (0, 0, [])).1 = 4 ∨ (K.1.getD (K.1.length - 1) (0, 0, [])).1 = 5) (hq : isO T (K.1.getD (K.1.length - 1) (0, 0, [])).2.1) (hm0 : hMe (aPr T H) (K.1.getD (K.1.length - 2) (0, 0, [])).2.1 (T.length + 1) (K.1.getD (K.1.length - 1) (0, 0, [])).2.1 = 1) : cSx xs d 226 [228, 229, 144, 145, 146, 147, 148] S (kTh K (2, 12, [])) := by
  obtain ⟨h1, ⟨h2, h2b⟩, ⟨h3, h4, h5⟩, -⟩ := id h
  have hW2 : cWd (w_up S 226 16 0) T L G := cWd_up hW (by first | decide | omega)
  have hsw2 : cSw (w_up S 226 16 0) T H := cSw_up hsw (by first | decide | omega)
  have hk : cTk 226 (w_up S 226 16 0) K := cTk_16 h1 (Or.inr rfl)
  have hf : cFr 226 S (w_up S 226 16 0) := cFr_up (Or.inr rfl) (cFr_rfl h2b) (by first | decide | omega) (by omega)
  have ef : ∀ (j : Nat) (x : Int), j < 215 → (w_up S 226 16 0) j x = S j x := fun j x j0 => w_up_slot (by omega)
  have hcy := c_at h1 (i := K.1.length - 1) (by omega) (j := (K.1.length : Int) - 1) (by omega)
  have hcx := c_at h1 (i := K.1.length - 2) (by omega) (j := (K.1.length : Int) - 1 - 1) (by omega)
  have hvx : S 229 ((K.1.length : Int) - 1 - 1) = (K.1.getD (K.1.length - 2) (0, 0, [])).2.1 := cV_v hcx (by omega)
  have e4 : (w_up S 226 16 0) 150 4 = S 150 4 := ef 150 4 (by first | decide | omega)
  have e11 : (w_up S 226 16 0) 72 11 = S 72 11 := ef 72 11 (by first | decide | omega)
  have hvy : S 229 ((K.1.length : Int) - 1) = (K.1.getD (K.1.length - 1) (0, 0, [])).2.1 := cV_v hcy (by omega)
  exact cx_b_226 h hi.1 hi.2.1 hi.2.2 (by first | decide | omega) (fun q => by omega) (by first | decide | omega) (by unfold mS; decide) (by first | decide | omega) (wJ_mono (xb31_226 (H := H) (T := T) (L := L) (G := G) (o1 := (K.1.getD (K.1.length - 2) (0, 0, [])).2.1) (q := (K.1.getD (K.1.length - 1) (0, 0, [])).2.1) (xP_of (Or.inr rfl) h) hx1 ((w_up_slot (by first | decide | omega)).trans hcy.1) ((w_up_slot (by first | decide | omega)).trans hvy) ((w_up_slot (by first | decide | omega)).trans hcx.1) ((w_up_slot (by first | decide | omega)).trans hvx) (by omega) hx ho hy hq hW2 hsw2 hwS hT (by rw [e4]; exact hu4) hnb (by rw [e11]; exact hch) (by rw [e11]; exact hep) (by rw [ef 156 _ (by first | decide | omega)]; exact h56)) (fun o Z hz => ⟨hz.1, by
    rcases hz.2 with ⟨-, z⟩ | ⟨z, -⟩ | ⟨z, -⟩
    · exact z
    · rw [hm0] at z; exact absurd z (by first | decide | omega)
    · rw [hm0] at z; exact absurd z (by first | decide | omega)⟩))
theorem zb31m_226 (h : stC 226 S K) (hi : cIn S K 28 3 b) (hx1 : pe_at (pe_GA xs).xs 1 = some (1, tx_1)) (hW : cWd S T L G) (hsw : cSw S T H) (hwS : wSh T H) (hT : (T.length : Int) ≤ 8000) (hu4 : 0 ≤ S 150 4 ∧ S 150 4 ≤ 4000 ∧ (H.length : Int) ≤ S 150 4 + 1) (hnb : ∀ s : Int, 0 ≤ s → s < (H.length : Int) → qNm H s ≤ 100000) (hch : 0 ≤ S 72 11 ∧ S 72 11 ≤ 9000000) (hep : ∀ k : Int, isO T k → (tO T k).2.2.2.2.1 ≤ S 72 11) (h56 : S 156 (-1) = 65) (hh1 : 2 ≤ K.1.length) (hx : (K.1.getD (K.1.length - 2) (0, 0, [])).1 = 4 ∨ (K.1.getD (K.1.length - 2) (0, 0, [])).1 = 5) (ho : isO T (K.1.getD (K.1.length - 2) (0, 0, [])).2.1) (hy : (K.1.getD (K.1.length - 1) (0, 0, [])).1 = 4 ∨ (K.1.getD (K.1.length - 1) (0, 0, [])).1 = 5) (hq : isO T (K.1.getD (K.1.length - 1) (0, 0, [])).2.1) (hm0 : hMe (aPr T H) (K.1.getD (K.1.length - 2) (0, 0, [])).2.1 (T.length + 1) (K.1.getD (K.1.length - 1) (0, 0, [])).2.1 = 0) (hm : 4000 < S 150 4 + aMb H (K.1.getD (K.1.length - 1) (0, 0, [])).2.1 (fS (-1) (aNs H (tO T (K.1.getD (K.1.length - 2) (0, 0, [])).2.1).2.1) 0)) : cSo xs d 226 [228, 229, 144, 145, 146, 147, 148] cMo S K := by
  obtain ⟨h1, ⟨h2, h2b⟩, ⟨h3, h4, h5⟩, -⟩ := id h
  have hW2 : cWd (w_up S 226 16 0) T L G := cWd_up hW (by first | decide | omega)
  have hsw2 : cSw (w_up S 226 16 0) T H := cSw_up hsw (by first | decide | omega)
  have hk : cTk 226 (w_up S 226 16 0) K := cTk_16 h1 (Or.inr rfl)
  have hf : cFr 226 S (w_up S 226 16 0) := cFr_up (Or.inr rfl) (cFr_rfl h2b) (by first | decide | omega) (by omega)
  have ef : ∀ (j : Nat) (x : Int), j < 215 → (w_up S 226 16 0) j x = S j x := fun j x j0 => w_up_slot (by omega)
  have hcy := c_at h1 (i := K.1.length - 1) (by omega) (j := (K.1.length : Int) - 1) (by omega)
  have hcx := c_at h1 (i := K.1.length - 2) (by omega) (j := (K.1.length : Int) - 1 - 1) (by omega)
  have hvx : S 229 ((K.1.length : Int) - 1 - 1) = (K.1.getD (K.1.length - 2) (0, 0, [])).2.1 := cV_v hcx (by omega)
  have e4 : (w_up S 226 16 0) 150 4 = S 150 4 := ef 150 4 (by first | decide | omega)
  have e11 : (w_up S 226 16 0) 72 11 = S 72 11 := ef 72 11 (by first | decide | omega)
  have hvy : S 229 ((K.1.length : Int) - 1) = (K.1.getD (K.1.length - 1) (0, 0, [])).2.1 := cV_v hcy (by omega)
  refine wJ_mono (cm_b_226 (R := fun Z => ∃ A : wS, oF (w_up S 226 16 0) A ∧ w_up A 226 16 99 = Z) h hi.1 hi.2.1 hi.2.2 (by first | decide | omega) (fun q => by omega) (by first | decide | omega) (by unfold mS; decide) (wJ_mono (xb31_226 (H := H) (T := T) (L := L) (G := G) (o1 := (K.1.getD (K.1.length - 2) (0, 0, [])).2.1) (q := (K.1.getD (K.1.length - 1) (0, 0, [])).2.1) (xP_of (Or.inr rfl) h) hx1 ((w_up_slot (by first | decide | omega)).trans hcy.1) ((w_up_slot (by first | decide | omega)).trans hvy) ((w_up_slot (by first | decide | omega)).trans hcx.1) ((w_up_slot (by first | decide | omega)).trans hvx) (by omega) hx ho hy hq hW2 hsw2 hwS hT (by rw [e4]; exact hu4) hnb (by rw [e11]; exact hch) (by rw [e11]; exact hep) (by rw [ef 156 _ (by first | decide | omega)]; exact h56)) (fun o Z hz => ⟨hz.1, by
    rcases hz.2 with ⟨z, -⟩ | ⟨-, -, z⟩ | ⟨-, z, -⟩
    · rw [hm0] at z; exact absurd z (by first | decide | omega)
    · exact z
    · rw [e4] at z; omega⟩)) (fun Z hz => by obtain ⟨A, -, rfl⟩ := hz; exact w_up_same _ _ _ _)) (fun o Z2 hz => ?_)
  obtain ⟨hz0, Z, ⟨A, hA, rfl⟩, rfl⟩ := hz
  exact ⟨hz0, cTk_st (cTk_16 (oF_tk (Or.inr rfl) hA hk) (Or.inr rfl)) (Or.inr rfl), cFm_up (Or.inr rfl) (cFm_up (Or.inr rfl) (cFm_tr (cFm_r hf) (oF_fm (Or.inr rfl) hA)) (by first | decide | omega) (Or.inl (by omega)) (by first | decide | omega)) (by first | decide | omega) (Or.inl (by omega)) (by first | decide | omega)⟩
theorem zb3e_226 (h : stC 226 S K) (hi : cIn S K 28 3 b) (hh1 : 2 ≤ K.1.length) (hy : ¬ (((K.1.getD (K.1.length - 2) (0, 0, [])).1 = 4 ∨ (K.1.getD (K.1.length - 2) (0, 0, [])).1 = 5) ∧ ((K.1.getD (K.1.length - 1) (0, 0, [])).1 = 0 ∨ (K.1.getD (K.1.length - 1) (0, 0, [])).1 = 4 ∨ (K.1.getD (K.1.length - 1) (0, 0, [])).1 = 5))) : cSt xs d 226 S (kTh K (2, 12, [])) := by
  have hcy := c_at h.1 (i := K.1.length - 1) (by omega) (j := (K.1.length : Int) - 1) (by omega)
  have hcx := c_at h.1 (i := K.1.length - 2) (by omega) (j := (K.1.length : Int) - 1 - 1) (by omega)
  exact cx_b_226 h hi.1 hi.2.1 hi.2.2 (by first | decide | omega) (fun q => by omega) (fun x hx => hx) (by unfold mS; decide) (by first | decide | omega) (xb3e_226 (xP_of (Or.inr rfl) h) ((w_up_slot (by first | decide | omega)).trans hcy.1) rfl ((w_up_slot (by first | decide | omega)).trans hcx.1) rfl (by omega) hy)
end Wfp
