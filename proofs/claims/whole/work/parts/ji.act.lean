/-! PART ji: a property is added, with its counts: of the class. -/
section Wji
variable {xs : List (Nat × List Int32)} {d : Nat} {Y A : wS} {K : aK} {T : List aO} {H : List aH} {L : List aC} {G : Int → aV} {x kd gk gb r nm : Int} {ba : Nat}
theorem asm_215 (hx1 : pe_at (pe_GA xs).xs 1 = some (1, tx_1)) (h : stC 215 Y K) (hW : cWd Y T L G) (hsw : cSw Y T H) (hl : cSl Y) (l4 : Y 158 4 = 215) (l5 : Y 158 5 = 216) (l7 : Y 158 7 = kd) (l8 : Y 158 8 = (ba : Int)) (l9 : Y 158 9 = gk) (l10 : Y 158 10 = gb) (y16 : Y 215 16 = 0) (hx : 0 ≤ x ∧ x < Y 48 (-1)) (e48 : Y 48 x = 0) (he51 : Y 51 x = -1) (he52 : Y 52 x = r) (hba : ba < K.1.length) (hgb : 0 ≤ gb ∧ gb < (T.length : Int)) (hsz : (tO T gb).2.2.2.2.2.2.length ≤ 64) (hkd : kd = 1 ∨ kd = 3) (hvk : -128 ≤ (K.1.getD (K.1.length - 1) (0, 0, [])).1 ∧ (K.1.getD (K.1.length - 1) (0, 0, [])).1 ≤ 127) (hvb : -9223372036854775808 ≤ (Y 218 ((K.1.length : Int) - 1)) ∧ (Y 218 ((K.1.length : Int) - 1)) ≤ 9223372036854775807) (hv1 : 0 ≤ Y 150 1 ∧ Y 150 1 ≤ 60000) (hep : -1 ≤ Y 130 gb ∧ Y 130 gb ≤ 10000000) (hch : 0 ≤ Y 72 11 ∧ Y 72 11 ≤ 10000000) (hz : ∀ A : wS, avH_ag gb (Y 217 ((K.1.length : Int) - 1)) (Y 218 ((K.1.length : Int) - 1)) Y A → A 140 2 ≤ 240200) : wJ (pe_GA xs) wY0 (mS [217, 218, 141, 142]) (d + 8) t_XL_act ((pe_at t_XL_act.bl 0).getD (0, [])).2 [(0, (2, 158)), (1, (0, x))] [] Y (fun o V => o = .inl none ∧ (((64 ≤ (tO T gb).2.2.2.2.2.2.length ∨ 60000 ≤ Y 150 1) ∧ w_up Y 215 16 99 = V) ∨ (((tO T gb).2.2.2.2.2.2.length < 64 ∧ Y 150 1 < 60000) ∧ V 215 16 = 0 ∧ cTk 215 V (kP K (K.1.length - ba) (K.1.getD (K.1.length - 1) (0, 0, []))) ∧ cWd V (tNc (tAp T gb nm (K.1.getD (K.1.length - 1) (0, 0, []))) gb r (Y 72 11)) L G ∧ cSw V (tNc (tAp T gb nm (K.1.getD (K.1.length - 1) (0, 0, []))) gb r (Y 72 11)) H ∧ cFm 215 cMa Y V ∧ V 150 1 = Y 150 1 + 1 ∧ V 72 11 = (if Y 130 gb = -1 then Y 72 11 else Y 72 11 + 1) ∧ (cPo Y → cPo V)))) := by
  have hP := xP_of (w := 215) (by omega) h
  rw [← w_up_eta y16] at hP
  obtain ⟨hTh, -, -, ⟨-, hl14, ⟨c0, c1⟩, hz16, hz10⟩, ⟨t1, t2, t3, t4⟩, -⟩ := id hW
  obtain ⟨hK, ⟨hC, hI⟩, ⟨k0, k1, -⟩, -⟩ := id h
  obtain ⟨-, ⟨b1, b2, b3, b4⟩, -⟩ := hTh.2 gb.toNat (by omega)
  rw [show ((gb.toNat : Nat) : Int) = gb by omega] at b1 b2 b3 b4
  replace b1 : Y 134 gb = ((tO T gb).2.2.2.2.2.2.length : Int) := b1
  have hu : cVl Y (Y 217 ((K.1.length : Int) - 1)) (Y 218 ((K.1.length : Int) - 1)) (K.1.getD (K.1.length - 1) (0, 0, [])) := by
    have z := hK.1.2.1 (K.1.length - 1) (by omega)
    rw [Int.zero_add, show ((K.1.length - 1 : Nat) : Int) = (K.1.length : Int) - 1 by omega] at z
    exact z
  refine wJ_mono (xsen_215 (d := d) (c := (K.2.1.length : Int)) (p := (K.2.1.getD (K.2.1.length - 1) (0, 0, 0, (0, 0, []), 0, 0, 0)).2.1) (h := (K.1.length : Int)) (ba := (ba : Int)) (st := Y 133 gb) (sz := ((tO T gb).2.2.2.2.2.2.length : Int)) (rm := Y 135 gb) (cs := Y 140 2) (v0 := Y 150 1) (r := r) (ep := Y 130 gb) (ch := Y 72 11) hP hl l4 l5 l7 l8 l9 l10 hx ⟨by omega, by omega⟩ hx1 t1 t4 hl14 ⟨hz16, hz10⟩ e48 rfl rfl (by rw [hu.1]; exact hvk) hvb hkd he51 he52 ⟨hgb.1, by omega⟩ rfl ⟨c0, c1⟩ rfl b1 rfl ⟨b3, by omega, by omega, b4⟩ rfl hv1 (by omega) rfl hep rfl hch) (fun o V hq => ?_)
  obtain ⟨rfl, hq⟩ := hq
  refine ⟨rfl, ?_⟩
  rcases hq with ⟨q1, q2⟩ | ⟨q1, q2, A, hav, hs⟩
  · exact Or.inl ⟨by omega, q2⟩
  · have fr : ∀ (j : Nat) (i : Int), j < 4000000 → j ≠ wG → j ≠ 141 → j ≠ 142 → ((j ≠ 133 ∧ j ≠ 134 ∧ j ≠ 135) ∨ i ≠ gb) → (j ≠ 140 ∨ i ≠ 2) → (j ≠ 150 ∨ i ≠ 1) → A j i = Y j i := hav.2.2.2.2.2.2.1
    have e30 : A 130 gb = Y 130 gb := fr 130 gb (by first | decide | omega) (by first | decide | omega) (by first | decide | omega) (by first | decide | omega) (by omega) (by omega) (by omega)
    have e11 : A 72 11 = Y 72 11 := fr 72 11 (by first | decide | omega) (by first | decide | omega) (by first | decide | omega) (by first | decide | omega) (by omega) (by omega) (by omega)
    have hWn := cWd_np (nm := nm) (sh := r) hW hgb.1 hgb.2 hav hu (hz A hav)
    rw [e30, e11] at hWn
    have eA : cTx Y A := cTx_of (fr 2 1 (by first | decide | omega) (by first | decide | omega) (by first | decide | omega) (by first | decide | omega) (by omega) (by omega) (by omega)) (fun i => fr 3 i (by first | decide | omega) (by first | decide | omega) (by first | decide | omega) (by first | decide | omega) (by omega) (by omega) (by omega))
    have eN : cTx A (ncZ gb r (Y 130 gb) (Y 72 11) A) := cTx_of (ncZ_e 2 1 (by first | decide | omega) (by first | decide | omega)) (fun i => ncZ_e 3 i (by first | decide | omega) (Or.inl (by first | decide | omega)))
    have hw4 : ∀ j : Nat, 215 ≤ j → j ≤ 225 → j < 4000000 ∧ j ≠ wG := fun j j0 j1 => by unfold wG; omega
    have hKN : cTk 215 (ncZ gb r (Y 130 gb) (Y 72 11) A) K := cTk_ag hK (cTx_tr eA eN) (fun j i hj => (ncZ_e j i (by omega) (by omega)).trans (fr j i (hw4 j (by omega) (by omega)).1 (hw4 j (by omega) (by omega)).2 (by omega) (by omega) (by omega) (by omega) (by omega)))
    have hswA : cSw A (tAp T gb nm (K.1.getD (K.1.length - 1) (0, 0, []))) H := cSw_T (cSw_ag hsw (fun j i hj => fr j i (by omega) (by unfold wG; omega) (by omega) (by omega) (by omega) (by omega) (by omega))) tAp_l
    have hswN : cSw (ncZ gb r (Y 130 gb) (Y 72 11) A) (tNc (tAp T gb nm (K.1.getD (K.1.length - 1) (0, 0, []))) gb r (Y 72 11)) H := cSw_nc hswA
    have hIN : gI (ncZ gb r (Y 130 gb) (Y 72 11) A) := ncZ_g hav.2.2.2.2.2.2.2.1 hgb.1
    have hfr : cFr 215 (ncZ gb r (Y 130 gb) (Y 72 11) A) V := cFr_sO (by omega) (cFr_rfl hIN) (by omega) hs
    have hm : (K.1.length : Int) - (ba : Int) = ((K.1.length - ba : Nat) : Int) := by omega
    refine Or.inr ⟨⟨by omega, q2⟩, (sO_16 (by omega) hs).trans ((ncZ_e 215 16 (by first | decide | omega) (by first | decide | omega)).trans ((fr 215 16 (by first | decide | omega) (by first | decide | omega) (by first | decide | omega) (by first | decide | omega) (by omega) (by omega) (by omega)).trans y16)), cTk_sO hKN (by omega) hs rfl rfl k0 hm (by omega) (by omega) (cVl_mo hu (cTx_tr eA eN)), cWd_fr (w := 215) (by omega) hWn hfr, cSw_ag hswN (fun j i hj => hfr.1 j i (by omega) (by unfold wG; omega) (by omega)), ⟨fun j i j0 j1 j2 j3 => ?_, fun j j0 j1 => ?_, hfr.2.2.1, rmR_tr (rmR_tr hav.2.2.2.2.2.2.2.2 (ncZ_r hgb.1)) hfr.2.2.2⟩, ?_, ?_, fun hpo => ?_⟩
    · unfold cMa at j3
      by_cases c8 : (j = 128 ∨ j = 130 ∨ j = 131) ∧ i < 0
      · refine (hfr.1 j i j0 j1 j2).trans ?_
        have e : ncZ gb r (Y 130 gb) (Y 72 11) A j i = A j i := by
          unfold ncZ
          split
          · exact w_up_at (by omega)
          · exact (w_up_no (by omega)).trans ((w_up_no (by omega)).trans ((w_up_no (by omega)).trans (w_up_no (by omega))))
        exact e.trans (fr j i j0 j1 (by omega) (by omega) (by omega) (by omega) (by omega))
      · exact (hfr.1 j i j0 j1 j2).trans ((ncZ_e j i (by omega) (by omega)).trans (fr j i j0 j1 (by omega) (by omega) (by omega) (by omega) (by omega)))
    · exact (hfr.2.1 j j0 j1).trans ((ncZ_e j (-1) (by omega) (by omega)).trans (fr j (-1) (hw4 j (by omega) (by omega)).1 (hw4 j (by omega) (by omega)).2 (by omega) (by omega) (by omega) (by omega) (by omega)))
    · exact (hfr.1 150 1 (by first | decide | omega) (by first | decide | omega) (by first | decide | omega)).trans ((ncZ_e 150 1 (by first | decide | omega) (by first | decide | omega)).trans hav.1.2)
    · refine (hfr.1 72 11 (by first | decide | omega) (by first | decide | omega) (by first | decide | omega)).trans ?_
      unfold ncZ
      split
      · exact (w_up_slot (by first | decide | omega)).trans e11
      · exact (w_up_slot (by first | decide | omega)).trans (w_up_same _ _ _ _)
    · have h3 : Y 72 3 = (T.length : Int) := hTh.1
      have hpA : cPo A := cPo_av hpo ⟨hgb.1, by omega⟩ hav (by omega)
      have hpN : cPo (ncZ gb r (Y 130 gb) (Y 72 11) A) := cPo_ag hpA (ncZ_e 72 3 (by first | decide | omega) (by first | decide | omega)) (fun i => ⟨ncZ_e 134 i (by first | decide | omega) (Or.inl (by first | decide | omega)), ncZ_e 135 i (by first | decide | omega) (Or.inl (by first | decide | omega))⟩) (ncZ_e 140 2 (by first | decide | omega) (by first | decide | omega)) (ncZ_e 150 1 (by first | decide | omega) (by first | decide | omega))
      exact cPo_ag hpN (hfr.1 72 3 (by first | decide | omega) (by first | decide | omega) (by first | decide | omega)) (fun i => ⟨hfr.1 134 i (by first | decide | omega) (by first | decide | omega) (by first | decide | omega), hfr.1 135 i (by first | decide | omega) (by first | decide | omega) (by first | decide | omega)⟩) (hfr.1 140 2 (by first | decide | omega) (by first | decide | omega) (by first | decide | omega)) (hfr.1 150 1 (by first | decide | omega) (by first | decide | omega) (by first | decide | omega))
theorem asm_226 (hx1 : pe_at (pe_GA xs).xs 1 = some (1, tx_1)) (h : stC 226 Y K) (hW : cWd Y T L G) (hsw : cSw Y T H) (hl : cSl Y) (l4 : Y 158 4 = 226) (l5 : Y 158 5 = 227) (l7 : Y 158 7 = kd) (l8 : Y 158 8 = (ba : Int)) (l9 : Y 158 9 = gk) (l10 : Y 158 10 = gb) (y16 : Y 226 16 = 0) (hx : 0 ≤ x ∧ x < Y 48 (-1)) (e48 : Y 48 x = 0) (he51 : Y 51 x = -1) (he52 : Y 52 x = r) (hba : ba < K.1.length) (hgb : 0 ≤ gb ∧ gb < (T.length : Int)) (hsz : (tO T gb).2.2.2.2.2.2.length ≤ 64) (hkd : kd = 1 ∨ kd = 3) (hvk : -128 ≤ (K.1.getD (K.1.length - 1) (0, 0, [])).1 ∧ (K.1.getD (K.1.length - 1) (0, 0, [])).1 ≤ 127) (hvb : -9223372036854775808 ≤ (Y 229 ((K.1.length : Int) - 1)) ∧ (Y 229 ((K.1.length : Int) - 1)) ≤ 9223372036854775807) (hv1 : 0 ≤ Y 150 1 ∧ Y 150 1 ≤ 60000) (hep : -1 ≤ Y 130 gb ∧ Y 130 gb ≤ 10000000) (hch : 0 ≤ Y 72 11 ∧ Y 72 11 ≤ 10000000) (hz : ∀ A : wS, avH_ag gb (Y 228 ((K.1.length : Int) - 1)) (Y 229 ((K.1.length : Int) - 1)) Y A → A 140 2 ≤ 240200) : wJ (pe_GA xs) wY0 (mS [228, 229, 141, 142]) (d + 8) t_XL_act ((pe_at t_XL_act.bl 0).getD (0, [])).2 [(0, (2, 158)), (1, (0, x))] [] Y (fun o V => o = .inl none ∧ (((64 ≤ (tO T gb).2.2.2.2.2.2.length ∨ 60000 ≤ Y 150 1) ∧ w_up Y 226 16 99 = V) ∨ (((tO T gb).2.2.2.2.2.2.length < 64 ∧ Y 150 1 < 60000) ∧ V 226 16 = 0 ∧ cTk 226 V (kP K (K.1.length - ba) (K.1.getD (K.1.length - 1) (0, 0, []))) ∧ cWd V (tNc (tAp T gb nm (K.1.getD (K.1.length - 1) (0, 0, []))) gb r (Y 72 11)) L G ∧ cSw V (tNc (tAp T gb nm (K.1.getD (K.1.length - 1) (0, 0, []))) gb r (Y 72 11)) H ∧ cFm 226 cMa Y V ∧ V 150 1 = Y 150 1 + 1 ∧ V 72 11 = (if Y 130 gb = -1 then Y 72 11 else Y 72 11 + 1) ∧ (cPo Y → cPo V)))) := by
  have hP := xP_of (w := 226) (by omega) h
  rw [← w_up_eta y16] at hP
  obtain ⟨hTh, -, -, ⟨-, hl14, ⟨c0, c1⟩, hz16, hz10⟩, ⟨t1, t2, t3, t4⟩, -⟩ := id hW
  obtain ⟨hK, ⟨hC, hI⟩, ⟨k0, k1, -⟩, -⟩ := id h
  obtain ⟨-, ⟨b1, b2, b3, b4⟩, -⟩ := hTh.2 gb.toNat (by omega)
  rw [show ((gb.toNat : Nat) : Int) = gb by omega] at b1 b2 b3 b4
  replace b1 : Y 134 gb = ((tO T gb).2.2.2.2.2.2.length : Int) := b1
  have hu : cVl Y (Y 228 ((K.1.length : Int) - 1)) (Y 229 ((K.1.length : Int) - 1)) (K.1.getD (K.1.length - 1) (0, 0, [])) := by
    have z := hK.1.2.1 (K.1.length - 1) (by omega)
    rw [Int.zero_add, show ((K.1.length - 1 : Nat) : Int) = (K.1.length : Int) - 1 by omega] at z
    exact z
  refine wJ_mono (xsen_226 (d := d) (c := (K.2.1.length : Int)) (p := (K.2.1.getD (K.2.1.length - 1) (0, 0, 0, (0, 0, []), 0, 0, 0)).2.1) (h := (K.1.length : Int)) (ba := (ba : Int)) (st := Y 133 gb) (sz := ((tO T gb).2.2.2.2.2.2.length : Int)) (rm := Y 135 gb) (cs := Y 140 2) (v0 := Y 150 1) (r := r) (ep := Y 130 gb) (ch := Y 72 11) hP hl l4 l5 l7 l8 l9 l10 hx ⟨by omega, by omega⟩ hx1 t1 t4 hl14 ⟨hz16, hz10⟩ e48 rfl rfl (by rw [hu.1]; exact hvk) hvb hkd he51 he52 ⟨hgb.1, by omega⟩ rfl ⟨c0, c1⟩ rfl b1 rfl ⟨b3, by omega, by omega, b4⟩ rfl hv1 (by omega) rfl hep rfl hch) (fun o V hq => ?_)
  obtain ⟨rfl, hq⟩ := hq
  refine ⟨rfl, ?_⟩
  rcases hq with ⟨q1, q2⟩ | ⟨q1, q2, A, hav, hs⟩
  · exact Or.inl ⟨by omega, q2⟩
  · have fr : ∀ (j : Nat) (i : Int), j < 4000000 → j ≠ wG → j ≠ 141 → j ≠ 142 → ((j ≠ 133 ∧ j ≠ 134 ∧ j ≠ 135) ∨ i ≠ gb) → (j ≠ 140 ∨ i ≠ 2) → (j ≠ 150 ∨ i ≠ 1) → A j i = Y j i := hav.2.2.2.2.2.2.1
    have e30 : A 130 gb = Y 130 gb := fr 130 gb (by first | decide | omega) (by first | decide | omega) (by first | decide | omega) (by first | decide | omega) (by omega) (by omega) (by omega)
    have e11 : A 72 11 = Y 72 11 := fr 72 11 (by first | decide | omega) (by first | decide | omega) (by first | decide | omega) (by first | decide | omega) (by omega) (by omega) (by omega)
    have hWn := cWd_np (nm := nm) (sh := r) hW hgb.1 hgb.2 hav hu (hz A hav)
    rw [e30, e11] at hWn
    have eA : cTx Y A := cTx_of (fr 2 1 (by first | decide | omega) (by first | decide | omega) (by first | decide | omega) (by first | decide | omega) (by omega) (by omega) (by omega)) (fun i => fr 3 i (by first | decide | omega) (by first | decide | omega) (by first | decide | omega) (by first | decide | omega) (by omega) (by omega) (by omega))
    have eN : cTx A (ncZ gb r (Y 130 gb) (Y 72 11) A) := cTx_of (ncZ_e 2 1 (by first | decide | omega) (by first | decide | omega)) (fun i => ncZ_e 3 i (by first | decide | omega) (Or.inl (by first | decide | omega)))
    have hw4 : ∀ j : Nat, 226 ≤ j → j ≤ 236 → j < 4000000 ∧ j ≠ wG := fun j j0 j1 => by unfold wG; omega
    have hKN : cTk 226 (ncZ gb r (Y 130 gb) (Y 72 11) A) K := cTk_ag hK (cTx_tr eA eN) (fun j i hj => (ncZ_e j i (by omega) (by omega)).trans (fr j i (hw4 j (by omega) (by omega)).1 (hw4 j (by omega) (by omega)).2 (by omega) (by omega) (by omega) (by omega) (by omega)))
    have hswA : cSw A (tAp T gb nm (K.1.getD (K.1.length - 1) (0, 0, []))) H := cSw_T (cSw_ag hsw (fun j i hj => fr j i (by omega) (by unfold wG; omega) (by omega) (by omega) (by omega) (by omega) (by omega))) tAp_l
    have hswN : cSw (ncZ gb r (Y 130 gb) (Y 72 11) A) (tNc (tAp T gb nm (K.1.getD (K.1.length - 1) (0, 0, []))) gb r (Y 72 11)) H := cSw_nc hswA
    have hIN : gI (ncZ gb r (Y 130 gb) (Y 72 11) A) := ncZ_g hav.2.2.2.2.2.2.2.1 hgb.1
    have hfr : cFr 226 (ncZ gb r (Y 130 gb) (Y 72 11) A) V := cFr_sO (by omega) (cFr_rfl hIN) (by omega) hs
    have hm : (K.1.length : Int) - (ba : Int) = ((K.1.length - ba : Nat) : Int) := by omega
    refine Or.inr ⟨⟨by omega, q2⟩, (sO_16 (by omega) hs).trans ((ncZ_e 226 16 (by first | decide | omega) (by first | decide | omega)).trans ((fr 226 16 (by first | decide | omega) (by first | decide | omega) (by first | decide | omega) (by first | decide | omega) (by omega) (by omega) (by omega)).trans y16)), cTk_sO hKN (by omega) hs rfl rfl k0 hm (by omega) (by omega) (cVl_mo hu (cTx_tr eA eN)), cWd_fr (w := 226) (by omega) hWn hfr, cSw_ag hswN (fun j i hj => hfr.1 j i (by omega) (by unfold wG; omega) (by omega)), ⟨fun j i j0 j1 j2 j3 => ?_, fun j j0 j1 => ?_, hfr.2.2.1, rmR_tr (rmR_tr hav.2.2.2.2.2.2.2.2 (ncZ_r hgb.1)) hfr.2.2.2⟩, ?_, ?_, fun hpo => ?_⟩
    · unfold cMa at j3
      by_cases c8 : (j = 128 ∨ j = 130 ∨ j = 131) ∧ i < 0
      · refine (hfr.1 j i j0 j1 j2).trans ?_
        have e : ncZ gb r (Y 130 gb) (Y 72 11) A j i = A j i := by
          unfold ncZ
          split
          · exact w_up_at (by omega)
          · exact (w_up_no (by omega)).trans ((w_up_no (by omega)).trans ((w_up_no (by omega)).trans (w_up_no (by omega))))
        exact e.trans (fr j i j0 j1 (by omega) (by omega) (by omega) (by omega) (by omega))
      · exact (hfr.1 j i j0 j1 j2).trans ((ncZ_e j i (by omega) (by omega)).trans (fr j i j0 j1 (by omega) (by omega) (by omega) (by omega) (by omega)))
    · exact (hfr.2.1 j j0 j1).trans ((ncZ_e j (-1) (by omega) (by omega)).trans (fr j (-1) (hw4 j (by omega) (by omega)).1 (hw4 j (by omega) (by omega)).2 (by omega) (by omega) (by omega) (by omega) (by omega)))
    · exact (hfr.1 150 1 (by first | decide | omega) (by first | decide | omega) (by first | decide | omega)).trans ((ncZ_e 150 1 (by first | decide | omega) (by first | decide | omega)).trans hav.1.2)
    · refine (hfr.1 72 11 (by first | decide | omega) (by first | decide | omega) (by first | decide | omega)).trans ?_
      unfold ncZ
      split
      · exact (w_up_slot (by first | decide | omega)).trans e11
      · exact (w_up_slot (by first | decide | omega)).trans (w_up_same _ _ _ _)
    · have h3 : Y 72 3 = (T.length : Int) := hTh.1
      have hpA : cPo A := cPo_av hpo ⟨hgb.1, by omega⟩ hav (by omega)
      have hpN : cPo (ncZ gb r (Y 130 gb) (Y 72 11) A) := cPo_ag hpA (ncZ_e 72 3 (by first | decide | omega) (by first | decide | omega)) (fun i => ⟨ncZ_e 134 i (by first | decide | omega) (Or.inl (by first | decide | omega)), ncZ_e 135 i (by first | decide | omega) (Or.inl (by first | decide | omega))⟩) (ncZ_e 140 2 (by first | decide | omega) (by first | decide | omega)) (ncZ_e 150 1 (by first | decide | omega) (by first | decide | omega))
      exact cPo_ag hpN (hfr.1 72 3 (by first | decide | omega) (by first | decide | omega) (by first | decide | omega)) (fun i => ⟨hfr.1 134 i (by first | decide | omega) (by first | decide | omega) (by first | decide | omega), hfr.1 135 i (by first | decide | omega) (by first | decide | omega) (by first | decide | omega)⟩) (hfr.1 140 2 (by first | decide | omega) (by first | decide | omega) (by first | decide | omega)) (hfr.1 150 1 (by first | decide | omega) (by first | decide | omega) (by first | decide | omega))
end Wji
