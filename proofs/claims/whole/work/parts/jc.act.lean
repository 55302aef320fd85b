/-! PART jc: acting at a site by tasks: lists: of the class. -/
section Wjc
variable {xs : List (Nat × List Int32)} {d : Nat} {Y : wS} {K : aK} {T : List aO} {H : List aH} {L : List aC} {G : Int → aV} {x kd ec gk gb es hd wh e50 l : Int} {ba : Nat} {w : Nat} {A B V : wS} {k v : Int} {a : aV} {mk : Nat → Int → Prop}
/-- a value is given: the task, the frame -/
theorem cGv (hw : w = 215 ∨ w = 226) (hK : cTk w B K) (hI : gI B) (k0 : 0 < K.2.1.length) (hba : ba < K.1.length) (hl : K.1.length ≤ 2001) (hs : sO w (K.1.length : Int) (K.2.1.length : Int) (K.2.1.getD (K.2.1.length - 1) (0, 0, 0, (0, 0, []), 0, 0, 0)).2.1 ((K.1.length : Int) - (ba : Int)) k v B V) (hv : cVl B k v a) : (V w 16 = B w 16 ∧ cTk w V (kP K (K.1.length - ba) a)) ∧ cFr w B V := by
  have hm : (K.1.length : Int) - (ba : Int) = ((K.1.length - ba : Nat) : Int) := by omega
  exact ⟨⟨sO_16 hw hs, cTk_sO hK hw hs rfl rfl k0 hm (by omega) (by omega) hv⟩, cFr_sO hw (cFr_rfl hI) (by omega) hs⟩
theorem cFm_fr (hfr : cFr w B V) (hB : ∀ (j : Nat) (x : Int), j < 4000000 → j ≠ wG → (j < w ∨ w + 10 < j) → ¬ mk j x → B j x = Y j x) (hB2 : ∀ j : Nat, w + 4 ≤ j → j ≤ w + 9 → B j (-1) = Y j (-1)) (hr : rmR Y B) : cFm w mk Y V := ⟨fun j x j0 j1 j2 j3 => (hfr.1 j x j0 j1 j2).trans (hB j x j0 j1 j2 j3), fun j j0 j1 => (hfr.2.1 j j0 j1).trans (hB2 j j0 j1), hfr.2.2.1, rmR_tr hr hfr.2.2.2⟩
/-- a value is added to a list -/
def cMe (j : Nat) (x : Int) : Prop := j = 141 ∨ j = 142 ∨ ((j = 133 ∨ j = 134 ∨ j = 135) ∧ 0 ≤ x) ∨ (j = 140 ∧ x = 2) ∨ (j = 150 ∧ x = 1)
/-- a list's last value goes -/
def cMs (j : Nat) (x : Int) : Prop := j = 134 ∧ 0 ≤ x
/-- what the rows of lists want -/
theorem lsB (hW : cWd Y T L G) (hgb : 0 ≤ gb ∧ gb < (T.length : Int)) : (Y 133 gb = Y 133 gb ∧ Y 134 gb = ((tO T gb).2.2.2.2.2.2.length : Int) ∧ Y 135 gb = Y 135 gb) ∧ (0 ≤ Y 133 gb ∧ 0 ≤ ((tO T gb).2.2.2.2.2.2.length : Int) ∧ ((tO T gb).2.2.2.2.2.2.length : Int) ≤ Y 135 gb ∧ Y 133 gb + Y 135 gb ≤ Y 140 2) := by
  obtain ⟨-, ⟨b1, b2, b3, b4⟩, -⟩ := hW.1.2 gb.toNat (by omega)
  rw [show ((gb.toNat : Nat) : Int) = gb by omega] at b1 b2 b3 b4
  replace b1 : Y 134 gb = ((tO T gb).2.2.2.2.2.2.length : Int) := b1
  exact ⟨⟨rfl, b1, rfl⟩, b3, by omega, by omega, b4⟩
/-- behind a value that was added -/
theorem avF (hW : cWd Y T L G) (hw : w = 215 ∨ w = 226) (hK : cTk w Y K) (hgb : 0 ≤ gb ∧ gb < (T.length : Int)) (hav : avH_ag gb k v Y A) (hpo : cPo Y) (hv1 : Y 150 1 < 60000) (hu : cVl Y k v a) : cWd A (tAp T gb (-1) a) L G ∧ cTk w A K ∧ gI A ∧ rmR Y A ∧ cTx Y A ∧ (A 150 1 = Y 150 1 + 1 ∧ cPo A) ∧ A w 16 = Y w 16 ∧ (∀ (j : Nat) (i : Int), j < 4000000 → j ≠ wG → ¬ cMe j i → A j i = Y j i) ∧ ∀ j : Nat, w + 4 ≤ j → j ≤ w + 9 → A j (-1) = Y j (-1) := by
  have hg : wG = 1000000 := rfl
  have fr : ∀ (j : Nat) (i : Int), j < 4000000 → j ≠ wG → j ≠ 141 → j ≠ 142 → ((j ≠ 133 ∧ j ≠ 134 ∧ j ≠ 135) ∨ i ≠ gb) → (j ≠ 140 ∨ i ≠ 2) → (j ≠ 150 ∨ i ≠ 1) → A j i = Y j i := hav.2.2.2.2.2.2.1
  have h3 : Y 72 3 = (T.length : Int) := hW.1.1
  obtain ⟨⟨-, s1, -⟩, s2, s3, s4, s5⟩ := lsB hW hgb
  have hpA : cPo A := cPo_av hpo ⟨hgb.1, by omega⟩ hav (by omega)
  have e150 := hav.1.2
  have hzA : A 140 2 ≤ 240200 := by have := cPo_b hpA; omega
  have fm : ∀ (j : Nat) (i : Int), j < 4000000 → j ≠ wG → ¬ cMe j i → A j i = Y j i := fun j i j0 j1 j2 => by
    unfold cMe at j2
    exact fr j i j0 j1 (by omega) (by omega) (by omega) (by omega) (by omega)
  have eA : cTx Y A := cTx_of (fm 2 1 (by first | decide | omega) (by first | decide | omega) (by unfold cMe; omega)) (fun i => fm 3 i (by first | decide | omega) (by first | decide | omega) (by unfold cMe; omega))
  exact ⟨cWd_ap hW hgb.1 hgb.2 hav hu hzA, cTk_ag hK eA (fun j i hj => fm j i (by omega) (by omega) (by unfold cMe; omega)), hav.2.2.2.2.2.2.2.1, hav.2.2.2.2.2.2.2.2, eA, ⟨e150, hpA⟩, fm w 16 (by omega) (by omega) (by unfold cMe; omega), fm, fun j j0 j1 => fm j (-1) (by omega) (by omega) (by unfold cMe; omega)⟩
theorem alz_215 (hx1 : pe_at (pe_GA xs).xs 1 = some (1, tx_1)) (h : rdC 215 kd ec ba gk gb es x 3 K T L G Y) (hgk : gk = 6) (hgb : 0 ≤ gb ∧ gb < (T.length : Int)) (hv1 : 0 ≤ Y 150 1 ∧ Y 150 1 ≤ 60000) (hsz : ((tO T gb).2.2.2.2.2.2.length : Int) ≤ 60000) (hkd : kd = 0) : wJ (pe_GA xs) wY0 (mS [217, 218]) (d + 8) t_XL_act ((pe_at t_XL_act.bl 0).getD (0, [])).2 [(0, (2, 158)), (1, (0, x))] [] Y (fun o V => o = .inl none ∧ V 215 16 = 0 ∧ cTk 215 V (kP K (K.1.length - ba) (2, ((tO T gb).2.2.2.2.2.2.length : Int), [])) ∧ cFr 215 Y V) := by
  obtain ⟨⟨h, hW, hl, hT⟩, ⟨l4, l5, l7, l8, l9, l10, l12, l13⟩, y16, ⟨hx, e48⟩, hba⟩ := h
  have hP := xP_of (w := 215) (by omega) h
  rw [← w_up_eta y16] at hP
  obtain ⟨hTh, hCa, -, ⟨⟨m1, m2, m3, m4⟩, hl14, ⟨c0, c1⟩, hz16, hz10⟩, ⟨t1, t2, t3, t4⟩, -⟩ := id hW
  obtain ⟨hK, ⟨hC, hI⟩, ⟨k0, k1, -⟩, -⟩ := id h
  obtain ⟨⟨-, s1, -⟩, s2, s3, s4, s5⟩ := lsB hW hgb
  refine wJ_mono (xlsz_215 (d := d) (c := (K.2.1.length : Int)) (p := (K.2.1.getD (K.2.1.length - 1) (0, 0, 0, (0, 0, []), 0, 0, 0)).2.1) (h := (K.1.length : Int)) (ba := (ba : Int)) (st := Y 133 gb) (sz := ((tO T gb).2.2.2.2.2.2.length : Int)) (rm := Y 135 gb) (cs := Y 140 2) (v0 := Y 150 1) (ec := ec) (ky := 0) (vy := 0) hP hl l4 l5 l7 l8 l9 l10 hx ⟨by omega, by omega⟩ hx1 t1 t4 hl14 ⟨hz16, hz10⟩ e48 hgk ⟨hgb.1, by omega⟩ rfl ⟨c0, c1⟩ rfl s1 rfl ⟨s2, s3, s4, s5⟩ rfl hv1 hsz l12 hkd) (fun o V hq => ?_)
  obtain ⟨rfl, hs⟩ := hq
  obtain ⟨⟨r1, r2⟩, r3⟩ := cGv (a := (2, ((tO T gb).2.2.2.2.2.2.length : Int), [])) (by omega) hK hI k0 hba k1 hs (cV_e (by first | decide | omega) rfl)
  exact ⟨rfl, r1.trans y16, r2, r3⟩
theorem aln_215 (hx1 : pe_at (pe_GA xs).xs 1 = some (1, tx_1)) (h : rdC 215 kd ec ba gk gb es x 3 K T L G Y) (hgk : gk = 6) (hgb : 0 ≤ gb ∧ gb < (T.length : Int)) (hv1 : 0 ≤ Y 150 1 ∧ Y 150 1 ≤ 60000) (hsz : ((tO T gb).2.2.2.2.2.2.length : Int) ≤ 60000) (hkd : kd = 5) (hec : ec = 0) (hz0 : ((tO T gb).2.2.2.2.2.2.length : Int) = 0) : wJ (pe_GA xs) wY0 (mS [217, 218]) (d + 8) t_XL_act ((pe_at t_XL_act.bl 0).getD (0, [])).2 [(0, (2, 158)), (1, (0, x))] [] Y (fun o V => o = .inl none ∧ V 215 16 = 0 ∧ cTk 215 V (kP K (K.1.length - ba) (0, 0, [])) ∧ cFr 215 Y V) := by
  obtain ⟨⟨h, hW, hl, hT⟩, ⟨l4, l5, l7, l8, l9, l10, l12, l13⟩, y16, ⟨hx, e48⟩, hba⟩ := h
  have hP := xP_of (w := 215) (by omega) h
  rw [← w_up_eta y16] at hP
  obtain ⟨hTh, hCa, -, ⟨⟨m1, m2, m3, m4⟩, hl14, ⟨c0, c1⟩, hz16, hz10⟩, ⟨t1, t2, t3, t4⟩, -⟩ := id hW
  obtain ⟨hK, ⟨hC, hI⟩, ⟨k0, k1, -⟩, -⟩ := id h
  obtain ⟨⟨-, s1, -⟩, s2, s3, s4, s5⟩ := lsB hW hgb
  refine wJ_mono (xlpn_215 (d := d) (c := (K.2.1.length : Int)) (p := (K.2.1.getD (K.2.1.length - 1) (0, 0, 0, (0, 0, []), 0, 0, 0)).2.1) (h := (K.1.length : Int)) (ba := (ba : Int)) (st := Y 133 gb) (sz := ((tO T gb).2.2.2.2.2.2.length : Int)) (rm := Y 135 gb) (cs := Y 140 2) (v0 := Y 150 1) (ec := ec) (ky := 0) (vy := 0) hP hl l4 l5 l7 l8 l9 l10 hx ⟨by omega, by omega⟩ hx1 t1 t4 hl14 ⟨hz16, hz10⟩ e48 hgk ⟨hgb.1, by omega⟩ rfl ⟨c0, c1⟩ rfl s1 rfl ⟨s2, s3, s4, s5⟩ rfl hv1 hsz l12 hkd hec hz0) (fun o V hq => ?_)
  obtain ⟨rfl, hs⟩ := hq
  obtain ⟨⟨r1, r2⟩, r3⟩ := cGv (a := (0, 0, [])) (by omega) hK hI k0 hba k1 hs (cV_e (by first | decide | omega) rfl)
  exact ⟨rfl, r1.trans y16, r2, r3⟩
theorem alo_215 (hx1 : pe_at (pe_GA xs).xs 1 = some (1, tx_1)) (h : rdC 215 kd ec ba gk gb es x 3 K T L G Y) (hgk : gk = 6) (hgb : 0 ≤ gb ∧ gb < (T.length : Int)) (hv1 : 0 ≤ Y 150 1 ∧ Y 150 1 ≤ 60000) (hsz : ((tO T gb).2.2.2.2.2.2.length : Int) ≤ 60000) (hkd : kd = 5) (hec : ec = 0) (hz0 : 0 < ((tO T gb).2.2.2.2.2.2.length : Int)) (hpo : cPo Y) : wJ (pe_GA xs) wY0 (mS [217, 218]) (d + 8) t_XL_act ((pe_at t_XL_act.bl 0).getD (0, [])).2 [(0, (2, 158)), (1, (0, x))] [] Y (fun o V => o = .inl none ∧ V 215 16 = 0 ∧ cTk 215 V (kP K (K.1.length - ba) (gvA T gb (((tO T gb).2.2.2.2.2.2.length : Int) - 1))) ∧ cWd V (tDp T gb (((tO T gb).2.2.2.2.2.2.length : Int) - 1)) L G ∧ cFm 215 cMs Y V ∧ cPo V) := wJ_E (fun hE => by
  obtain ⟨⟨h, hW, hl, hT⟩, ⟨l4, l5, l7, l8, l9, l10, l12, l13⟩, y16, ⟨hx, e48⟩, hba⟩ := h
  have hP := xP_of (w := 215) (by omega) h
  rw [← w_up_eta y16] at hP
  obtain ⟨hTh, hCa, -, ⟨⟨m1, m2, m3, m4⟩, hl14, ⟨c0, c1⟩, hz16, hz10⟩, ⟨t1, t2, t3, t4⟩, -⟩ := id hW
  obtain ⟨hK, ⟨hC, hI⟩, ⟨k0, k1, -⟩, -⟩ := id h
  obtain ⟨⟨-, s1, -⟩, s2, s3, s4, s5⟩ := lsB hW hgb
  obtain ⟨⟨z1, z2⟩, z3⟩ := cell_v (hd := gb) (wh := ((tO T gb).2.2.2.2.2.2.length : Int) - 1) hW hgb ⟨by omega, by omega⟩
  rw [show Y 133 gb + (((tO T gb).2.2.2.2.2.2.length : Int) - 1) = Y 133 gb + ((tO T gb).2.2.2.2.2.2.length : Int) - 1 by omega] at z2 z3
  refine wJ_mono (xlpo_215 (d := d) (c := (K.2.1.length : Int)) (p := (K.2.1.getD (K.2.1.length - 1) (0, 0, 0, (0, 0, []), 0, 0, 0)).2.1) (h := (K.1.length : Int)) (ba := (ba : Int)) (st := Y 133 gb) (sz := ((tO T gb).2.2.2.2.2.2.length : Int)) (rm := Y 135 gb) (cs := Y 140 2) (v0 := Y 150 1) (ec := ec) (ky := 0) (vy := 0) (lk := Y 141 (Y 133 gb + ((tO T gb).2.2.2.2.2.2.length : Int) - 1)) (lv := Y 142 (Y 133 gb + ((tO T gb).2.2.2.2.2.2.length : Int) - 1)) hP hl l4 l5 l7 l8 l9 l10 hx ⟨by omega, by omega⟩ hx1 t1 t4 hl14 ⟨hz16, hz10⟩ e48 hgk ⟨hgb.1, by omega⟩ rfl ⟨c0, c1⟩ rfl s1 rfl ⟨s2, s3, s4, s5⟩ rfl hv1 hsz l12 rfl rfl (br_E hE ⟨Or.inl (by first | decide | omega), by decide⟩ rfl (by omega) (by omega)) (lr_E hE ⟨Or.inl (by first | decide | omega), by decide⟩ rfl (by omega) (by omega)) hkd hec hz0) (fun o V hq => ?_)
  obtain ⟨rfl, hs⟩ := hq
  have hdv := dv_pop (k := gb) (sz := ((tO T gb).2.2.2.2.2.2.length : Int)) hI s1 hgb.1
  have h3 : Y 72 3 = (T.length : Int) := hW.1.1
  have eA : cTx Y (w_up Y 134 gb (((tO T gb).2.2.2.2.2.2.length : Int) - 1)) := cTx_of rfl (fun _ => rfl)
  have hKA : cTk 215 (w_up Y 134 gb (((tO T gb).2.2.2.2.2.2.length : Int) - 1)) K := cTk_ag hK eA (fun j y hj => w_up_slot (by omega))
  have hIA : gI (w_up Y 134 gb (((tO T gb).2.2.2.2.2.2.length : Int) - 1)) := gI_up hI hgb.1 (by first | decide | omega) (by first | decide | omega)
  obtain ⟨⟨r1, r2⟩, r3⟩ := cGv (a := gvA T gb (((tO T gb).2.2.2.2.2.2.length : Int) - 1)) (by omega) hKA hIA k0 hba k1 hs (cVl_mo z3 eA)
  have hpd := cPo_dv hpo ⟨hgb.1, by omega⟩ hdv
  refine ⟨rfl, r1.trans y16, r2, cWd_fr (w := 215) (by omega) (cWd_dv hW hgb.1 hgb.2 ⟨by omega, by omega⟩ hdv) r3, cFm_fr r3 (fun j i j0 j1 j2 j3 => w_up_no (by unfold cMs at j3; omega)) (fun j j0 j1 => w_up_at (by omega)) (rmR_up (rmR_rfl Y) hgb.1 (by first | decide | omega)), cPo_ag hpd (r3.1 72 3 (by first | decide | omega) (by first | decide | omega) (by first | decide | omega)) (fun i => ⟨r3.1 134 i (by first | decide | omega) (by first | decide | omega) (by first | decide | omega), r3.1 135 i (by first | decide | omega) (by first | decide | omega) (by first | decide | omega)⟩) (r3.1 140 2 (by first | decide | omega) (by first | decide | omega) (by first | decide | omega)) (r3.1 150 1 (by first | decide | omega) (by first | decide | omega) (by first | decide | omega))⟩)
theorem alp_215 (hx1 : pe_at (pe_GA xs).xs 1 = some (1, tx_1)) (h : rdC 215 kd ec ba gk gb es x 3 K T L G Y) (hgk : gk = 6) (hgb : 0 ≤ gb ∧ gb < (T.length : Int)) (hv1 : 0 ≤ Y 150 1 ∧ Y 150 1 ≤ 60000) (hsz : ((tO T gb).2.2.2.2.2.2.length : Int) ≤ 60000) (hkd : kd = 5) (hec : ec = 1) (hpo : cPo Y) : wJ (pe_GA xs) wY0 (mS [217, 218, 141, 142]) (d + 8) t_XL_act ((pe_at t_XL_act.bl 0).getD (0, [])).2 [(0, (2, 158)), (1, (0, x))] [] Y (fun o V => o = .inl none ∧ ((60000 ≤ Y 150 1 ∧ w_up Y 215 16 99 = V) ∨ (Y 150 1 < 60000 ∧ V 215 16 = 0 ∧ cTk 215 V (kP K (K.1.length - ba) (2, ((tO T gb).2.2.2.2.2.2.length : Int) + 1, [])) ∧ cWd V (tAp T gb (-1) (K.1.getD (K.1.length - 1) (0, 0, []))) L G ∧ cFm 215 cMe Y V ∧ V 150 1 = Y 150 1 + 1 ∧ cPo V))) := wJ_E (fun hE => by
  obtain ⟨⟨h, hW, hl, hT⟩, ⟨l4, l5, l7, l8, l9, l10, l12, l13⟩, y16, ⟨hx, e48⟩, hba⟩ := h
  have hP := xP_of (w := 215) (by omega) h
  rw [← w_up_eta y16] at hP
  obtain ⟨hTh, hCa, -, ⟨⟨m1, m2, m3, m4⟩, hl14, ⟨c0, c1⟩, hz16, hz10⟩, ⟨t1, t2, t3, t4⟩, -⟩ := id hW
  obtain ⟨hK, ⟨hC, hI⟩, ⟨k0, k1, -⟩, -⟩ := id h
  obtain ⟨⟨-, s1, -⟩, s2, s3, s4, s5⟩ := lsB hW hgb
  have hu := c_at hK (i := K.1.length - 1) (by omega) (j := (K.1.length : Int) - 1) (by omega)
  have a3 : (K.1.length : Int) ≤ Y 217 (-1) := hK.1.2.2.1
  have a4 : Y 218 (-1) = Y 217 (-1) := hK.1.2.2.2.1
  refine wJ_mono (xlpu_215 (d := d) (c := (K.2.1.length : Int)) (p := (K.2.1.getD (K.2.1.length - 1) (0, 0, 0, (0, 0, []), 0, 0, 0)).2.1) (h := (K.1.length : Int)) (ba := (ba : Int)) (st := Y 133 gb) (sz := ((tO T gb).2.2.2.2.2.2.length : Int)) (rm := Y 135 gb) (cs := Y 140 2) (v0 := Y 150 1) (ec := ec) (ky := Y 217 ((K.1.length : Int) - 1)) (vy := Y 218 ((K.1.length : Int) - 1)) hP hl l4 l5 l7 l8 l9 l10 hx ⟨by omega, by omega⟩ hx1 t1 t4 hl14 ⟨hz16, hz10⟩ e48 hgk ⟨hgb.1, by omega⟩ rfl ⟨c0, c1⟩ rfl s1 rfl ⟨s2, s3, s4, s5⟩ rfl hv1 hsz l12 rfl rfl (br_E hE ⟨Or.inl (by first | decide | omega), by decide⟩ rfl (by omega) (by omega)) (lr_E hE ⟨Or.inl (by first | decide | omega), by decide⟩ rfl (by omega) (by omega)) hkd hec) (fun o V hq => ?_)
  obtain ⟨rfl, hq⟩ := hq
  refine ⟨rfl, ?_⟩
  rcases hq with hq | ⟨q1, A, hav, hs⟩
  · exact Or.inl hq
  · obtain ⟨g1, g2, g3, g4, g5, ⟨g6, g7⟩, g8, g9, g10⟩ := avF (w := 215) hW (by omega) hK hgb hav hpo q1 hu
    obtain ⟨⟨r1, r2⟩, r3⟩ := cGv (a := (2, ((tO T gb).2.2.2.2.2.2.length : Int) + 1, [])) (by omega) g2 g3 k0 hba k1 hs (cV_e (by first | decide | omega) rfl)
    exact Or.inr ⟨q1, r1.trans (g8.trans y16), r2, cWd_fr (w := 215) (by omega) g1 r3, cFm_fr r3 (fun j i j0 j1 _ j3 => g9 j i j0 j1 j3) g10 g4, (r3.1 150 1 (by first | decide | omega) (by first | decide | omega) (by first | decide | omega)).trans g6, cPo_ag g7 (r3.1 72 3 (by first | decide | omega) (by first | decide | omega) (by first | decide | omega)) (fun i => ⟨r3.1 134 i (by first | decide | omega) (by first | decide | omega) (by first | decide | omega), r3.1 135 i (by first | decide | omega) (by first | decide | omega) (by first | decide | omega)⟩) (r3.1 140 2 (by first | decide | omega) (by first | decide | omega) (by first | decide | omega)) (r3.1 150 1 (by first | decide | omega) (by first | decide | omega) (by first | decide | omega))⟩)
theorem alg_215 (hx1 : pe_at (pe_GA xs).xs 1 = some (1, tx_1)) (h : rdC 215 kd ec ba gk gb es x 3 K T L G Y) (hgk : gk = 6) (hgb : 0 ≤ gb ∧ gb < (T.length : Int)) (hv1 : 0 ≤ Y 150 1 ∧ Y 150 1 ≤ 60000) (hsz : ((tO T gb).2.2.2.2.2.2.length : Int) ≤ 60000) (hb1 : ba + 1 < K.1.length) (hkd : kd = 2) : wJ (pe_GA xs) wY0 (mS [217, 218]) (d + 8) t_XL_act ((pe_at t_XL_act.bl 0).getD (0, [])).2 [(0, (2, 158)), (1, (0, x))] [] Y (fun o V => o = .inl none ∧ ((¬ ((K.1.getD (ba + 1) (0, 0, [])).1 = 2 ∧ 0 ≤ (K.1.getD (ba + 1) (0, 0, [])).2.1 ∧ (K.1.getD (ba + 1) (0, 0, [])).2.1 < ((tO T gb).2.2.2.2.2.2.length : Int)) ∧ w_up Y 215 16 6 = V) ∨ (((K.1.getD (ba + 1) (0, 0, [])).1 = 2 ∧ 0 ≤ (K.1.getD (ba + 1) (0, 0, [])).2.1 ∧ (K.1.getD (ba + 1) (0, 0, [])).2.1 < ((tO T gb).2.2.2.2.2.2.length : Int)) ∧ V 215 16 = 0 ∧ cTk 215 V (kP K (K.1.length - ba) (gvA T gb (K.1.getD (ba + 1) (0, 0, [])).2.1)) ∧ cFr 215 Y V))) := wJ_E (fun hE => by
  obtain ⟨⟨h, hW, hl, hT⟩, ⟨l4, l5, l7, l8, l9, l10, l12, l13⟩, y16, ⟨hx, e48⟩, hba⟩ := h
  have hP := xP_of (w := 215) (by omega) h
  rw [← w_up_eta y16] at hP
  obtain ⟨hTh, hCa, -, ⟨⟨m1, m2, m3, m4⟩, hl14, ⟨c0, c1⟩, hz16, hz10⟩, ⟨t1, t2, t3, t4⟩, -⟩ := id hW
  obtain ⟨hK, ⟨hC, hI⟩, ⟨k0, k1, -⟩, -⟩ := id h
  obtain ⟨⟨-, s1, -⟩, s2, s3, s4, s5⟩ := lsB hW hgb
  have hu := c_at hK (i := ba + 1) hb1 (j := (ba : Int) + 1) (by omega)
  replace hu : cVl Y (Y 217 ((ba : Int) + 1)) (Y 218 ((ba : Int) + 1)) (K.1.getD (ba + 1) (0, 0, [])) := hu
  have a3 : (K.1.length : Int) ≤ Y 217 (-1) := hK.1.2.2.1
  have a4 : Y 218 (-1) = Y 217 (-1) := hK.1.2.2.2.1
  have e1 := hu.1
  obtain ⟨v1, hv1e, hv1c⟩ : ∃ v1 : Int, Y 218 ((ba : Int) + 1) = v1 ∧ ((K.1.getD (ba + 1) (0, 0, [])).1 = 2 → v1 = (K.1.getD (ba + 1) (0, 0, [])).2.1) := ⟨_, rfl, fun z => (hu.2.1 (by omega)).1⟩
  obtain ⟨lk, lv, q1, q2, q3, q4⟩ : ∃ lk lv : Int, (Y 217 ((ba : Int) + 1) = 2 → 0 ≤ v1 → v1 < ((tO T gb).2.2.2.2.2.2.length : Int) → Y 141 (Y 133 gb + v1) = lk ∧ Y 142 (Y 133 gb + v1) = lv) ∧ (-128 ≤ lk ∧ lk ≤ 127) ∧ (-9223372036854775808 ≤ lv ∧ lv ≤ 9223372036854775807) ∧ (((K.1.getD (ba + 1) (0, 0, [])).1 = 2 ∧ 0 ≤ (K.1.getD (ba + 1) (0, 0, [])).2.1 ∧ (K.1.getD (ba + 1) (0, 0, [])).2.1 < ((tO T gb).2.2.2.2.2.2.length : Int)) → cVl Y lk lv (gvA T gb (K.1.getD (ba + 1) (0, 0, [])).2.1)) := by
    by_cases c : (K.1.getD (ba + 1) (0, 0, [])).1 = 2 ∧ 0 ≤ (K.1.getD (ba + 1) (0, 0, [])).2.1 ∧ (K.1.getD (ba + 1) (0, 0, [])).2.1 < ((tO T gb).2.2.2.2.2.2.length : Int)
    · have e := hv1c c.1
      obtain ⟨⟨z1, z2⟩, z3⟩ := cell_v (hd := gb) (wh := (K.1.getD (ba + 1) (0, 0, [])).2.1) hW hgb c.2
      rw [← e] at z2 z3 ⊢
      exact ⟨_, _, fun _ _ _ => ⟨rfl, rfl⟩, br_E hE ⟨Or.inl (by first | decide | omega), by decide⟩ rfl (by omega) (by omega), lr_E hE ⟨Or.inl (by first | decide | omega), by decide⟩ rfl (by omega) (by omega), fun _ => z3⟩
    · refine ⟨0, 0, fun z1 z2 z3 => absurd ?_ c, by decide, by decide, fun z => absurd z c⟩
      have e := hv1c (e1.symm.trans z1)
      rw [← e]
      exact ⟨e1.symm.trans z1, z2, z3⟩
  refine wJ_mono (xlge_215 (d := d) (c := (K.2.1.length : Int)) (p := (K.2.1.getD (K.2.1.length - 1) (0, 0, 0, (0, 0, []), 0, 0, 0)).2.1) (h := (K.1.length : Int)) (ba := (ba : Int)) (st := Y 133 gb) (sz := ((tO T gb).2.2.2.2.2.2.length : Int)) (rm := Y 135 gb) (cs := Y 140 2) (v0 := Y 150 1) (ec := ec) (ky := 0) (vy := 0) (k1 := Y 217 ((ba : Int) + 1)) (v1 := v1) (lk := lk) (lv := lv) hP hl l4 l5 l7 l8 l9 l10 hx ⟨by omega, by omega⟩ hx1 t1 t4 hl14 ⟨hz16, hz10⟩ e48 hgk ⟨hgb.1, by omega⟩ rfl ⟨c0, c1⟩ rfl s1 rfl ⟨s2, s3, s4, s5⟩ rfl hv1 hsz l12 rfl hv1e (by omega) q1 q2 q3 hkd) (fun o V hq => ?_)
  obtain ⟨rfl, hq⟩ := hq
  refine ⟨rfl, ?_⟩
  rcases hq with ⟨n1, n2⟩ | ⟨n1, n2, n3, hs⟩
  · refine Or.inl ⟨fun c => n1 ?_, n2⟩
    rw [hv1c c.1]
    exact ⟨e1.trans c.1, c.2⟩
  · have e := hv1c (e1.symm.trans n1)
    have c : (K.1.getD (ba + 1) (0, 0, [])).1 = 2 ∧ 0 ≤ (K.1.getD (ba + 1) (0, 0, [])).2.1 ∧ (K.1.getD (ba + 1) (0, 0, [])).2.1 < ((tO T gb).2.2.2.2.2.2.length : Int) := ⟨e1.symm.trans n1, by omega, by omega⟩
    obtain ⟨⟨r1, r2⟩, r3⟩ := cGv (a := gvA T gb (K.1.getD (ba + 1) (0, 0, [])).2.1) (by omega) hK hI k0 hba k1 hs (q4 c)
    exact Or.inr ⟨c, r1.trans y16, r2, r3⟩)
theorem als_215 (hx1 : pe_at (pe_GA xs).xs 1 = some (1, tx_1)) (h : rdC 215 kd ec ba gk gb es x 3 K T L G Y) (hgk : gk = 6) (hgb : 0 ≤ gb ∧ gb < (T.length : Int)) (hv1 : 0 ≤ Y 150 1 ∧ Y 150 1 ≤ 60000) (hsz : ((tO T gb).2.2.2.2.2.2.length : Int) ≤ 60000) (hb1 : ba + 1 < K.1.length) (hkd : kd = 3) (hpo : cPo Y) : wJ (pe_GA xs) wY0 (mS [217, 218, 141, 142]) (d + 8) t_XL_act ((pe_at t_XL_act.bl 0).getD (0, [])).2 [(0, (2, 158)), (1, (0, x))] [] Y (fun o V => o = .inl none ∧ ((¬ ((K.1.getD (ba + 1) (0, 0, [])).1 = 2 ∧ 0 ≤ (K.1.getD (ba + 1) (0, 0, [])).2.1 ∧ (K.1.getD (ba + 1) (0, 0, [])).2.1 ≤ ((tO T gb).2.2.2.2.2.2.length : Int)) ∧ w_up Y 215 16 6 = V) ∨ (((K.1.getD (ba + 1) (0, 0, [])).1 = 2 ∧ 0 ≤ (K.1.getD (ba + 1) (0, 0, [])).2.1 ∧ (K.1.getD (ba + 1) (0, 0, [])).2.1 < ((tO T gb).2.2.2.2.2.2.length : Int)) ∧ V 215 16 = 0 ∧ cTk 215 V (kP K (K.1.length - ba) (K.1.getD (K.1.length - 1) (0, 0, []))) ∧ cWd V (tSp T gb (K.1.getD (ba + 1) (0, 0, [])).2.1.toNat (K.1.getD (K.1.length - 1) (0, 0, []))) L G ∧ cFm 215 cMv Y V) ∨ (((K.1.getD (ba + 1) (0, 0, [])).1 = 2 ∧ (K.1.getD (ba + 1) (0, 0, [])).2.1 = ((tO T gb).2.2.2.2.2.2.length : Int)) ∧ 60000 ≤ Y 150 1 ∧ w_up Y 215 16 99 = V) ∨ (((K.1.getD (ba + 1) (0, 0, [])).1 = 2 ∧ (K.1.getD (ba + 1) (0, 0, [])).2.1 = ((tO T gb).2.2.2.2.2.2.length : Int)) ∧ Y 150 1 < 60000 ∧ V 215 16 = 0 ∧ cTk 215 V (kP K (K.1.length - ba) (K.1.getD (K.1.length - 1) (0, 0, []))) ∧ cWd V (tAp T gb (-1) (K.1.getD (K.1.length - 1) (0, 0, []))) L G ∧ cFm 215 cMe Y V ∧ V 150 1 = Y 150 1 + 1 ∧ cPo V))) := wJ_E (fun hE => by
  obtain ⟨⟨h, hW, hl, hT⟩, ⟨l4, l5, l7, l8, l9, l10, l12, l13⟩, y16, ⟨hx, e48⟩, hba⟩ := h
  have hP := xP_of (w := 215) (by omega) h
  rw [← w_up_eta y16] at hP
  obtain ⟨hTh, hCa, -, ⟨⟨m1, m2, m3, m4⟩, hl14, ⟨c0, c1⟩, hz16, hz10⟩, ⟨t1, t2, t3, t4⟩, -⟩ := id hW
  obtain ⟨hK, ⟨hC, hI⟩, ⟨k0, k1, -⟩, -⟩ := id h
  obtain ⟨⟨-, s1, -⟩, s2, s3, s4, s5⟩ := lsB hW hgb
  have hu1 := c_at hK (i := ba + 1) hb1 (j := (ba : Int) + 1) (by omega)
  replace hu1 : cVl Y (Y 217 ((ba : Int) + 1)) (Y 218 ((ba : Int) + 1)) (K.1.getD (ba + 1) (0, 0, [])) := hu1
  have hu := c_at hK (i := K.1.length - 1) (by omega) (j := (K.1.length : Int) - 1) (by omega)
  replace hu : cVl Y (Y 217 ((K.1.length : Int) - 1)) (Y 218 ((K.1.length : Int) - 1)) (K.1.getD (K.1.length - 1) (0, 0, [])) := hu
  have a3 : (K.1.length : Int) ≤ Y 217 (-1) := hK.1.2.2.1
  have a4 : Y 218 (-1) = Y 217 (-1) := hK.1.2.2.2.1
  have e1 := hu1.1
  obtain ⟨v1, hv1e, hv1c⟩ : ∃ v1 : Int, Y 218 ((ba : Int) + 1) = v1 ∧ ((K.1.getD (ba + 1) (0, 0, [])).1 = 2 → v1 = (K.1.getD (ba + 1) (0, 0, [])).2.1) := ⟨_, rfl, fun z => (hu1.2.1 (by omega)).1⟩
  refine wJ_mono (xlse_215 (d := d) (c := (K.2.1.length : Int)) (p := (K.2.1.getD (K.2.1.length - 1) (0, 0, 0, (0, 0, []), 0, 0, 0)).2.1) (h := (K.1.length : Int)) (ba := (ba : Int)) (st := Y 133 gb) (sz := ((tO T gb).2.2.2.2.2.2.length : Int)) (rm := Y 135 gb) (cs := Y 140 2) (v0 := Y 150 1) (ec := ec) (ky := Y 217 ((K.1.length : Int) - 1)) (vy := Y 218 ((K.1.length : Int) - 1)) (k1 := Y 217 ((ba : Int) + 1)) (v1 := v1) hP hl l4 l5 l7 l8 l9 l10 hx ⟨by omega, by omega⟩ hx1 t1 t4 hl14 ⟨hz16, hz10⟩ e48 hgk ⟨hgb.1, by omega⟩ rfl ⟨c0, c1⟩ rfl s1 rfl ⟨s2, s3, s4, s5⟩ rfl hv1 hsz l12 rfl rfl (br_E hE ⟨Or.inl (by first | decide | omega), by decide⟩ rfl (by omega) (by omega)) (lr_E hE ⟨Or.inl (by first | decide | omega), by decide⟩ rfl (by omega) (by omega)) rfl hv1e (by omega) hkd) (fun o V hq => ?_)
  obtain ⟨rfl, hq⟩ := hq
  refine ⟨rfl, ?_⟩
  rcases hq with ⟨n1, n2⟩ | ⟨n1, n2, n3, hs⟩ | ⟨n1, n2, n3, n4⟩ | ⟨n1, n2, n3, A, hav, hs⟩
  · refine Or.inl ⟨fun c => n1 ?_, n2⟩
    rw [hv1c c.1]
    exact ⟨e1.trans c.1, c.2⟩
  · have e := hv1c (e1.symm.trans n1)
    have c : (K.1.getD (ba + 1) (0, 0, [])).1 = 2 ∧ 0 ≤ (K.1.getD (ba + 1) (0, 0, [])).2.1 ∧ (K.1.getD (ba + 1) (0, 0, [])).2.1 < ((tO T gb).2.2.2.2.2.2.length : Int) := ⟨e1.symm.trans n1, by omega, by omega⟩
    have ew : (((K.1.getD (ba + 1) (0, 0, [])).2.1.toNat : Nat) : Int) = v1 := by omega
    have hWA := cWd_sp (k := gb) (i := (K.1.getD (ba + 1) (0, 0, [])).2.1.toNat) hW hgb.1 hgb.2 (by omega) hu
    rw [ew] at hWA
    have eA : cTx Y (w_up (w_up Y 141 (Y 133 gb + v1) (Y 217 ((K.1.length : Int) - 1))) 142 (Y 133 gb + v1) (Y 218 ((K.1.length : Int) - 1))) := cTx_of rfl (fun _ => rfl)
    have hKA := cTk_ag hK eA (fun j y hj => (w_up_slot (by omega)).trans (w_up_slot (by omega)))
    have hIA : gI (w_up (w_up Y 141 (Y 133 gb + v1) (Y 217 ((K.1.length : Int) - 1))) 142 (Y 133 gb + v1) (Y 218 ((K.1.length : Int) - 1))) := gI_up (gI_up hI (by omega) (by omega) (by first | decide | omega)) (by omega) (by omega) (by first | decide | omega)
    obtain ⟨⟨r1, r2⟩, r3⟩ := cGv (a := (K.1.getD (K.1.length - 1) (0, 0, []))) (by omega) hKA hIA k0 hba k1 hs (cVl_mo hu eA)
    exact Or.inr (Or.inl ⟨c, r1.trans y16, r2, cWd_fr (w := 215) (by omega) hWA r3, cFm_fr r3 (fun j i j0 j1 _ j3 => by unfold cMv at j3; exact (w_up_no (by omega)).trans (w_up_no (by omega))) (fun j j0 j1 => (w_up_no (by omega)).trans (w_up_no (by omega))) (rmR_up (rmR_up (rmR_rfl Y) (by omega) (by first | decide | omega)) (by omega) (by first | decide | omega))⟩)
  · have e := hv1c (e1.symm.trans n1)
    exact Or.inr (Or.inr (Or.inl ⟨⟨e1.symm.trans n1, by omega⟩, n3, n4⟩))
  · have e := hv1c (e1.symm.trans n1)
    obtain ⟨g1, g2, g3, g4, g5, ⟨g6, g7⟩, g8, g9, g10⟩ := avF (w := 215) hW (by omega) hK hgb hav hpo n3 hu
    obtain ⟨⟨r1, r2⟩, r3⟩ := cGv (a := (K.1.getD (K.1.length - 1) (0, 0, []))) (by omega) g2 g3 k0 hba k1 hs (cVl_mo hu g5)
    exact Or.inr (Or.inr (Or.inr ⟨⟨e1.symm.trans n1, by omega⟩, n3, r1.trans (g8.trans y16), r2, cWd_fr (w := 215) (by omega) g1 r3, cFm_fr r3 (fun j i j0 j1 _ j3 => g9 j i j0 j1 j3) g10 g4, (r3.1 150 1 (by first | decide | omega) (by first | decide | omega) (by first | decide | omega)).trans g6, cPo_ag g7 (r3.1 72 3 (by first | decide | omega) (by first | decide | omega) (by first | decide | omega)) (fun i => ⟨r3.1 134 i (by first | decide | omega) (by first | decide | omega) (by first | decide | omega), r3.1 135 i (by first | decide | omega) (by first | decide | omega) (by first | decide | omega)⟩) (r3.1 140 2 (by first | decide | omega) (by first | decide | omega) (by first | decide | omega)) (r3.1 150 1 (by first | decide | omega) (by first | decide | omega) (by first | decide | omega))⟩)))
theorem alz_226 (hx1 : pe_at (pe_GA xs).xs 1 = some (1, tx_1)) (h : rdC 226 kd ec ba gk gb es x 3 K T L G Y) (hgk : gk = 6) (hgb : 0 ≤ gb ∧ gb < (T.length : Int)) (hv1 : 0 ≤ Y 150 1 ∧ Y 150 1 ≤ 60000) (hsz : ((tO T gb).2.2.2.2.2.2.length : Int) ≤ 60000) (hkd : kd = 0) : wJ (pe_GA xs) wY0 (mS [228, 229]) (d + 8) t_XL_act ((pe_at t_XL_act.bl 0).getD (0, [])).2 [(0, (2, 158)), (1, (0, x))] [] Y (fun o V => o = .inl none ∧ V 226 16 = 0 ∧ cTk 226 V (kP K (K.1.length - ba) (2, ((tO T gb).2.2.2.2.2.2.length : Int), [])) ∧ cFr 226 Y V) := by
  obtain ⟨⟨h, hW, hl, hT⟩, ⟨l4, l5, l7, l8, l9, l10, l12, l13⟩, y16, ⟨hx, e48⟩, hba⟩ := h
  have hP := xP_of (w := 226) (by omega) h
  rw [← w_up_eta y16] at hP
  obtain ⟨hTh, hCa, -, ⟨⟨m1, m2, m3, m4⟩, hl14, ⟨c0, c1⟩, hz16, hz10⟩, ⟨t1, t2, t3, t4⟩, -⟩ := id hW
  obtain ⟨hK, ⟨hC, hI⟩, ⟨k0, k1, -⟩, -⟩ := id h
  obtain ⟨⟨-, s1, -⟩, s2, s3, s4, s5⟩ := lsB hW hgb
  refine wJ_mono (xlsz_226 (d := d) (c := (K.2.1.length : Int)) (p := (K.2.1.getD (K.2.1.length - 1) (0, 0, 0, (0, 0, []), 0, 0, 0)).2.1) (h := (K.1.length : Int)) (ba := (ba : Int)) (st := Y 133 gb) (sz := ((tO T gb).2.2.2.2.2.2.length : Int)) (rm := Y 135 gb) (cs := Y 140 2) (v0 := Y 150 1) (ec := ec) (ky := 0) (vy := 0) hP hl l4 l5 l7 l8 l9 l10 hx ⟨by omega, by omega⟩ hx1 t1 t4 hl14 ⟨hz16, hz10⟩ e48 hgk ⟨hgb.1, by omega⟩ rfl ⟨c0, c1⟩ rfl s1 rfl ⟨s2, s3, s4, s5⟩ rfl hv1 hsz l12 hkd) (fun o V hq => ?_)
  obtain ⟨rfl, hs⟩ := hq
  obtain ⟨⟨r1, r2⟩, r3⟩ := cGv (a := (2, ((tO T gb).2.2.2.2.2.2.length : Int), [])) (by omega) hK hI k0 hba k1 hs (cV_e (by first | decide | omega) rfl)
  exact ⟨rfl, r1.trans y16, r2, r3⟩
theorem aln_226 (hx1 : pe_at (pe_GA xs).xs 1 = some (1, tx_1)) (h : rdC 226 kd ec ba gk gb es x 3 K T L G Y) (hgk : gk = 6) (hgb : 0 ≤ gb ∧ gb < (T.length : Int)) (hv1 : 0 ≤ Y 150 1 ∧ Y 150 1 ≤ 60000) (hsz : ((tO T gb).2.2.2.2.2.2.length : Int) ≤ 60000) (hkd : kd = 5) (hec : ec = 0) (hz0 : ((tO T gb).2.2.2.2.2.2.length : Int) = 0) : wJ (pe_GA xs) wY0 (mS [228, 229]) (d + 8) t_XL_act ((pe_at t_XL_act.bl 0).getD (0, [])).2 [(0, (2, 158)), (1, (0, x))] [] Y (fun o V => o = .inl none ∧ V 226 16 = 0 ∧ cTk 226 V (kP K (K.1.length - ba) (0, 0, [])) ∧ cFr 226 Y V) := by
  obtain ⟨⟨h, hW, hl, hT⟩, ⟨l4, l5, l7, l8, l9, l10, l12, l13⟩, y16, ⟨hx, e48⟩, hba⟩ := h
  have hP := xP_of (w := 226) (by omega) h
  rw [← w_up_eta y16] at hP
  obtain ⟨hTh, hCa, -, ⟨⟨m1, m2, m3, m4⟩, hl14, ⟨c0, c1⟩, hz16, hz10⟩, ⟨t1, t2, t3, t4⟩, -⟩ := id hW
  obtain ⟨hK, ⟨hC, hI⟩, ⟨k0, k1, -⟩, -⟩ := id h
  obtain ⟨⟨-, s1, -⟩, s2, s3, s4, s5⟩ := lsB hW hgb
  refine wJ_mono (xlpn_226 (d := d) (c := (K.2.1.length : Int)) (p := (K.2.1.getD (K.2.1.length - 1) (0, 0, 0, (0, 0, []), 0, 0, 0)).2.1) (h := (K.1.length : Int)) (ba := (ba : Int)) (st := Y 133 gb) (sz := ((tO T gb).2.2.2.2.2.2.length : Int)) (rm := Y 135 gb) (cs := Y 140 2) (v0 := Y 150 1) (ec := ec) (ky := 0) (vy := 0) hP hl l4 l5 l7 l8 l9 l10 hx ⟨by omega, by omega⟩ hx1 t1 t4 hl14 ⟨hz16, hz10⟩ e48 hgk ⟨hgb.1, by omega⟩ rfl ⟨c0, c1⟩ rfl s1 rfl ⟨s2, s3, s4, s5⟩ rfl hv1 hsz l12 hkd hec hz0) (fun o V hq => ?_)
  obtain ⟨rfl, hs⟩ := hq
  obtain ⟨⟨r1, r2⟩, r3⟩ := cGv (a := (0, 0, [])) (by omega) hK hI k0 hba k1 hs (cV_e (by first | decide | omega) rfl)
  exact ⟨rfl, r1.trans y16, r2, r3⟩
theorem alo_226 (hx1 : pe_at (pe_GA xs).xs 1 = some (1, tx_1)) (h : rdC 226 kd ec ba gk gb es x 3 K T L G Y) (hgk : gk = 6) (hgb : 0 ≤ gb ∧ gb < (T.length : Int)) (hv1 : 0 ≤ Y 150 1 ∧ Y 150 1 ≤ 60000) (hsz : ((tO T gb).2.2.2.2.2.2.length : Int) ≤ 60000) (hkd : kd = 5) (hec : ec = 0) (hz0 : 0 < ((tO T gb).2.2.2.2.2.2.length : Int)) (hpo : cPo Y) : wJ (pe_GA xs) wY0 (mS [228, 229]) (d + 8) t_XL_act ((pe_at t_XL_act.bl 0).getD (0, [])).2 [(0, (2, 158)), (1, (0, x))] [] Y (fun o V => o = .inl none ∧ V 226 16 = 0 ∧ cTk 226 V (kP K (K.1.length - ba) (gvA T gb (((tO T gb).2.2.2.2.2.2.length : Int) - 1))) ∧ cWd V (tDp T gb (((tO T gb).2.2.2.2.2.2.length : Int) - 1)) L G ∧ cFm 226 cMs Y V ∧ cPo V) := wJ_E (fun hE => by
  obtain ⟨⟨h, hW, hl, hT⟩, ⟨l4, l5, l7, l8, l9, l10, l12, l13⟩, y16, ⟨hx, e48⟩, hba⟩ := h
  have hP := xP_of (w := 226) (by omega) h
  rw [← w_up_eta y16] at hP
  obtain ⟨hTh, hCa, -, ⟨⟨m1, m2, m3, m4⟩, hl14, ⟨c0, c1⟩, hz16, hz10⟩, ⟨t1, t2, t3, t4⟩, -⟩ := id hW
  obtain ⟨hK, ⟨hC, hI⟩, ⟨k0, k1, -⟩, -⟩ := id h
  obtain ⟨⟨-, s1, -⟩, s2, s3, s4, s5⟩ := lsB hW hgb
  obtain ⟨⟨z1, z2⟩, z3⟩ := cell_v (hd := gb) (wh := ((tO T gb).2.2.2.2.2.2.length : Int) - 1) hW hgb ⟨by omega, by omega⟩
  rw [show Y 133 gb + (((tO T gb).2.2.2.2.2.2.length : Int) - 1) = Y 133 gb + ((tO T gb).2.2.2.2.2.2.length : Int) - 1 by omega] at z2 z3
  refine wJ_mono (xlpo_226 (d := d) (c := (K.2.1.length : Int)) (p := (K.2.1.getD (K.2.1.length - 1) (0, 0, 0, (0, 0, []), 0, 0, 0)).2.1) (h := (K.1.length : Int)) (ba := (ba : Int)) (st := Y 133 gb) (sz := ((tO T gb).2.2.2.2.2.2.length : Int)) (rm := Y 135 gb) (cs := Y 140 2) (v0 := Y 150 1) (ec := ec) (ky := 0) (vy := 0) (lk := Y 141 (Y 133 gb + ((tO T gb).2.2.2.2.2.2.length : Int) - 1)) (lv := Y 142 (Y 133 gb + ((tO T gb).2.2.2.2.2.2.length : Int) - 1)) hP hl l4 l5 l7 l8 l9 l10 hx ⟨by omega, by omega⟩ hx1 t1 t4 hl14 ⟨hz16, hz10⟩ e48 hgk ⟨hgb.1, by omega⟩ rfl ⟨c0, c1⟩ rfl s1 rfl ⟨s2, s3, s4, s5⟩ rfl hv1 hsz l12 rfl rfl (br_E hE ⟨Or.inl (by first | decide | omega), by decide⟩ rfl (by omega) (by omega)) (lr_E hE ⟨Or.inl (by first | decide | omega), by decide⟩ rfl (by omega) (by omega)) hkd hec hz0) (fun o V hq => ?_)
  obtain ⟨rfl, hs⟩ := hq
  have hdv := dv_pop (k := gb) (sz := ((tO T gb).2.2.2.2.2.2.length : Int)) hI s1 hgb.1
  have h3 : Y 72 3 = (T.length : Int) := hW.1.1
  have eA : cTx Y (w_up Y 134 gb (((tO T gb).2.2.2.2.2.2.length : Int) - 1)) := cTx_of rfl (fun _ => rfl)
  have hKA : cTk 226 (w_up Y 134 gb (((tO T gb).2.2.2.2.2.2.length : Int) - 1)) K := cTk_ag hK eA (fun j y hj => w_up_slot (by omega))
  have hIA : gI (w_up Y 134 gb (((tO T gb).2.2.2.2.2.2.length : Int) - 1)) := gI_up hI hgb.1 (by first | decide | omega) (by first | decide | omega)
  obtain ⟨⟨r1, r2⟩, r3⟩ := cGv (a := gvA T gb (((tO T gb).2.2.2.2.2.2.length : Int) - 1)) (by omega) hKA hIA k0 hba k1 hs (cVl_mo z3 eA)
  have hpd := cPo_dv hpo ⟨hgb.1, by omega⟩ hdv
  refine ⟨rfl, r1.trans y16, r2, cWd_fr (w := 226) (by omega) (cWd_dv hW hgb.1 hgb.2 ⟨by omega, by omega⟩ hdv) r3, cFm_fr r3 (fun j i j0 j1 j2 j3 => w_up_no (by unfold cMs at j3; omega)) (fun j j0 j1 => w_up_at (by omega)) (rmR_up (rmR_rfl Y) hgb.1 (by first | decide | omega)), cPo_ag hpd (r3.1 72 3 (by first | decide | omega) (by first | decide | omega) (by first | decide | omega)) (fun i => ⟨r3.1 134 i (by first | decide | omega) (by first | decide | omega) (by first | decide | omega), r3.1 135 i (by first | decide | omega) (by first | decide | omega) (by first | decide | omega)⟩) (r3.1 140 2 (by first | decide | omega) (by first | decide | omega) (by first | decide | omega)) (r3.1 150 1 (by first | decide | omega) (by first | decide | omega) (by first | decide | omega))⟩)
theorem alp_226 (hx1 : pe_at (pe_GA xs).xs 1 = some (1, tx_1)) (h : rdC 226 kd ec ba gk gb es x 3 K T L G Y) (hgk : gk = 6) (hgb : 0 ≤ gb ∧ gb < (T.length : Int)) (hv1 : 0 ≤ Y 150 1 ∧ Y 150 1 ≤ 60000) (hsz : ((tO T gb).2.2.2.2.2.2.length : Int) ≤ 60000) (hkd : kd = 5) (hec : ec = 1) (hpo : cPo Y) : wJ (pe_GA xs) wY0 (mS [228, 229, 141, 142]) (d + 8) t_XL_act ((pe_at t_XL_act.bl 0).getD (0, [])).2 [(0, (2, 158)), (1, (0, x))] [] Y (fun o V => o = .inl none ∧ ((60000 ≤ Y 150 1 ∧ w_up Y 226 16 99 = V) ∨ (Y 150 1 < 60000 ∧ V 226 16 = 0 ∧ cTk 226 V (kP K (K.1.length - ba) (2, ((tO T gb).2.2.2.2.2.2.length : Int) + 1, [])) ∧ cWd V (tAp T gb (-1) (K.1.getD (K.1.length - 1) (0, 0, []))) L G ∧ cFm 226 cMe Y V ∧ V 150 1 = Y 150 1 + 1 ∧ cPo V))) := wJ_E (fun hE => by
  obtain ⟨⟨h, hW, hl, hT⟩, ⟨l4, l5, l7, l8, l9, l10, l12, l13⟩, y16, ⟨hx, e48⟩, hba⟩ := h
  have hP := xP_of (w := 226) (by omega) h
  rw [← w_up_eta y16] at hP
  obtain ⟨hTh, hCa, -, ⟨⟨m1, m2, m3, m4⟩, hl14, ⟨c0, c1⟩, hz16, hz10⟩, ⟨t1, t2, t3, t4⟩, -⟩ := id hW
  obtain ⟨hK, ⟨hC, hI⟩, ⟨k0, k1, -⟩, -⟩ := id h
  obtain ⟨⟨-, s1, -⟩, s2, s3, s4, s5⟩ := lsB hW hgb
  have hu := c_at hK (i := K.1.length - 1) (by omega) (j := (K.1.length : Int) - 1) (by omega)
  have a3 : (K.1.length : Int) ≤ Y 228 (-1) := hK.1.2.2.1
  have a4 : Y 229 (-1) = Y 228 (-1) := hK.1.2.2.2.1
  refine wJ_mono (xlpu_226 (d := d) (c := (K.2.1.length : Int)) (p := (K.2.1.getD (K.2.1.length - 1) (0, 0, 0, (0, 0, []), 0, 0, 0)).2.1) (h := (K.1.length : Int)) (ba := (ba : Int)) (st := Y 133 gb) (sz := ((tO T gb).2.2.2.2.2.2.length : Int)) (rm := Y 135 gb) (cs := Y 140 2) (v0 := Y 150 1) (ec := ec) (ky := Y 228 ((K.1.length : Int) - 1)) (vy := Y 229 ((K.1.length : Int) - 1)) hP hl l4 l5 l7 l8 l9 l10 hx ⟨by omega, by omega⟩ hx1 t1 t4 hl14 ⟨hz16, hz10⟩ e48 hgk ⟨hgb.1, by omega⟩ rfl ⟨c0, c1⟩ rfl s1 rfl ⟨s2, s3, s4, s5⟩ rfl hv1 hsz l12 rfl rfl (br_E hE ⟨Or.inl (by first | decide | omega), by decide⟩ rfl (by omega) (by omega)) (lr_E hE ⟨Or.inl (by first | decide | omega), by decide⟩ rfl (by omega) (by omega)) hkd hec) (fun o V hq => ?_)
  obtain ⟨rfl, hq⟩ := hq
  refine ⟨rfl, ?_⟩
  rcases hq with hq | ⟨q1, A, hav, hs⟩
  · exact Or.inl hq
  · obtain ⟨g1, g2, g3, g4, g5, ⟨g6, g7⟩, g8, g9, g10⟩ := avF (w := 226) hW (by omega) hK hgb hav hpo q1 hu
    obtain ⟨⟨r1, r2⟩, r3⟩ := cGv (a := (2, ((tO T gb).2.2.2.2.2.2.length : Int) + 1, [])) (by omega) g2 g3 k0 hba k1 hs (cV_e (by first | decide | omega) rfl)
    exact Or.inr ⟨q1, r1.trans (g8.trans y16), r2, cWd_fr (w := 226) (by omega) g1 r3, cFm_fr r3 (fun j i j0 j1 _ j3 => g9 j i j0 j1 j3) g10 g4, (r3.1 150 1 (by first | decide | omega) (by first | decide | omega) (by first | decide | omega)).trans g6, cPo_ag g7 (r3.1 72 3 (by first | decide | omega) (by first | decide | omega) (by first | decide | omega)) (fun i => ⟨r3.1 134 i (by first | decide | omega) (by first | decide | omega) (by first | decide | omega), r3.1 135 i (by first | decide | omega) (by first | decide | omega) (by first | decide | omega)⟩) (r3.1 140 2 (by first | decide | omega) (by first | decide | omega) (by first | decide | omega)) (r3.1 150 1 (by first | decide | omega) (by first | decide | omega) (by first | decide | omega))⟩)
theorem alg_226 (hx1 : pe_at (pe_GA xs).xs 1 = some (1, tx_1)) (h : rdC 226 kd ec ba gk gb es x 3 K T L G Y) (hgk : gk = 6) (hgb : 0 ≤ gb ∧ gb < (T.length : Int)) (hv1 : 0 ≤ Y 150 1 ∧ Y 150 1 ≤ 60000) (hsz : ((tO T gb).2.2.2.2.2.2.length : Int) ≤ 60000) (hb1 : ba + 1 < K.1.length) (hkd : kd = 2) : wJ (pe_GA xs) wY0 (mS [228, 229]) (d + 8) t_XL_act ((pe_at t_XL_act.bl 0).getD (0, [])).2 [(0, (2, 158)), (1, (0, x))] [] Y (fun o V => o = .inl none ∧ ((¬ ((K.1.getD (ba + 1) (0, 0, [])).1 = 2 ∧ 0 ≤ (K.1.getD (ba + 1) (0, 0, [])).2.1 ∧ (K.1.getD (ba + 1) (0, 0, [])).2.1 < ((tO T gb).2.2.2.2.2.2.length : Int)) ∧ w_up Y 226 16 6 = V) ∨ (((K.1.getD (ba + 1) (0, 0, [])).1 = 2 ∧ 0 ≤ (K.1.getD (ba + 1) (0, 0, [])).2.1 ∧ (K.1.getD (ba + 1) (0, 0, [])).2.1 < ((tO T gb).2.2.2.2.2.2.length : Int)) ∧ V 226 16 = 0 ∧ cTk 226 V (kP K (K.1.length - ba) (gvA T gb (K.1.getD (ba + 1) (0, 0, [])).2.1)) ∧ cFr 226 Y V))) := wJ_E (fun hE => by
  obtain ⟨⟨h, hW, hl, hT⟩, ⟨l4, l5, l7, l8, l9, l10, l12, l13⟩, y16, ⟨hx, e48⟩, hba⟩ := h
  have hP := xP_of (w := 226) (by omega) h
  rw [← w_up_eta y16] at hP
  obtain ⟨hTh, hCa, -, ⟨⟨m1, m2, m3, m4⟩, hl14, ⟨c0, c1⟩, hz16, hz10⟩, ⟨t1, t2, t3, t4⟩, -⟩ := id hW
  obtain ⟨hK, ⟨hC, hI⟩, ⟨k0, k1, -⟩, -⟩ := id h
  obtain ⟨⟨-, s1, -⟩, s2, s3, s4, s5⟩ := lsB hW hgb
  have hu := c_at hK (i := ba + 1) hb1 (j := (ba : Int) + 1) (by omega)
  replace hu : cVl Y (Y 228 ((ba : Int) + 1)) (Y 229 ((ba : Int) + 1)) (K.1.getD (ba + 1) (0, 0, [])) := hu
  have a3 : (K.1.length : Int) ≤ Y 228 (-1) := hK.1.2.2.1
  have a4 : Y 229 (-1) = Y 228 (-1) := hK.1.2.2.2.1
  have e1 := hu.1
  obtain ⟨v1, hv1e, hv1c⟩ : ∃ v1 : Int, Y 229 ((ba : Int) + 1) = v1 ∧ ((K.1.getD (ba + 1) (0, 0, [])).1 = 2 → v1 = (K.1.getD (ba + 1) (0, 0, [])).2.1) := ⟨_, rfl, fun z => (hu.2.1 (by omega)).1⟩
  obtain ⟨lk, lv, q1, q2, q3, q4⟩ : ∃ lk lv : Int, (Y 228 ((ba : Int) + 1) = 2 → 0 ≤ v1 → v1 < ((tO T gb).2.2.2.2.2.2.length : Int) → Y 141 (Y 133 gb + v1) = lk ∧ Y 142 (Y 133 gb + v1) = lv) ∧ (-128 ≤ lk ∧ lk ≤ 127) ∧ (-9223372036854775808 ≤ lv ∧ lv ≤ 9223372036854775807) ∧ (((K.1.getD (ba + 1) (0, 0, [])).1 = 2 ∧ 0 ≤ (K.1.getD (ba + 1) (0, 0, [])).2.1 ∧ (K.1.getD (ba + 1) (0, 0, [])).2.1 < ((tO T gb).2.2.2.2.2.2.length : Int)) → cVl Y lk lv (gvA T gb (K.1.getD (ba + 1) (0, 0, [])).2.1)) := by
    by_cases c : (K.1.getD (ba + 1) (0, 0, [])).1 = 2 ∧ 0 ≤ (K.1.getD (ba + 1) (0, 0, [])).2.1 ∧ (K.1.getD (ba + 1) (0, 0, [])).2.1 < ((tO T gb).2.2.2.2.2.2.length : Int)
    · have e := hv1c c.1
      obtain ⟨⟨z1, z2⟩, z3⟩ := cell_v (hd := gb) (wh := (K.1.getD (ba + 1) (0, 0, [])).2.1) hW hgb c.2
      rw [← e] at z2 z3 ⊢
      exact ⟨_, _, fun _ _ _ => ⟨rfl, rfl⟩, br_E hE ⟨Or.inl (by first | decide | omega), by decide⟩ rfl (by omega) (by omega), lr_E hE ⟨Or.inl (by first | decide | omega), by decide⟩ rfl (by omega) (by omega), fun _ => z3⟩
    · refine ⟨0, 0, fun z1 z2 z3 => absurd ?_ c, by decide, by decide, fun z => absurd z c⟩
      have e := hv1c (e1.symm.trans z1)
      rw [← e]
      exact ⟨e1.symm.trans z1, z2, z3⟩
  refine wJ_mono (xlge_226 (d := d) (c := (K.2.1.length : Int)) (p := (K.2.1.getD (K.2.1.length - 1) (0, 0, 0, (0, 0, []), 0, 0, 0)).2.1) (h := (K.1.length : Int)) (ba := (ba : Int)) (st := Y 133 gb) (sz := ((tO T gb).2.2.2.2.2.2.length : Int)) (rm := Y 135 gb) (cs := Y 140 2) (v0 := Y 150 1) (ec := ec) (ky := 0) (vy := 0) (k1 := Y 228 ((ba : Int) + 1)) (v1 := v1) (lk := lk) (lv := lv) hP hl l4 l5 l7 l8 l9 l10 hx ⟨by omega, by omega⟩ hx1 t1 t4 hl14 ⟨hz16, hz10⟩ e48 hgk ⟨hgb.1, by omega⟩ rfl ⟨c0, c1⟩ rfl s1 rfl ⟨s2, s3, s4, s5⟩ rfl hv1 hsz l12 rfl hv1e (by omega) q1 q2 q3 hkd) (fun o V hq => ?_)
  obtain ⟨rfl, hq⟩ := hq
  refine ⟨rfl, ?_⟩
  rcases hq with ⟨n1, n2⟩ | ⟨n1, n2, n3, hs⟩
  · refine Or.inl ⟨fun c => n1 ?_, n2⟩
    rw [hv1c c.1]
    exact ⟨e1.trans c.1, c.2⟩
  · have e := hv1c (e1.symm.trans n1)
    have c : (K.1.getD (ba + 1) (0, 0, [])).1 = 2 ∧ 0 ≤ (K.1.getD (ba + 1) (0, 0, [])).2.1 ∧ (K.1.getD (ba + 1) (0, 0, [])).2.1 < ((tO T gb).2.2.2.2.2.2.length : Int) := ⟨e1.symm.trans n1, by omega, by omega⟩
    obtain ⟨⟨r1, r2⟩, r3⟩ := cGv (a := gvA T gb (K.1.getD (ba + 1) (0, 0, [])).2.1) (by omega) hK hI k0 hba k1 hs (q4 c)
    exact Or.inr ⟨c, r1.trans y16, r2, r3⟩)
theorem als_226 (hx1 : pe_at (pe_GA xs).xs 1 = some (1, tx_1)) (h : rdC 226 kd ec ba gk gb es x 3 K T L G Y) (hgk : gk = 6) (hgb : 0 ≤ gb ∧ gb < (T.length : Int)) (hv1 : 0 ≤ Y 150 1 ∧ Y 150 1 ≤ 60000) (hsz : ((tO T gb).2.2.2.2.2.2.length : Int) ≤ 60000) (hb1 : ba + 1 < K.1.length) (hkd : kd = 3) (hpo : cPo Y) : wJ (pe_GA xs) wY0 (mS [228, 229, 141, 142]) (d + 8) t_XL_act ((pe_at t_XL_act.bl 0).getD (0, [])).2 [(0, (2, 158)), (1, (0, x))] [] Y (fun o V => o = .inl none ∧ ((¬ ((K.1.getD (ba + 1) (0, 0, [])).1 = 2 ∧ 0 ≤ (K.1.getD (ba + 1) (0, 0, [])).2.1 ∧ (K.1.getD (ba + 1) (0, 0, [])).2.1 ≤ ((tO T gb).2.2.2.2.2.2.length : Int)) ∧ w_up Y 226 16 6 = V) ∨ (((K.1.getD (ba + 1) (0, 0, [])).1 = 2 ∧ 0 ≤ (K.1.getD (ba + 1) (0, 0, [])).2.1 ∧ (K.1.getD (ba + 1) (0, 0, [])).2.1 < ((tO T gb).2.2.2.2.2.2.length : Int)) ∧ V 226 16 = 0 ∧ cTk 226 V (kP K (K.1.length - ba) (K.1.getD (K.1.length - 1) (0, 0, []))) ∧ cWd V (tSp T gb (K.1.getD (ba + 1) (0, 0, [])).2.1.toNat (K.1.getD (K.1.length - 1) (0, 0, []))) L G ∧ cFm 226 cMv Y V) ∨ (((K.1.getD (ba + 1) (0, 0, [])).1 = 2 ∧ (K.1.getD (ba + 1) (0, 0, [])).2.1 = ((tO T gb).2.2.2.2.2.2.length : Int)) ∧ 60000 ≤ Y 150 1 ∧ w_up Y 226 16 99 = V) ∨ (((K.1.getD (ba + 1) (0, 0, [])).1 = 2 ∧ (K.1.getD (ba + 1) (0, 0, [])).2.1 = ((tO T gb).2.2.2.2.2.2.length : Int)) ∧ Y 150 1 < 60000 ∧ V 226 16 = 0 ∧ cTk 226 V (kP K (K.1.length - ba) (K.1.getD (K.1.length - 1) (0, 0, []))) ∧ cWd V (tAp T gb (-1) (K.1.getD (K.1.length - 1) (0, 0, []))) L G ∧ cFm 226 cMe Y V ∧ V 150 1 = Y 150 1 + 1 ∧ cPo V))) := wJ_E (fun hE => by
  obtain ⟨⟨h, hW, hl, hT⟩, ⟨l4, l5, l7, l8, l9, l10, l12, l13⟩, y16, ⟨hx, e48⟩, hba⟩ := h
  have hP := xP_of (w := 226) (by omega) h
  rw [← w_up_eta y16] at hP
  obtain ⟨hTh, hCa, -, ⟨⟨m1, m2, m3, m4⟩, hl14, ⟨c0, c1⟩, hz16, hz10⟩, ⟨t1, t2, t3, t4⟩, -⟩ := id hW
  obtain ⟨hK, ⟨hC, hI⟩, ⟨k0, k1, -⟩, -⟩ := id h
  obtain ⟨⟨-, s1, -⟩, s2, s3, s4, s5⟩ := lsB hW hgb
  have hu1 := c_at hK (i := ba + 1) hb1 (j := (ba : Int) + 1) (by omega)
  replace hu1 : cVl Y (Y 228 ((ba : Int) + 1)) (Y 229 ((ba : Int) + 1)) (K.1.getD (ba + 1) (0, 0, [])) := hu1
  have hu := c_at hK (i := K.1.length - 1) (by omega) (j := (K.1.length : Int) - 1) (by omega)
  replace hu : cVl Y (Y 228 ((K.1.length : Int) - 1)) (Y 229 ((K.1.length : Int) - 1)) (K.1.getD (K.1.length - 1) (0, 0, [])) := hu
  have a3 : (K.1.length : Int) ≤ Y 228 (-1) := hK.1.2.2.1
  have a4 : Y 229 (-1) = Y 228 (-1) := hK.1.2.2.2.1
  have e1 := hu1.1
  obtain ⟨v1, hv1e, hv1c⟩ : ∃ v1 : Int, Y 229 ((ba : Int) + 1) = v1 ∧ ((K.1.getD (ba + 1) (0, 0, [])).1 = 2 → v1 = (K.1.getD (ba + 1) (0, 0, [])).2.1) := ⟨_, rfl, fun z => (hu1.2.1 (by omega)).1⟩
  refine wJ_mono (xlse_226 (d := d) (c := (K.2.1.length : Int)) (p := (K.2.1.getD (K.2.1.length - 1) (0, 0, 0, (0, 0, []), 0, 0, 0)).2.1) (h := (K.1.length : Int)) (ba := (ba : Int)) (st := Y 133 gb) (sz := ((tO T gb).2.2.2.2.2.2.length : Int)) (rm := Y 135 gb) (cs := Y 140 2) (v0 := Y 150 1) (ec := ec) (ky := Y 228 ((K.1.length : Int) - 1)) (vy := Y 229 ((K.1.length : Int) - 1)) (k1 := Y 228 ((ba : Int) + 1)) (v1 := v1) hP hl l4 l5 l7 l8 l9 l10 hx ⟨by omega, by omega⟩ hx1 t1 t4 hl14 ⟨hz16, hz10⟩ e48 hgk ⟨hgb.1, by omega⟩ rfl ⟨c0, c1⟩ rfl s1 rfl ⟨s2, s3, s4, s5⟩ rfl hv1 hsz l12 rfl rfl (br_E hE ⟨Or.inl (by first | decide | omega), by decide⟩ rfl (by omega) (by omega)) (lr_E hE ⟨Or.inl (by first | decide | omega), by decide⟩ rfl (by omega) (by omega)) rfl hv1e (by omega) hkd) (fun o V hq => ?_)
  obtain ⟨rfl, hq⟩ := hq
  refine ⟨rfl, ?_⟩
  rcases hq with ⟨n1, n2⟩ | ⟨n1, n2, n3, hs⟩ | ⟨n1, n2, n3, n4⟩ | ⟨n1, n2, n3, A, hav, hs⟩
  · refine Or.inl ⟨fun c => n1 ?_, n2⟩
    rw [hv1c c.1]
    exact ⟨e1.trans c.1, c.2⟩
  · have e := hv1c (e1.symm.trans n1)
    have c : (K.1.getD (ba + 1) (0, 0, [])).1 = 2 ∧ 0 ≤ (K.1.getD (ba + 1) (0, 0, [])).2.1 ∧ (K.1.getD (ba + 1) (0, 0, [])).2.1 < ((tO T gb).2.2.2.2.2.2.length : Int) := ⟨e1.symm.trans n1, by omega, by omega⟩
    have ew : (((K.1.getD (ba + 1) (0, 0, [])).2.1.toNat : Nat) : Int) = v1 := by omega
    have hWA := cWd_sp (k := gb) (i := (K.1.getD (ba + 1) (0, 0, [])).2.1.toNat) hW hgb.1 hgb.2 (by omega) hu
    rw [ew] at hWA
    have eA : cTx Y (w_up (w_up Y 141 (Y 133 gb + v1) (Y 228 ((K.1.length : Int) - 1))) 142 (Y 133 gb + v1) (Y 229 ((K.1.length : Int) - 1))) := cTx_of rfl (fun _ => rfl)
    have hKA := cTk_ag hK eA (fun j y hj => (w_up_slot (by omega)).trans (w_up_slot (by omega)))
    have hIA : gI (w_up (w_up Y 141 (Y 133 gb + v1) (Y 228 ((K.1.length : Int) - 1))) 142 (Y 133 gb + v1) (Y 229 ((K.1.length : Int) - 1))) := gI_up (gI_up hI (by omega) (by omega) (by first | decide | omega)) (by omega) (by omega) (by first | decide | omega)
    obtain ⟨⟨r1, r2⟩, r3⟩ := cGv (a := (K.1.getD (K.1.length - 1) (0, 0, []))) (by omega) hKA hIA k0 hba k1 hs (cVl_mo hu eA)
    exact Or.inr (Or.inl ⟨c, r1.trans y16, r2, cWd_fr (w := 226) (by omega) hWA r3, cFm_fr r3 (fun j i j0 j1 _ j3 => by unfold cMv at j3; exact (w_up_no (by omega)).trans (w_up_no (by omega))) (fun j j0 j1 => (w_up_no (by omega)).trans (w_up_no (by omega))) (rmR_up (rmR_up (rmR_rfl Y) (by omega) (by first | decide | omega)) (by omega) (by first | decide | omega))⟩)
  · have e := hv1c (e1.symm.trans n1)
    exact Or.inr (Or.inr (Or.inl ⟨⟨e1.symm.trans n1, by omega⟩, n3, n4⟩))
  · have e := hv1c (e1.symm.trans n1)
    obtain ⟨g1, g2, g3, g4, g5, ⟨g6, g7⟩, g8, g9, g10⟩ := avF (w := 226) hW (by omega) hK hgb hav hpo n3 hu
    obtain ⟨⟨r1, r2⟩, r3⟩ := cGv (a := (K.1.getD (K.1.length - 1) (0, 0, []))) (by omega) g2 g3 k0 hba k1 hs (cVl_mo hu g5)
    exact Or.inr (Or.inr (Or.inr ⟨⟨e1.symm.trans n1, by omega⟩, n3, r1.trans (g8.trans y16), r2, cWd_fr (w := 226) (by omega) g1 r3, cFm_fr r3 (fun j i j0 j1 _ j3 => g9 j i j0 j1 j3) g10 g4, (r3.1 150 1 (by first | decide | omega) (by first | decide | omega) (by first | decide | omega)).trans g6, cPo_ag g7 (r3.1 72 3 (by first | decide | omega) (by first | decide | omega) (by first | decide | omega)) (fun i => ⟨r3.1 134 i (by first | decide | omega) (by first | decide | omega) (by first | decide | omega), r3.1 135 i (by first | decide | omega) (by first | decide | omega) (by first | decide | omega)⟩) (r3.1 140 2 (by first | decide | omega) (by first | decide | omega) (by first | decide | omega)) (r3.1 150 1 (by first | decide | omega) (by first | decide | omega) (by first | decide | omega))⟩)))
end Wjc
