/-! PART j5: acting at a site by tasks: a property that is there is set: of the class. -/
section Wj5
variable {xs : List (Nat × List Int32)} {d : Nat} {Y : wS} {K : aK} {T : List aO} {L : List aC} {G : Int → aV} {x kd gk gb wh : Int} {ba : Nat}
/-- cells are written -/
def cMv (j : Nat) (x : Int) : Prop := (j = 141 ∨ j = 142) ∧ 0 ≤ x
theorem ast_215 (h : stC 215 Y K) (hW : cWd Y T L G) (hl : cSl Y) (l4 : Y 158 4 = 215) (l5 : Y 158 5 = 216) (l7 : Y 158 7 = kd) (l8 : Y 158 8 = (ba : Int)) (l9 : Y 158 9 = gk) (l10 : Y 158 10 = gb) (y16 : Y 215 16 = 0) (hx : 0 ≤ x ∧ x < Y 48 (-1)) (e48 : Y 48 x = 0) (he51 : Y 51 x = wh) (hba : ba < K.1.length) (hgb : 0 ≤ gb ∧ gb < (T.length : Int)) (hwh : 0 ≤ wh ∧ wh < ((tO T gb).2.2.2.2.2.2.length : Int)) (hsz : wh ≤ 100000) (hkd : kd = 1 ∨ kd = 3) (hvk : -128 ≤ (K.1.getD (K.1.length - 1) (0, 0, [])).1 ∧ (K.1.getD (K.1.length - 1) (0, 0, [])).1 ≤ 127) (hvb : -9223372036854775808 ≤ Y 218 ((K.1.length : Int) - 1) ∧ Y 218 ((K.1.length : Int) - 1) ≤ 9223372036854775807) : wJ (pe_GA xs) wY0 (mS [217, 218]) (d + 8) t_XL_act ((pe_at t_XL_act.bl 0).getD (0, [])).2 [(0, (2, 158)), (1, (0, x))] [] Y (fun o V => o = .inl none ∧ V 215 16 = 0 ∧ cTk 215 V (kP K (K.1.length - ba) (K.1.getD (K.1.length - 1) (0, 0, []))) ∧ cWd V (tSp T gb wh.toNat (K.1.getD (K.1.length - 1) (0, 0, []))) L G ∧ cFm 215 cMv Y V) := by
  have hP := xP_of (w := 215) (by omega) h
  rw [← w_up_eta y16] at hP
  obtain ⟨hTh, -, -, ⟨-, hl14, ⟨c0, c1⟩, hz16, hz10⟩, ⟨t1, t2, t3, t4⟩, -⟩ := id hW
  obtain ⟨hK, ⟨hC, hI⟩, ⟨k0, k1, -⟩, -⟩ := id h
  obtain ⟨⟨z1, z2⟩, -⟩ := cell_v (hd := gb) (wh := wh) hW hgb hwh
  have hu : cVl Y (Y 217 ((K.1.length : Int) - 1)) (Y 218 ((K.1.length : Int) - 1)) (K.1.getD (K.1.length - 1) (0, 0, [])) := by
    have z := hK.1.2.1 (K.1.length - 1) (by omega)
    rw [Int.zero_add, show ((K.1.length - 1 : Nat) : Int) = (K.1.length : Int) - 1 by omega] at z
    exact z
  have ew : ((wh.toNat : Nat) : Int) = wh := by omega
  have hWA : cWd (w_up (w_up Y 141 (Y 133 gb + wh) (Y 217 ((K.1.length : Int) - 1))) 142 (Y 133 gb + wh) (Y 218 ((K.1.length : Int) - 1))) (tSp T gb wh.toNat (K.1.getD (K.1.length - 1) (0, 0, []))) L G := by
    have z := cWd_sp (k := gb) (i := wh.toNat) hW hgb.1 hgb.2 (by omega) hu
    rw [ew] at z
    exact z
  have eA : cTx Y (w_up (w_up Y 141 (Y 133 gb + wh) (Y 217 ((K.1.length : Int) - 1))) 142 (Y 133 gb + wh) (Y 218 ((K.1.length : Int) - 1))) := cTx_of rfl (fun _ => rfl)
  have hKA : cTk 215 (w_up (w_up Y 141 (Y 133 gb + wh) (Y 217 ((K.1.length : Int) - 1))) 142 (Y 133 gb + wh) (Y 218 ((K.1.length : Int) - 1))) K := cTk_ag hK eA (fun j y hj => (w_up_slot (by omega)).trans (w_up_slot (by omega)))
  have hIA : gI (w_up (w_up Y 141 (Y 133 gb + wh) (Y 217 ((K.1.length : Int) - 1))) 142 (Y 133 gb + wh) (Y 218 ((K.1.length : Int) - 1))) := gI_up (gI_up hI (by first | decide | omega) (by omega) (by first | decide | omega)) (by first | decide | omega) (by omega) (by first | decide | omega)
  refine wJ_mono (xset_215 (d := d) (c := (K.2.1.length : Int)) (p := (K.2.1.getD (K.2.1.length - 1) (0, 0, 0, (0, 0, []), 0, 0, 0)).2.1) (h := (K.1.length : Int)) (ba := (ba : Int)) (st := Y 133 gb) (wh := wh) hP hl l4 l5 l7 l8 l9 l10 hx ⟨by omega, by omega⟩ t1 t4 hl14 ⟨hz16, hz10⟩ e48 rfl rfl (by rw [hu.1]; exact hvk) hvb hkd he51 ⟨hgb.1, by omega⟩ rfl ⟨hwh.1, hsz, z1, by omega⟩) (fun o V hq => ?_)
  obtain ⟨rfl, hs⟩ := hq
  have hm : (K.1.length : Int) - (ba : Int) = ((K.1.length - ba : Nat) : Int) := by omega
  have hfr : cFr 215 (w_up (w_up Y 141 (Y 133 gb + wh) (Y 217 ((K.1.length : Int) - 1))) 142 (Y 133 gb + wh) (Y 218 ((K.1.length : Int) - 1))) V := cFr_sO (by omega) (cFr_rfl hIA) (by omega) hs
  refine ⟨rfl, (sO_16 (by omega) hs).trans y16, cTk_sO hKA (by omega) hs rfl rfl k0 hm (by omega) (by omega) (cVl_mo hu eA), cWd_fr (w := 215) (by omega) hWA hfr, ⟨fun j y j0 j1 j2 j3 => ?_, fun j j0 j1 => ?_, hfr.2.2.1, rmR_tr (rmR_up (rmR_up (rmR_rfl Y) (by omega) (by first | decide | omega)) (by omega) (by first | decide | omega)) hfr.2.2.2⟩⟩
  · refine (hfr.1 j y j0 j1 j2).trans ?_
    unfold cMv at j3
    exact (w_up_no (by omega)).trans (w_up_no (by omega))
  · exact (hfr.2.1 j j0 j1).trans ((w_up_no (by omega)).trans (w_up_no (by omega)))
theorem ast_226 (h : stC 226 Y K) (hW : cWd Y T L G) (hl : cSl Y) (l4 : Y 158 4 = 226) (l5 : Y 158 5 = 227) (l7 : Y 158 7 = kd) (l8 : Y 158 8 = (ba : Int)) (l9 : Y 158 9 = gk) (l10 : Y 158 10 = gb) (y16 : Y 226 16 = 0) (hx : 0 ≤ x ∧ x < Y 48 (-1)) (e48 : Y 48 x = 0) (he51 : Y 51 x = wh) (hba : ba < K.1.length) (hgb : 0 ≤ gb ∧ gb < (T.length : Int)) (hwh : 0 ≤ wh ∧ wh < ((tO T gb).2.2.2.2.2.2.length : Int)) (hsz : wh ≤ 100000) (hkd : kd = 1 ∨ kd = 3) (hvk : -128 ≤ (K.1.getD (K.1.length - 1) (0, 0, [])).1 ∧ (K.1.getD (K.1.length - 1) (0, 0, [])).1 ≤ 127) (hvb : -9223372036854775808 ≤ Y 229 ((K.1.length : Int) - 1) ∧ Y 229 ((K.1.length : Int) - 1) ≤ 9223372036854775807) : wJ (pe_GA xs) wY0 (mS [228, 229]) (d + 8) t_XL_act ((pe_at t_XL_act.bl 0).getD (0, [])).2 [(0, (2, 158)), (1, (0, x))] [] Y (fun o V => o = .inl none ∧ V 226 16 = 0 ∧ cTk 226 V (kP K (K.1.length - ba) (K.1.getD (K.1.length - 1) (0, 0, []))) ∧ cWd V (tSp T gb wh.toNat (K.1.getD (K.1.length - 1) (0, 0, []))) L G ∧ cFm 226 cMv Y V) := by
  have hP := xP_of (w := 226) (by omega) h
  rw [← w_up_eta y16] at hP
  obtain ⟨hTh, -, -, ⟨-, hl14, ⟨c0, c1⟩, hz16, hz10⟩, ⟨t1, t2, t3, t4⟩, -⟩ := id hW
  obtain ⟨hK, ⟨hC, hI⟩, ⟨k0, k1, -⟩, -⟩ := id h
  obtain ⟨⟨z1, z2⟩, -⟩ := cell_v (hd := gb) (wh := wh) hW hgb hwh
  have hu : cVl Y (Y 228 ((K.1.length : Int) - 1)) (Y 229 ((K.1.length : Int) - 1)) (K.1.getD (K.1.length - 1) (0, 0, [])) := by
    have z := hK.1.2.1 (K.1.length - 1) (by omega)
    rw [Int.zero_add, show ((K.1.length - 1 : Nat) : Int) = (K.1.length : Int) - 1 by omega] at z
    exact z
  have ew : ((wh.toNat : Nat) : Int) = wh := by omega
  have hWA : cWd (w_up (w_up Y 141 (Y 133 gb + wh) (Y 228 ((K.1.length : Int) - 1))) 142 (Y 133 gb + wh) (Y 229 ((K.1.length : Int) - 1))) (tSp T gb wh.toNat (K.1.getD (K.1.length - 1) (0, 0, []))) L G := by
    have z := cWd_sp (k := gb) (i := wh.toNat) hW hgb.1 hgb.2 (by omega) hu
    rw [ew] at z
    exact z
  have eA : cTx Y (w_up (w_up Y 141 (Y 133 gb + wh) (Y 228 ((K.1.length : Int) - 1))) 142 (Y 133 gb + wh) (Y 229 ((K.1.length : Int) - 1))) := cTx_of rfl (fun _ => rfl)
  have hKA : cTk 226 (w_up (w_up Y 141 (Y 133 gb + wh) (Y 228 ((K.1.length : Int) - 1))) 142 (Y 133 gb + wh) (Y 229 ((K.1.length : Int) - 1))) K := cTk_ag hK eA (fun j y hj => (w_up_slot (by omega)).trans (w_up_slot (by omega)))
  have hIA : gI (w_up (w_up Y 141 (Y 133 gb + wh) (Y 228 ((K.1.length : Int) - 1))) 142 (Y 133 gb + wh) (Y 229 ((K.1.length : Int) - 1))) := gI_up (gI_up hI (by first | decide | omega) (by omega) (by first | decide | omega)) (by first | decide | omega) (by omega) (by first | decide | omega)
  refine wJ_mono (xset_226 (d := d) (c := (K.2.1.length : Int)) (p := (K.2.1.getD (K.2.1.length - 1) (0, 0, 0, (0, 0, []), 0, 0, 0)).2.1) (h := (K.1.length : Int)) (ba := (ba : Int)) (st := Y 133 gb) (wh := wh) hP hl l4 l5 l7 l8 l9 l10 hx ⟨by omega, by omega⟩ t1 t4 hl14 ⟨hz16, hz10⟩ e48 rfl rfl (by rw [hu.1]; exact hvk) hvb hkd he51 ⟨hgb.1, by omega⟩ rfl ⟨hwh.1, hsz, z1, by omega⟩) (fun o V hq => ?_)
  obtain ⟨rfl, hs⟩ := hq
  have hm : (K.1.length : Int) - (ba : Int) = ((K.1.length - ba : Nat) : Int) := by omega
  have hfr : cFr 226 (w_up (w_up Y 141 (Y 133 gb + wh) (Y 228 ((K.1.length : Int) - 1))) 142 (Y 133 gb + wh) (Y 229 ((K.1.length : Int) - 1))) V := cFr_sO (by omega) (cFr_rfl hIA) (by omega) hs
  refine ⟨rfl, (sO_16 (by omega) hs).trans y16, cTk_sO hKA (by omega) hs rfl rfl k0 hm (by omega) (by omega) (cVl_mo hu eA), cWd_fr (w := 226) (by omega) hWA hfr, ⟨fun j y j0 j1 j2 j3 => ?_, fun j j0 j1 => ?_, hfr.2.2.1, rmR_tr (rmR_up (rmR_up (rmR_rfl Y) (by omega) (by first | decide | omega)) (by omega) (by first | decide | omega)) hfr.2.2.2⟩⟩
  · refine (hfr.1 j y j0 j1 j2).trans ?_
    unfold cMv at j3
    exact (w_up_no (by omega)).trans (w_up_no (by omega))
  · exact (hfr.2.1 j j0 j1).trans ((w_up_no (by omega)).trans (w_up_no (by omega)))
end Wj5
