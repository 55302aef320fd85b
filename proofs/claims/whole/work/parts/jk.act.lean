/-! PART jk: acting at a site by tasks: fields of hosts: of the class. -/
section Wjk
variable {xs : List (Nat × List Int32)} {d : Nat} {Y : wS} {K : aK} {T : List aO} {H : List aH} {L : List aC} {G : Int → aV} {x kd ec gk gb es hd wh e50 l : Int} {ba : Nat} {HT : Int → Int} {cs : List hCR} {ms : List hMR} {os : Int → List Int} {SF : Int → aV} {tr : List Int}
/-- a static field; a field of instances -/
def isSf (ms : List hMR) (m : Int) : Prop := (0 ≤ m ∧ m < (ms.length : Int)) ∧ (hmR ms m).2.1 = 0 ∧ (hmR ms m).2.2.1 = 1
def isIf (ms : List hMR) (m : Int) : Prop := (0 ≤ m ∧ m < (ms.length : Int)) ∧ (hmR ms m).2.1 = 0 ∧ (hmR ms m).2.2.1 = 0
/-- static fields of both sides, by member -/
def cStc (m0 r1 : Nat) (ms : List hMR) (SF : Int → aV) (S : wS) : Prop := (S (r1 + 1) (-1) = S r1 (-1) ∧ S r1 (-1) ≤ 8388608) ∧ (∀ m : Int, isSf ms m → (0 ≤ S (m0 + 15) m ∧ S (m0 + 15) m < S r1 (-1)) ∧ cVl S (S r1 (S (m0 + 15) m)) (S (r1 + 1) (S (m0 + 15) m)) (SF m)) ∧ ∀ m q : Int, isSf ms m → isSf ms q → S (m0 + 15) m = S (m0 + 15) q → m = q
def rStc (ms : List hMR) (SF : Int → aV) (S : wS) : Prop := ∀ m : Int, isSf ms m → rVl S (S 340 m) (S 341 m) (SF m)
def sfU (SF : Int → aV) (m : Int) (u : aV) (x : Int) : aV := if x = m then u else SF x
def cMf (r1 : Nat) (j : Nat) (x : Int) : Prop := (j = r1 ∨ j = r1 + 1) ∧ 0 ≤ x
theorem mrA {m0 w : Nat} {S : wS} {m : Int} (h : mr_all m0 w HT S ms) (hm : 0 ≤ m ∧ m < (ms.length : Int)) : mr_at m0 w HT S m (hmR ms m) := by
  have z := h.2 m.toNat (hmR ms m) (by
    unfold hmR
    rw [List.getD_eq_getElem?_getD, List.getElem?_eq_getElem (by omega)]
    rfl)
  rw [show ((m.toNat : Nat) : Int) = m by omega] at z
  exact z
theorem cStc_w {m0 r1 : Nat} {S : wS} {m k v : Int} {u : aV} (h : cStc m0 r1 ms SF S) (hm : isSf ms m) (hd : m0 + 15 ≠ r1 ∧ m0 + 15 ≠ r1 + 1 ∧ r1 ≠ 2 ∧ r1 ≠ 3 ∧ r1 ≠ 1) (hv : cVl S k v u) : cStc m0 r1 ms (sfU SF m u) (w_up (w_up S r1 (S (m0 + 15) m) k) (r1 + 1) (S (m0 + 15) m) v) := by
  obtain ⟨⟨h1, h2⟩, h3, h4⟩ := h
  have p0 := (h3 m hm).1
  have eT : cTx S (w_up (w_up S r1 (S (m0 + 15) m) k) (r1 + 1) (S (m0 + 15) m) v) := cTx_of ((w_up_slot (by omega)).trans (w_up_slot (by omega))) (fun x => (w_up_slot (by omega)).trans (w_up_slot (by omega)))
  have e15 : ∀ x : Int, (w_up (w_up S r1 (S (m0 + 15) m) k) (r1 + 1) (S (m0 + 15) m) v) (m0 + 15) x = S (m0 + 15) x := fun x => (w_up_slot (by omega)).trans (w_up_slot (by omega))
  have el1 : (w_up (w_up S r1 (S (m0 + 15) m) k) (r1 + 1) (S (m0 + 15) m) v) r1 (-1) = S r1 (-1) := (w_up_at (by omega)).trans (w_up_at (by omega))
  have el2 : (w_up (w_up S r1 (S (m0 + 15) m) k) (r1 + 1) (S (m0 + 15) m) v) (r1 + 1) (-1) = S (r1 + 1) (-1) := (w_up_at (by omega)).trans (w_up_at (by omega))
  refine ⟨⟨by rw [el1, el2]; exact h1, by rw [el1]; exact h2⟩, fun q hq => ?_, fun a b ha hb e => h4 a b ha hb (by rw [e15, e15] at e; exact e)⟩
  rw [e15, el1]
  refine ⟨(h3 q hq).1, ?_⟩
  by_cases c : q = m
  · rw [c, (w_up_slot (by omega) : (w_up (w_up S r1 (S (m0 + 15) m) k) (r1 + 1) (S (m0 + 15) m) v) r1 (S (m0 + 15) m) = _), w_up_same, w_up_same, show sfU SF m u m = u from if_pos rfl]
    exact cVl_mo hv eT
  · have ne : S (m0 + 15) q ≠ S (m0 + 15) m := fun e => c (h4 q m hq hm e)
    rw [w_up_at ne, w_up_at ne, w_up_at ne, w_up_at ne, show sfU SF m u q = SF q from if_neg c]
    exact cVl_mo (h3 q hq).2 eT
theorem cStc_ag {m0 r1 : Nat} {S Z : wS} (h : cStc m0 r1 ms SF S) (e : cTx S Z) (f : ∀ (j : Nat) (x : Int), j = m0 + 15 ∨ j = r1 ∨ j = r1 + 1 → Z j x = S j x) : cStc m0 r1 ms SF Z := by
  obtain ⟨⟨h1, h2⟩, h3, h4⟩ := h
  have f1 := fun x => f (m0 + 15) x (Or.inl rfl)
  have f2 := fun x => f r1 x (Or.inr (Or.inl rfl))
  have f3 := fun x => f (r1 + 1) x (Or.inr (Or.inr rfl))
  refine ⟨⟨by rw [f2, f3]; exact h1, by rw [f2]; exact h2⟩, fun m hm => ?_, fun m q hm hq he => h4 m q hm hq (by rw [f1, f1] at he; exact he)⟩
  rw [f1, f2, f3, f2]
  exact ⟨(h3 m hm).1, cVl_mo (h3 m hm).2 e⟩
theorem ahg_73_215 (h : rdC 215 kd ec ba gk gb es x l K T L G Y) (hKC : KC 87 97 93 114 115 74 73 HT cs ms os Y) (h72 : Y 72 1 = 73) (hl12 : l = 1 ∨ l = 2) (he51 : Y 51 x = wh) (hsf : isSf ms wh) (hst : cStc 97 117 ms SF Y) (hkd : kd = 0) : wJ (pe_GA xs) wY0 (mS [217, 218]) (d + 9) t_XL_act ((pe_at t_XL_act.bl 0).getD (0, [])).2 [(0, (2, 158)), (1, (0, x))] [] Y (fun o V => o = .inl none ∧ V 215 16 = 0 ∧ cTk 215 V (kP K (K.1.length - ba) (SF wh)) ∧ cFr 215 Y V) := wJ_E (fun hE => by
  obtain ⟨⟨h, hW, hl, hT⟩, ⟨l4, l5, l7, l8, l9, l10, l12, l13⟩, y16, ⟨hx, e48⟩, hba⟩ := h
  have hP := xP_of (w := 215) (by omega) h
  rw [← w_up_eta y16] at hP
  obtain ⟨hTh, hCa, -, ⟨⟨m1, m2, m3, m4⟩, hl14, ⟨c0, c1⟩, hz16, hz10⟩, ⟨t1, t2, t3, t4⟩, -⟩ := id hW
  obtain ⟨hK, ⟨hC, hI⟩, ⟨k0, k1, -⟩, -⟩ := id h
  have hn4 := hKC.2.2.2.2.1.1
  obtain ⟨⟨-, a1, a2, a3⟩, -⟩ := mrA hKC.2.2.2.2.1 hsf.1
  have hw4 : wh < 400 := by have := hsf.1.2; omega
  replace a1 : Y 98 wh = _ := a1.trans hsf.2.1
  replace a2 : Y 99 wh = _ := a2.trans hsf.2.2
  have hst0 := hst
  obtain ⟨⟨s1, s2⟩, s3, -⟩ := hst
  obtain ⟨s4, s5⟩ := s3 wh hsf
  replace s1 : Y 118 (-1) = Y 117 (-1) := s1
  replace s4 : 0 ≤ Y 112 wh ∧ Y 112 wh < Y 117 (-1) := s4
  refine wJ_mono (hfg1_73_215 (d := d) (c := (K.2.1.length : Int)) (p := (K.2.1.getD (K.2.1.length - 1) (0, 0, 0, (0, 0, []), 0, 0, 0)).2.1) (h := (K.1.length : Int)) (ba := (ba : Int)) (l := l) (wh := wh) (fi := Y 112 wh) hP hl l4 l5 l7 l8 l9 l10 hx ⟨by omega, by omega⟩ h72 e48 hl12 he51 ⟨hsf.1.1, by omega⟩ a1 a2 rfl s1 ⟨s4.1, s4.2, s2⟩ rfl rfl (br_E hE ⟨Or.inl (by first | decide | omega), by decide⟩ rfl (by omega) (by omega)) (lr_E hE ⟨Or.inl (by first | decide | omega), by decide⟩ rfl (by omega) (by omega)) hkd) (fun o V hq => ?_)
  obtain ⟨rfl, hs⟩ := hq
  obtain ⟨⟨r1, r2⟩, r3⟩ := cGv (a := SF wh) (by omega) hK hI k0 hba k1 hs s5
  exact ⟨rfl, r1.trans y16, r2, r3⟩)
theorem ahi_73_215 {fi : Int} (h : rdC 215 kd ec ba gk gb es x l K T L G Y) (hKC : KC 87 97 93 114 115 74 73 HT cs ms os Y) (h72 : Y 72 1 = 73) (hl12 : l = 1 ∨ l = 2) (he51 : Y 51 x = wh) (hsf : isIf ms wh) (hfi : Y 112 wh = fi) (hgb : 0 ≤ gb ∧ gb < (T.length : Int)) (hfr : 0 ≤ fi ∧ fi < ((tO T gb).2.2.2.2.2.2.length : Int) ∧ fi ≤ 1000) (hkd : kd = 0) : wJ (pe_GA xs) wY0 (mS [217, 218]) (d + 9) t_XL_act ((pe_at t_XL_act.bl 0).getD (0, [])).2 [(0, (2, 158)), (1, (0, x))] [] Y (fun o V => o = .inl none ∧ V 215 16 = 0 ∧ cTk 215 V (kP K (K.1.length - ba) (gvA T gb fi)) ∧ cFr 215 Y V) := wJ_E (fun hE => by
  obtain ⟨⟨h, hW, hl, hT⟩, ⟨l4, l5, l7, l8, l9, l10, l12, l13⟩, y16, ⟨hx, e48⟩, hba⟩ := h
  have hP := xP_of (w := 215) (by omega) h
  rw [← w_up_eta y16] at hP
  obtain ⟨hTh, hCa, -, ⟨⟨m1, m2, m3, m4⟩, hl14, ⟨c0, c1⟩, hz16, hz10⟩, ⟨t1, t2, t3, t4⟩, -⟩ := id hW
  obtain ⟨hK, ⟨hC, hI⟩, ⟨k0, k1, -⟩, -⟩ := id h
  have hn4 := hKC.2.2.2.2.1.1
  obtain ⟨⟨-, a1, a2, a3⟩, -⟩ := mrA hKC.2.2.2.2.1 hsf.1
  have hw4 : wh < 400 := by have := hsf.1.2; omega
  replace a1 : Y 98 wh = _ := a1.trans hsf.2.1
  replace a2 : Y 99 wh = _ := a2.trans hsf.2.2
  obtain ⟨⟨z1, z2⟩, z3⟩ := cell_v (hd := gb) (wh := fi) hW hgb ⟨hfr.1, hfr.2.1⟩
  refine wJ_mono (hfg0_73_215 (d := d) (c := (K.2.1.length : Int)) (p := (K.2.1.getD (K.2.1.length - 1) (0, 0, 0, (0, 0, []), 0, 0, 0)).2.1) (h := (K.1.length : Int)) (ba := (ba : Int)) (l := l) (wh := wh) (fi := fi) (st := Y 133 gb) hP hl l4 l5 l7 l8 l9 l10 hx ⟨by omega, by omega⟩ h72 e48 hl12 he51 ⟨hsf.1.1, by omega⟩ a1 a2 hfi t1 t4 hl14 ⟨hz16, hz10⟩ ⟨hgb.1, by omega⟩ rfl ⟨z1, hfr.1, hfr.2.2, by omega⟩ rfl rfl (br_E hE ⟨Or.inl (by first | decide | omega), by decide⟩ rfl (by omega) (by omega)) (lr_E hE ⟨Or.inl (by first | decide | omega), by decide⟩ rfl (by omega) (by omega)) hkd) (fun o V hq => ?_)
  obtain ⟨rfl, hs⟩ := hq
  obtain ⟨⟨r1, r2⟩, r3⟩ := cGv (a := gvA T gb fi) (by omega) hK hI k0 hba k1 hs z3
  exact ⟨rfl, r1.trans y16, r2, r3⟩)
theorem ahs_73_215 (h : rdC 215 kd ec ba gk gb es x l K T L G Y) (hKC : KC 87 97 93 114 115 74 73 HT cs ms os Y) (h72 : Y 72 1 = 73) (hl12 : l = 1 ∨ l = 2) (he51 : Y 51 x = wh) (hwH : wHo cs ms os) (hsf : isSf ms wh) (hst : cStc 97 117 ms SF Y) (hes : 0 ≤ es ∧ es < 9 + (cs.length : Int)) (hty : 0 ≤ (hmR ms wh).2.2.2.1 ∧ (hmR ms wh).2.2.2.1 < 9 + (cs.length : Int)) (hkd : kd = 1) : wJ (pe_GA xs) wY0 (mS [217, 218]) (d + 9) t_XL_act ((pe_at t_XL_act.bl 0).getD (0, [])).2 [(0, (2, 158)), (1, (0, x))] [] Y (fun o V => o = .inl none ∧ ((gTB cs es (hmR ms wh).2.2.2.1 true = true ∧ V 215 16 = 0 ∧ cTk 215 V (kP K (K.1.length - ba) (K.1.getD (K.1.length - 1) (0, 0, []))) ∧ cStc 97 117 ms (sfU SF wh (K.1.getD (K.1.length - 1) (0, 0, []))) V ∧ cFm 215 (cMf 117) Y V) ∨ (gTB cs es (hmR ms wh).2.2.2.1 true = false ∧ w_up Y 215 16 7 = V))) := wJ_E (fun hE => by
  obtain ⟨⟨h, hW, hl, hT⟩, ⟨l4, l5, l7, l8, l9, l10, l12, l13⟩, y16, ⟨hx, e48⟩, hba⟩ := h
  have hP := xP_of (w := 215) (by omega) h
  rw [← w_up_eta y16] at hP
  obtain ⟨hTh, hCa, -, ⟨⟨m1, m2, m3, m4⟩, hl14, ⟨c0, c1⟩, hz16, hz10⟩, ⟨t1, t2, t3, t4⟩, -⟩ := id hW
  obtain ⟨hK, ⟨hC, hI⟩, ⟨k0, k1, -⟩, -⟩ := id h
  have hn4 := hKC.2.2.2.2.1.1
  obtain ⟨⟨-, a1, a2, a3⟩, -⟩ := mrA hKC.2.2.2.2.1 hsf.1
  have hw4 : wh < 400 := by have := hsf.1.2; omega
  replace a1 : Y 98 wh = _ := a1.trans hsf.2.1
  replace a2 : Y 99 wh = _ := a2.trans hsf.2.2

  have hu := c_at hK (i := K.1.length - 1) (by omega) (j := (K.1.length : Int) - 1) (by omega)
  replace hu : cVl Y (Y 217 ((K.1.length : Int) - 1)) (Y 218 ((K.1.length : Int) - 1)) (K.1.getD (K.1.length - 1) (0, 0, [])) := hu
  have p3 : (K.1.length : Int) ≤ Y 217 (-1) := hK.1.2.2.1
  have p4 : Y 218 (-1) = Y 217 (-1) := hK.1.2.2.2.1
  have hst0 := hst
  obtain ⟨⟨s1, s2⟩, s3, -⟩ := hst
  obtain ⟨s4, s5⟩ := s3 wh hsf
  replace s1 : Y 118 (-1) = Y 117 (-1) := s1
  replace s4 : 0 ≤ Y 112 wh ∧ Y 112 wh < Y 117 (-1) := s4
  refine wJ_mono (hfs1_73_215 (d := d) (c := (K.2.1.length : Int)) (p := (K.2.1.getD (K.2.1.length - 1) (0, 0, 0, (0, 0, []), 0, 0, 0)).2.1) (h := (K.1.length : Int)) (ba := (ba : Int)) (l := l) (wh := wh) (fi := Y 112 wh) (es := es) (ty := (hmR ms wh).2.2.2.1) hP hl l4 l5 l7 l8 l9 l10 hx ⟨by omega, by omega⟩ hKC hwH h72 e48 hl12 he51 ⟨hsf.1.1, by omega⟩ a1 a2 rfl s1 ⟨s4.1, s4.2, s2⟩ rfl rfl (br_E hE ⟨Or.inl (by first | decide | omega), by decide⟩ rfl (by omega) (by omega)) (lr_E hE ⟨Or.inl (by first | decide | omega), by decide⟩ rfl (by omega) (by omega)) l13 hes a3 hty hkd) (fun o V hq => ?_)
  obtain ⟨rfl, hq⟩ := hq
  refine ⟨rfl, ?_⟩
  rcases hq with ⟨q1, hs⟩ | hq
  · have hstA : cStc 97 117 ms (sfU SF wh (K.1.getD (K.1.length - 1) (0, 0, []))) (w_up (w_up Y 117 (Y 112 wh) (Y 217 ((K.1.length : Int) - 1))) 118 (Y 112 wh) (Y 218 ((K.1.length : Int) - 1))) := cStc_w (m0 := 97) (r1 := 117) hst0 hsf (by first | decide | omega) hu
    have eA : cTx Y (w_up (w_up Y 117 (Y 112 wh) (Y 217 ((K.1.length : Int) - 1))) 118 (Y 112 wh) (Y 218 ((K.1.length : Int) - 1))) := cTx_of rfl (fun _ => rfl)
    have hKA := cTk_ag hK eA (fun j y hj => (w_up_slot (by omega)).trans (w_up_slot (by omega)))
    have hIA : gI (w_up (w_up Y 117 (Y 112 wh) (Y 217 ((K.1.length : Int) - 1))) 118 (Y 112 wh) (Y 218 ((K.1.length : Int) - 1))) := gI_up (gI_up hI s4.1 (by omega) (by first | decide | omega)) s4.1 (by omega) (by first | decide | omega)
    obtain ⟨⟨r1, r2⟩, r3⟩ := cGv (a := (K.1.getD (K.1.length - 1) (0, 0, []))) (by omega) hKA hIA k0 hba k1 hs (cVl_mo hu eA)
    refine Or.inl ⟨q1, r1.trans y16, r2, cStc_ag hstA (cTx_of (r3.1 2 1 (by first | decide | omega) (by first | decide | omega) (by first | decide | omega)) (fun i => r3.1 3 i (by first | decide | omega) (by first | decide | omega) (by first | decide | omega))) (fun j i hj => r3.1 j i (by omega) (by unfold wG; omega) (by omega)), cFm_fr r3 (fun j i j0 j1 _ j3 => ?_) (fun j j0 j1 => (w_up_no (by omega)).trans (w_up_no (by omega))) (rmR_up (rmR_up (rmR_rfl Y) s4.1 (by first | decide | omega)) s4.1 (by first | decide | omega))⟩
    unfold cMf at j3
    exact (w_up_no (by omega)).trans (w_up_no (by omega))
  · exact Or.inr hq)
theorem aht_73_215 {fi : Int} (h : rdC 215 kd ec ba gk gb es x l K T L G Y) (hKC : KC 87 97 93 114 115 74 73 HT cs ms os Y) (h72 : Y 72 1 = 73) (hl12 : l = 1 ∨ l = 2) (he51 : Y 51 x = wh) (hwH : wHo cs ms os) (hsf : isIf ms wh) (hfi : Y 112 wh = fi) (hgb : 0 ≤ gb ∧ gb < (T.length : Int)) (hfr : 0 ≤ fi ∧ fi < ((tO T gb).2.2.2.2.2.2.length : Int) ∧ fi ≤ 1000) (hes : 0 ≤ es ∧ es < 9 + (cs.length : Int)) (hty : 0 ≤ (hmR ms wh).2.2.2.1 ∧ (hmR ms wh).2.2.2.1 < 9 + (cs.length : Int)) (hkd : kd = 1) : wJ (pe_GA xs) wY0 (mS [217, 218]) (d + 9) t_XL_act ((pe_at t_XL_act.bl 0).getD (0, [])).2 [(0, (2, 158)), (1, (0, x))] [] Y (fun o V => o = .inl none ∧ ((gTB cs es (hmR ms wh).2.2.2.1 true = true ∧ V 215 16 = 0 ∧ cTk 215 V (kP K (K.1.length - ba) (K.1.getD (K.1.length - 1) (0, 0, []))) ∧ cWd V (tSp T gb fi.toNat (K.1.getD (K.1.length - 1) (0, 0, []))) L G ∧ cFm 215 cMv Y V) ∨ (gTB cs es (hmR ms wh).2.2.2.1 true = false ∧ w_up Y 215 16 7 = V))) := wJ_E (fun hE => by
  obtain ⟨⟨h, hW, hl, hT⟩, ⟨l4, l5, l7, l8, l9, l10, l12, l13⟩, y16, ⟨hx, e48⟩, hba⟩ := h
  have hP := xP_of (w := 215) (by omega) h
  rw [← w_up_eta y16] at hP
  obtain ⟨hTh, hCa, -, ⟨⟨m1, m2, m3, m4⟩, hl14, ⟨c0, c1⟩, hz16, hz10⟩, ⟨t1, t2, t3, t4⟩, -⟩ := id hW
  obtain ⟨hK, ⟨hC, hI⟩, ⟨k0, k1, -⟩, -⟩ := id h
  have hn4 := hKC.2.2.2.2.1.1
  obtain ⟨⟨-, a1, a2, a3⟩, -⟩ := mrA hKC.2.2.2.2.1 hsf.1
  have hw4 : wh < 400 := by have := hsf.1.2; omega
  replace a1 : Y 98 wh = _ := a1.trans hsf.2.1
  replace a2 : Y 99 wh = _ := a2.trans hsf.2.2

  have hu := c_at hK (i := K.1.length - 1) (by omega) (j := (K.1.length : Int) - 1) (by omega)
  replace hu : cVl Y (Y 217 ((K.1.length : Int) - 1)) (Y 218 ((K.1.length : Int) - 1)) (K.1.getD (K.1.length - 1) (0, 0, [])) := hu
  have p3 : (K.1.length : Int) ≤ Y 217 (-1) := hK.1.2.2.1
  have p4 : Y 218 (-1) = Y 217 (-1) := hK.1.2.2.2.1
  obtain ⟨⟨z1, z2⟩, z3⟩ := cell_v (hd := gb) (wh := fi) hW hgb ⟨hfr.1, hfr.2.1⟩
  refine wJ_mono (hfs0_73_215 (d := d) (c := (K.2.1.length : Int)) (p := (K.2.1.getD (K.2.1.length - 1) (0, 0, 0, (0, 0, []), 0, 0, 0)).2.1) (h := (K.1.length : Int)) (ba := (ba : Int)) (l := l) (wh := wh) (fi := fi) (st := Y 133 gb) (es := es) (ty := (hmR ms wh).2.2.2.1) hP hl l4 l5 l7 l8 l9 l10 hx ⟨by omega, by omega⟩ hKC hwH h72 e48 hl12 he51 ⟨hsf.1.1, by omega⟩ a1 a2 hfi t1 t4 hl14 ⟨hz16, hz10⟩ ⟨hgb.1, by omega⟩ rfl ⟨z1, hfr.1, hfr.2.2, by omega⟩ rfl rfl (br_E hE ⟨Or.inl (by first | decide | omega), by decide⟩ rfl (by omega) (by omega)) (lr_E hE ⟨Or.inl (by first | decide | omega), by decide⟩ rfl (by omega) (by omega)) l13 hes a3 hty hkd) (fun o V hq => ?_)
  obtain ⟨rfl, hq⟩ := hq
  refine ⟨rfl, ?_⟩
  rcases hq with ⟨q1, hs⟩ | hq
  · have ew : ((fi.toNat : Nat) : Int) = fi := by omega
    have hWA := cWd_sp (k := gb) (i := fi.toNat) hW hgb.1 hgb.2 (by omega) hu
    rw [ew] at hWA
    have eA : cTx Y (w_up (w_up Y 141 (Y 133 gb + fi) (Y 217 ((K.1.length : Int) - 1))) 142 (Y 133 gb + fi) (Y 218 ((K.1.length : Int) - 1))) := cTx_of rfl (fun _ => rfl)
    have hKA := cTk_ag hK eA (fun j y hj => (w_up_slot (by omega)).trans (w_up_slot (by omega)))
    have hIA : gI (w_up (w_up Y 141 (Y 133 gb + fi) (Y 217 ((K.1.length : Int) - 1))) 142 (Y 133 gb + fi) (Y 218 ((K.1.length : Int) - 1))) := gI_up (gI_up hI (by omega) (by omega) (by first | decide | omega)) (by omega) (by omega) (by first | decide | omega)
    obtain ⟨⟨r1, r2⟩, r3⟩ := cGv (a := (K.1.getD (K.1.length - 1) (0, 0, []))) (by omega) hKA hIA k0 hba k1 hs (cVl_mo hu eA)
    exact Or.inl ⟨q1, r1.trans y16, r2, cWd_fr (w := 215) (by omega) hWA r3, cFm_fr r3 (fun j i j0 j1 _ j3 => by unfold cMv at j3; exact (w_up_no (by omega)).trans (w_up_no (by omega))) (fun j j0 j1 => (w_up_no (by omega)).trans (w_up_no (by omega))) (rmR_up (rmR_up (rmR_rfl Y) (by omega) (by first | decide | omega)) (by omega) (by first | decide | omega))⟩
  · exact Or.inr hq)
theorem ahg_73_226 (h : rdC 226 kd ec ba gk gb es x l K T L G Y) (hKC : KC 87 97 93 114 115 74 73 HT cs ms os Y) (h72 : Y 72 1 = 73) (hl12 : l = 1 ∨ l = 2) (he51 : Y 51 x = wh) (hsf : isSf ms wh) (hst : cStc 97 117 ms SF Y) (hkd : kd = 0) : wJ (pe_GA xs) wY0 (mS [228, 229]) (d + 9) t_XL_act ((pe_at t_XL_act.bl 0).getD (0, [])).2 [(0, (2, 158)), (1, (0, x))] [] Y (fun o V => o = .inl none ∧ V 226 16 = 0 ∧ cTk 226 V (kP K (K.1.length - ba) (SF wh)) ∧ cFr 226 Y V) := wJ_E (fun hE => by
  obtain ⟨⟨h, hW, hl, hT⟩, ⟨l4, l5, l7, l8, l9, l10, l12, l13⟩, y16, ⟨hx, e48⟩, hba⟩ := h
  have hP := xP_of (w := 226) (by omega) h
  rw [← w_up_eta y16] at hP
  obtain ⟨hTh, hCa, -, ⟨⟨m1, m2, m3, m4⟩, hl14, ⟨c0, c1⟩, hz16, hz10⟩, ⟨t1, t2, t3, t4⟩, -⟩ := id hW
  obtain ⟨hK, ⟨hC, hI⟩, ⟨k0, k1, -⟩, -⟩ := id h
  have hn4 := hKC.2.2.2.2.1.1
  obtain ⟨⟨-, a1, a2, a3⟩, -⟩ := mrA hKC.2.2.2.2.1 hsf.1
  have hw4 : wh < 400 := by have := hsf.1.2; omega
  replace a1 : Y 98 wh = _ := a1.trans hsf.2.1
  replace a2 : Y 99 wh = _ := a2.trans hsf.2.2
  have hst0 := hst
  obtain ⟨⟨s1, s2⟩, s3, -⟩ := hst
  obtain ⟨s4, s5⟩ := s3 wh hsf
  replace s1 : Y 118 (-1) = Y 117 (-1) := s1
  replace s4 : 0 ≤ Y 112 wh ∧ Y 112 wh < Y 117 (-1) := s4
  refine wJ_mono (hfg1_73_226 (d := d) (c := (K.2.1.length : Int)) (p := (K.2.1.getD (K.2.1.length - 1) (0, 0, 0, (0, 0, []), 0, 0, 0)).2.1) (h := (K.1.length : Int)) (ba := (ba : Int)) (l := l) (wh := wh) (fi := Y 112 wh) hP hl l4 l5 l7 l8 l9 l10 hx ⟨by omega, by omega⟩ h72 e48 hl12 he51 ⟨hsf.1.1, by omega⟩ a1 a2 rfl s1 ⟨s4.1, s4.2, s2⟩ rfl rfl (br_E hE ⟨Or.inl (by first | decide | omega), by decide⟩ rfl (by omega) (by omega)) (lr_E hE ⟨Or.inl (by first | decide | omega), by decide⟩ rfl (by omega) (by omega)) hkd) (fun o V hq => ?_)
  obtain ⟨rfl, hs⟩ := hq
  obtain ⟨⟨r1, r2⟩, r3⟩ := cGv (a := SF wh) (by omega) hK hI k0 hba k1 hs s5
  exact ⟨rfl, r1.trans y16, r2, r3⟩)
theorem ahi_73_226 {fi : Int} (h : rdC 226 kd ec ba gk gb es x l K T L G Y) (hKC : KC 87 97 93 114 115 74 73 HT cs ms os Y) (h72 : Y 72 1 = 73) (hl12 : l = 1 ∨ l = 2) (he51 : Y 51 x = wh) (hsf : isIf ms wh) (hfi : Y 112 wh = fi) (hgb : 0 ≤ gb ∧ gb < (T.length : Int)) (hfr : 0 ≤ fi ∧ fi < ((tO T gb).2.2.2.2.2.2.length : Int) ∧ fi ≤ 1000) (hkd : kd = 0) : wJ (pe_GA xs) wY0 (mS [228, 229]) (d + 9) t_XL_act ((pe_at t_XL_act.bl 0).getD (0, [])).2 [(0, (2, 158)), (1, (0, x))] [] Y (fun o V => o = .inl none ∧ V 226 16 = 0 ∧ cTk 226 V (kP K (K.1.length - ba) (gvA T gb fi)) ∧ cFr 226 Y V) := wJ_E (fun hE => by
  obtain ⟨⟨h, hW, hl, hT⟩, ⟨l4, l5, l7, l8, l9, l10, l12, l13⟩, y16, ⟨hx, e48⟩, hba⟩ := h
  have hP := xP_of (w := 226) (by omega) h
  rw [← w_up_eta y16] at hP
  obtain ⟨hTh, hCa, -, ⟨⟨m1, m2, m3, m4⟩, hl14, ⟨c0, c1⟩, hz16, hz10⟩, ⟨t1, t2, t3, t4⟩, -⟩ := id hW
  obtain ⟨hK, ⟨hC, hI⟩, ⟨k0, k1, -⟩, -⟩ := id h
  have hn4 := hKC.2.2.2.2.1.1
  obtain ⟨⟨-, a1, a2, a3⟩, -⟩ := mrA hKC.2.2.2.2.1 hsf.1
  have hw4 : wh < 400 := by have := hsf.1.2; omega
  replace a1 : Y 98 wh = _ := a1.trans hsf.2.1
  replace a2 : Y 99 wh = _ := a2.trans hsf.2.2
  obtain ⟨⟨z1, z2⟩, z3⟩ := cell_v (hd := gb) (wh := fi) hW hgb ⟨hfr.1, hfr.2.1⟩
  refine wJ_mono (hfg0_73_226 (d := d) (c := (K.2.1.length : Int)) (p := (K.2.1.getD (K.2.1.length - 1) (0, 0, 0, (0, 0, []), 0, 0, 0)).2.1) (h := (K.1.length : Int)) (ba := (ba : Int)) (l := l) (wh := wh) (fi := fi) (st := Y 133 gb) hP hl l4 l5 l7 l8 l9 l10 hx ⟨by omega, by omega⟩ h72 e48 hl12 he51 ⟨hsf.1.1, by omega⟩ a1 a2 hfi t1 t4 hl14 ⟨hz16, hz10⟩ ⟨hgb.1, by omega⟩ rfl ⟨z1, hfr.1, hfr.2.2, by omega⟩ rfl rfl (br_E hE ⟨Or.inl (by first | decide | omega), by decide⟩ rfl (by omega) (by omega)) (lr_E hE ⟨Or.inl (by first | decide | omega), by decide⟩ rfl (by omega) (by omega)) hkd) (fun o V hq => ?_)
  obtain ⟨rfl, hs⟩ := hq
  obtain ⟨⟨r1, r2⟩, r3⟩ := cGv (a := gvA T gb fi) (by omega) hK hI k0 hba k1 hs z3
  exact ⟨rfl, r1.trans y16, r2, r3⟩)
theorem ahs_73_226 (h : rdC 226 kd ec ba gk gb es x l K T L G Y) (hKC : KC 87 97 93 114 115 74 73 HT cs ms os Y) (h72 : Y 72 1 = 73) (hl12 : l = 1 ∨ l = 2) (he51 : Y 51 x = wh) (hwH : wHo cs ms os) (hsf : isSf ms wh) (hst : cStc 97 117 ms SF Y) (hes : 0 ≤ es ∧ es < 9 + (cs.length : Int)) (hty : 0 ≤ (hmR ms wh).2.2.2.1 ∧ (hmR ms wh).2.2.2.1 < 9 + (cs.length : Int)) (hkd : kd = 1) : wJ (pe_GA xs) wY0 (mS [228, 229]) (d + 9) t_XL_act ((pe_at t_XL_act.bl 0).getD (0, [])).2 [(0, (2, 158)), (1, (0, x))] [] Y (fun o V => o = .inl none ∧ ((gTB cs es (hmR ms wh).2.2.2.1 true = true ∧ V 226 16 = 0 ∧ cTk 226 V (kP K (K.1.length - ba) (K.1.getD (K.1.length - 1) (0, 0, []))) ∧ cStc 97 117 ms (sfU SF wh (K.1.getD (K.1.length - 1) (0, 0, []))) V ∧ cFm 226 (cMf 117) Y V) ∨ (gTB cs es (hmR ms wh).2.2.2.1 true = false ∧ w_up Y 226 16 7 = V))) := wJ_E (fun hE => by
  obtain ⟨⟨h, hW, hl, hT⟩, ⟨l4, l5, l7, l8, l9, l10, l12, l13⟩, y16, ⟨hx, e48⟩, hba⟩ := h
  have hP := xP_of (w := 226) (by omega) h
  rw [← w_up_eta y16] at hP
  obtain ⟨hTh, hCa, -, ⟨⟨m1, m2, m3, m4⟩, hl14, ⟨c0, c1⟩, hz16, hz10⟩, ⟨t1, t2, t3, t4⟩, -⟩ := id hW
  obtain ⟨hK, ⟨hC, hI⟩, ⟨k0, k1, -⟩, -⟩ := id h
  have hn4 := hKC.2.2.2.2.1.1
  obtain ⟨⟨-, a1, a2, a3⟩, -⟩ := mrA hKC.2.2.2.2.1 hsf.1
  have hw4 : wh < 400 := by have := hsf.1.2; omega
  replace a1 : Y 98 wh = _ := a1.trans hsf.2.1
  replace a2 : Y 99 wh = _ := a2.trans hsf.2.2

  have hu := c_at hK (i := K.1.length - 1) (by omega) (j := (K.1.length : Int) - 1) (by omega)
  replace hu : cVl Y (Y 228 ((K.1.length : Int) - 1)) (Y 229 ((K.1.length : Int) - 1)) (K.1.getD (K.1.length - 1) (0, 0, [])) := hu
  have p3 : (K.1.length : Int) ≤ Y 228 (-1) := hK.1.2.2.1
  have p4 : Y 229 (-1) = Y 228 (-1) := hK.1.2.2.2.1
  have hst0 := hst
  obtain ⟨⟨s1, s2⟩, s3, -⟩ := hst
  obtain ⟨s4, s5⟩ := s3 wh hsf
  replace s1 : Y 118 (-1) = Y 117 (-1) := s1
  replace s4 : 0 ≤ Y 112 wh ∧ Y 112 wh < Y 117 (-1) := s4
  refine wJ_mono (hfs1_73_226 (d := d) (c := (K.2.1.length : Int)) (p := (K.2.1.getD (K.2.1.length - 1) (0, 0, 0, (0, 0, []), 0, 0, 0)).2.1) (h := (K.1.length : Int)) (ba := (ba : Int)) (l := l) (wh := wh) (fi := Y 112 wh) (es := es) (ty := (hmR ms wh).2.2.2.1) hP hl l4 l5 l7 l8 l9 l10 hx ⟨by omega, by omega⟩ hKC hwH h72 e48 hl12 he51 ⟨hsf.1.1, by omega⟩ a1 a2 rfl s1 ⟨s4.1, s4.2, s2⟩ rfl rfl (br_E hE ⟨Or.inl (by first | decide | omega), by decide⟩ rfl (by omega) (by omega)) (lr_E hE ⟨Or.inl (by first | decide | omega), by decide⟩ rfl (by omega) (by omega)) l13 hes a3 hty hkd) (fun o V hq => ?_)
  obtain ⟨rfl, hq⟩ := hq
  refine ⟨rfl, ?_⟩
  rcases hq with ⟨q1, hs⟩ | hq
  · have hstA : cStc 97 117 ms (sfU SF wh (K.1.getD (K.1.length - 1) (0, 0, []))) (w_up (w_up Y 117 (Y 112 wh) (Y 228 ((K.1.length : Int) - 1))) 118 (Y 112 wh) (Y 229 ((K.1.length : Int) - 1))) := cStc_w (m0 := 97) (r1 := 117) hst0 hsf (by first | decide | omega) hu
    have eA : cTx Y (w_up (w_up Y 117 (Y 112 wh) (Y 228 ((K.1.length : Int) - 1))) 118 (Y 112 wh) (Y 229 ((K.1.length : Int) - 1))) := cTx_of rfl (fun _ => rfl)
    have hKA := cTk_ag hK eA (fun j y hj => (w_up_slot (by omega)).trans (w_up_slot (by omega)))
    have hIA : gI (w_up (w_up Y 117 (Y 112 wh) (Y 228 ((K.1.length : Int) - 1))) 118 (Y 112 wh) (Y 229 ((K.1.length : Int) - 1))) := gI_up (gI_up hI s4.1 (by omega) (by first | decide | omega)) s4.1 (by omega) (by first | decide | omega)
    obtain ⟨⟨r1, r2⟩, r3⟩ := cGv (a := (K.1.getD (K.1.length - 1) (0, 0, []))) (by omega) hKA hIA k0 hba k1 hs (cVl_mo hu eA)
    refine Or.inl ⟨q1, r1.trans y16, r2, cStc_ag hstA (cTx_of (r3.1 2 1 (by first | decide | omega) (by first | decide | omega) (by first | decide | omega)) (fun i => r3.1 3 i (by first | decide | omega) (by first | decide | omega) (by first | decide | omega))) (fun j i hj => r3.1 j i (by omega) (by unfold wG; omega) (by omega)), cFm_fr r3 (fun j i j0 j1 _ j3 => ?_) (fun j j0 j1 => (w_up_no (by omega)).trans (w_up_no (by omega))) (rmR_up (rmR_up (rmR_rfl Y) s4.1 (by first | decide | omega)) s4.1 (by first | decide | omega))⟩
    unfold cMf at j3
    exact (w_up_no (by omega)).trans (w_up_no (by omega))
  · exact Or.inr hq)
theorem aht_73_226 {fi : Int} (h : rdC 226 kd ec ba gk gb es x l K T L G Y) (hKC : KC 87 97 93 114 115 74 73 HT cs ms os Y) (h72 : Y 72 1 = 73) (hl12 : l = 1 ∨ l = 2) (he51 : Y 51 x = wh) (hwH : wHo cs ms os) (hsf : isIf ms wh) (hfi : Y 112 wh = fi) (hgb : 0 ≤ gb ∧ gb < (T.length : Int)) (hfr : 0 ≤ fi ∧ fi < ((tO T gb).2.2.2.2.2.2.length : Int) ∧ fi ≤ 1000) (hes : 0 ≤ es ∧ es < 9 + (cs.length : Int)) (hty : 0 ≤ (hmR ms wh).2.2.2.1 ∧ (hmR ms wh).2.2.2.1 < 9 + (cs.length : Int)) (hkd : kd = 1) : wJ (pe_GA xs) wY0 (mS [228, 229]) (d + 9) t_XL_act ((pe_at t_XL_act.bl 0).getD (0, [])).2 [(0, (2, 158)), (1, (0, x))] [] Y (fun o V => o = .inl none ∧ ((gTB cs es (hmR ms wh).2.2.2.1 true = true ∧ V 226 16 = 0 ∧ cTk 226 V (kP K (K.1.length - ba) (K.1.getD (K.1.length - 1) (0, 0, []))) ∧ cWd V (tSp T gb fi.toNat (K.1.getD (K.1.length - 1) (0, 0, []))) L G ∧ cFm 226 cMv Y V) ∨ (gTB cs es (hmR ms wh).2.2.2.1 true = false ∧ w_up Y 226 16 7 = V))) := wJ_E (fun hE => by
  obtain ⟨⟨h, hW, hl, hT⟩, ⟨l4, l5, l7, l8, l9, l10, l12, l13⟩, y16, ⟨hx, e48⟩, hba⟩ := h
  have hP := xP_of (w := 226) (by omega) h
  rw [← w_up_eta y16] at hP
  obtain ⟨hTh, hCa, -, ⟨⟨m1, m2, m3, m4⟩, hl14, ⟨c0, c1⟩, hz16, hz10⟩, ⟨t1, t2, t3, t4⟩, -⟩ := id hW
  obtain ⟨hK, ⟨hC, hI⟩, ⟨k0, k1, -⟩, -⟩ := id h
  have hn4 := hKC.2.2.2.2.1.1
  obtain ⟨⟨-, a1, a2, a3⟩, -⟩ := mrA hKC.2.2.2.2.1 hsf.1
  have hw4 : wh < 400 := by have := hsf.1.2; omega
  replace a1 : Y 98 wh = _ := a1.trans hsf.2.1
  replace a2 : Y 99 wh = _ := a2.trans hsf.2.2

  have hu := c_at hK (i := K.1.length - 1) (by omega) (j := (K.1.length : Int) - 1) (by omega)
  replace hu : cVl Y (Y 228 ((K.1.length : Int) - 1)) (Y 229 ((K.1.length : Int) - 1)) (K.1.getD (K.1.length - 1) (0, 0, [])) := hu
  have p3 : (K.1.length : Int) ≤ Y 228 (-1) := hK.1.2.2.1
  have p4 : Y 229 (-1) = Y 228 (-1) := hK.1.2.2.2.1
  obtain ⟨⟨z1, z2⟩, z3⟩ := cell_v (hd := gb) (wh := fi) hW hgb ⟨hfr.1, hfr.2.1⟩
  refine wJ_mono (hfs0_73_226 (d := d) (c := (K.2.1.length : Int)) (p := (K.2.1.getD (K.2.1.length - 1) (0, 0, 0, (0, 0, []), 0, 0, 0)).2.1) (h := (K.1.length : Int)) (ba := (ba : Int)) (l := l) (wh := wh) (fi := fi) (st := Y 133 gb) (es := es) (ty := (hmR ms wh).2.2.2.1) hP hl l4 l5 l7 l8 l9 l10 hx ⟨by omega, by omega⟩ hKC hwH h72 e48 hl12 he51 ⟨hsf.1.1, by omega⟩ a1 a2 hfi t1 t4 hl14 ⟨hz16, hz10⟩ ⟨hgb.1, by omega⟩ rfl ⟨z1, hfr.1, hfr.2.2, by omega⟩ rfl rfl (br_E hE ⟨Or.inl (by first | decide | omega), by decide⟩ rfl (by omega) (by omega)) (lr_E hE ⟨Or.inl (by first | decide | omega), by decide⟩ rfl (by omega) (by omega)) l13 hes a3 hty hkd) (fun o V hq => ?_)
  obtain ⟨rfl, hq⟩ := hq
  refine ⟨rfl, ?_⟩
  rcases hq with ⟨q1, hs⟩ | hq
  · have ew : ((fi.toNat : Nat) : Int) = fi := by omega
    have hWA := cWd_sp (k := gb) (i := fi.toNat) hW hgb.1 hgb.2 (by omega) hu
    rw [ew] at hWA
    have eA : cTx Y (w_up (w_up Y 141 (Y 133 gb + fi) (Y 228 ((K.1.length : Int) - 1))) 142 (Y 133 gb + fi) (Y 229 ((K.1.length : Int) - 1))) := cTx_of rfl (fun _ => rfl)
    have hKA := cTk_ag hK eA (fun j y hj => (w_up_slot (by omega)).trans (w_up_slot (by omega)))
    have hIA : gI (w_up (w_up Y 141 (Y 133 gb + fi) (Y 228 ((K.1.length : Int) - 1))) 142 (Y 133 gb + fi) (Y 229 ((K.1.length : Int) - 1))) := gI_up (gI_up hI (by omega) (by omega) (by first | decide | omega)) (by omega) (by omega) (by first | decide | omega)
    obtain ⟨⟨r1, r2⟩, r3⟩ := cGv (a := (K.1.getD (K.1.length - 1) (0, 0, []))) (by omega) hKA hIA k0 hba k1 hs (cVl_mo hu eA)
    exact Or.inl ⟨q1, r1.trans y16, r2, cWd_fr (w := 226) (by omega) hWA r3, cFm_fr r3 (fun j i j0 j1 _ j3 => by unfold cMv at j3; exact (w_up_no (by omega)).trans (w_up_no (by omega))) (fun j j0 j1 => (w_up_no (by omega)).trans (w_up_no (by omega))) (rmR_up (rmR_up (rmR_rfl Y) (by omega) (by first | decide | omega)) (by omega) (by first | decide | omega))⟩
  · exact Or.inr hq)
theorem ahg_162_215 (h : rdC 215 kd ec ba gk gb es x l K T L G Y) (hKC : KC 176 186 182 203 204 163 162 HT cs ms os Y) (h72 : Y 72 1 = 162) (hl12 : l = 1 ∨ l = 2) (he51 : Y 51 x = wh) (hsf : isSf ms wh) (hst : cStc 186 206 ms SF Y) (hkd : kd = 0) : wJ (pe_GA xs) wY0 (mS [217, 218]) (d + 9) t_XL_act ((pe_at t_XL_act.bl 0).getD (0, [])).2 [(0, (2, 158)), (1, (0, x))] [] Y (fun o V => o = .inl none ∧ V 215 16 = 0 ∧ cTk 215 V (kP K (K.1.length - ba) (SF wh)) ∧ cFr 215 Y V) := wJ_E (fun hE => by
  obtain ⟨⟨h, hW, hl, hT⟩, ⟨l4, l5, l7, l8, l9, l10, l12, l13⟩, y16, ⟨hx, e48⟩, hba⟩ := h
  have hP := xP_of (w := 215) (by omega) h
  rw [← w_up_eta y16] at hP
  obtain ⟨hTh, hCa, -, ⟨⟨m1, m2, m3, m4⟩, hl14, ⟨c0, c1⟩, hz16, hz10⟩, ⟨t1, t2, t3, t4⟩, -⟩ := id hW
  obtain ⟨hK, ⟨hC, hI⟩, ⟨k0, k1, -⟩, -⟩ := id h
  have hn4 := hKC.2.2.2.2.1.1
  obtain ⟨⟨-, a1, a2, a3⟩, -⟩ := mrA hKC.2.2.2.2.1 hsf.1
  have hw4 : wh < 400 := by have := hsf.1.2; omega
  replace a1 : Y 187 wh = _ := a1.trans hsf.2.1
  replace a2 : Y 188 wh = _ := a2.trans hsf.2.2
  have hst0 := hst
  obtain ⟨⟨s1, s2⟩, s3, -⟩ := hst
  obtain ⟨s4, s5⟩ := s3 wh hsf
  replace s1 : Y 207 (-1) = Y 206 (-1) := s1
  replace s4 : 0 ≤ Y 201 wh ∧ Y 201 wh < Y 206 (-1) := s4
  refine wJ_mono (hfg1_162_215 (d := d) (c := (K.2.1.length : Int)) (p := (K.2.1.getD (K.2.1.length - 1) (0, 0, 0, (0, 0, []), 0, 0, 0)).2.1) (h := (K.1.length : Int)) (ba := (ba : Int)) (l := l) (wh := wh) (fi := Y 201 wh) hP hl l4 l5 l7 l8 l9 l10 hx ⟨by omega, by omega⟩ h72 e48 hl12 he51 ⟨hsf.1.1, by omega⟩ a1 a2 rfl s1 ⟨s4.1, s4.2, s2⟩ rfl rfl (br_E hE ⟨Or.inl (by first | decide | omega), by decide⟩ rfl (by omega) (by omega)) (lr_E hE ⟨Or.inl (by first | decide | omega), by decide⟩ rfl (by omega) (by omega)) hkd) (fun o V hq => ?_)
  obtain ⟨rfl, hs⟩ := hq
  obtain ⟨⟨r1, r2⟩, r3⟩ := cGv (a := SF wh) (by omega) hK hI k0 hba k1 hs s5
  exact ⟨rfl, r1.trans y16, r2, r3⟩)
theorem ahi_162_215 {fi : Int} (h : rdC 215 kd ec ba gk gb es x l K T L G Y) (hKC : KC 176 186 182 203 204 163 162 HT cs ms os Y) (h72 : Y 72 1 = 162) (hl12 : l = 1 ∨ l = 2) (he51 : Y 51 x = wh) (hsf : isIf ms wh) (hfi : Y 201 wh = fi) (hgb : 0 ≤ gb ∧ gb < (T.length : Int)) (hfr : 0 ≤ fi ∧ fi < ((tO T gb).2.2.2.2.2.2.length : Int) ∧ fi ≤ 1000) (hkd : kd = 0) : wJ (pe_GA xs) wY0 (mS [217, 218]) (d + 9) t_XL_act ((pe_at t_XL_act.bl 0).getD (0, [])).2 [(0, (2, 158)), (1, (0, x))] [] Y (fun o V => o = .inl none ∧ V 215 16 = 0 ∧ cTk 215 V (kP K (K.1.length - ba) (gvA T gb fi)) ∧ cFr 215 Y V) := wJ_E (fun hE => by
  obtain ⟨⟨h, hW, hl, hT⟩, ⟨l4, l5, l7, l8, l9, l10, l12, l13⟩, y16, ⟨hx, e48⟩, hba⟩ := h
  have hP := xP_of (w := 215) (by omega) h
  rw [← w_up_eta y16] at hP
  obtain ⟨hTh, hCa, -, ⟨⟨m1, m2, m3, m4⟩, hl14, ⟨c0, c1⟩, hz16, hz10⟩, ⟨t1, t2, t3, t4⟩, -⟩ := id hW
  obtain ⟨hK, ⟨hC, hI⟩, ⟨k0, k1, -⟩, -⟩ := id h
  have hn4 := hKC.2.2.2.2.1.1
  obtain ⟨⟨-, a1, a2, a3⟩, -⟩ := mrA hKC.2.2.2.2.1 hsf.1
  have hw4 : wh < 400 := by have := hsf.1.2; omega
  replace a1 : Y 187 wh = _ := a1.trans hsf.2.1
  replace a2 : Y 188 wh = _ := a2.trans hsf.2.2
  obtain ⟨⟨z1, z2⟩, z3⟩ := cell_v (hd := gb) (wh := fi) hW hgb ⟨hfr.1, hfr.2.1⟩
  refine wJ_mono (hfg0_162_215 (d := d) (c := (K.2.1.length : Int)) (p := (K.2.1.getD (K.2.1.length - 1) (0, 0, 0, (0, 0, []), 0, 0, 0)).2.1) (h := (K.1.length : Int)) (ba := (ba : Int)) (l := l) (wh := wh) (fi := fi) (st := Y 133 gb) hP hl l4 l5 l7 l8 l9 l10 hx ⟨by omega, by omega⟩ h72 e48 hl12 he51 ⟨hsf.1.1, by omega⟩ a1 a2 hfi t1 t4 hl14 ⟨hz16, hz10⟩ ⟨hgb.1, by omega⟩ rfl ⟨z1, hfr.1, hfr.2.2, by omega⟩ rfl rfl (br_E hE ⟨Or.inl (by first | decide | omega), by decide⟩ rfl (by omega) (by omega)) (lr_E hE ⟨Or.inl (by first | decide | omega), by decide⟩ rfl (by omega) (by omega)) hkd) (fun o V hq => ?_)
  obtain ⟨rfl, hs⟩ := hq
  obtain ⟨⟨r1, r2⟩, r3⟩ := cGv (a := gvA T gb fi) (by omega) hK hI k0 hba k1 hs z3
  exact ⟨rfl, r1.trans y16, r2, r3⟩)
theorem ahs_162_215 (h : rdC 215 kd ec ba gk gb es x l K T L G Y) (hKC : KC 176 186 182 203 204 163 162 HT cs ms os Y) (h72 : Y 72 1 = 162) (hl12 : l = 1 ∨ l = 2) (he51 : Y 51 x = wh) (hwH : wHo cs ms os) (hsf : isSf ms wh) (hst : cStc 186 206 ms SF Y) (hes : 0 ≤ es ∧ es < 9 + (cs.length : Int)) (hty : 0 ≤ (hmR ms wh).2.2.2.1 ∧ (hmR ms wh).2.2.2.1 < 9 + (cs.length : Int)) (hkd : kd = 1) : wJ (pe_GA xs) wY0 (mS [217, 218]) (d + 9) t_XL_act ((pe_at t_XL_act.bl 0).getD (0, [])).2 [(0, (2, 158)), (1, (0, x))] [] Y (fun o V => o = .inl none ∧ ((gTB cs es (hmR ms wh).2.2.2.1 true = true ∧ V 215 16 = 0 ∧ cTk 215 V (kP K (K.1.length - ba) (K.1.getD (K.1.length - 1) (0, 0, []))) ∧ cStc 186 206 ms (sfU SF wh (K.1.getD (K.1.length - 1) (0, 0, []))) V ∧ cFm 215 (cMf 206) Y V) ∨ (gTB cs es (hmR ms wh).2.2.2.1 true = false ∧ w_up Y 215 16 7 = V))) := wJ_E (fun hE => by
  obtain ⟨⟨h, hW, hl, hT⟩, ⟨l4, l5, l7, l8, l9, l10, l12, l13⟩, y16, ⟨hx, e48⟩, hba⟩ := h
  have hP := xP_of (w := 215) (by omega) h
  rw [← w_up_eta y16] at hP
  obtain ⟨hTh, hCa, -, ⟨⟨m1, m2, m3, m4⟩, hl14, ⟨c0, c1⟩, hz16, hz10⟩, ⟨t1, t2, t3, t4⟩, -⟩ := id hW
  obtain ⟨hK, ⟨hC, hI⟩, ⟨k0, k1, -⟩, -⟩ := id h
  have hn4 := hKC.2.2.2.2.1.1
  obtain ⟨⟨-, a1, a2, a3⟩, -⟩ := mrA hKC.2.2.2.2.1 hsf.1
  have hw4 : wh < 400 := by have := hsf.1.2; omega
  replace a1 : Y 187 wh = _ := a1.trans hsf.2.1
  replace a2 : Y 188 wh = _ := a2.trans hsf.2.2

  have hu := c_at hK (i := K.1.length - 1) (by omega) (j := (K.1.length : Int) - 1) (by omega)
  replace hu : cVl Y (Y 217 ((K.1.length : Int) - 1)) (Y 218 ((K.1.length : Int) - 1)) (K.1.getD (K.1.length - 1) (0, 0, [])) := hu
  have p3 : (K.1.length : Int) ≤ Y 217 (-1) := hK.1.2.2.1
  have p4 : Y 218 (-1) = Y 217 (-1) := hK.1.2.2.2.1
  have hst0 := hst
  obtain ⟨⟨s1, s2⟩, s3, -⟩ := hst
  obtain ⟨s4, s5⟩ := s3 wh hsf
  replace s1 : Y 207 (-1) = Y 206 (-1) := s1
  replace s4 : 0 ≤ Y 201 wh ∧ Y 201 wh < Y 206 (-1) := s4
  refine wJ_mono (hfs1_162_215 (d := d) (c := (K.2.1.length : Int)) (p := (K.2.1.getD (K.2.1.length - 1) (0, 0, 0, (0, 0, []), 0, 0, 0)).2.1) (h := (K.1.length : Int)) (ba := (ba : Int)) (l := l) (wh := wh) (fi := Y 201 wh) (es := es) (ty := (hmR ms wh).2.2.2.1) hP hl l4 l5 l7 l8 l9 l10 hx ⟨by omega, by omega⟩ hKC hwH h72 e48 hl12 he51 ⟨hsf.1.1, by omega⟩ a1 a2 rfl s1 ⟨s4.1, s4.2, s2⟩ rfl rfl (br_E hE ⟨Or.inl (by first | decide | omega), by decide⟩ rfl (by omega) (by omega)) (lr_E hE ⟨Or.inl (by first | decide | omega), by decide⟩ rfl (by omega) (by omega)) l13 hes a3 hty hkd) (fun o V hq => ?_)
  obtain ⟨rfl, hq⟩ := hq
  refine ⟨rfl, ?_⟩
  rcases hq with ⟨q1, hs⟩ | hq
  · have hstA : cStc 186 206 ms (sfU SF wh (K.1.getD (K.1.length - 1) (0, 0, []))) (w_up (w_up Y 206 (Y 201 wh) (Y 217 ((K.1.length : Int) - 1))) 207 (Y 201 wh) (Y 218 ((K.1.length : Int) - 1))) := cStc_w (m0 := 186) (r1 := 206) hst0 hsf (by first | decide | omega) hu
    have eA : cTx Y (w_up (w_up Y 206 (Y 201 wh) (Y 217 ((K.1.length : Int) - 1))) 207 (Y 201 wh) (Y 218 ((K.1.length : Int) - 1))) := cTx_of rfl (fun _ => rfl)
    have hKA := cTk_ag hK eA (fun j y hj => (w_up_slot (by omega)).trans (w_up_slot (by omega)))
    have hIA : gI (w_up (w_up Y 206 (Y 201 wh) (Y 217 ((K.1.length : Int) - 1))) 207 (Y 201 wh) (Y 218 ((K.1.length : Int) - 1))) := gI_up (gI_up hI s4.1 (by omega) (by first | decide | omega)) s4.1 (by omega) (by first | decide | omega)
    obtain ⟨⟨r1, r2⟩, r3⟩ := cGv (a := (K.1.getD (K.1.length - 1) (0, 0, []))) (by omega) hKA hIA k0 hba k1 hs (cVl_mo hu eA)
    refine Or.inl ⟨q1, r1.trans y16, r2, cStc_ag hstA (cTx_of (r3.1 2 1 (by first | decide | omega) (by first | decide | omega) (by first | decide | omega)) (fun i => r3.1 3 i (by first | decide | omega) (by first | decide | omega) (by first | decide | omega))) (fun j i hj => r3.1 j i (by omega) (by unfold wG; omega) (by omega)), cFm_fr r3 (fun j i j0 j1 _ j3 => ?_) (fun j j0 j1 => (w_up_no (by omega)).trans (w_up_no (by omega))) (rmR_up (rmR_up (rmR_rfl Y) s4.1 (by first | decide | omega)) s4.1 (by first | decide | omega))⟩
    unfold cMf at j3
    exact (w_up_no (by omega)).trans (w_up_no (by omega))
  · exact Or.inr hq)
theorem aht_162_215 {fi : Int} (h : rdC 215 kd ec ba gk gb es x l K T L G Y) (hKC : KC 176 186 182 203 204 163 162 HT cs ms os Y) (h72 : Y 72 1 = 162) (hl12 : l = 1 ∨ l = 2) (he51 : Y 51 x = wh) (hwH : wHo cs ms os) (hsf : isIf ms wh) (hfi : Y 201 wh = fi) (hgb : 0 ≤ gb ∧ gb < (T.length : Int)) (hfr : 0 ≤ fi ∧ fi < ((tO T gb).2.2.2.2.2.2.length : Int) ∧ fi ≤ 1000) (hes : 0 ≤ es ∧ es < 9 + (cs.length : Int)) (hty : 0 ≤ (hmR ms wh).2.2.2.1 ∧ (hmR ms wh).2.2.2.1 < 9 + (cs.length : Int)) (hkd : kd = 1) : wJ (pe_GA xs) wY0 (mS [217, 218]) (d + 9) t_XL_act ((pe_at t_XL_act.bl 0).getD (0, [])).2 [(0, (2, 158)), (1, (0, x))] [] Y (fun o V => o = .inl none ∧ ((gTB cs es (hmR ms wh).2.2.2.1 true = true ∧ V 215 16 = 0 ∧ cTk 215 V (kP K (K.1.length - ba) (K.1.getD (K.1.length - 1) (0, 0, []))) ∧ cWd V (tSp T gb fi.toNat (K.1.getD (K.1.length - 1) (0, 0, []))) L G ∧ cFm 215 cMv Y V) ∨ (gTB cs es (hmR ms wh).2.2.2.1 true = false ∧ w_up Y 215 16 7 = V))) := wJ_E (fun hE => by
  obtain ⟨⟨h, hW, hl, hT⟩, ⟨l4, l5, l7, l8, l9, l10, l12, l13⟩, y16, ⟨hx, e48⟩, hba⟩ := h
  have hP := xP_of (w := 215) (by omega) h
  rw [← w_up_eta y16] at hP
  obtain ⟨hTh, hCa, -, ⟨⟨m1, m2, m3, m4⟩, hl14, ⟨c0, c1⟩, hz16, hz10⟩, ⟨t1, t2, t3, t4⟩, -⟩ := id hW
  obtain ⟨hK, ⟨hC, hI⟩, ⟨k0, k1, -⟩, -⟩ := id h
  have hn4 := hKC.2.2.2.2.1.1
  obtain ⟨⟨-, a1, a2, a3⟩, -⟩ := mrA hKC.2.2.2.2.1 hsf.1
  have hw4 : wh < 400 := by have := hsf.1.2; omega
  replace a1 : Y 187 wh = _ := a1.trans hsf.2.1
  replace a2 : Y 188 wh = _ := a2.trans hsf.2.2

  have hu := c_at hK (i := K.1.length - 1) (by omega) (j := (K.1.length : Int) - 1) (by omega)
  replace hu : cVl Y (Y 217 ((K.1.length : Int) - 1)) (Y 218 ((K.1.length : Int) - 1)) (K.1.getD (K.1.length - 1) (0, 0, [])) := hu
  have p3 : (K.1.length : Int) ≤ Y 217 (-1) := hK.1.2.2.1
  have p4 : Y 218 (-1) = Y 217 (-1) := hK.1.2.2.2.1
  obtain ⟨⟨z1, z2⟩, z3⟩ := cell_v (hd := gb) (wh := fi) hW hgb ⟨hfr.1, hfr.2.1⟩
  refine wJ_mono (hfs0_162_215 (d := d) (c := (K.2.1.length : Int)) (p := (K.2.1.getD (K.2.1.length - 1) (0, 0, 0, (0, 0, []), 0, 0, 0)).2.1) (h := (K.1.length : Int)) (ba := (ba : Int)) (l := l) (wh := wh) (fi := fi) (st := Y 133 gb) (es := es) (ty := (hmR ms wh).2.2.2.1) hP hl l4 l5 l7 l8 l9 l10 hx ⟨by omega, by omega⟩ hKC hwH h72 e48 hl12 he51 ⟨hsf.1.1, by omega⟩ a1 a2 hfi t1 t4 hl14 ⟨hz16, hz10⟩ ⟨hgb.1, by omega⟩ rfl ⟨z1, hfr.1, hfr.2.2, by omega⟩ rfl rfl (br_E hE ⟨Or.inl (by first | decide | omega), by decide⟩ rfl (by omega) (by omega)) (lr_E hE ⟨Or.inl (by first | decide | omega), by decide⟩ rfl (by omega) (by omega)) l13 hes a3 hty hkd) (fun o V hq => ?_)
  obtain ⟨rfl, hq⟩ := hq
  refine ⟨rfl, ?_⟩
  rcases hq with ⟨q1, hs⟩ | hq
  · have ew : ((fi.toNat : Nat) : Int) = fi := by omega
    have hWA := cWd_sp (k := gb) (i := fi.toNat) hW hgb.1 hgb.2 (by omega) hu
    rw [ew] at hWA
    have eA : cTx Y (w_up (w_up Y 141 (Y 133 gb + fi) (Y 217 ((K.1.length : Int) - 1))) 142 (Y 133 gb + fi) (Y 218 ((K.1.length : Int) - 1))) := cTx_of rfl (fun _ => rfl)
    have hKA := cTk_ag hK eA (fun j y hj => (w_up_slot (by omega)).trans (w_up_slot (by omega)))
    have hIA : gI (w_up (w_up Y 141 (Y 133 gb + fi) (Y 217 ((K.1.length : Int) - 1))) 142 (Y 133 gb + fi) (Y 218 ((K.1.length : Int) - 1))) := gI_up (gI_up hI (by omega) (by omega) (by first | decide | omega)) (by omega) (by omega) (by first | decide | omega)
    obtain ⟨⟨r1, r2⟩, r3⟩ := cGv (a := (K.1.getD (K.1.length - 1) (0, 0, []))) (by omega) hKA hIA k0 hba k1 hs (cVl_mo hu eA)
    exact Or.inl ⟨q1, r1.trans y16, r2, cWd_fr (w := 215) (by omega) hWA r3, cFm_fr r3 (fun j i j0 j1 _ j3 => by unfold cMv at j3; exact (w_up_no (by omega)).trans (w_up_no (by omega))) (fun j j0 j1 => (w_up_no (by omega)).trans (w_up_no (by omega))) (rmR_up (rmR_up (rmR_rfl Y) (by omega) (by first | decide | omega)) (by omega) (by first | decide | omega))⟩
  · exact Or.inr hq)
theorem ahg_162_226 (h : rdC 226 kd ec ba gk gb es x l K T L G Y) (hKC : KC 176 186 182 203 204 163 162 HT cs ms os Y) (h72 : Y 72 1 = 162) (hl12 : l = 1 ∨ l = 2) (he51 : Y 51 x = wh) (hsf : isSf ms wh) (hst : cStc 186 206 ms SF Y) (hkd : kd = 0) : wJ (pe_GA xs) wY0 (mS [228, 229]) (d + 9) t_XL_act ((pe_at t_XL_act.bl 0).getD (0, [])).2 [(0, (2, 158)), (1, (0, x))] [] Y (fun o V => o = .inl none ∧ V 226 16 = 0 ∧ cTk 226 V (kP K (K.1.length - ba) (SF wh)) ∧ cFr 226 Y V) := wJ_E (fun hE => by
  obtain ⟨⟨h, hW, hl, hT⟩, ⟨l4, l5, l7, l8, l9, l10, l12, l13⟩, y16, ⟨hx, e48⟩, hba⟩ := h
  have hP := xP_of (w := 226) (by omega) h
  rw [← w_up_eta y16] at hP
  obtain ⟨hTh, hCa, -, ⟨⟨m1, m2, m3, m4⟩, hl14, ⟨c0, c1⟩, hz16, hz10⟩, ⟨t1, t2, t3, t4⟩, -⟩ := id hW
  obtain ⟨hK, ⟨hC, hI⟩, ⟨k0, k1, -⟩, -⟩ := id h
  have hn4 := hKC.2.2.2.2.1.1
  obtain ⟨⟨-, a1, a2, a3⟩, -⟩ := mrA hKC.2.2.2.2.1 hsf.1
  have hw4 : wh < 400 := by have := hsf.1.2; omega
  replace a1 : Y 187 wh = _ := a1.trans hsf.2.1
  replace a2 : Y 188 wh = _ := a2.trans hsf.2.2
  have hst0 := hst
  obtain ⟨⟨s1, s2⟩, s3, -⟩ := hst
  obtain ⟨s4, s5⟩ := s3 wh hsf
  replace s1 : Y 207 (-1) = Y 206 (-1) := s1
  replace s4 : 0 ≤ Y 201 wh ∧ Y 201 wh < Y 206 (-1) := s4
  refine wJ_mono (hfg1_162_226 (d := d) (c := (K.2.1.length : Int)) (p := (K.2.1.getD (K.2.1.length - 1) (0, 0, 0, (0, 0, []), 0, 0, 0)).2.1) (h := (K.1.length : Int)) (ba := (ba : Int)) (l := l) (wh := wh) (fi := Y 201 wh) hP hl l4 l5 l7 l8 l9 l10 hx ⟨by omega, by omega⟩ h72 e48 hl12 he51 ⟨hsf.1.1, by omega⟩ a1 a2 rfl s1 ⟨s4.1, s4.2, s2⟩ rfl rfl (br_E hE ⟨Or.inl (by first | decide | omega), by decide⟩ rfl (by omega) (by omega)) (lr_E hE ⟨Or.inl (by first | decide | omega), by decide⟩ rfl (by omega) (by omega)) hkd) (fun o V hq => ?_)
  obtain ⟨rfl, hs⟩ := hq
  obtain ⟨⟨r1, r2⟩, r3⟩ := cGv (a := SF wh) (by omega) hK hI k0 hba k1 hs s5
  exact ⟨rfl, r1.trans y16, r2, r3⟩)
theorem ahi_162_226 {fi : Int} (h : rdC 226 kd ec ba gk gb es x l K T L G Y) (hKC : KC 176 186 182 203 204 163 162 HT cs ms os Y) (h72 : Y 72 1 = 162) (hl12 : l = 1 ∨ l = 2) (he51 : Y 51 x = wh) (hsf : isIf ms wh) (hfi : Y 201 wh = fi) (hgb : 0 ≤ gb ∧ gb < (T.length : Int)) (hfr : 0 ≤ fi ∧ fi < ((tO T gb).2.2.2.2.2.2.length : Int) ∧ fi ≤ 1000) (hkd : kd = 0) : wJ (pe_GA xs) wY0 (mS [228, 229]) (d + 9) t_XL_act ((pe_at t_XL_act.bl 0).getD (0, [])).2 [(0, (2, 158)), (1, (0, x))] [] Y (fun o V => o = .inl none ∧ V 226 16 = 0 ∧ cTk 226 V (kP K (K.1.length - ba) (gvA T gb fi)) ∧ cFr 226 Y V) := wJ_E (fun hE => by
  obtain ⟨⟨h, hW, hl, hT⟩, ⟨l4, l5, l7, l8, l9, l10, l12, l13⟩, y16, ⟨hx, e48⟩, hba⟩ := h
  have hP := xP_of (w := 226) (by omega) h
  rw [← w_up_eta y16] at hP
  obtain ⟨hTh, hCa, -, ⟨⟨m1, m2, m3, m4⟩, hl14, ⟨c0, c1⟩, hz16, hz10⟩, ⟨t1, t2, t3, t4⟩, -⟩ := id hW
  obtain ⟨hK, ⟨hC, hI⟩, ⟨k0, k1, -⟩, -⟩ := id h
  have hn4 := hKC.2.2.2.2.1.1
  obtain ⟨⟨-, a1, a2, a3⟩, -⟩ := mrA hKC.2.2.2.2.1 hsf.1
  have hw4 : wh < 400 := by have := hsf.1.2; omega
  replace a1 : Y 187 wh = _ := a1.trans hsf.2.1
  replace a2 : Y 188 wh = _ := a2.trans hsf.2.2
  obtain ⟨⟨z1, z2⟩, z3⟩ := cell_v (hd := gb) (wh := fi) hW hgb ⟨hfr.1, hfr.2.1⟩
  refine wJ_mono (hfg0_162_226 (d := d) (c := (K.2.1.length : Int)) (p := (K.2.1.getD (K.2.1.length - 1) (0, 0, 0, (0, 0, []), 0, 0, 0)).2.1) (h := (K.1.length : Int)) (ba := (ba : Int)) (l := l) (wh := wh) (fi := fi) (st := Y 133 gb) hP hl l4 l5 l7 l8 l9 l10 hx ⟨by omega, by omega⟩ h72 e48 hl12 he51 ⟨hsf.1.1, by omega⟩ a1 a2 hfi t1 t4 hl14 ⟨hz16, hz10⟩ ⟨hgb.1, by omega⟩ rfl ⟨z1, hfr.1, hfr.2.2, by omega⟩ rfl rfl (br_E hE ⟨Or.inl (by first | decide | omega), by decide⟩ rfl (by omega) (by omega)) (lr_E hE ⟨Or.inl (by first | decide | omega), by decide⟩ rfl (by omega) (by omega)) hkd) (fun o V hq => ?_)
  obtain ⟨rfl, hs⟩ := hq
  obtain ⟨⟨r1, r2⟩, r3⟩ := cGv (a := gvA T gb fi) (by omega) hK hI k0 hba k1 hs z3
  exact ⟨rfl, r1.trans y16, r2, r3⟩)
theorem ahs_162_226 (h : rdC 226 kd ec ba gk gb es x l K T L G Y) (hKC : KC 176 186 182 203 204 163 162 HT cs ms os Y) (h72 : Y 72 1 = 162) (hl12 : l = 1 ∨ l = 2) (he51 : Y 51 x = wh) (hwH : wHo cs ms os) (hsf : isSf ms wh) (hst : cStc 186 206 ms SF Y) (hes : 0 ≤ es ∧ es < 9 + (cs.length : Int)) (hty : 0 ≤ (hmR ms wh).2.2.2.1 ∧ (hmR ms wh).2.2.2.1 < 9 + (cs.length : Int)) (hkd : kd = 1) : wJ (pe_GA xs) wY0 (mS [228, 229]) (d + 9) t_XL_act ((pe_at t_XL_act.bl 0).getD (0, [])).2 [(0, (2, 158)), (1, (0, x))] [] Y (fun o V => o = .inl none ∧ ((gTB cs es (hmR ms wh).2.2.2.1 true = true ∧ V 226 16 = 0 ∧ cTk 226 V (kP K (K.1.length - ba) (K.1.getD (K.1.length - 1) (0, 0, []))) ∧ cStc 186 206 ms (sfU SF wh (K.1.getD (K.1.length - 1) (0, 0, []))) V ∧ cFm 226 (cMf 206) Y V) ∨ (gTB cs es (hmR ms wh).2.2.2.1 true = false ∧ w_up Y 226 16 7 = V))) := wJ_E (fun hE => by
  obtain ⟨⟨h, hW, hl, hT⟩, ⟨l4, l5, l7, l8, l9, l10, l12, l13⟩, y16, ⟨hx, e48⟩, hba⟩ := h
  have hP := xP_of (w := 226) (by omega) h
  rw [← w_up_eta y16] at hP
  obtain ⟨hTh, hCa, -, ⟨⟨m1, m2, m3, m4⟩, hl14, ⟨c0, c1⟩, hz16, hz10⟩, ⟨t1, t2, t3, t4⟩, -⟩ := id hW
  obtain ⟨hK, ⟨hC, hI⟩, ⟨k0, k1, -⟩, -⟩ := id h
  have hn4 := hKC.2.2.2.2.1.1
  obtain ⟨⟨-, a1, a2, a3⟩, -⟩ := mrA hKC.2.2.2.2.1 hsf.1
  have hw4 : wh < 400 := by have := hsf.1.2; omega
  replace a1 : Y 187 wh = _ := a1.trans hsf.2.1
  replace a2 : Y 188 wh = _ := a2.trans hsf.2.2

  have hu := c_at hK (i := K.1.length - 1) (by omega) (j := (K.1.length : Int) - 1) (by omega)
  replace hu : cVl Y (Y 228 ((K.1.length : Int) - 1)) (Y 229 ((K.1.length : Int) - 1)) (K.1.getD (K.1.length - 1) (0, 0, [])) := hu
  have p3 : (K.1.length : Int) ≤ Y 228 (-1) := hK.1.2.2.1
  have p4 : Y 229 (-1) = Y 228 (-1) := hK.1.2.2.2.1
  have hst0 := hst
  obtain ⟨⟨s1, s2⟩, s3, -⟩ := hst
  obtain ⟨s4, s5⟩ := s3 wh hsf
  replace s1 : Y 207 (-1) = Y 206 (-1) := s1
  replace s4 : 0 ≤ Y 201 wh ∧ Y 201 wh < Y 206 (-1) := s4
  refine wJ_mono (hfs1_162_226 (d := d) (c := (K.2.1.length : Int)) (p := (K.2.1.getD (K.2.1.length - 1) (0, 0, 0, (0, 0, []), 0, 0, 0)).2.1) (h := (K.1.length : Int)) (ba := (ba : Int)) (l := l) (wh := wh) (fi := Y 201 wh) (es := es) (ty := (hmR ms wh).2.2.2.1) hP hl l4 l5 l7 l8 l9 l10 hx ⟨by omega, by omega⟩ hKC hwH h72 e48 hl12 he51 ⟨hsf.1.1, by omega⟩ a1 a2 rfl s1 ⟨s4.1, s4.2, s2⟩ rfl rfl (br_E hE ⟨Or.inl (by first | decide | omega), by decide⟩ rfl (by omega) (by omega)) (lr_E hE ⟨Or.inl (by first | decide | omega), by decide⟩ rfl (by omega) (by omega)) l13 hes a3 hty hkd) (fun o V hq => ?_)
  obtain ⟨rfl, hq⟩ := hq
  refine ⟨rfl, ?_⟩
  rcases hq with ⟨q1, hs⟩ | hq
  · have hstA : cStc 186 206 ms (sfU SF wh (K.1.getD (K.1.length - 1) (0, 0, []))) (w_up (w_up Y 206 (Y 201 wh) (Y 228 ((K.1.length : Int) - 1))) 207 (Y 201 wh) (Y 229 ((K.1.length : Int) - 1))) := cStc_w (m0 := 186) (r1 := 206) hst0 hsf (by first | decide | omega) hu
    have eA : cTx Y (w_up (w_up Y 206 (Y 201 wh) (Y 228 ((K.1.length : Int) - 1))) 207 (Y 201 wh) (Y 229 ((K.1.length : Int) - 1))) := cTx_of rfl (fun _ => rfl)
    have hKA := cTk_ag hK eA (fun j y hj => (w_up_slot (by omega)).trans (w_up_slot (by omega)))
    have hIA : gI (w_up (w_up Y 206 (Y 201 wh) (Y 228 ((K.1.length : Int) - 1))) 207 (Y 201 wh) (Y 229 ((K.1.length : Int) - 1))) := gI_up (gI_up hI s4.1 (by omega) (by first | decide | omega)) s4.1 (by omega) (by first | decide | omega)
    obtain ⟨⟨r1, r2⟩, r3⟩ := cGv (a := (K.1.getD (K.1.length - 1) (0, 0, []))) (by omega) hKA hIA k0 hba k1 hs (cVl_mo hu eA)
    refine Or.inl ⟨q1, r1.trans y16, r2, cStc_ag hstA (cTx_of (r3.1 2 1 (by first | decide | omega) (by first | decide | omega) (by first | decide | omega)) (fun i => r3.1 3 i (by first | decide | omega) (by first | decide | omega) (by first | decide | omega))) (fun j i hj => r3.1 j i (by omega) (by unfold wG; omega) (by omega)), cFm_fr r3 (fun j i j0 j1 _ j3 => ?_) (fun j j0 j1 => (w_up_no (by omega)).trans (w_up_no (by omega))) (rmR_up (rmR_up (rmR_rfl Y) s4.1 (by first | decide | omega)) s4.1 (by first | decide | omega))⟩
    unfold cMf at j3
    exact (w_up_no (by omega)).trans (w_up_no (by omega))
  · exact Or.inr hq)
theorem aht_162_226 {fi : Int} (h : rdC 226 kd ec ba gk gb es x l K T L G Y) (hKC : KC 176 186 182 203 204 163 162 HT cs ms os Y) (h72 : Y 72 1 = 162) (hl12 : l = 1 ∨ l = 2) (he51 : Y 51 x = wh) (hwH : wHo cs ms os) (hsf : isIf ms wh) (hfi : Y 201 wh = fi) (hgb : 0 ≤ gb ∧ gb < (T.length : Int)) (hfr : 0 ≤ fi ∧ fi < ((tO T gb).2.2.2.2.2.2.length : Int) ∧ fi ≤ 1000) (hes : 0 ≤ es ∧ es < 9 + (cs.length : Int)) (hty : 0 ≤ (hmR ms wh).2.2.2.1 ∧ (hmR ms wh).2.2.2.1 < 9 + (cs.length : Int)) (hkd : kd = 1) : wJ (pe_GA xs) wY0 (mS [228, 229]) (d + 9) t_XL_act ((pe_at t_XL_act.bl 0).getD (0, [])).2 [(0, (2, 158)), (1, (0, x))] [] Y (fun o V => o = .inl none ∧ ((gTB cs es (hmR ms wh).2.2.2.1 true = true ∧ V 226 16 = 0 ∧ cTk 226 V (kP K (K.1.length - ba) (K.1.getD (K.1.length - 1) (0, 0, []))) ∧ cWd V (tSp T gb fi.toNat (K.1.getD (K.1.length - 1) (0, 0, []))) L G ∧ cFm 226 cMv Y V) ∨ (gTB cs es (hmR ms wh).2.2.2.1 true = false ∧ w_up Y 226 16 7 = V))) := wJ_E (fun hE => by
  obtain ⟨⟨h, hW, hl, hT⟩, ⟨l4, l5, l7, l8, l9, l10, l12, l13⟩, y16, ⟨hx, e48⟩, hba⟩ := h
  have hP := xP_of (w := 226) (by omega) h
  rw [← w_up_eta y16] at hP
  obtain ⟨hTh, hCa, -, ⟨⟨m1, m2, m3, m4⟩, hl14, ⟨c0, c1⟩, hz16, hz10⟩, ⟨t1, t2, t3, t4⟩, -⟩ := id hW
  obtain ⟨hK, ⟨hC, hI⟩, ⟨k0, k1, -⟩, -⟩ := id h
  have hn4 := hKC.2.2.2.2.1.1
  obtain ⟨⟨-, a1, a2, a3⟩, -⟩ := mrA hKC.2.2.2.2.1 hsf.1
  have hw4 : wh < 400 := by have := hsf.1.2; omega
  replace a1 : Y 187 wh = _ := a1.trans hsf.2.1
  replace a2 : Y 188 wh = _ := a2.trans hsf.2.2

  have hu := c_at hK (i := K.1.length - 1) (by omega) (j := (K.1.length : Int) - 1) (by omega)
  replace hu : cVl Y (Y 228 ((K.1.length : Int) - 1)) (Y 229 ((K.1.length : Int) - 1)) (K.1.getD (K.1.length - 1) (0, 0, [])) := hu
  have p3 : (K.1.length : Int) ≤ Y 228 (-1) := hK.1.2.2.1
  have p4 : Y 229 (-1) = Y 228 (-1) := hK.1.2.2.2.1
  obtain ⟨⟨z1, z2⟩, z3⟩ := cell_v (hd := gb) (wh := fi) hW hgb ⟨hfr.1, hfr.2.1⟩
  refine wJ_mono (hfs0_162_226 (d := d) (c := (K.2.1.length : Int)) (p := (K.2.1.getD (K.2.1.length - 1) (0, 0, 0, (0, 0, []), 0, 0, 0)).2.1) (h := (K.1.length : Int)) (ba := (ba : Int)) (l := l) (wh := wh) (fi := fi) (st := Y 133 gb) (es := es) (ty := (hmR ms wh).2.2.2.1) hP hl l4 l5 l7 l8 l9 l10 hx ⟨by omega, by omega⟩ hKC hwH h72 e48 hl12 he51 ⟨hsf.1.1, by omega⟩ a1 a2 hfi t1 t4 hl14 ⟨hz16, hz10⟩ ⟨hgb.1, by omega⟩ rfl ⟨z1, hfr.1, hfr.2.2, by omega⟩ rfl rfl (br_E hE ⟨Or.inl (by first | decide | omega), by decide⟩ rfl (by omega) (by omega)) (lr_E hE ⟨Or.inl (by first | decide | omega), by decide⟩ rfl (by omega) (by omega)) l13 hes a3 hty hkd) (fun o V hq => ?_)
  obtain ⟨rfl, hq⟩ := hq
  refine ⟨rfl, ?_⟩
  rcases hq with ⟨q1, hs⟩ | hq
  · have ew : ((fi.toNat : Nat) : Int) = fi := by omega
    have hWA := cWd_sp (k := gb) (i := fi.toNat) hW hgb.1 hgb.2 (by omega) hu
    rw [ew] at hWA
    have eA : cTx Y (w_up (w_up Y 141 (Y 133 gb + fi) (Y 228 ((K.1.length : Int) - 1))) 142 (Y 133 gb + fi) (Y 229 ((K.1.length : Int) - 1))) := cTx_of rfl (fun _ => rfl)
    have hKA := cTk_ag hK eA (fun j y hj => (w_up_slot (by omega)).trans (w_up_slot (by omega)))
    have hIA : gI (w_up (w_up Y 141 (Y 133 gb + fi) (Y 228 ((K.1.length : Int) - 1))) 142 (Y 133 gb + fi) (Y 229 ((K.1.length : Int) - 1))) := gI_up (gI_up hI (by omega) (by omega) (by first | decide | omega)) (by omega) (by omega) (by first | decide | omega)
    obtain ⟨⟨r1, r2⟩, r3⟩ := cGv (a := (K.1.getD (K.1.length - 1) (0, 0, []))) (by omega) hKA hIA k0 hba k1 hs (cVl_mo hu eA)
    exact Or.inl ⟨q1, r1.trans y16, r2, cWd_fr (w := 226) (by omega) hWA r3, cFm_fr r3 (fun j i j0 j1 _ j3 => by unfold cMv at j3; exact (w_up_no (by omega)).trans (w_up_no (by omega))) (fun j j0 j1 => (w_up_no (by omega)).trans (w_up_no (by omega))) (rmR_up (rmR_up (rmR_rfl Y) (by omega) (by first | decide | omega)) (by omega) (by first | decide | omega))⟩
  · exact Or.inr hq)
end Wjk
