/-! PART je: acting at a site by tasks: texts: of the class. -/
section Wje
variable {xs : List (Nat × List Int32)} {d : Nat} {Y : wS} {K : aK} {T : List aO} {H : List aH} {L : List aC} {G : Int → aV} {x kd ec gk gb es hd wh e50 l : Int} {ba : Nat} {w : Nat} {V : wS} {a : aV}
/-- a part of a text -/
def sbL (x : List Int) (i j : Int) : List Int := (x.drop i.toNat).take (j - i).toNat
theorem sbL_l {x : List Int} {i j : Int} (h : 0 ≤ i ∧ i ≤ j ∧ j ≤ (x.length : Int)) : ((sbL x i j).length : Int) = j - i := by
  unfold sbL
  rw [List.length_take, List.length_drop]
  omega
theorem sbL_g {x : List Int} {i j : Int} (h : 0 ≤ i ∧ i ≤ j ∧ j ≤ (x.length : Int)) {k : Nat} (hk : (k : Int) < j - i) : (sbL x i j).getD k 0 = x.getD (i.toNat + k) 0 := by
  unfold sbL
  rw [List.getD_eq_getElem?_getD, List.getElem?_take, if_pos (by omega), List.getElem?_drop, ← List.getD_eq_getElem?_getD]
/-- a text is made by counting alone -/
def cMy (j : Nat) (x : Int) : Prop := j = 150 ∧ (x = 2 ∨ x = 3)
theorem cV_sb {s0 i j : Int} {x : List Int} (hb : gb = s0 * 4294967296 + (x.length : Int)) (h0 : 0 ≤ s0 ∧ s0 + (x.length : Int) ≤ Y 2 1) (hs : ∀ i : Nat, i < x.length → Y 3 (s0 + (i : Int)) = x.getD i 0) (h : 0 ≤ i ∧ i ≤ j ∧ j ≤ (x.length : Int)) : cVl Y 3 ((s0 + i) * 4294967296 + (j - i)) (3, 0, sbL x i j) := by
  refine ⟨rfl, fun z => absurd rfl z, fun _ => ⟨rfl, s0 + i, ?_, by omega, ?_, fun k hk => ?_⟩⟩
  · show _ = (s0 + i) * 4294967296 + ((sbL x i j).length : Int)
    rw [sbL_l h]
  · show s0 + i + ((sbL x i j).length : Int) ≤ _
    rw [sbL_l h]
    omega
  · replace hk : k < (sbL x i j).length := hk
    have := sbL_l h
    show _ = (sbL x i j).getD k 0
    rw [sbL_g h (by omega), ← hs (i.toNat + k) (by omega)]
    congr 1
    omega
/-- what a part of a text comes to -/
def sbP (w : Nat) (K : aK) (ba : Nat) (C : Prop) (x : List Int) (i j : Int) (Y V : wS) : Prop := (¬ C ∧ w_up Y w 16 6 = V) ∨ (C ∧ (12000 ≤ Y 150 2 ∨ 200000 < Y 150 3 + (j - i)) ∧ w_up Y w 16 99 = V) ∨ (C ∧ (Y 150 2 < 12000 ∧ Y 150 3 + (j - i) ≤ 200000) ∧ V w 16 = 0 ∧ cTk w V (kP K (K.1.length - ba) (3, 0, sbL x i j)) ∧ cFm w cMy Y V ∧ V 150 2 = Y 150 2 + 1 ∧ V 150 3 = Y 150 3 + (j - i))
theorem atz_215 (hx1 : pe_at (pe_GA xs).xs 1 = some (1, tx_1)) (h : rdC 215 kd ec ba gk gb es x 3 K T L G Y) (hgk : gk = 3) (hgv : cVl Y 3 gb (K.1.getD ba (0, 0, []))) (h21 : Y 2 1 ≤ 10000000) (hkd : kd = 0) : wJ (pe_GA xs) wY0 (mS [217, 218]) (d + 8) t_XL_act ((pe_at t_XL_act.bl 0).getD (0, [])).2 [(0, (2, 158)), (1, (0, x))] [] Y (fun o V => o = .inl none ∧ V 215 16 = 0 ∧ cTk 215 V (kP K (K.1.length - ba) (2, ((K.1.getD ba (0, 0, [])).2.2.length : Int), [])) ∧ cFr 215 Y V) := by
  obtain ⟨⟨h, hW, hl, hT⟩, ⟨l4, l5, l7, l8, l9, l10, l12, l13⟩, y16, ⟨hx, e48⟩, hba⟩ := h
  have hP := xP_of (w := 215) (by omega) h
  rw [← w_up_eta y16] at hP
  obtain ⟨hTh, hCa, -, ⟨⟨m1, m2, m3, m4⟩, hl14, ⟨c0, c1⟩, hz16, hz10⟩, ⟨t1, t2, t3, t4⟩, -⟩ := id hW
  obtain ⟨hK, ⟨hC, hI⟩, ⟨k0, k1, -⟩, -⟩ := id h
  obtain ⟨g0, s0, g1, g2, g3, g4⟩ := hgv.2.2 hgv.1.symm
  refine wJ_mono (xtsz_215 (d := d) (c := (K.2.1.length : Int)) (p := (K.2.1.getD (K.2.1.length - 1) (0, 0, 0, (0, 0, []), 0, 0, 0)).2.1) (h := (K.1.length : Int)) (ba := (ba : Int)) (s0 := s0) (ln := ((K.1.getD ba (0, 0, [])).2.2.length : Int)) hP hl l4 l5 l7 l8 l9 l10 hx ⟨by omega, by omega⟩ hx1 e48 hgk g1 ⟨g2, by omega, by omega⟩ hkd) (fun o V hq => ?_)
  obtain ⟨rfl, hs⟩ := hq
  obtain ⟨⟨r1, r2⟩, r3⟩ := cGv (a := (2, ((K.1.getD ba (0, 0, [])).2.2.length : Int), [])) (by omega) hK hI k0 hba k1 hs (cV_e (by first | decide | omega) rfl)
  exact ⟨rfl, r1.trans y16, r2, r3⟩
theorem sbO_215 {s0 i j : Int} (hK : cTk 215 Y K) (hI : gI Y) (k0 : 0 < K.2.1.length) (hba : ba < K.1.length) (k1 : K.1.length ≤ 2001) (y16 : Y 215 16 = 0) (g1 : gb = s0 * 4294967296 + ((K.1.getD ba (0, 0, [])).2.2.length : Int)) (g2 : 0 ≤ s0 ∧ s0 + ((K.1.getD ba (0, 0, [])).2.2.length : Int) ≤ Y 2 1) (g4 : ∀ i : Nat, i < (K.1.getD ba (0, 0, [])).2.2.length → Y 3 (s0 + (i : Int)) = (K.1.getD ba (0, 0, [])).2.2.getD i 0) (h : 0 ≤ i ∧ i ≤ j ∧ j ≤ ((K.1.getD ba (0, 0, [])).2.2.length : Int)) (hs : sO 215 (K.1.length : Int) (K.2.1.length : Int) (K.2.1.getD (K.2.1.length - 1) (0, 0, 0, (0, 0, []), 0, 0, 0)).2.1 ((K.1.length : Int) - (ba : Int)) 3 ((s0 + i) * 4294967296 + (j - i)) (w_up (w_up Y 150 2 (Y 150 2 + 1)) 150 3 (Y 150 3 + (j - i))) V) : V 215 16 = 0 ∧ cTk 215 V (kP K (K.1.length - ba) (3, 0, sbL (K.1.getD ba (0, 0, [])).2.2 i j)) ∧ cFm 215 cMy Y V ∧ V 150 2 = Y 150 2 + 1 ∧ V 150 3 = Y 150 3 + (j - i) := by
  have eA : cTx Y (w_up (w_up Y 150 2 (Y 150 2 + 1)) 150 3 (Y 150 3 + (j - i))) := cTx_of rfl (fun _ => rfl)
  have hKA := cTk_ag hK eA (fun j y hj => (w_up_slot (by omega)).trans (w_up_slot (by omega)))
  have hIA : gI (w_up (w_up Y 150 2 (Y 150 2 + 1)) 150 3 (Y 150 3 + (j - i))) := gI_up (gI_up hI (by first | decide | omega) (by first | decide | omega) (by first | decide | omega)) (by first | decide | omega) (by first | decide | omega) (by first | decide | omega)
  obtain ⟨⟨r1, r2⟩, r3⟩ := cGv (a := (3, 0, sbL (K.1.getD ba (0, 0, [])).2.2 i j)) (by omega) hKA hIA k0 hba k1 hs (cVl_mo (cV_sb g1 g2 g4 h) eA)
  exact ⟨r1.trans y16, r2, cFm_fr r3 (fun q z j0 j1 _ j3 => by unfold cMy at j3; exact (w_up_no (by omega)).trans (w_up_no (by omega))) (fun q j0 j1 => (w_up_at (by first | decide | omega)).trans (w_up_at (by first | decide | omega))) (rmR_up (rmR_up (rmR_rfl Y) (by first | decide | omega) (by first | decide | omega)) (by first | decide | omega) (by first | decide | omega)), (r3.1 150 2 (by first | decide | omega) (by first | decide | omega) (by first | decide | omega)).trans ((w_up_at (by first | decide | omega)).trans (w_up_same _ _ _ _)), (r3.1 150 3 (by first | decide | omega) (by first | decide | omega) (by first | decide | omega)).trans (w_up_same _ _ _ _)⟩
theorem atb_215 (hx1 : pe_at (pe_GA xs).xs 1 = some (1, tx_1)) (h : rdC 215 kd ec ba gk gb es x 3 K T L G Y) (hgk : gk = 3) (hgv : cVl Y 3 gb (K.1.getD ba (0, 0, []))) (h21 : Y 2 1 ≤ 10000000) (hkd : kd = 5) (hbl : ba + 3 = K.1.length) (hu2 : 0 ≤ Y 150 2 ∧ Y 150 2 ≤ 12000) (hu3 : 0 ≤ Y 150 3 ∧ Y 150 3 ≤ 200000) : wJ (pe_GA xs) wY0 (mS [217, 218]) (d + 8) t_XL_act ((pe_at t_XL_act.bl 0).getD (0, [])).2 [(0, (2, 158)), (1, (0, x))] [] Y (fun o V => o = .inl none ∧ sbP 215 K ba ((K.1.getD (ba + 1) (0, 0, [])).1 = 2 ∧ (K.1.getD (K.1.length - 1) (0, 0, [])).1 = 2 ∧ 0 ≤ (K.1.getD (ba + 1) (0, 0, [])).2.1 ∧ (K.1.getD (ba + 1) (0, 0, [])).2.1 ≤ (K.1.getD (K.1.length - 1) (0, 0, [])).2.1 ∧ (K.1.getD (K.1.length - 1) (0, 0, [])).2.1 ≤ ((K.1.getD ba (0, 0, [])).2.2.length : Int)) (K.1.getD ba (0, 0, [])).2.2 (K.1.getD (ba + 1) (0, 0, [])).2.1 (K.1.getD (K.1.length - 1) (0, 0, [])).2.1 Y V) := by
  obtain ⟨⟨h, hW, hl, hT⟩, ⟨l4, l5, l7, l8, l9, l10, l12, l13⟩, y16, ⟨hx, e48⟩, hba⟩ := h
  have hP := xP_of (w := 215) (by omega) h
  rw [← w_up_eta y16] at hP
  obtain ⟨hTh, hCa, -, ⟨⟨m1, m2, m3, m4⟩, hl14, ⟨c0, c1⟩, hz16, hz10⟩, ⟨t1, t2, t3, t4⟩, -⟩ := id hW
  obtain ⟨hK, ⟨hC, hI⟩, ⟨k0, k1, -⟩, -⟩ := id h
  obtain ⟨g0, s0, g1, g2, g3, g4⟩ := hgv.2.2 hgv.1.symm
  have hu1 := c_at hK (i := ba + 1) (by omega) (j := (ba : Int) + 1) (by omega)
  replace hu1 : cVl Y (Y 217 ((ba : Int) + 1)) (Y 218 ((ba : Int) + 1)) (K.1.getD (ba + 1) (0, 0, [])) := hu1
  have hu := c_at hK (i := K.1.length - 1) (by omega) (j := (K.1.length : Int) - 1) (by omega)
  replace hu : cVl Y (Y 217 ((K.1.length : Int) - 1)) (Y 218 ((K.1.length : Int) - 1)) (K.1.getD (K.1.length - 1) (0, 0, [])) := hu
  have e1 := hu1.1
  have e2 := hu.1
  obtain ⟨v1, hv1e, hv1c⟩ : ∃ v1 : Int, Y 218 ((ba : Int) + 1) = v1 ∧ ((K.1.getD (ba + 1) (0, 0, [])).1 = 2 → v1 = (K.1.getD (ba + 1) (0, 0, [])).2.1) := ⟨_, rfl, fun z => (hu1.2.1 (by omega)).1⟩
  obtain ⟨vl, hvle, hvlc⟩ : ∃ v1 : Int, Y 218 ((K.1.length : Int) - 1) = v1 ∧ ((K.1.getD (K.1.length - 1) (0, 0, [])).1 = 2 → v1 = (K.1.getD (K.1.length - 1) (0, 0, [])).2.1) := ⟨_, rfl, fun z => (hu.2.1 (by omega)).1⟩
  refine wJ_mono (xtsb_215 (d := d) (c := (K.2.1.length : Int)) (p := (K.2.1.getD (K.2.1.length - 1) (0, 0, 0, (0, 0, []), 0, 0, 0)).2.1) (h := (K.1.length : Int)) (ba := (ba : Int)) (s0 := s0) (ln := ((K.1.getD ba (0, 0, [])).2.2.length : Int)) (k1 := Y 217 ((ba : Int) + 1)) (v1 := v1) (kl := Y 217 ((K.1.length : Int) - 1)) (vl := vl) (u2 := Y 150 2) (u3 := Y 150 3) hP hl l4 l5 l7 l8 l9 l10 hx ⟨by omega, by omega⟩ hx1 e48 hgk g1 ⟨g2, by omega, by omega⟩ rfl hv1e (by omega) rfl hvle rfl rfl hu2 hu3 hkd) (fun o V hq => ?_)
  obtain ⟨rfl, hq⟩ := hq
  refine ⟨rfl, ?_⟩
  rcases hq with ⟨n1, n2⟩ | ⟨⟨n1, n2, n3, n4, n5⟩, n6, n7⟩ | ⟨⟨n1, n2, n3, n4, n5⟩, n6, n7, hs⟩
  · refine Or.inl ⟨fun c => n1 ?_, n2⟩
    rw [hv1c c.1, hvlc c.2.1]
    exact ⟨e1.trans c.1, e2.trans c.2.1, c.2.2⟩
  · have q1 := hv1c (e1.symm.trans n1)
    have q2 := hvlc (e2.symm.trans n2)
    rw [q1, q2] at n6
    exact Or.inr (Or.inl ⟨⟨e1.symm.trans n1, e2.symm.trans n2, by omega, by omega, by omega⟩, n6, n7⟩)
  · have q1 := hv1c (e1.symm.trans n1)
    have q2 := hvlc (e2.symm.trans n2)
    rw [q1, q2] at hs n7
    exact Or.inr (Or.inr ⟨⟨e1.symm.trans n1, e2.symm.trans n2, by omega, by omega, by omega⟩, ⟨n6, n7⟩, sbO_215 hK hI k0 hba k1 y16 g1 ⟨g2, g3⟩ g4 ⟨by omega, by omega, by omega⟩ hs⟩)
theorem atg_215 (hx1 : pe_at (pe_GA xs).xs 1 = some (1, tx_1)) (h : rdC 215 kd ec ba gk gb es x 3 K T L G Y) (hgk : gk = 3) (hgv : cVl Y 3 gb (K.1.getD ba (0, 0, []))) (h21 : Y 2 1 ≤ 10000000) (hkd : kd = 2) (hbl : ba + 2 = K.1.length) (hu2 : 0 ≤ Y 150 2 ∧ Y 150 2 ≤ 12000) (hu3 : 0 ≤ Y 150 3 ∧ Y 150 3 ≤ 200000) : wJ (pe_GA xs) wY0 (mS [217, 218]) (d + 8) t_XL_act ((pe_at t_XL_act.bl 0).getD (0, [])).2 [(0, (2, 158)), (1, (0, x))] [] Y (fun o V => o = .inl none ∧ sbP 215 K ba ((K.1.getD (ba + 1) (0, 0, [])).1 = 2 ∧ 0 ≤ (K.1.getD (ba + 1) (0, 0, [])).2.1 ∧ (K.1.getD (ba + 1) (0, 0, [])).2.1 < ((K.1.getD ba (0, 0, [])).2.2.length : Int)) (K.1.getD ba (0, 0, [])).2.2 (K.1.getD (ba + 1) (0, 0, [])).2.1 ((K.1.getD (ba + 1) (0, 0, [])).2.1 + 1) Y V) := wJ_E (fun hE => by
  obtain ⟨⟨h, hW, hl, hT⟩, ⟨l4, l5, l7, l8, l9, l10, l12, l13⟩, y16, ⟨hx, e48⟩, hba⟩ := h
  have hP := xP_of (w := 215) (by omega) h
  rw [← w_up_eta y16] at hP
  obtain ⟨hTh, hCa, -, ⟨⟨m1, m2, m3, m4⟩, hl14, ⟨c0, c1⟩, hz16, hz10⟩, ⟨t1, t2, t3, t4⟩, -⟩ := id hW
  obtain ⟨hK, ⟨hC, hI⟩, ⟨k0, k1, -⟩, -⟩ := id h
  obtain ⟨g0, s0, g1, g2, g3, g4⟩ := hgv.2.2 hgv.1.symm
  have hu1 := c_at hK (i := ba + 1) (by omega) (j := (ba : Int) + 1) (by omega)
  replace hu1 : cVl Y (Y 217 ((ba : Int) + 1)) (Y 218 ((ba : Int) + 1)) (K.1.getD (ba + 1) (0, 0, [])) := hu1
  have e1 := hu1.1
  have a3 : (K.1.length : Int) ≤ Y 217 (-1) := hK.1.2.2.1
  have a4 : Y 218 (-1) = Y 217 (-1) := hK.1.2.2.2.1
  have hr := lr_E (j := 218) (i := (ba : Int) + 1) hE ⟨Or.inl (by first | decide | omega), by decide⟩ rfl (by omega) (by omega)
  obtain ⟨v1, hv1e, hv1c⟩ : ∃ v1 : Int, Y 218 ((ba : Int) + 1) = v1 ∧ ((K.1.getD (ba + 1) (0, 0, [])).1 = 2 → v1 = (K.1.getD (ba + 1) (0, 0, [])).2.1) := ⟨_, rfl, fun z => (hu1.2.1 (by omega)).1⟩
  rw [hv1e] at hr
  have hto := w64_1 hr
  obtain ⟨to, hto1⟩ : ∃ to : Int, w64 (v1 + 1) = to := ⟨_, rfl⟩
  rw [hto1] at hto
  refine wJ_mono (xtge_215 (d := d) (c := (K.2.1.length : Int)) (p := (K.2.1.getD (K.2.1.length - 1) (0, 0, 0, (0, 0, []), 0, 0, 0)).2.1) (h := (K.1.length : Int)) (ba := (ba : Int)) (s0 := s0) (ln := ((K.1.getD ba (0, 0, [])).2.2.length : Int)) (k1 := Y 217 ((ba : Int) + 1)) (v1 := v1) (to := to) (u2 := Y 150 2) (u3 := Y 150 3) hP hl l4 l5 l7 l8 l9 l10 hx ⟨by omega, by omega⟩ hx1 e48 hgk g1 ⟨g2, by omega, by omega⟩ rfl hv1e (by omega) (by omega) hto1 rfl rfl hu2 hu3 hkd) (fun o V hq => ?_)
  obtain ⟨rfl, hq⟩ := hq
  refine ⟨rfl, ?_⟩
  rcases hq with ⟨n1, n2⟩ | ⟨⟨n1, n2, n3, n4, n5⟩, n6, n7⟩ | ⟨⟨n1, n2, n3, n4, n5⟩, n6, n7, hs⟩
  · refine Or.inl ⟨fun c => n1 ?_, n2⟩
    have q1 := hv1c c.1
    exact ⟨e1.trans c.1, e1.trans c.1, by omega, by omega, by omega⟩
  · have q1 := hv1c (e1.symm.trans n1)
    have q2 : to = (K.1.getD (ba + 1) (0, 0, [])).2.1 + 1 := by omega
    rw [q1, q2] at n6
    exact Or.inr (Or.inl ⟨⟨e1.symm.trans n1, by omega, by omega⟩, n6, n7⟩)
  · have q1 := hv1c (e1.symm.trans n1)
    have q2 : to = (K.1.getD (ba + 1) (0, 0, [])).2.1 + 1 := by omega
    rw [q1, q2] at hs n7
    exact Or.inr (Or.inr ⟨⟨e1.symm.trans n1, by omega, by omega⟩, ⟨n6, n7⟩, sbO_215 hK hI k0 hba k1 y16 g1 ⟨g2, g3⟩ g4 ⟨by omega, by omega, by omega⟩ hs⟩))
theorem atz_226 (hx1 : pe_at (pe_GA xs).xs 1 = some (1, tx_1)) (h : rdC 226 kd ec ba gk gb es x 3 K T L G Y) (hgk : gk = 3) (hgv : cVl Y 3 gb (K.1.getD ba (0, 0, []))) (h21 : Y 2 1 ≤ 10000000) (hkd : kd = 0) : wJ (pe_GA xs) wY0 (mS [228, 229]) (d + 8) t_XL_act ((pe_at t_XL_act.bl 0).getD (0, [])).2 [(0, (2, 158)), (1, (0, x))] [] Y (fun o V => o = .inl none ∧ V 226 16 = 0 ∧ cTk 226 V (kP K (K.1.length - ba) (2, ((K.1.getD ba (0, 0, [])).2.2.length : Int), [])) ∧ cFr 226 Y V) := by
  obtain ⟨⟨h, hW, hl, hT⟩, ⟨l4, l5, l7, l8, l9, l10, l12, l13⟩, y16, ⟨hx, e48⟩, hba⟩ := h
  have hP := xP_of (w := 226) (by omega) h
  rw [← w_up_eta y16] at hP
  obtain ⟨hTh, hCa, -, ⟨⟨m1, m2, m3, m4⟩, hl14, ⟨c0, c1⟩, hz16, hz10⟩, ⟨t1, t2, t3, t4⟩, -⟩ := id hW
  obtain ⟨hK, ⟨hC, hI⟩, ⟨k0, k1, -⟩, -⟩ := id h
  obtain ⟨g0, s0, g1, g2, g3, g4⟩ := hgv.2.2 hgv.1.symm
  refine wJ_mono (xtsz_226 (d := d) (c := (K.2.1.length : Int)) (p := (K.2.1.getD (K.2.1.length - 1) (0, 0, 0, (0, 0, []), 0, 0, 0)).2.1) (h := (K.1.length : Int)) (ba := (ba : Int)) (s0 := s0) (ln := ((K.1.getD ba (0, 0, [])).2.2.length : Int)) hP hl l4 l5 l7 l8 l9 l10 hx ⟨by omega, by omega⟩ hx1 e48 hgk g1 ⟨g2, by omega, by omega⟩ hkd) (fun o V hq => ?_)
  obtain ⟨rfl, hs⟩ := hq
  obtain ⟨⟨r1, r2⟩, r3⟩ := cGv (a := (2, ((K.1.getD ba (0, 0, [])).2.2.length : Int), [])) (by omega) hK hI k0 hba k1 hs (cV_e (by first | decide | omega) rfl)
  exact ⟨rfl, r1.trans y16, r2, r3⟩
theorem sbO_226 {s0 i j : Int} (hK : cTk 226 Y K) (hI : gI Y) (k0 : 0 < K.2.1.length) (hba : ba < K.1.length) (k1 : K.1.length ≤ 2001) (y16 : Y 226 16 = 0) (g1 : gb = s0 * 4294967296 + ((K.1.getD ba (0, 0, [])).2.2.length : Int)) (g2 : 0 ≤ s0 ∧ s0 + ((K.1.getD ba (0, 0, [])).2.2.length : Int) ≤ Y 2 1) (g4 : ∀ i : Nat, i < (K.1.getD ba (0, 0, [])).2.2.length → Y 3 (s0 + (i : Int)) = (K.1.getD ba (0, 0, [])).2.2.getD i 0) (h : 0 ≤ i ∧ i ≤ j ∧ j ≤ ((K.1.getD ba (0, 0, [])).2.2.length : Int)) (hs : sO 226 (K.1.length : Int) (K.2.1.length : Int) (K.2.1.getD (K.2.1.length - 1) (0, 0, 0, (0, 0, []), 0, 0, 0)).2.1 ((K.1.length : Int) - (ba : Int)) 3 ((s0 + i) * 4294967296 + (j - i)) (w_up (w_up Y 150 2 (Y 150 2 + 1)) 150 3 (Y 150 3 + (j - i))) V) : V 226 16 = 0 ∧ cTk 226 V (kP K (K.1.length - ba) (3, 0, sbL (K.1.getD ba (0, 0, [])).2.2 i j)) ∧ cFm 226 cMy Y V ∧ V 150 2 = Y 150 2 + 1 ∧ V 150 3 = Y 150 3 + (j - i) := by
  have eA : cTx Y (w_up (w_up Y 150 2 (Y 150 2 + 1)) 150 3 (Y 150 3 + (j - i))) := cTx_of rfl (fun _ => rfl)
  have hKA := cTk_ag hK eA (fun j y hj => (w_up_slot (by omega)).trans (w_up_slot (by omega)))
  have hIA : gI (w_up (w_up Y 150 2 (Y 150 2 + 1)) 150 3 (Y 150 3 + (j - i))) := gI_up (gI_up hI (by first | decide | omega) (by first | decide | omega) (by first | decide | omega)) (by first | decide | omega) (by first | decide | omega) (by first | decide | omega)
  obtain ⟨⟨r1, r2⟩, r3⟩ := cGv (a := (3, 0, sbL (K.1.getD ba (0, 0, [])).2.2 i j)) (by omega) hKA hIA k0 hba k1 hs (cVl_mo (cV_sb g1 g2 g4 h) eA)
  exact ⟨r1.trans y16, r2, cFm_fr r3 (fun q z j0 j1 _ j3 => by unfold cMy at j3; exact (w_up_no (by omega)).trans (w_up_no (by omega))) (fun q j0 j1 => (w_up_at (by first | decide | omega)).trans (w_up_at (by first | decide | omega))) (rmR_up (rmR_up (rmR_rfl Y) (by first | decide | omega) (by first | decide | omega)) (by first | decide | omega) (by first | decide | omega)), (r3.1 150 2 (by first | decide | omega) (by first | decide | omega) (by first | decide | omega)).trans ((w_up_at (by first | decide | omega)).trans (w_up_same _ _ _ _)), (r3.1 150 3 (by first | decide | omega) (by first | decide | omega) (by first | decide | omega)).trans (w_up_same _ _ _ _)⟩
theorem atb_226 (hx1 : pe_at (pe_GA xs).xs 1 = some (1, tx_1)) (h : rdC 226 kd ec ba gk gb es x 3 K T L G Y) (hgk : gk = 3) (hgv : cVl Y 3 gb (K.1.getD ba (0, 0, []))) (h21 : Y 2 1 ≤ 10000000) (hkd : kd = 5) (hbl : ba + 3 = K.1.length) (hu2 : 0 ≤ Y 150 2 ∧ Y 150 2 ≤ 12000) (hu3 : 0 ≤ Y 150 3 ∧ Y 150 3 ≤ 200000) : wJ (pe_GA xs) wY0 (mS [228, 229]) (d + 8) t_XL_act ((pe_at t_XL_act.bl 0).getD (0, [])).2 [(0, (2, 158)), (1, (0, x))] [] Y (fun o V => o = .inl none ∧ sbP 226 K ba ((K.1.getD (ba + 1) (0, 0, [])).1 = 2 ∧ (K.1.getD (K.1.length - 1) (0, 0, [])).1 = 2 ∧ 0 ≤ (K.1.getD (ba + 1) (0, 0, [])).2.1 ∧ (K.1.getD (ba + 1) (0, 0, [])).2.1 ≤ (K.1.getD (K.1.length - 1) (0, 0, [])).2.1 ∧ (K.1.getD (K.1.length - 1) (0, 0, [])).2.1 ≤ ((K.1.getD ba (0, 0, [])).2.2.length : Int)) (K.1.getD ba (0, 0, [])).2.2 (K.1.getD (ba + 1) (0, 0, [])).2.1 (K.1.getD (K.1.length - 1) (0, 0, [])).2.1 Y V) := by
  obtain ⟨⟨h, hW, hl, hT⟩, ⟨l4, l5, l7, l8, l9, l10, l12, l13⟩, y16, ⟨hx, e48⟩, hba⟩ := h
  have hP := xP_of (w := 226) (by omega) h
  rw [← w_up_eta y16] at hP
  obtain ⟨hTh, hCa, -, ⟨⟨m1, m2, m3, m4⟩, hl14, ⟨c0, c1⟩, hz16, hz10⟩, ⟨t1, t2, t3, t4⟩, -⟩ := id hW
  obtain ⟨hK, ⟨hC, hI⟩, ⟨k0, k1, -⟩, -⟩ := id h
  obtain ⟨g0, s0, g1, g2, g3, g4⟩ := hgv.2.2 hgv.1.symm
  have hu1 := c_at hK (i := ba + 1) (by omega) (j := (ba : Int) + 1) (by omega)
  replace hu1 : cVl Y (Y 228 ((ba : Int) + 1)) (Y 229 ((ba : Int) + 1)) (K.1.getD (ba + 1) (0, 0, [])) := hu1
  have hu := c_at hK (i := K.1.length - 1) (by omega) (j := (K.1.length : Int) - 1) (by omega)
  replace hu : cVl Y (Y 228 ((K.1.length : Int) - 1)) (Y 229 ((K.1.length : Int) - 1)) (K.1.getD (K.1.length - 1) (0, 0, [])) := hu
  have e1 := hu1.1
  have e2 := hu.1
  obtain ⟨v1, hv1e, hv1c⟩ : ∃ v1 : Int, Y 229 ((ba : Int) + 1) = v1 ∧ ((K.1.getD (ba + 1) (0, 0, [])).1 = 2 → v1 = (K.1.getD (ba + 1) (0, 0, [])).2.1) := ⟨_, rfl, fun z => (hu1.2.1 (by omega)).1⟩
  obtain ⟨vl, hvle, hvlc⟩ : ∃ v1 : Int, Y 229 ((K.1.length : Int) - 1) = v1 ∧ ((K.1.getD (K.1.length - 1) (0, 0, [])).1 = 2 → v1 = (K.1.getD (K.1.length - 1) (0, 0, [])).2.1) := ⟨_, rfl, fun z => (hu.2.1 (by omega)).1⟩
  refine wJ_mono (xtsb_226 (d := d) (c := (K.2.1.length : Int)) (p := (K.2.1.getD (K.2.1.length - 1) (0, 0, 0, (0, 0, []), 0, 0, 0)).2.1) (h := (K.1.length : Int)) (ba := (ba : Int)) (s0 := s0) (ln := ((K.1.getD ba (0, 0, [])).2.2.length : Int)) (k1 := Y 228 ((ba : Int) + 1)) (v1 := v1) (kl := Y 228 ((K.1.length : Int) - 1)) (vl := vl) (u2 := Y 150 2) (u3 := Y 150 3) hP hl l4 l5 l7 l8 l9 l10 hx ⟨by omega, by omega⟩ hx1 e48 hgk g1 ⟨g2, by omega, by omega⟩ rfl hv1e (by omega) rfl hvle rfl rfl hu2 hu3 hkd) (fun o V hq => ?_)
  obtain ⟨rfl, hq⟩ := hq
  refine ⟨rfl, ?_⟩
  rcases hq with ⟨n1, n2⟩ | ⟨⟨n1, n2, n3, n4, n5⟩, n6, n7⟩ | ⟨⟨n1, n2, n3, n4, n5⟩, n6, n7, hs⟩
  · refine Or.inl ⟨fun c => n1 ?_, n2⟩
    rw [hv1c c.1, hvlc c.2.1]
    exact ⟨e1.trans c.1, e2.trans c.2.1, c.2.2⟩
  · have q1 := hv1c (e1.symm.trans n1)
    have q2 := hvlc (e2.symm.trans n2)
    rw [q1, q2] at n6
    exact Or.inr (Or.inl ⟨⟨e1.symm.trans n1, e2.symm.trans n2, by omega, by omega, by omega⟩, n6, n7⟩)
  · have q1 := hv1c (e1.symm.trans n1)
    have q2 := hvlc (e2.symm.trans n2)
    rw [q1, q2] at hs n7
    exact Or.inr (Or.inr ⟨⟨e1.symm.trans n1, e2.symm.trans n2, by omega, by omega, by omega⟩, ⟨n6, n7⟩, sbO_226 hK hI k0 hba k1 y16 g1 ⟨g2, g3⟩ g4 ⟨by omega, by omega, by omega⟩ hs⟩)
theorem atg_226 (hx1 : pe_at (pe_GA xs).xs 1 = some (1, tx_1)) (h : rdC 226 kd ec ba gk gb es x 3 K T L G Y) (hgk : gk = 3) (hgv : cVl Y 3 gb (K.1.getD ba (0, 0, []))) (h21 : Y 2 1 ≤ 10000000) (hkd : kd = 2) (hbl : ba + 2 = K.1.length) (hu2 : 0 ≤ Y 150 2 ∧ Y 150 2 ≤ 12000) (hu3 : 0 ≤ Y 150 3 ∧ Y 150 3 ≤ 200000) : wJ (pe_GA xs) wY0 (mS [228, 229]) (d + 8) t_XL_act ((pe_at t_XL_act.bl 0).getD (0, [])).2 [(0, (2, 158)), (1, (0, x))] [] Y (fun o V => o = .inl none ∧ sbP 226 K ba ((K.1.getD (ba + 1) (0, 0, [])).1 = 2 ∧ 0 ≤ (K.1.getD (ba + 1) (0, 0, [])).2.1 ∧ (K.1.getD (ba + 1) (0, 0, [])).2.1 < ((K.1.getD ba (0, 0, [])).2.2.length : Int)) (K.1.getD ba (0, 0, [])).2.2 (K.1.getD (ba + 1) (0, 0, [])).2.1 ((K.1.getD (ba + 1) (0, 0, [])).2.1 + 1) Y V) := wJ_E (fun hE => by
  obtain ⟨⟨h, hW, hl, hT⟩, ⟨l4, l5, l7, l8, l9, l10, l12, l13⟩, y16, ⟨hx, e48⟩, hba⟩ := h
  have hP := xP_of (w := 226) (by omega) h
  rw [← w_up_eta y16] at hP
  obtain ⟨hTh, hCa, -, ⟨⟨m1, m2, m3, m4⟩, hl14, ⟨c0, c1⟩, hz16, hz10⟩, ⟨t1, t2, t3, t4⟩, -⟩ := id hW
  obtain ⟨hK, ⟨hC, hI⟩, ⟨k0, k1, -⟩, -⟩ := id h
  obtain ⟨g0, s0, g1, g2, g3, g4⟩ := hgv.2.2 hgv.1.symm
  have hu1 := c_at hK (i := ba + 1) (by omega) (j := (ba : Int) + 1) (by omega)
  replace hu1 : cVl Y (Y 228 ((ba : Int) + 1)) (Y 229 ((ba : Int) + 1)) (K.1.getD (ba + 1) (0, 0, [])) := hu1
  have e1 := hu1.1
  have a3 : (K.1.length : Int) ≤ Y 228 (-1) := hK.1.2.2.1
  have a4 : Y 229 (-1) = Y 228 (-1) := hK.1.2.2.2.1
  have hr := lr_E (j := 229) (i := (ba : Int) + 1) hE ⟨Or.inl (by first | decide | omega), by decide⟩ rfl (by omega) (by omega)
  obtain ⟨v1, hv1e, hv1c⟩ : ∃ v1 : Int, Y 229 ((ba : Int) + 1) = v1 ∧ ((K.1.getD (ba + 1) (0, 0, [])).1 = 2 → v1 = (K.1.getD (ba + 1) (0, 0, [])).2.1) := ⟨_, rfl, fun z => (hu1.2.1 (by omega)).1⟩
  rw [hv1e] at hr
  have hto := w64_1 hr
  obtain ⟨to, hto1⟩ : ∃ to : Int, w64 (v1 + 1) = to := ⟨_, rfl⟩
  rw [hto1] at hto
  refine wJ_mono (xtge_226 (d := d) (c := (K.2.1.length : Int)) (p := (K.2.1.getD (K.2.1.length - 1) (0, 0, 0, (0, 0, []), 0, 0, 0)).2.1) (h := (K.1.length : Int)) (ba := (ba : Int)) (s0 := s0) (ln := ((K.1.getD ba (0, 0, [])).2.2.length : Int)) (k1 := Y 228 ((ba : Int) + 1)) (v1 := v1) (to := to) (u2 := Y 150 2) (u3 := Y 150 3) hP hl l4 l5 l7 l8 l9 l10 hx ⟨by omega, by omega⟩ hx1 e48 hgk g1 ⟨g2, by omega, by omega⟩ rfl hv1e (by omega) (by omega) hto1 rfl rfl hu2 hu3 hkd) (fun o V hq => ?_)
  obtain ⟨rfl, hq⟩ := hq
  refine ⟨rfl, ?_⟩
  rcases hq with ⟨n1, n2⟩ | ⟨⟨n1, n2, n3, n4, n5⟩, n6, n7⟩ | ⟨⟨n1, n2, n3, n4, n5⟩, n6, n7, hs⟩
  · refine Or.inl ⟨fun c => n1 ?_, n2⟩
    have q1 := hv1c c.1
    exact ⟨e1.trans c.1, e1.trans c.1, by omega, by omega, by omega⟩
  · have q1 := hv1c (e1.symm.trans n1)
    have q2 : to = (K.1.getD (ba + 1) (0, 0, [])).2.1 + 1 := by omega
    rw [q1, q2] at n6
    exact Or.inr (Or.inl ⟨⟨e1.symm.trans n1, by omega, by omega⟩, n6, n7⟩)
  · have q1 := hv1c (e1.symm.trans n1)
    have q2 : to = (K.1.getD (ba + 1) (0, 0, [])).2.1 + 1 := by omega
    rw [q1, q2] at hs n7
    exact Or.inr (Or.inr ⟨⟨e1.symm.trans n1, by omega, by omega⟩, ⟨n6, n7⟩, sbO_226 hK hI k0 hba k1 y16 g1 ⟨g2, g3⟩ g4 ⟨by omega, by omega, by omega⟩ hs⟩))
end Wje
