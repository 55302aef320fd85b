/-! PART jn: acting at a site by tasks: fields of hosts: of the reference. -/
section Wjn
variable {xs : List (Nat × List Int32)} {M : Nat → Prop} {d : Nat} {Y : wS} {K : aK} {T : List aO} {H : List aH} {L : List aC} {G : Int → aV} {sl : Nat → List Int} {t s kd gk gb es hd wh e50 l : Int} {ba : Nat} {HT : Int → Int} {cs : List hCR} {ms : List hMR} {os : Int → List Int} {SF : Int → aV} {tr : List Int} {nT : Int} {Z C : wS}
theorem ir_E {S : wS} {j : Nat} (hE : ∃ ad hp, w_E wY0 ad S hp) (hp : w_pr wY0 S j) (ht : wY0.ty j = 0) {i : Int} (h0 : 0 ≤ i) (h1 : i < S j (-1)) : -2147483648 ≤ S j i ∧ S j i ≤ 2147483647 := by
  obtain ⟨ad0, hp0, hE0⟩ := hE
  obtain ⟨n, c, a1, a2, a3⟩ := w_ari hE0 hp ht (by omega) (by omega)
  obtain ⟨b1, b2, b3, b4⟩ := w_in a2 h0 h1
  have := (a3 _ b3).2
  rw [b4] at this
  exact this
/-- a field's place among the fields of a class -/
def fPl (cs : List hCR) (ms : List hMR) (c wh fi : Int) : Prop := (0 ≤ c ∧ c < (cs.length : Int)) ∧ (flA cs ms c).length ≤ 400 ∧ (0 ≤ fi ∧ fi < ((flA cs ms c).length : Int)) ∧ (flA cs ms c).getD fi.toNat 0 = wh ∧ ∀ i : Nat, i < fi.toNat → (flA cs ms c).getD i 0 ≠ wh
def rMg (wh : Int) (j : Nat) (x : Int) : Prop := (j = 340 ∨ j = 341) ∧ x = wh
theorem rStc_ag {S : wS} (h : rStc ms SF S) (e : rTx S Z) (f : ∀ (j : Nat) (x : Int), j = 340 ∨ j = 341 → Z j x = S j x) : rStc ms SF Z := fun m hm => by
  rw [f 340 m (Or.inl rfl), f 341 m (Or.inr rfl)]
  exact rVl_mo (h m hm) e
theorem rStc_w {S : wS} {m k v : Int} {u : aV} (h : rStc ms SF S) (hv : rVl S k v u) : rStc ms (sfU SF m u) (w_up (w_up S 340 m k) 341 m v) := fun q hq => by
  have eT : rTx S (w_up (w_up S 340 m k) 341 m v) := rTx_of rfl rfl (fun j x j0 j1 => (w_up_slot (by omega)).trans (w_up_slot (by omega)))
  by_cases c : q = m
  · rw [c, (w_up_slot (by first | decide | omega) : (w_up (w_up S 340 m k) 341 m v) 340 m = _), w_up_same, w_up_same, show sfU SF m u m = u from if_pos rfl]
    exact rVl_mo hv eT
  · rw [w_up_at c, w_up_at c, w_up_at c, w_up_at c, show sfU SF m u q = SF q from if_neg c]
    exact rVl_mo (h q hq) eT
/-- a state that differs where nothing is kept, then a value is given -/
theorem fi_tk (hK : rTk t Y K) (hW : rWd Y sl T L G) (h : ∀ (j : Nat) (x : Int), ¬ fiM j x → C j x = Y j x) : rTx Y C ∧ rTk t C K ∧ rWd C sl T L G ∧ rTf t Y C := by
  have f2 : ∀ (j : Nat) (x : Int), (j ≠ 356 ∧ (j ≠ 237 ∨ (x ≠ 130 ∧ x ≠ 110 ∧ x ≠ 111))) → C j x = Y j x := fun j x hj => h j x (by unfold fiM flM; omega)
  have eT : rTx Y C := rTx_of (f2 237 19 (by first | decide | omega)) (f2 237 102 (by first | decide | omega)) (fun j x j0 j1 => f2 j x (by omega))
  exact ⟨eT, rTk_fr hK eT (fun j x j0 j1 => f2 j x (by omega)), rWd_ag hW eT (fun j x hj => f2 j x (by unfold rWo at hj; omega)), fun j x o => f2 j x (by unfold rOut at o; omega)⟩
theorem rhgT_241 {ho sh : Int} (h : rdR t kd ba gk gb es l ho wh sh K T sl L G Y) (hKR : KR 241 HT nT cs ms Y) (hwH : wHo cs ms os) (hsf : isSf ms wh) (hst : rStc ms SF Y) (hkd : kd = 0) : wJ (pe_GA xs) wY0 M (d + 4) t_M_actsOnHost ((pe_at t_M_actsOnHost.bl 0).getD (0, [])).2 [(0, (2, 237)), (1, (0, kd))] [] Y (fun o Z => o = .inl none ∧ rTk t Z (kP K (K.1.length - ba) (SF wh)) ∧ rWd Z sl T L G ∧ rTf t Y Z) := wJ_E (fun hE => by
  obtain ⟨⟨hP, hK, hW, ht⟩, hKl, ⟨hT, h82, hll⟩, ⟨h73, hba, h74, h75, h76⟩, h66, h69, h70, h71⟩ := h
  obtain ⟨hTh, hCa, -, ⟨hL8, h94⟩, -⟩ := id hW
  have k0 := hKl.1
  have hn4 := hKR.2.1.2.2.2
  have hbb : 0 ≤ (ba : Int) ∧ (ba : Int) < (K.1.length : Int) := ⟨by omega, by omega⟩
  have hw4 : wh < 400 := by have := hsf.1.2; omega
  have hs0 := hsf.1.1
  refine wJ_mono (rhg1_241 (d := d) (c := 0) (gb := 0) (vk := Y 340 wh) (vb := Y 341 wh) hP.1 hKR hwH hP h73 hbb h70 hsf.1 hsf.2.1 hsf.2.2 (ir_E hE ⟨Or.inl (by first | decide | omega), by decide⟩ rfl hs0 (by rw [ml_340 hP.1]; omega)) (lr_E hE ⟨Or.inl (by first | decide | omega), by decide⟩ rfl hs0 (by rw [ml_341 hP.1]; omega)) rfl rfl hkd) (fun o Z hq => ?_)
  obtain ⟨rfl, C, hC2, rfl⟩ := hq
  obtain ⟨e1, e2, e3, e4⟩ := fi_tk hK hW hC2
  exact ⟨rfl, rTk_gv e2 ht hKl.1 (by omega) (rVl_mo (hst wh hsf) e1), gvZ_w e3, fun j x o => (gvZ_f ht ⟨hKl.1, hKl.2.1⟩ (by omega) j x o).trans (e4 j x o)⟩)
theorem rhiT_241 {c fi : Int} {ho sh : Int} (h : rdR t kd ba gk gb es l ho wh sh K T sl L G Y) (hKR : KR 241 HT nT cs ms Y) (hwH : wHo cs ms os) (hsf : isIf ms wh) (hgb : 0 ≤ gb ∧ gb < (T.length : Int)) (hg7 : (tO T gb).1 = 7 ∧ (tO T gb).2.2.1 = c) (hpl : fPl cs ms c wh fi) (hfr : 0 ≤ fi ∧ fi < ((tO T gb).2.2.2.2.2.2.length : Int)) (hkd : kd = 0) : wJ (pe_GA xs) wY0 M (d + 4) t_M_actsOnHost ((pe_at t_M_actsOnHost.bl 0).getD (0, [])).2 [(0, (2, 237)), (1, (0, kd))] [] Y (fun o Z => o = .inl none ∧ rTk t Z (kP K (K.1.length - ba) (gvA T gb fi)) ∧ rWd Z sl T L G ∧ rTf t Y Z) := wJ_E (fun hE => by
  obtain ⟨⟨hP, hK, hW, ht⟩, hKl, ⟨hT, h82, hll⟩, ⟨h73, hba, h74, h75, h76⟩, h66, h69, h70, h71⟩ := h
  obtain ⟨hTh, hCa, -, ⟨hL8, h94⟩, -⟩ := id hW
  have k0 := hKl.1
  have hn4 := hKR.2.1.2.2.2
  have hbb : 0 ≤ (ba : Int) ∧ (ba : Int) < (K.1.length : Int) := ⟨by omega, by omega⟩
  obtain ⟨p1, p2, p3, p4, p5⟩ := hpl
  obtain ⟨⟨-, -, -, y21, -⟩, ⟨b1, b2⟩, b3, b4, -⟩ := hTh.2 gb.toNat (by omega)
  rw [show ((gb.toNat : Nat) : Int) = gb by omega] at y21 b1 b3
  replace y21 : Y 321 gb = (if (tO T gb).1 = 7 then (tO T gb).2.2.1 else -1) := y21
  rw [if_pos hg7.1, hg7.2] at y21
  replace b2 : (sl gb.toNat).length = (tO T gb).2.2.2.2.2.2.length := b2
  replace b1 : Y 317 gb = ((tO T gb).2.2.2.2.2.2.length : Int) := b1
  obtain ⟨⟨z1, z2⟩, z3, z4⟩ := slot_v (hd := gb) (wh := fi) hW hgb h82 hfr
  refine wJ_mono (rhg0_241 (d := d) (c := c) (k := fi.toNat) (l := sl gb.toNat) (gb := gb) (vk := Y 325 ((sl gb.toNat).getD fi.toNat 0)) (vb := Y 326 ((sl gb.toNat).getD fi.toNat 0)) hP.1 hKR hwH hP h73 hbb h70 hsf.1 hsf.2.1 hsf.2.2 (ir_E hE ⟨Or.inl (by first | decide | omega), by decide⟩ rfl z3.1 (by rw [ml_325 hP.1]; exact z3.2)) (s_lr hE hP.1 z3.1 z3.2) p1 p2 (by omega) p4 p5 h75 ⟨hgb.1, by omega⟩ y21 z2 (by omega) (hll _ (by omega)) rfl rfl hkd) (fun o Z hq => ?_)
  obtain ⟨rfl, C, hC2, rfl⟩ := hq
  obtain ⟨e1, e2, e3, e4⟩ := fi_tk hK hW hC2
  exact ⟨rfl, rTk_gv e2 ht hKl.1 (by omega) (rVl_mo z4 e1), gvZ_w e3, fun j x o => (gvZ_f ht ⟨hKl.1, hKl.2.1⟩ (by omega) j x o).trans (e4 j x o)⟩)
theorem rhsT_241 {ho sh : Int} (h : rdR t kd ba gk gb es l ho wh sh K T sl L G Y) (hKR : KR 241 HT nT cs ms Y) (hwH : wHo cs ms os) (hsf : isSf ms wh) (hst : rStc ms SF Y) (hbl : ba + 2 = K.1.length) (hvu : vOk T (K.1.getD (K.1.length - 1) (0, 0, [])) ∧ ((K.1.getD (K.1.length - 1) (0, 0, [])).1 = 7 → (tO T (K.1.getD (K.1.length - 1) (0, 0, [])).2.1).2.2.1 < (cs.length : Int))) (hkd : kd = 1) : wJ (pe_GA xs) wY0 M (d + 4) t_M_actsOnHost ((pe_at t_M_actsOnHost.bl 0).getD (0, [])).2 [(0, (2, 237)), (1, (0, kd))] [] Y (fun o Z => (gTB cs (clO T (K.1.getD (K.1.length - 1) (0, 0, []))) (hmR ms wh).2.2.2.1 true = true ∧ o = .inl none ∧ rTk t Z (kP K (K.1.length - ba) (K.1.getD (K.1.length - 1) (0, 0, []))) ∧ rWd Z sl T L G ∧ rTm t (rMg wh) Y Z ∧ rStc ms (sfU SF wh (K.1.getD (K.1.length - 1) (0, 0, []))) Z) ∨ (gTB cs (clO T (K.1.getD (K.1.length - 1) (0, 0, []))) (hmR ms wh).2.2.2.1 true = false ∧ o = .inr 238 ∧ hZ 7 Y = Z)) := wJ_E (fun hE => by
  obtain ⟨⟨hP, hK, hW, ht⟩, hKl, ⟨hT, h82, hll⟩, ⟨h73, hba, h74, h75, h76⟩, h66, h69, h70, h71⟩ := h
  obtain ⟨hTh, hCa, -, ⟨hL8, h94⟩, -⟩ := id hW
  have k0 := hKl.1
  have hn4 := hKR.2.1.2.2.2
  have hbb : 0 ≤ (ba : Int) ∧ (ba : Int) < (K.1.length : Int) := ⟨by omega, by omega⟩
  have hu : rVl Y (Y 363 (2100 * t + (ba : Int) + 1)) (Y 364 (2100 * t + (ba : Int) + 1)) (K.1.getD (K.1.length - 1) (0, 0, [])) := by
    have z := hK.1.2 (ba + 1) (by omega)
    rw [show 2100 * t + ((ba + 1 : Nat) : Int) = 2100 * t + (ba : Int) + 1 by omega, show ba + 1 = K.1.length - 1 by omega] at z
    exact z
  have ecl := clR_e hu hTh hvu.1
  have h7 : Y 363 (2100 * t + (ba : Int) + 1) = 7 → 0 ≤ Y 364 (2100 * t + (ba : Int) + 1) ∧ Y 364 (2100 * t + (ba : Int) + 1) < 8000 ∧ 0 ≤ Y 321 (Y 364 (2100 * t + (ba : Int) + 1)) ∧ Y 321 (Y 364 (2100 * t + (ba : Int) + 1)) < (cs.length : Int) := fun c => by
    have c7 : (K.1.getD (K.1.length - 1) (0, 0, [])).1 = 7 := hu.1.symm.trans c
    have eb := (hu.2.1 (by omega)).1
    obtain ⟨x1, x2⟩ := hvu.1.2.1 (by omega) (by omega)
    rw [eb]
    obtain ⟨⟨-, -, -, y3, -⟩, -⟩ := hTh.2 (K.1.getD (K.1.length - 1) (0, 0, [])).2.1.toNat (by omega)
    rw [show (((K.1.getD (K.1.length - 1) (0, 0, [])).2.1.toNat : Nat) : Int) = (K.1.getD (K.1.length - 1) (0, 0, [])).2.1 by omega] at y3
    replace y3 : Y 321 (K.1.getD (K.1.length - 1) (0, 0, [])).2.1 = (if (tO T (K.1.getD (K.1.length - 1) (0, 0, [])).2.1).1 = 7 then (tO T (K.1.getD (K.1.length - 1) (0, 0, [])).2.1).2.2.1 else -1) := y3
    rw [if_pos (x2.trans c7)] at y3
    rw [y3]
    exact ⟨x1.1, by omega, (hvu.1.2.2.2.1 c7).1, hvu.2 c7⟩
  refine wJ_mono (rhs1_241 (d := d) (c := 0) (gb := 0) (k1 := Y 363 (2100 * t + (ba : Int) + 1)) (v1 := Y 364 (2100 * t + (ba : Int) + 1)) (ty := (hmR ms wh).2.2.2.1) hP.1 hKR hwH hP h73 hbb h70 hsf.1 hsf.2.1 hsf.2.2 rfl rfl (by omega) (by rw [hu.1]; exact hvu.1.1) (p_lr hE hP.1 (by omega) (by omega)) h7 rfl hkd) (fun o Z hq => ?_)
  rw [ecl] at hq
  rcases hq with ⟨q1, rfl, C, rfl, rfl⟩ | hq
  · have eC : rTx Y (w_up (w_up Y 340 wh (Y 363 (2100 * t + (ba : Int) + 1))) 341 wh (Y 364 (2100 * t + (ba : Int) + 1))) := rTx_of rfl rfl (fun j x j0 j1 => (w_up_slot (by omega)).trans (w_up_slot (by omega)))
    have hKC := rTk_fr hK eC (fun j x j0 j1 => (w_up_slot (by omega)).trans (w_up_slot (by omega)))
    have hWC := rWd_ag hW eC (fun j x hj => by unfold rWo at hj; exact (w_up_slot (by omega)).trans (w_up_slot (by omega)))
    have hsC := rStc_w (m := wh) hst hu
    have g6 : ∀ (q : Nat) (y : Int), q < 357 → gvZ t (ba : Int) (200 * t + (K.2.1.length : Int) - 1) (K.2.1.getD (K.2.1.length - 1) (0, 0, 0, (0, 0, []), 0, 0, 0)).2.1 (Y 363 (2100 * t + (ba : Int) + 1)) (Y 364 (2100 * t + (ba : Int) + 1)) (w_up (w_up Y 340 wh (Y 363 (2100 * t + (ba : Int) + 1))) 341 wh (Y 364 (2100 * t + (ba : Int) + 1))) q y = (w_up (w_up Y 340 wh (Y 363 (2100 * t + (ba : Int) + 1))) 341 wh (Y 364 (2100 * t + (ba : Int) + 1))) q y := fun q y q0 => (w_up_slot (by omega)).trans ((w_up_slot (by omega)).trans ((w_up_slot (by omega)).trans ((w_up_slot (by omega)).trans (w_up_slot (by omega)))))
    refine Or.inl ⟨q1, rfl, rTk_gv hKC ht hKl.1 (by omega) (rVl_mo hu eC), gvZ_w hWC, fun j x o n => ?_, rStc_ag hsC (rTx_of (g6 237 19 (by first | decide | omega)) (g6 237 102 (by first | decide | omega)) (fun j x j0 j1 => g6 j x (by omega))) (fun j x hj => g6 j x (by omega))⟩
    refine (gvZ_f ht ⟨hKl.1, hKl.2.1⟩ (by omega) j x o).trans ?_
    unfold rMg at n
    exact (w_up_no (by omega)).trans (w_up_no (by omega))
  · exact Or.inr hq)
theorem rhjT_241 {c fi : Int} {ho sh : Int} (h : rdR t kd ba gk gb es l ho wh sh K T sl L G Y) (hKR : KR 241 HT nT cs ms Y) (hwH : wHo cs ms os) (hsf : isIf ms wh) (hgb : 0 ≤ gb ∧ gb < (T.length : Int)) (hg7 : (tO T gb).1 = 7 ∧ (tO T gb).2.2.1 = c) (hpl : fPl cs ms c wh fi) (hfr : 0 ≤ fi ∧ fi < ((tO T gb).2.2.2.2.2.2.length : Int)) (hbl : ba + 2 = K.1.length) (hvu : vOk T (K.1.getD (K.1.length - 1) (0, 0, [])) ∧ ((K.1.getD (K.1.length - 1) (0, 0, [])).1 = 7 → (tO T (K.1.getD (K.1.length - 1) (0, 0, [])).2.1).2.2.1 < (cs.length : Int))) (hkd : kd = 1) : wJ (pe_GA xs) wY0 M (d + 4) t_M_actsOnHost ((pe_at t_M_actsOnHost.bl 0).getD (0, [])).2 [(0, (2, 237)), (1, (0, kd))] [] Y (fun o Z => (gTB cs (clO T (K.1.getD (K.1.length - 1) (0, 0, []))) (hmR ms wh).2.2.2.1 true = true ∧ o = .inl none ∧ rTk t Z (kP K (K.1.length - ba) (K.1.getD (K.1.length - 1) (0, 0, []))) ∧ rWd Z sl (tSp T gb fi.toNat (K.1.getD (K.1.length - 1) (0, 0, []))) L G ∧ rTm t rMv Y Z) ∨ (gTB cs (clO T (K.1.getD (K.1.length - 1) (0, 0, []))) (hmR ms wh).2.2.2.1 true = false ∧ o = .inr 238 ∧ hZ 7 Y = Z)) := wJ_E (fun hE => by
  obtain ⟨⟨hP, hK, hW, ht⟩, hKl, ⟨hT, h82, hll⟩, ⟨h73, hba, h74, h75, h76⟩, h66, h69, h70, h71⟩ := h
  obtain ⟨hTh, hCa, -, ⟨hL8, h94⟩, -⟩ := id hW
  have k0 := hKl.1
  have hn4 := hKR.2.1.2.2.2
  have hbb : 0 ≤ (ba : Int) ∧ (ba : Int) < (K.1.length : Int) := ⟨by omega, by omega⟩
  have hu : rVl Y (Y 363 (2100 * t + (ba : Int) + 1)) (Y 364 (2100 * t + (ba : Int) + 1)) (K.1.getD (K.1.length - 1) (0, 0, [])) := by
    have z := hK.1.2 (ba + 1) (by omega)
    rw [show 2100 * t + ((ba + 1 : Nat) : Int) = 2100 * t + (ba : Int) + 1 by omega, show ba + 1 = K.1.length - 1 by omega] at z
    exact z
  have ecl := clR_e hu hTh hvu.1
  have h7 : Y 363 (2100 * t + (ba : Int) + 1) = 7 → 0 ≤ Y 364 (2100 * t + (ba : Int) + 1) ∧ Y 364 (2100 * t + (ba : Int) + 1) < 8000 ∧ 0 ≤ Y 321 (Y 364 (2100 * t + (ba : Int) + 1)) ∧ Y 321 (Y 364 (2100 * t + (ba : Int) + 1)) < (cs.length : Int) := fun c => by
    have c7 : (K.1.getD (K.1.length - 1) (0, 0, [])).1 = 7 := hu.1.symm.trans c
    have eb := (hu.2.1 (by omega)).1
    obtain ⟨x1, x2⟩ := hvu.1.2.1 (by omega) (by omega)
    rw [eb]
    obtain ⟨⟨-, -, -, y3, -⟩, -⟩ := hTh.2 (K.1.getD (K.1.length - 1) (0, 0, [])).2.1.toNat (by omega)
    rw [show (((K.1.getD (K.1.length - 1) (0, 0, [])).2.1.toNat : Nat) : Int) = (K.1.getD (K.1.length - 1) (0, 0, [])).2.1 by omega] at y3
    replace y3 : Y 321 (K.1.getD (K.1.length - 1) (0, 0, [])).2.1 = (if (tO T (K.1.getD (K.1.length - 1) (0, 0, [])).2.1).1 = 7 then (tO T (K.1.getD (K.1.length - 1) (0, 0, [])).2.1).2.2.1 else -1) := y3
    rw [if_pos (x2.trans c7)] at y3
    rw [y3]
    exact ⟨x1.1, by omega, (hvu.1.2.2.2.1 c7).1, hvu.2 c7⟩
  obtain ⟨p1, p2, p3, p4, p5⟩ := hpl
  obtain ⟨⟨-, -, -, y21, -⟩, ⟨b1, b2⟩, b3, b4, -⟩ := hTh.2 gb.toNat (by omega)
  rw [show ((gb.toNat : Nat) : Int) = gb by omega] at y21 b1 b3
  replace y21 : Y 321 gb = (if (tO T gb).1 = 7 then (tO T gb).2.2.1 else -1) := y21
  rw [if_pos hg7.1, hg7.2] at y21
  replace b2 : (sl gb.toNat).length = (tO T gb).2.2.2.2.2.2.length := b2
  replace b1 : Y 317 gb = ((tO T gb).2.2.2.2.2.2.length : Int) := b1
  obtain ⟨⟨z1, z2⟩, z3, z4⟩ := slot_v (hd := gb) (wh := fi) hW hgb h82 hfr
  refine wJ_mono (rhs0_241 (d := d) (c := c) (k := fi.toNat) (l := sl gb.toNat) (gb := gb) (k1 := Y 363 (2100 * t + (ba : Int) + 1)) (v1 := Y 364 (2100 * t + (ba : Int) + 1)) (ty := (hmR ms wh).2.2.2.1) hP.1 hKR hwH hP h73 hbb h70 hsf.1 hsf.2.1 hsf.2.2 rfl rfl (by omega) (by rw [hu.1]; exact hvu.1.1) (p_lr hE hP.1 (by omega) (by omega)) h7 rfl p1 p2 (by omega) p4 p5 h75 ⟨hgb.1, by omega⟩ y21 z2 (by omega) (hll _ (by omega)) hkd) (fun o Z hq => ?_)
  rw [ecl] at hq
  rcases hq with ⟨q1, rfl, C, ⟨q2, q3⟩, q4, rfl⟩ | hq
  · have hWA := rWd_sp (k := gb) (i := fi.toNat) hW hgb.1 hgb.2 (by omega) hu
    have fC : ∀ (j : Nat) (x : Int), (j ≠ 356 ∧ (j ≠ 237 ∨ x ≠ 130)) → C j x = (w_up (w_up Y 325 ((sl gb.toNat).getD fi.toNat 0) (Y 363 (2100 * t + (ba : Int) + 1))) 326 ((sl gb.toNat).getD fi.toNat 0) (Y 364 (2100 * t + (ba : Int) + 1))) j x := fun j x hj => by
      by_cases c5 : j = 325 ∧ x = (sl gb.toNat).getD fi.toNat 0
      · rw [c5.1, c5.2, q2]
        exact ((w_up_slot (by first | decide | omega)).trans (w_up_same _ _ _ _)).symm
      · by_cases c6 : j = 326 ∧ x = (sl gb.toNat).getD fi.toNat 0
        · rw [c6.1, c6.2, q3]
          exact (w_up_same _ _ _ _).symm
        · rw [w_up_no c6, w_up_no c5]
          exact q4 j x (by unfold flM; omega)
    have eA : rTx Y (w_up (w_up Y 325 ((sl gb.toNat).getD fi.toNat 0) (Y 363 (2100 * t + (ba : Int) + 1))) 326 ((sl gb.toNat).getD fi.toNat 0) (Y 364 (2100 * t + (ba : Int) + 1))) := rTx_of rfl rfl (fun j x j0 j1 => (w_up_slot (by omega)).trans (w_up_slot (by omega)))
    have eC := rTx_tr eA (rTx_of (fC 237 19 (by first | decide | omega)) (fC 237 102 (by first | decide | omega)) (fun j x j0 j1 => fC j x (by omega)))
    have hWC := rWd_ag hWA (rTx_of (fC 237 19 (by first | decide | omega)) (fC 237 102 (by first | decide | omega)) (fun j x j0 j1 => fC j x (by omega))) (fun j x hj => fC j x (by unfold rWo at hj; omega))
    have hKC := rTk_fr hK eC (fun j x j0 j1 => (fC j x (by omega)).trans ((w_up_slot (by omega)).trans (w_up_slot (by omega))))
    refine Or.inl ⟨q1, rfl, rTk_gv hKC ht hKl.1 (by omega) (rVl_mo hu eC), gvZ_w hWC, fun j x o n => ?_⟩
    refine (gvZ_f ht ⟨hKl.1, hKl.2.1⟩ (by omega) j x o).trans ?_
    unfold rMv at n
    unfold rOut at o
    exact (fC j x (by omega)).trans ((w_up_no (by omega)).trans (w_up_no (by omega)))
  · exact Or.inr hq)
theorem rhgT_261 {ho sh : Int} (h : rdR t kd ba gk gb es l ho wh sh K T sl L G Y) (hKR : KR 261 HT nT cs ms Y) (hwH : wHo cs ms os) (hsf : isSf ms wh) (hst : rStc ms SF Y) (hkd : kd = 0) : wJ (pe_GA xs) wY0 M (d + 4) t_M_actsOnHost ((pe_at t_M_actsOnHost.bl 0).getD (0, [])).2 [(0, (2, 237)), (1, (0, kd))] [] Y (fun o Z => o = .inl none ∧ rTk t Z (kP K (K.1.length - ba) (SF wh)) ∧ rWd Z sl T L G ∧ rTf t Y Z) := wJ_E (fun hE => by
  obtain ⟨⟨hP, hK, hW, ht⟩, hKl, ⟨hT, h82, hll⟩, ⟨h73, hba, h74, h75, h76⟩, h66, h69, h70, h71⟩ := h
  obtain ⟨hTh, hCa, -, ⟨hL8, h94⟩, -⟩ := id hW
  have k0 := hKl.1
  have hn4 := hKR.2.1.2.2.2
  have hbb : 0 ≤ (ba : Int) ∧ (ba : Int) < (K.1.length : Int) := ⟨by omega, by omega⟩
  have hw4 : wh < 400 := by have := hsf.1.2; omega
  have hs0 := hsf.1.1
  refine wJ_mono (rhg1_261 (d := d) (c := 0) (gb := 0) (vk := Y 340 wh) (vb := Y 341 wh) hP.1 hKR hwH hP h73 hbb h70 hsf.1 hsf.2.1 hsf.2.2 (ir_E hE ⟨Or.inl (by first | decide | omega), by decide⟩ rfl hs0 (by rw [ml_340 hP.1]; omega)) (lr_E hE ⟨Or.inl (by first | decide | omega), by decide⟩ rfl hs0 (by rw [ml_341 hP.1]; omega)) rfl rfl hkd) (fun o Z hq => ?_)
  obtain ⟨rfl, C, hC2, rfl⟩ := hq
  obtain ⟨e1, e2, e3, e4⟩ := fi_tk hK hW hC2
  exact ⟨rfl, rTk_gv e2 ht hKl.1 (by omega) (rVl_mo (hst wh hsf) e1), gvZ_w e3, fun j x o => (gvZ_f ht ⟨hKl.1, hKl.2.1⟩ (by omega) j x o).trans (e4 j x o)⟩)
theorem rhiT_261 {c fi : Int} {ho sh : Int} (h : rdR t kd ba gk gb es l ho wh sh K T sl L G Y) (hKR : KR 261 HT nT cs ms Y) (hwH : wHo cs ms os) (hsf : isIf ms wh) (hgb : 0 ≤ gb ∧ gb < (T.length : Int)) (hg7 : (tO T gb).1 = 7 ∧ (tO T gb).2.2.1 = c) (hpl : fPl cs ms c wh fi) (hfr : 0 ≤ fi ∧ fi < ((tO T gb).2.2.2.2.2.2.length : Int)) (hkd : kd = 0) : wJ (pe_GA xs) wY0 M (d + 4) t_M_actsOnHost ((pe_at t_M_actsOnHost.bl 0).getD (0, [])).2 [(0, (2, 237)), (1, (0, kd))] [] Y (fun o Z => o = .inl none ∧ rTk t Z (kP K (K.1.length - ba) (gvA T gb fi)) ∧ rWd Z sl T L G ∧ rTf t Y Z) := wJ_E (fun hE => by
  obtain ⟨⟨hP, hK, hW, ht⟩, hKl, ⟨hT, h82, hll⟩, ⟨h73, hba, h74, h75, h76⟩, h66, h69, h70, h71⟩ := h
  obtain ⟨hTh, hCa, -, ⟨hL8, h94⟩, -⟩ := id hW
  have k0 := hKl.1
  have hn4 := hKR.2.1.2.2.2
  have hbb : 0 ≤ (ba : Int) ∧ (ba : Int) < (K.1.length : Int) := ⟨by omega, by omega⟩
  obtain ⟨p1, p2, p3, p4, p5⟩ := hpl
  obtain ⟨⟨-, -, -, y21, -⟩, ⟨b1, b2⟩, b3, b4, -⟩ := hTh.2 gb.toNat (by omega)
  rw [show ((gb.toNat : Nat) : Int) = gb by omega] at y21 b1 b3
  replace y21 : Y 321 gb = (if (tO T gb).1 = 7 then (tO T gb).2.2.1 else -1) := y21
  rw [if_pos hg7.1, hg7.2] at y21
  replace b2 : (sl gb.toNat).length = (tO T gb).2.2.2.2.2.2.length := b2
  replace b1 : Y 317 gb = ((tO T gb).2.2.2.2.2.2.length : Int) := b1
  obtain ⟨⟨z1, z2⟩, z3, z4⟩ := slot_v (hd := gb) (wh := fi) hW hgb h82 hfr
  refine wJ_mono (rhg0_261 (d := d) (c := c) (k := fi.toNat) (l := sl gb.toNat) (gb := gb) (vk := Y 325 ((sl gb.toNat).getD fi.toNat 0)) (vb := Y 326 ((sl gb.toNat).getD fi.toNat 0)) hP.1 hKR hwH hP h73 hbb h70 hsf.1 hsf.2.1 hsf.2.2 (ir_E hE ⟨Or.inl (by first | decide | omega), by decide⟩ rfl z3.1 (by rw [ml_325 hP.1]; exact z3.2)) (s_lr hE hP.1 z3.1 z3.2) p1 p2 (by omega) p4 p5 h75 ⟨hgb.1, by omega⟩ y21 z2 (by omega) (hll _ (by omega)) rfl rfl hkd) (fun o Z hq => ?_)
  obtain ⟨rfl, C, hC2, rfl⟩ := hq
  obtain ⟨e1, e2, e3, e4⟩ := fi_tk hK hW hC2
  exact ⟨rfl, rTk_gv e2 ht hKl.1 (by omega) (rVl_mo z4 e1), gvZ_w e3, fun j x o => (gvZ_f ht ⟨hKl.1, hKl.2.1⟩ (by omega) j x o).trans (e4 j x o)⟩)
theorem rhsT_261 {ho sh : Int} (h : rdR t kd ba gk gb es l ho wh sh K T sl L G Y) (hKR : KR 261 HT nT cs ms Y) (hwH : wHo cs ms os) (hsf : isSf ms wh) (hst : rStc ms SF Y) (hbl : ba + 2 = K.1.length) (hvu : vOk T (K.1.getD (K.1.length - 1) (0, 0, [])) ∧ ((K.1.getD (K.1.length - 1) (0, 0, [])).1 = 7 → (tO T (K.1.getD (K.1.length - 1) (0, 0, [])).2.1).2.2.1 < (cs.length : Int))) (hkd : kd = 1) : wJ (pe_GA xs) wY0 M (d + 4) t_M_actsOnHost ((pe_at t_M_actsOnHost.bl 0).getD (0, [])).2 [(0, (2, 237)), (1, (0, kd))] [] Y (fun o Z => (gTB cs (clO T (K.1.getD (K.1.length - 1) (0, 0, []))) (hmR ms wh).2.2.2.1 true = true ∧ o = .inl none ∧ rTk t Z (kP K (K.1.length - ba) (K.1.getD (K.1.length - 1) (0, 0, []))) ∧ rWd Z sl T L G ∧ rTm t (rMg wh) Y Z ∧ rStc ms (sfU SF wh (K.1.getD (K.1.length - 1) (0, 0, []))) Z) ∨ (gTB cs (clO T (K.1.getD (K.1.length - 1) (0, 0, []))) (hmR ms wh).2.2.2.1 true = false ∧ o = .inr 238 ∧ hZ 7 Y = Z)) := wJ_E (fun hE => by
  obtain ⟨⟨hP, hK, hW, ht⟩, hKl, ⟨hT, h82, hll⟩, ⟨h73, hba, h74, h75, h76⟩, h66, h69, h70, h71⟩ := h
  obtain ⟨hTh, hCa, -, ⟨hL8, h94⟩, -⟩ := id hW
  have k0 := hKl.1
  have hn4 := hKR.2.1.2.2.2
  have hbb : 0 ≤ (ba : Int) ∧ (ba : Int) < (K.1.length : Int) := ⟨by omega, by omega⟩
  have hu : rVl Y (Y 363 (2100 * t + (ba : Int) + 1)) (Y 364 (2100 * t + (ba : Int) + 1)) (K.1.getD (K.1.length - 1) (0, 0, [])) := by
    have z := hK.1.2 (ba + 1) (by omega)
    rw [show 2100 * t + ((ba + 1 : Nat) : Int) = 2100 * t + (ba : Int) + 1 by omega, show ba + 1 = K.1.length - 1 by omega] at z
    exact z
  have ecl := clR_e hu hTh hvu.1
  have h7 : Y 363 (2100 * t + (ba : Int) + 1) = 7 → 0 ≤ Y 364 (2100 * t + (ba : Int) + 1) ∧ Y 364 (2100 * t + (ba : Int) + 1) < 8000 ∧ 0 ≤ Y 321 (Y 364 (2100 * t + (ba : Int) + 1)) ∧ Y 321 (Y 364 (2100 * t + (ba : Int) + 1)) < (cs.length : Int) := fun c => by
    have c7 : (K.1.getD (K.1.length - 1) (0, 0, [])).1 = 7 := hu.1.symm.trans c
    have eb := (hu.2.1 (by omega)).1
    obtain ⟨x1, x2⟩ := hvu.1.2.1 (by omega) (by omega)
    rw [eb]
    obtain ⟨⟨-, -, -, y3, -⟩, -⟩ := hTh.2 (K.1.getD (K.1.length - 1) (0, 0, [])).2.1.toNat (by omega)
    rw [show (((K.1.getD (K.1.length - 1) (0, 0, [])).2.1.toNat : Nat) : Int) = (K.1.getD (K.1.length - 1) (0, 0, [])).2.1 by omega] at y3
    replace y3 : Y 321 (K.1.getD (K.1.length - 1) (0, 0, [])).2.1 = (if (tO T (K.1.getD (K.1.length - 1) (0, 0, [])).2.1).1 = 7 then (tO T (K.1.getD (K.1.length - 1) (0, 0, [])).2.1).2.2.1 else -1) := y3
    rw [if_pos (x2.trans c7)] at y3
    rw [y3]
    exact ⟨x1.1, by omega, (hvu.1.2.2.2.1 c7).1, hvu.2 c7⟩
  refine wJ_mono (rhs1_261 (d := d) (c := 0) (gb := 0) (k1 := Y 363 (2100 * t + (ba : Int) + 1)) (v1 := Y 364 (2100 * t + (ba : Int) + 1)) (ty := (hmR ms wh).2.2.2.1) hP.1 hKR hwH hP h73 hbb h70 hsf.1 hsf.2.1 hsf.2.2 rfl rfl (by omega) (by rw [hu.1]; exact hvu.1.1) (p_lr hE hP.1 (by omega) (by omega)) h7 rfl hkd) (fun o Z hq => ?_)
  rw [ecl] at hq
  rcases hq with ⟨q1, rfl, C, rfl, rfl⟩ | hq
  · have eC : rTx Y (w_up (w_up Y 340 wh (Y 363 (2100 * t + (ba : Int) + 1))) 341 wh (Y 364 (2100 * t + (ba : Int) + 1))) := rTx_of rfl rfl (fun j x j0 j1 => (w_up_slot (by omega)).trans (w_up_slot (by omega)))
    have hKC := rTk_fr hK eC (fun j x j0 j1 => (w_up_slot (by omega)).trans (w_up_slot (by omega)))
    have hWC := rWd_ag hW eC (fun j x hj => by unfold rWo at hj; exact (w_up_slot (by omega)).trans (w_up_slot (by omega)))
    have hsC := rStc_w (m := wh) hst hu
    have g6 : ∀ (q : Nat) (y : Int), q < 357 → gvZ t (ba : Int) (200 * t + (K.2.1.length : Int) - 1) (K.2.1.getD (K.2.1.length - 1) (0, 0, 0, (0, 0, []), 0, 0, 0)).2.1 (Y 363 (2100 * t + (ba : Int) + 1)) (Y 364 (2100 * t + (ba : Int) + 1)) (w_up (w_up Y 340 wh (Y 363 (2100 * t + (ba : Int) + 1))) 341 wh (Y 364 (2100 * t + (ba : Int) + 1))) q y = (w_up (w_up Y 340 wh (Y 363 (2100 * t + (ba : Int) + 1))) 341 wh (Y 364 (2100 * t + (ba : Int) + 1))) q y := fun q y q0 => (w_up_slot (by omega)).trans ((w_up_slot (by omega)).trans ((w_up_slot (by omega)).trans ((w_up_slot (by omega)).trans (w_up_slot (by omega)))))
    refine Or.inl ⟨q1, rfl, rTk_gv hKC ht hKl.1 (by omega) (rVl_mo hu eC), gvZ_w hWC, fun j x o n => ?_, rStc_ag hsC (rTx_of (g6 237 19 (by first | decide | omega)) (g6 237 102 (by first | decide | omega)) (fun j x j0 j1 => g6 j x (by omega))) (fun j x hj => g6 j x (by omega))⟩
    refine (gvZ_f ht ⟨hKl.1, hKl.2.1⟩ (by omega) j x o).trans ?_
    unfold rMg at n
    exact (w_up_no (by omega)).trans (w_up_no (by omega))
  · exact Or.inr hq)
theorem rhjT_261 {c fi : Int} {ho sh : Int} (h : rdR t kd ba gk gb es l ho wh sh K T sl L G Y) (hKR : KR 261 HT nT cs ms Y) (hwH : wHo cs ms os) (hsf : isIf ms wh) (hgb : 0 ≤ gb ∧ gb < (T.length : Int)) (hg7 : (tO T gb).1 = 7 ∧ (tO T gb).2.2.1 = c) (hpl : fPl cs ms c wh fi) (hfr : 0 ≤ fi ∧ fi < ((tO T gb).2.2.2.2.2.2.length : Int)) (hbl : ba + 2 = K.1.length) (hvu : vOk T (K.1.getD (K.1.length - 1) (0, 0, [])) ∧ ((K.1.getD (K.1.length - 1) (0, 0, [])).1 = 7 → (tO T (K.1.getD (K.1.length - 1) (0, 0, [])).2.1).2.2.1 < (cs.length : Int))) (hkd : kd = 1) : wJ (pe_GA xs) wY0 M (d + 4) t_M_actsOnHost ((pe_at t_M_actsOnHost.bl 0).getD (0, [])).2 [(0, (2, 237)), (1, (0, kd))] [] Y (fun o Z => (gTB cs (clO T (K.1.getD (K.1.length - 1) (0, 0, []))) (hmR ms wh).2.2.2.1 true = true ∧ o = .inl none ∧ rTk t Z (kP K (K.1.length - ba) (K.1.getD (K.1.length - 1) (0, 0, []))) ∧ rWd Z sl (tSp T gb fi.toNat (K.1.getD (K.1.length - 1) (0, 0, []))) L G ∧ rTm t rMv Y Z) ∨ (gTB cs (clO T (K.1.getD (K.1.length - 1) (0, 0, []))) (hmR ms wh).2.2.2.1 true = false ∧ o = .inr 238 ∧ hZ 7 Y = Z)) := wJ_E (fun hE => by
  obtain ⟨⟨hP, hK, hW, ht⟩, hKl, ⟨hT, h82, hll⟩, ⟨h73, hba, h74, h75, h76⟩, h66, h69, h70, h71⟩ := h
  obtain ⟨hTh, hCa, -, ⟨hL8, h94⟩, -⟩ := id hW
  have k0 := hKl.1
  have hn4 := hKR.2.1.2.2.2
  have hbb : 0 ≤ (ba : Int) ∧ (ba : Int) < (K.1.length : Int) := ⟨by omega, by omega⟩
  have hu : rVl Y (Y 363 (2100 * t + (ba : Int) + 1)) (Y 364 (2100 * t + (ba : Int) + 1)) (K.1.getD (K.1.length - 1) (0, 0, [])) := by
    have z := hK.1.2 (ba + 1) (by omega)
    rw [show 2100 * t + ((ba + 1 : Nat) : Int) = 2100 * t + (ba : Int) + 1 by omega, show ba + 1 = K.1.length - 1 by omega] at z
    exact z
  have ecl := clR_e hu hTh hvu.1
  have h7 : Y 363 (2100 * t + (ba : Int) + 1) = 7 → 0 ≤ Y 364 (2100 * t + (ba : Int) + 1) ∧ Y 364 (2100 * t + (ba : Int) + 1) < 8000 ∧ 0 ≤ Y 321 (Y 364 (2100 * t + (ba : Int) + 1)) ∧ Y 321 (Y 364 (2100 * t + (ba : Int) + 1)) < (cs.length : Int) := fun c => by
    have c7 : (K.1.getD (K.1.length - 1) (0, 0, [])).1 = 7 := hu.1.symm.trans c
    have eb := (hu.2.1 (by omega)).1
    obtain ⟨x1, x2⟩ := hvu.1.2.1 (by omega) (by omega)
    rw [eb]
    obtain ⟨⟨-, -, -, y3, -⟩, -⟩ := hTh.2 (K.1.getD (K.1.length - 1) (0, 0, [])).2.1.toNat (by omega)
    rw [show (((K.1.getD (K.1.length - 1) (0, 0, [])).2.1.toNat : Nat) : Int) = (K.1.getD (K.1.length - 1) (0, 0, [])).2.1 by omega] at y3
    replace y3 : Y 321 (K.1.getD (K.1.length - 1) (0, 0, [])).2.1 = (if (tO T (K.1.getD (K.1.length - 1) (0, 0, [])).2.1).1 = 7 then (tO T (K.1.getD (K.1.length - 1) (0, 0, [])).2.1).2.2.1 else -1) := y3
    rw [if_pos (x2.trans c7)] at y3
    rw [y3]
    exact ⟨x1.1, by omega, (hvu.1.2.2.2.1 c7).1, hvu.2 c7⟩
  obtain ⟨p1, p2, p3, p4, p5⟩ := hpl
  obtain ⟨⟨-, -, -, y21, -⟩, ⟨b1, b2⟩, b3, b4, -⟩ := hTh.2 gb.toNat (by omega)
  rw [show ((gb.toNat : Nat) : Int) = gb by omega] at y21 b1 b3
  replace y21 : Y 321 gb = (if (tO T gb).1 = 7 then (tO T gb).2.2.1 else -1) := y21
  rw [if_pos hg7.1, hg7.2] at y21
  replace b2 : (sl gb.toNat).length = (tO T gb).2.2.2.2.2.2.length := b2
  replace b1 : Y 317 gb = ((tO T gb).2.2.2.2.2.2.length : Int) := b1
  obtain ⟨⟨z1, z2⟩, z3, z4⟩ := slot_v (hd := gb) (wh := fi) hW hgb h82 hfr
  refine wJ_mono (rhs0_261 (d := d) (c := c) (k := fi.toNat) (l := sl gb.toNat) (gb := gb) (k1 := Y 363 (2100 * t + (ba : Int) + 1)) (v1 := Y 364 (2100 * t + (ba : Int) + 1)) (ty := (hmR ms wh).2.2.2.1) hP.1 hKR hwH hP h73 hbb h70 hsf.1 hsf.2.1 hsf.2.2 rfl rfl (by omega) (by rw [hu.1]; exact hvu.1.1) (p_lr hE hP.1 (by omega) (by omega)) h7 rfl p1 p2 (by omega) p4 p5 h75 ⟨hgb.1, by omega⟩ y21 z2 (by omega) (hll _ (by omega)) hkd) (fun o Z hq => ?_)
  rw [ecl] at hq
  rcases hq with ⟨q1, rfl, C, ⟨q2, q3⟩, q4, rfl⟩ | hq
  · have hWA := rWd_sp (k := gb) (i := fi.toNat) hW hgb.1 hgb.2 (by omega) hu
    have fC : ∀ (j : Nat) (x : Int), (j ≠ 356 ∧ (j ≠ 237 ∨ x ≠ 130)) → C j x = (w_up (w_up Y 325 ((sl gb.toNat).getD fi.toNat 0) (Y 363 (2100 * t + (ba : Int) + 1))) 326 ((sl gb.toNat).getD fi.toNat 0) (Y 364 (2100 * t + (ba : Int) + 1))) j x := fun j x hj => by
      by_cases c5 : j = 325 ∧ x = (sl gb.toNat).getD fi.toNat 0
      · rw [c5.1, c5.2, q2]
        exact ((w_up_slot (by first | decide | omega)).trans (w_up_same _ _ _ _)).symm
      · by_cases c6 : j = 326 ∧ x = (sl gb.toNat).getD fi.toNat 0
        · rw [c6.1, c6.2, q3]
          exact (w_up_same _ _ _ _).symm
        · rw [w_up_no c6, w_up_no c5]
          exact q4 j x (by unfold flM; omega)
    have eA : rTx Y (w_up (w_up Y 325 ((sl gb.toNat).getD fi.toNat 0) (Y 363 (2100 * t + (ba : Int) + 1))) 326 ((sl gb.toNat).getD fi.toNat 0) (Y 364 (2100 * t + (ba : Int) + 1))) := rTx_of rfl rfl (fun j x j0 j1 => (w_up_slot (by omega)).trans (w_up_slot (by omega)))
    have eC := rTx_tr eA (rTx_of (fC 237 19 (by first | decide | omega)) (fC 237 102 (by first | decide | omega)) (fun j x j0 j1 => fC j x (by omega)))
    have hWC := rWd_ag hWA (rTx_of (fC 237 19 (by first | decide | omega)) (fC 237 102 (by first | decide | omega)) (fun j x j0 j1 => fC j x (by omega))) (fun j x hj => fC j x (by unfold rWo at hj; omega))
    have hKC := rTk_fr hK eC (fun j x j0 j1 => (fC j x (by omega)).trans ((w_up_slot (by omega)).trans (w_up_slot (by omega))))
    refine Or.inl ⟨q1, rfl, rTk_gv hKC ht hKl.1 (by omega) (rVl_mo hu eC), gvZ_w hWC, fun j x o n => ?_⟩
    refine (gvZ_f ht ⟨hKl.1, hKl.2.1⟩ (by omega) j x o).trans ?_
    unfold rMv at n
    unfold rOut at o
    exact (fC j x (by omega)).trans ((w_up_no (by omega)).trans (w_up_no (by omega)))
  · exact Or.inr hq)
end Wjn
