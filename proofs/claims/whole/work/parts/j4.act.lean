/-! PART j4: acting at a site by tasks: a property is read: of the class. -/
section Wj4
variable {xs : List (Nat × List Int32)} {d : Nat} {Y : wS} {K : aK} {T : List aO} {L : List aC} {G : Int → aV} {x kd gk gb hd wh e50 : Int} {ba : Nat}
/-- what is read: the value at the place on the holder, or null -/
def gvA (T : List aO) (hd wh : Int) : aV := if wh = -1 then (0, 0, []) else ((tO T hd).2.2.2.2.2.2.getD wh.toNat (0, (0, 0, []))).2
theorem cell_v (hW : cWd Y T L G) (h0 : 0 ≤ hd ∧ hd < (T.length : Int)) (hwh : 0 ≤ wh ∧ wh < ((tO T hd).2.2.2.2.2.2.length : Int)) : (0 ≤ Y 133 hd ∧ Y 133 hd + wh < Y 140 2) ∧ cVl Y (Y 141 (Y 133 hd + wh)) (Y 142 (Y 133 hd + wh)) (gvA T hd wh) := by
  obtain ⟨-, ⟨b1, b2, b3, b4⟩, b5⟩ := hW.1.2 hd.toNat (by omega)
  rw [show ((hd.toNat : Nat) : Int) = hd by omega] at b1 b2 b3 b4 b5
  replace b1 : Y 134 hd = ((tO T hd).2.2.2.2.2.2.length : Int) := b1
  have z := b5 wh.toNat (by rw [List.length_map]; show wh.toNat < (tO T hd).2.2.2.2.2.2.length; omega)
  rw [show ((wh.toNat : Nat) : Int) = wh by omega] at z
  have em : ((tO T hd).2.2.2.2.2.2.map (fun x => x.2)).getD wh.toNat (0, 0, []) = gvA T hd wh := by
    unfold gvA
    rw [if_neg (by omega), List.getD_eq_getElem?_getD, List.getElem?_map, List.getD_eq_getElem?_getD]
    cases (tO T hd).2.2.2.2.2.2[wh.toNat]? <;> rfl
  exact ⟨⟨b3, by omega⟩, em ▸ z⟩
theorem agt_215 (h : stC 215 Y K) (hW : cWd Y T L G) (hl : cSl Y) (l4 : Y 158 4 = 215) (l5 : Y 158 5 = 216) (l7 : Y 158 7 = kd) (l8 : Y 158 8 = (ba : Int)) (l9 : Y 158 9 = gk) (l10 : Y 158 10 = gb) (y16 : Y 215 16 = 0) (hx : 0 ≤ x ∧ x < Y 48 (-1)) (e48 : Y 48 x = 0) (he50 : Y 50 x = e50) (he51 : Y 51 x = wh) (hba : ba < K.1.length) (hgb : 0 ≤ gb ∧ gb < (T.length : Int)) (hhd : (e50 = -1 ∧ hd = gb) ∨ (e50 ≠ -1 ∧ hd = e50)) (hh0 : 0 ≤ hd ∧ hd < (T.length : Int)) (hwh : wh = -1 ∨ (0 ≤ wh ∧ wh < ((tO T hd).2.2.2.2.2.2.length : Int))) (hkd : kd = 0 ∨ kd = 2) (hsz : 0 ≤ wh → wh ≤ 100000) (hvk : -128 ≤ (gvA T hd wh).1 ∧ (gvA T hd wh).1 ≤ 127) (hvb : ∀ i : Int, 0 ≤ i → i < Y 140 2 → -9223372036854775808 ≤ Y 142 i ∧ Y 142 i ≤ 9223372036854775807) : wJ (pe_GA xs) wY0 (mS [217, 218]) (d + 8) t_XL_act ((pe_at t_XL_act.bl 0).getD (0, [])).2 [(0, (2, 158)), (1, (0, x))] [] Y (fun o V => o = .inl none ∧ V 215 16 = 0 ∧ cTk 215 V (kP K (K.1.length - ba) (gvA T hd wh)) ∧ cFr 215 Y V) := by
  have hP := xP_of (w := 215) (by omega) h
  rw [← w_up_eta y16] at hP
  obtain ⟨hTh, -, -, ⟨-, hl14, ⟨c0, c1⟩, hz16, hz10⟩, ⟨t1, t2, t3, t4⟩, -⟩ := id hW
  obtain ⟨hK, ⟨hC, hI⟩, ⟨k0, k1, -⟩, -⟩ := id h
  have hstr : -1000 ≤ Y 133 hd ∧ Y 133 hd ≤ 1000000 := by
    obtain ⟨-, ⟨b1, b2, b3, b4⟩, -⟩ := hTh.2 hd.toNat (by omega)
    rw [show ((hd.toNat : Nat) : Int) = hd by omega] at b1 b2 b3 b4
    omega
  obtain ⟨vk, vb, hvv, hcv⟩ : ∃ vk vb : Int, ((wh = -1 ∧ vk = 0 ∧ vb = 0 ∧ -1000 ≤ Y 133 hd ∧ Y 133 hd ≤ 1000000) ∨ (0 ≤ wh ∧ wh ≤ 100000000 ∧ 0 ≤ Y 133 hd ∧ Y 133 hd + wh < Y 141 (-1) ∧ Y 141 (Y 133 hd + wh) = vk ∧ Y 142 (Y 133 hd + wh) = vb)) ∧ cVl Y vk vb (gvA T hd wh) ∧ (-9223372036854775808 ≤ vb ∧ vb ≤ 9223372036854775807) := by
    rcases hwh with c | c
    · exact ⟨0, 0, Or.inl ⟨c, rfl, rfl, hstr.1, hstr.2⟩, by unfold gvA; rw [if_pos c]; exact cV_e (by first | decide | omega) rfl, by decide⟩
    · obtain ⟨⟨z1, z2⟩, z3⟩ := cell_v hW hh0 c
      exact ⟨_, _, Or.inr ⟨c.1, by omega, z1, by omega, rfl, rfl⟩, z3, hvb _ (by omega) z2⟩
  have hvk2 := hcv.1.1
  refine wJ_mono (xget_215 (d := d) (c := (K.2.1.length : Int)) (p := (K.2.1.getD (K.2.1.length - 1) (0, 0, 0, (0, 0, []), 0, 0, 0)).2.1) (h := (K.1.length : Int)) (ba := (ba : Int)) (hd := hd) (st := Y 133 hd) (wh := wh) (vk := vk) (vb := vb) (e50 := e50) hP hl l4 l5 l7 l8 l9 l10 hx ⟨by omega, by omega⟩ t1 t4 hl14 ⟨hz16, hz10⟩ e48 ⟨hh0.1, by omega⟩ hhd he50 he51 ⟨hgb.1, by omega⟩ rfl ?_ hkd (by omega) hcv.2) (fun o V hq => ?_)
  · rcases hvv with z | ⟨z1, z2, z3, z4, z5, z6⟩
    · exact Or.inl z
    · refine Or.inr ⟨z1, ?_, z3, z4, z5, z6⟩
      obtain ⟨-, ⟨b1, b2, b3, b4⟩, -⟩ := hTh.2 hd.toNat (by omega)
      rw [show ((hd.toNat : Nat) : Int) = hd by omega] at b1 b2 b3 b4
      replace b1 : Y 134 hd = ((tO T hd).2.2.2.2.2.2.length : Int) := b1
      exact hsz z1
  · obtain ⟨rfl, hs⟩ := hq
    have hm : (K.1.length : Int) - (ba : Int) = ((K.1.length - ba : Nat) : Int) := by omega
    exact ⟨rfl, (sO_16 (by omega) hs).trans y16, cTk_sO hK (by omega) hs rfl rfl k0 hm (by omega) (by omega) hcv.1, cFr_sO (by omega) (cFr_rfl hI) (by omega) hs⟩
theorem agt_226 (h : stC 226 Y K) (hW : cWd Y T L G) (hl : cSl Y) (l4 : Y 158 4 = 226) (l5 : Y 158 5 = 227) (l7 : Y 158 7 = kd) (l8 : Y 158 8 = (ba : Int)) (l9 : Y 158 9 = gk) (l10 : Y 158 10 = gb) (y16 : Y 226 16 = 0) (hx : 0 ≤ x ∧ x < Y 48 (-1)) (e48 : Y 48 x = 0) (he50 : Y 50 x = e50) (he51 : Y 51 x = wh) (hba : ba < K.1.length) (hgb : 0 ≤ gb ∧ gb < (T.length : Int)) (hhd : (e50 = -1 ∧ hd = gb) ∨ (e50 ≠ -1 ∧ hd = e50)) (hh0 : 0 ≤ hd ∧ hd < (T.length : Int)) (hwh : wh = -1 ∨ (0 ≤ wh ∧ wh < ((tO T hd).2.2.2.2.2.2.length : Int))) (hkd : kd = 0 ∨ kd = 2) (hsz : 0 ≤ wh → wh ≤ 100000) (hvk : -128 ≤ (gvA T hd wh).1 ∧ (gvA T hd wh).1 ≤ 127) (hvb : ∀ i : Int, 0 ≤ i → i < Y 140 2 → -9223372036854775808 ≤ Y 142 i ∧ Y 142 i ≤ 9223372036854775807) : wJ (pe_GA xs) wY0 (mS [228, 229]) (d + 8) t_XL_act ((pe_at t_XL_act.bl 0).getD (0, [])).2 [(0, (2, 158)), (1, (0, x))] [] Y (fun o V => o = .inl none ∧ V 226 16 = 0 ∧ cTk 226 V (kP K (K.1.length - ba) (gvA T hd wh)) ∧ cFr 226 Y V) := by
  have hP := xP_of (w := 226) (by omega) h
  rw [← w_up_eta y16] at hP
  obtain ⟨hTh, -, -, ⟨-, hl14, ⟨c0, c1⟩, hz16, hz10⟩, ⟨t1, t2, t3, t4⟩, -⟩ := id hW
  obtain ⟨hK, ⟨hC, hI⟩, ⟨k0, k1, -⟩, -⟩ := id h
  have hstr : -1000 ≤ Y 133 hd ∧ Y 133 hd ≤ 1000000 := by
    obtain ⟨-, ⟨b1, b2, b3, b4⟩, -⟩ := hTh.2 hd.toNat (by omega)
    rw [show ((hd.toNat : Nat) : Int) = hd by omega] at b1 b2 b3 b4
    omega
  obtain ⟨vk, vb, hvv, hcv⟩ : ∃ vk vb : Int, ((wh = -1 ∧ vk = 0 ∧ vb = 0 ∧ -1000 ≤ Y 133 hd ∧ Y 133 hd ≤ 1000000) ∨ (0 ≤ wh ∧ wh ≤ 100000000 ∧ 0 ≤ Y 133 hd ∧ Y 133 hd + wh < Y 141 (-1) ∧ Y 141 (Y 133 hd + wh) = vk ∧ Y 142 (Y 133 hd + wh) = vb)) ∧ cVl Y vk vb (gvA T hd wh) ∧ (-9223372036854775808 ≤ vb ∧ vb ≤ 9223372036854775807) := by
    rcases hwh with c | c
    · exact ⟨0, 0, Or.inl ⟨c, rfl, rfl, hstr.1, hstr.2⟩, by unfold gvA; rw [if_pos c]; exact cV_e (by first | decide | omega) rfl, by decide⟩
    · obtain ⟨⟨z1, z2⟩, z3⟩ := cell_v hW hh0 c
      exact ⟨_, _, Or.inr ⟨c.1, by omega, z1, by omega, rfl, rfl⟩, z3, hvb _ (by omega) z2⟩
  have hvk2 := hcv.1.1
  refine wJ_mono (xget_226 (d := d) (c := (K.2.1.length : Int)) (p := (K.2.1.getD (K.2.1.length - 1) (0, 0, 0, (0, 0, []), 0, 0, 0)).2.1) (h := (K.1.length : Int)) (ba := (ba : Int)) (hd := hd) (st := Y 133 hd) (wh := wh) (vk := vk) (vb := vb) (e50 := e50) hP hl l4 l5 l7 l8 l9 l10 hx ⟨by omega, by omega⟩ t1 t4 hl14 ⟨hz16, hz10⟩ e48 ⟨hh0.1, by omega⟩ hhd he50 he51 ⟨hgb.1, by omega⟩ rfl ?_ hkd (by omega) hcv.2) (fun o V hq => ?_)
  · rcases hvv with z | ⟨z1, z2, z3, z4, z5, z6⟩
    · exact Or.inl z
    · refine Or.inr ⟨z1, ?_, z3, z4, z5, z6⟩
      obtain ⟨-, ⟨b1, b2, b3, b4⟩, -⟩ := hTh.2 hd.toNat (by omega)
      rw [show ((hd.toNat : Nat) : Int) = hd by omega] at b1 b2 b3 b4
      replace b1 : Y 134 hd = ((tO T hd).2.2.2.2.2.2.length : Int) := b1
      exact hsz z1
  · obtain ⟨rfl, hs⟩ := hq
    have hm : (K.1.length : Int) - (ba : Int) = ((K.1.length - ba : Nat) : Int) := by omega
    exact ⟨rfl, (sO_16 (by omega) hs).trans y16, cTk_sO hK (by omega) hs rfl rfl k0 hm (by omega) (by omega) hcv.1, cFr_sO (by omega) (cFr_rfl hI) (by omega) hs⟩
end Wj4
