/-! PART ja: acting at a site by tasks: a method that is no fun, calls: of the class. -/
section Wja
variable {xs : List (Nat × List Int32)} {d : Nat} {Y : wS} {K : aK} {T : List aO} {H : List aH} {L : List aC} {G : Int → aV} {x kd ec gk gb es hd wh e50 l : Int} {ba : Nat}
/-- long arrays hold longs, byte arrays bytes -/
theorem lr_E {S : wS} {j : Nat} (hE : ∃ ad hp, w_E wY0 ad S hp) (hp : w_pr wY0 S j) (ht : wY0.ty j = 1) {i : Int} (h0 : 0 ≤ i) (h1 : i < S j (-1)) : -9223372036854775808 ≤ S j i ∧ S j i ≤ 9223372036854775807 := by
  obtain ⟨ad0, hp0, hE0⟩ := hE
  obtain ⟨n, c, a1, a2, a3⟩ := w_arl hE0 hp ht
  obtain ⟨b1, b2, b3, b4⟩ := w_in a2 h0 h1
  have := a3 _ b3
  rw [b4] at this
  rw [← this]
  exact ⟨by have := Int64.le_toInt (pe_lk 0 i.toNat c); omega, by have := Int64.toInt_lt (pe_lk 0 i.toNat c); omega⟩
theorem br_E {S : wS} {j : Nat} (hE : ∃ ad hp, w_E wY0 ad S hp) (hp : w_pr wY0 S j) (ht : wY0.ty j = 2) {i : Int} (h0 : 0 ≤ i) (h1 : i < S j (-1)) : -128 ≤ S j i ∧ S j i ≤ 127 := by
  obtain ⟨ad0, hp0, hE0⟩ := hE
  obtain ⟨n, c, a1, a2, a3⟩ := w_ari hE0 hp ht (by omega) (by omega)
  obtain ⟨b1, b2, b3, b4⟩ := w_in a2 h0 h1
  have := (a3 _ b3).2
  rw [b4] at this
  exact this
/-- a site is ready to act: the task, the world, what the linker has noted, the entry's linker -/
def rdC (w : Nat) (kd ec : Int) (ba : Nat) (gk gb es x l : Int) (K : aK) (T : List aO) (L : List aC) (G : Int → aV) (Y : wS) : Prop := (stC w Y K ∧ cWd Y T L G ∧ cSl Y ∧ (T.length : Int) ≤ 8000) ∧ (Y 158 4 = (w : Int) ∧ Y 158 5 = ((w + 1 : Nat) : Int) ∧ Y 158 7 = kd ∧ Y 158 8 = (ba : Int) ∧ Y 158 9 = gk ∧ Y 158 10 = gb ∧ Y 158 12 = ec ∧ Y 158 13 = es) ∧ Y w 16 = 0 ∧ ((0 ≤ x ∧ x < Y 48 (-1)) ∧ Y 48 x = l) ∧ ba < K.1.length
/-- what stands at a place that an entry names -/
theorem cRd (hW : cWd Y T L G) (hh0 : 0 ≤ hd ∧ hd < (T.length : Int)) (hwh : wh = -1 ∨ (0 ≤ wh ∧ wh < ((tO T hd).2.2.2.2.2.2.length : Int))) (hsz : 0 ≤ wh → wh ≤ 100000) : ∃ vk vb : Int, ((wh = -1 ∧ vk = 0 ∧ vb = 0 ∧ -1000 ≤ Y 133 hd ∧ Y 133 hd ≤ 1000000) ∨ (0 ≤ wh ∧ wh ≤ 100000 ∧ 0 ≤ Y 133 hd ∧ Y 133 hd + wh < Y 141 (-1) ∧ Y 141 (Y 133 hd + wh) = vk ∧ Y 142 (Y 133 hd + wh) = vb)) ∧ cVl Y vk vb (gvA T hd wh) := by
  obtain ⟨hTh, -, -, ⟨-, hl14, ⟨c0, c1⟩, hz16, hz10⟩, ⟨t1, t2, t3, t4⟩, -⟩ := id hW
  rcases hwh with c | c
  · obtain ⟨-, ⟨b1, b2, b3, b4⟩, -⟩ := hTh.2 hd.toNat (by omega)
    rw [show ((hd.toNat : Nat) : Int) = hd by omega] at b1 b2 b3 b4
    exact ⟨0, 0, Or.inl ⟨c, rfl, rfl, by omega, by omega⟩, by unfold gvA; rw [if_pos c]; exact cV_e (by first | decide | omega) rfl⟩
  · obtain ⟨⟨z1, z2⟩, z3⟩ := cell_v hW hh0 c
    exact ⟨_, _, Or.inr ⟨c.1, hsz c.1, z1, by omega, rfl, rfl⟩, z3⟩
/-- what a call needs of the function that is called -/
def cFn (T : List aO) (fn f ar : Int) (vn : Nat) (pn : Int) (Y : wS) : Prop := (0 ≤ fn ∧ fn < (T.length : Int)) ∧ ((tO T fn).2.2.1 = f ∧ (tO T fn).2.2.2.1 = ar) ∧ (0 ≤ f ∧ f < 400) ∧ (Y 23 f = (vn : Int) ∧ vn ≤ 1000) ∧ Y 22 f = pn ∧ 0 ≤ pn ∧ pn ≤ 1000
/-- how many of the arguments are taken -/
def esN (K : aK) (ba : Nat) (pn : Int) : Nat := if ((K.1.length : Int) - (ba : Int) - 1 ≤ pn) then K.1.length - ba - 1 else pn.toNat
theorem esN_e {pn : Int} (hba : ba < K.1.length) (hp : 0 ≤ pn) : ((esN K ba pn : Nat) : Int) = (if (K.1.length : Int) - (ba : Int) - 1 ≤ pn then (K.1.length : Int) - (ba : Int) - 1 else pn) ∧ ba + 1 + esN K ba pn ≤ K.1.length := by
  unfold esN
  split <;> omega
/-- what a call comes to -/
def caP (w : Nat) (K : aK) (T : List aO) (L : List aC) (G : Int → aV) (ba : Nat) (f ar : Int) (vn : Nat) (pn : Int) (th : aV) (Y V : wS) : Prop := (K.2.1.length < 200 ∧ (Y 150 0 + 1 ≤ 8000 ∧ Y 150 1 + (vn : Int) ≤ 60000) ∧ V w 16 = 0 ∧ cTk w V (kCl K (K.1.take ba) ((K.2.1.getD (K.2.1.length - 1) (0, 0, 0, (0, 0, []), 0, 0, 0)).2.1 + 1) f (L.length : Int) th (-1)) ∧ cWd V T (L ++ [(ar, aVr K.1 ba (esN K ba pn) vn)]) G ∧ cFm w cMc Y V ∧ V 150 0 = Y 150 0 + 1 ∧ V 150 1 = Y 150 1 + (vn : Int) ∧ (cPo Y → cPo V)) ∨ (K.2.1.length = 200 ∧ w_up Y w 16 11 = V) ∨ (K.2.1.length < 200 ∧ ¬ (Y 150 0 + 1 ≤ 8000 ∧ Y 150 1 + (vn : Int) ≤ 60000) ∧ w_up Y w 16 99 = V)
theorem amn_215 (h : rdC 215 kd ec ba gk gb es x 0 K T L G Y) (he50 : Y 50 x = e50) (he51 : Y 51 x = wh) (hgb : 0 ≤ gb ∧ gb < (T.length : Int)) (hhd : (e50 = -1 ∧ hd = gb) ∨ (e50 ≠ -1 ∧ hd = e50)) (hh0 : 0 ≤ hd ∧ hd < (T.length : Int)) (hwh : wh = -1 ∨ (0 ≤ wh ∧ wh < ((tO T hd).2.2.2.2.2.2.length : Int))) (hsz : 0 ≤ wh → wh ≤ 100000) (hkd : kd = 5) (hvk : (gvA T hd wh).1 ≠ 5 ∧ -128 ≤ (gvA T hd wh).1 ∧ (gvA T hd wh).1 ≤ 127) : wJ (pe_GA xs) wY0 (mS [217, 218]) (d + 8) t_XL_act ((pe_at t_XL_act.bl 0).getD (0, [])).2 [(0, (2, 158)), (1, (0, x))] [] Y (fun o V => o = .inl none ∧ w_up Y 215 16 (if (gvA T hd wh).1 = 0 then 4 else 5) = V) := by
  obtain ⟨⟨h, hW, hl, hT⟩, ⟨l4, l5, l7, l8, l9, l10, l12, l13⟩, y16, ⟨hx, e48⟩, hba⟩ := h
  have hP := xP_of (w := 215) (by omega) h
  rw [← w_up_eta y16] at hP
  obtain ⟨hTh, hCa, -, ⟨⟨m1, m2, m3, m4⟩, hl14, ⟨c0, c1⟩, hz16, hz10⟩, ⟨t1, t2, t3, t4⟩, -⟩ := id hW
  obtain ⟨hK, ⟨hC, hI⟩, ⟨k0, k1, -⟩, -⟩ := id h
  obtain ⟨vk, vb, hvv, hcv⟩ := cRd hW hh0 hwh hsz
  refine wJ_mono (xmtn_215 (d := d) (c := (K.2.1.length : Int)) (p := (K.2.1.getD (K.2.1.length - 1) (0, 0, 0, (0, 0, []), 0, 0, 0)).2.1) (h := (K.1.length : Int)) (ba := (ba : Int)) (hd := hd) (st := Y 133 hd) (wh := wh) (vk := vk) (vb := vb) (e50 := e50) hP hl l4 l5 l7 l8 l9 l10 hx ⟨by omega, by omega⟩ t1 t4 hl14 ⟨hz16, hz10⟩ e48 ⟨hh0.1, by omega⟩ hhd he50 he51 ⟨hgb.1, by omega⟩ rfl hvv hkd (by rw [hcv.1]; exact hvk)) (fun o V hq => ?_)
  rw [hcv.1] at hq
  exact hq
theorem enP_215 {f ar pn : Int} {vn : Nat} {th : aV} {V : wS} (h : stC 215 Y K) (hW : cWd Y T L G) (y16 : Y 215 16 = 0) (hba : ba < K.1.length) (hp : 0 ≤ pn) (hz : Y 140 2 ≤ 4 * Y 150 1) (hv1 : vn ≤ 1000) (hth : cVl Y gk gb th) (hLc : (L.length : Int) ≤ 8000) (hq : (((K.2.1.length : Int) < 200 ∧ Y 150 0 + 1 ≤ 8000 ∧ Y 150 1 + (vn : Int) ≤ 60000 ∧ enQ_215 ar (vn : Int) (if (K.1.length : Int) - (ba : Int) - 1 ≤ pn then (K.1.length : Int) - (ba : Int) - 1 else pn) (ba : Int) (K.2.1.length : Int) (K.2.1.getD (K.2.1.length - 1) (0, 0, 0, (0, 0, []), 0, 0, 0)).2.1 f (L.length : Int) gk gb 0 (Y 140 2) Y V) ∨ ((K.2.1.length : Int) = 200 ∧ w_up Y 215 16 11 = V) ∨ ((K.2.1.length : Int) < 200 ∧ ¬ (Y 150 0 + 1 ≤ 8000 ∧ Y 150 1 + (vn : Int) ≤ 60000) ∧ w_up Y 215 16 99 = V))) : caP 215 K T L G ba f ar vn pn th Y V := by
  obtain ⟨hK, ⟨hC, hI⟩, ⟨k0, k1, -⟩, -⟩ := id h
  obtain ⟨e1, e2⟩ := esN_e (K := K) (ba := ba) hba hp
  rcases hq with ⟨q1, q2, q3, q4⟩ | ⟨q1, q2⟩ | ⟨q1, q2, q3⟩
  · rw [← e1] at q4
    have z16 : V 215 16 = Y 215 16 := by
      obtain ⟨A, B, hA, hB, rfl⟩ := id q4
      refine (w_up_no (by omega)).trans ((w_up_no (by omega)).trans ((w_up_no (by omega)).trans ((w_up_no (by omega)).trans ((w_up_no (by omega)).trans ((w_up_no (by omega)).trans ((w_up_no (by omega)).trans ((w_up_no (by omega)).trans ((w_up_no (by omega)).trans ((hB.2 215 16 (Or.inl (by omega))).trans ?_)))))))))
      exact hA.2.2.2.2.2.2.2.1 215 16 (by first | decide | omega) (by first | decide | omega) (by first | decide | omega) (by first | decide | omega) (by first | decide | omega) (by first | decide | omega) (by omega) (by omega) (by omega)
    obtain ⟨r1, r2, r3, r4, r5, r6⟩ := en_k_215 (md := -1) (th := th) hK hW q4 k0 (by omega) e2 hth (Or.inl ⟨rfl, rfl⟩) hLc (by omega)
    exact Or.inl ⟨by omega, ⟨q2, q3⟩, z16.trans y16, r1, r2, r3, r4, r5, r6⟩
  · exact Or.inr (Or.inl ⟨by omega, q2⟩)
  · exact Or.inr (Or.inr ⟨by omega, q2, q3⟩)
theorem acl_215 {f ar pn : Int} {vn : Nat} (hx1 : pe_at (pe_GA xs).xs 1 = some (1, tx_1)) (h : rdC 215 kd ec ba gk gb es x 0 K T L G Y) (hkd : kd = 4) (hfn : cFn T gb f ar vn pn Y) (hu1 : 0 ≤ Y 150 0 ∧ Y 150 0 ≤ 8000) (hv1 : 0 ≤ Y 150 1 ∧ Y 150 1 ≤ 60000) (hz : Y 140 2 ≤ 4 * Y 150 1) (hLc : (L.length : Int) ≤ 8000) : wJ (pe_GA xs) wY0 (mS [217, 218, 138, 139, 141, 142]) (d + 8) t_XL_act ((pe_at t_XL_act.bl 0).getD (0, [])).2 [(0, (2, 158)), (1, (0, x))] [] Y (fun o V => o = .inl none ∧ caP 215 K T L G ba f ar vn pn (0, 0, []) Y V) := by
  obtain ⟨⟨h, hW, hl, hT⟩, ⟨l4, l5, l7, l8, l9, l10, l12, l13⟩, y16, ⟨hx, e48⟩, hba⟩ := h
  have hP := xP_of (w := 215) (by omega) h
  rw [← w_up_eta y16] at hP
  obtain ⟨hTh, hCa, -, ⟨⟨m1, m2, m3, m4⟩, hl14, ⟨c0, c1⟩, hz16, hz10⟩, ⟨t1, t2, t3, t4⟩, -⟩ := id hW
  obtain ⟨hK, ⟨hC, hI⟩, ⟨k0, k1, -⟩, -⟩ := id h
  obtain ⟨f1, ⟨f2, f3⟩, f4, ⟨f5, f6⟩, f7, f8⟩ := hfn
  obtain ⟨⟨-, -, x3, x4, -⟩, -⟩ := hTh.2 gb.toNat (by omega)
  rw [show ((gb.toNat : Nat) : Int) = gb by omega] at x3 x4
  replace x3 : Y 129 gb = f := x3.trans f2
  replace x4 : Y 136 gb = ar := x4.trans f3
  refine wJ_mono (xcal_215 (d := d) (c := (K.2.1.length : Int)) (p := (K.2.1.getD (K.2.1.length - 1) (0, 0, 0, (0, 0, []), 0, 0, 0)).2.1) (h := (K.1.length : Int)) (ba := (ba : Int)) (cs := Y 140 2) (n := (L.length : Int)) (u0 := Y 150 0) (v0 := Y 150 1) (fn := gb) (f := f) (ar := ar) (vs := (vn : Int)) (pn := pn) hP hl l4 l5 l7 l8 l9 l10 hx ⟨by omega, by omega⟩ t1 t4 hl14 ⟨hz16, hz10⟩ hx1 rfl ⟨c0, c1⟩ m1 hCa.1 ⟨by omega, by omega⟩ ⟨by omega, by omega⟩ rfl hu1 rfl hv1 ⟨f1.1, by omega⟩ x3 f4 x4 f5 ⟨by omega, by omega⟩ f7 f8 y16 e48 hkd rfl) (fun o V hq => ?_)
  exact ⟨hq.1, enP_215 (gk := 0) (gb := 0) h hW y16 hba f8.1 hz f6 (cV_e (by first | decide | omega) rfl) hLc hq.2⟩
theorem amf_215 {f ar pn fn : Int} {vn : Nat} {th : aV} (hx1 : pe_at (pe_GA xs).xs 1 = some (1, tx_1)) (h : rdC 215 kd ec ba gk gb es x 0 K T L G Y) (he50 : Y 50 x = e50) (he51 : Y 51 x = wh) (hgb : 0 ≤ gb ∧ gb < (T.length : Int)) (hhd : (e50 = -1 ∧ hd = gb) ∨ (e50 ≠ -1 ∧ hd = e50)) (hh0 : 0 ≤ hd ∧ hd < (T.length : Int)) (hwh : wh = -1 ∨ (0 ≤ wh ∧ wh < ((tO T hd).2.2.2.2.2.2.length : Int))) (hsz : 0 ≤ wh → wh ≤ 100000) (hkd : kd = 5) (hvk : (gvA T hd wh).1 = 5 ∧ (gvA T hd wh).2.1 = fn) (hgk : 0 ≤ gk ∧ gk ≤ 8) (hth : cVl Y gk gb th) (hfn : cFn T fn f ar vn pn Y) (hu1 : 0 ≤ Y 150 0 ∧ Y 150 0 ≤ 8000) (hv1 : 0 ≤ Y 150 1 ∧ Y 150 1 ≤ 60000) (hz : Y 140 2 ≤ 4 * Y 150 1) (hLc : (L.length : Int) ≤ 8000) : wJ (pe_GA xs) wY0 (mS [217, 218, 138, 139, 141, 142]) (d + 8) t_XL_act ((pe_at t_XL_act.bl 0).getD (0, [])).2 [(0, (2, 158)), (1, (0, x))] [] Y (fun o V => o = .inl none ∧ caP 215 K T L G ba f ar vn pn th Y V) := by
  obtain ⟨⟨h, hW, hl, hT⟩, ⟨l4, l5, l7, l8, l9, l10, l12, l13⟩, y16, ⟨hx, e48⟩, hba⟩ := h
  have hP := xP_of (w := 215) (by omega) h
  rw [← w_up_eta y16] at hP
  obtain ⟨hTh, hCa, -, ⟨⟨m1, m2, m3, m4⟩, hl14, ⟨c0, c1⟩, hz16, hz10⟩, ⟨t1, t2, t3, t4⟩, -⟩ := id hW
  obtain ⟨hK, ⟨hC, hI⟩, ⟨k0, k1, -⟩, -⟩ := id h
  obtain ⟨f1, ⟨f2, f3⟩, f4, ⟨f5, f6⟩, f7, f8⟩ := hfn
  obtain ⟨⟨-, -, x3, x4, -⟩, -⟩ := hTh.2 fn.toNat (by omega)
  rw [show ((fn.toNat : Nat) : Int) = fn by omega] at x3 x4
  replace x3 : Y 129 fn = f := x3.trans f2
  replace x4 : Y 136 fn = ar := x4.trans f3
  obtain ⟨vk, vb, hvv, hcv⟩ := cRd hW hh0 hwh hsz
  have e5 : vk = 5 := hcv.1.trans hvk.1
  have eb : vb = fn := ((hcv.2.1 (by omega)).1).trans hvk.2
  refine wJ_mono (xmtf_215 (d := d) (c := (K.2.1.length : Int)) (p := (K.2.1.getD (K.2.1.length - 1) (0, 0, 0, (0, 0, []), 0, 0, 0)).2.1) (h := (K.1.length : Int)) (ba := (ba : Int)) (hd := hd) (st := Y 133 hd) (wh := wh) (vk := vk) (vb := vb) (e50 := e50) (cs := Y 140 2) (n := (L.length : Int)) (u0 := Y 150 0) (v0 := Y 150 1) (fn := fn) (f := f) (ar := ar) (vs := (vn : Int)) (pn := pn) hP hl l4 l5 l7 l8 l9 l10 hx ⟨by omega, by omega⟩ t1 t4 hl14 ⟨hz16, hz10⟩ e48 ⟨hh0.1, by omega⟩ hhd he50 he51 ⟨hgb.1, by omega⟩ rfl hvv hx1 rfl ⟨c0, c1⟩ m1 hCa.1 ⟨by omega, by omega⟩ ⟨by omega, by omega⟩ rfl hu1 rfl hv1 ⟨f1.1, by omega⟩ x3 f4 x4 f5 ⟨by omega, by omega⟩ f7 f8 y16 hkd e5 eb hgk) (fun o V hq => ?_)
  exact ⟨hq.1, enP_215 h hW y16 hba f8.1 hz f6 hth hLc hq.2⟩
theorem amn_226 (h : rdC 226 kd ec ba gk gb es x 0 K T L G Y) (he50 : Y 50 x = e50) (he51 : Y 51 x = wh) (hgb : 0 ≤ gb ∧ gb < (T.length : Int)) (hhd : (e50 = -1 ∧ hd = gb) ∨ (e50 ≠ -1 ∧ hd = e50)) (hh0 : 0 ≤ hd ∧ hd < (T.length : Int)) (hwh : wh = -1 ∨ (0 ≤ wh ∧ wh < ((tO T hd).2.2.2.2.2.2.length : Int))) (hsz : 0 ≤ wh → wh ≤ 100000) (hkd : kd = 5) (hvk : (gvA T hd wh).1 ≠ 5 ∧ -128 ≤ (gvA T hd wh).1 ∧ (gvA T hd wh).1 ≤ 127) : wJ (pe_GA xs) wY0 (mS [228, 229]) (d + 8) t_XL_act ((pe_at t_XL_act.bl 0).getD (0, [])).2 [(0, (2, 158)), (1, (0, x))] [] Y (fun o V => o = .inl none ∧ w_up Y 226 16 (if (gvA T hd wh).1 = 0 then 4 else 5) = V) := by
  obtain ⟨⟨h, hW, hl, hT⟩, ⟨l4, l5, l7, l8, l9, l10, l12, l13⟩, y16, ⟨hx, e48⟩, hba⟩ := h
  have hP := xP_of (w := 226) (by omega) h
  rw [← w_up_eta y16] at hP
  obtain ⟨hTh, hCa, -, ⟨⟨m1, m2, m3, m4⟩, hl14, ⟨c0, c1⟩, hz16, hz10⟩, ⟨t1, t2, t3, t4⟩, -⟩ := id hW
  obtain ⟨hK, ⟨hC, hI⟩, ⟨k0, k1, -⟩, -⟩ := id h
  obtain ⟨vk, vb, hvv, hcv⟩ := cRd hW hh0 hwh hsz
  refine wJ_mono (xmtn_226 (d := d) (c := (K.2.1.length : Int)) (p := (K.2.1.getD (K.2.1.length - 1) (0, 0, 0, (0, 0, []), 0, 0, 0)).2.1) (h := (K.1.length : Int)) (ba := (ba : Int)) (hd := hd) (st := Y 133 hd) (wh := wh) (vk := vk) (vb := vb) (e50 := e50) hP hl l4 l5 l7 l8 l9 l10 hx ⟨by omega, by omega⟩ t1 t4 hl14 ⟨hz16, hz10⟩ e48 ⟨hh0.1, by omega⟩ hhd he50 he51 ⟨hgb.1, by omega⟩ rfl hvv hkd (by rw [hcv.1]; exact hvk)) (fun o V hq => ?_)
  rw [hcv.1] at hq
  exact hq
theorem enP_226 {f ar pn : Int} {vn : Nat} {th : aV} {V : wS} (h : stC 226 Y K) (hW : cWd Y T L G) (y16 : Y 226 16 = 0) (hba : ba < K.1.length) (hp : 0 ≤ pn) (hz : Y 140 2 ≤ 4 * Y 150 1) (hv1 : vn ≤ 1000) (hth : cVl Y gk gb th) (hLc : (L.length : Int) ≤ 8000) (hq : (((K.2.1.length : Int) < 200 ∧ Y 150 0 + 1 ≤ 8000 ∧ Y 150 1 + (vn : Int) ≤ 60000 ∧ enQ_226 ar (vn : Int) (if (K.1.length : Int) - (ba : Int) - 1 ≤ pn then (K.1.length : Int) - (ba : Int) - 1 else pn) (ba : Int) (K.2.1.length : Int) (K.2.1.getD (K.2.1.length - 1) (0, 0, 0, (0, 0, []), 0, 0, 0)).2.1 f (L.length : Int) gk gb 0 (Y 140 2) Y V) ∨ ((K.2.1.length : Int) = 200 ∧ w_up Y 226 16 11 = V) ∨ ((K.2.1.length : Int) < 200 ∧ ¬ (Y 150 0 + 1 ≤ 8000 ∧ Y 150 1 + (vn : Int) ≤ 60000) ∧ w_up Y 226 16 99 = V))) : caP 226 K T L G ba f ar vn pn th Y V := by
  obtain ⟨hK, ⟨hC, hI⟩, ⟨k0, k1, -⟩, -⟩ := id h
  obtain ⟨e1, e2⟩ := esN_e (K := K) (ba := ba) hba hp
  rcases hq with ⟨q1, q2, q3, q4⟩ | ⟨q1, q2⟩ | ⟨q1, q2, q3⟩
  · rw [← e1] at q4
    have z16 : V 226 16 = Y 226 16 := by
      obtain ⟨A, B, hA, hB, rfl⟩ := id q4
      refine (w_up_no (by omega)).trans ((w_up_no (by omega)).trans ((w_up_no (by omega)).trans ((w_up_no (by omega)).trans ((w_up_no (by omega)).trans ((w_up_no (by omega)).trans ((w_up_no (by omega)).trans ((w_up_no (by omega)).trans ((w_up_no (by omega)).trans ((hB.2 226 16 (Or.inl (by omega))).trans ?_)))))))))
      exact hA.2.2.2.2.2.2.2.1 226 16 (by first | decide | omega) (by first | decide | omega) (by first | decide | omega) (by first | decide | omega) (by first | decide | omega) (by first | decide | omega) (by omega) (by omega) (by omega)
    obtain ⟨r1, r2, r3, r4, r5, r6⟩ := en_k_226 (md := -1) (th := th) hK hW q4 k0 (by omega) e2 hth (Or.inl ⟨rfl, rfl⟩) hLc (by omega)
    exact Or.inl ⟨by omega, ⟨q2, q3⟩, z16.trans y16, r1, r2, r3, r4, r5, r6⟩
  · exact Or.inr (Or.inl ⟨by omega, q2⟩)
  · exact Or.inr (Or.inr ⟨by omega, q2, q3⟩)
theorem acl_226 {f ar pn : Int} {vn : Nat} (hx1 : pe_at (pe_GA xs).xs 1 = some (1, tx_1)) (h : rdC 226 kd ec ba gk gb es x 0 K T L G Y) (hkd : kd = 4) (hfn : cFn T gb f ar vn pn Y) (hu1 : 0 ≤ Y 150 0 ∧ Y 150 0 ≤ 8000) (hv1 : 0 ≤ Y 150 1 ∧ Y 150 1 ≤ 60000) (hz : Y 140 2 ≤ 4 * Y 150 1) (hLc : (L.length : Int) ≤ 8000) : wJ (pe_GA xs) wY0 (mS [228, 229, 138, 139, 141, 142]) (d + 8) t_XL_act ((pe_at t_XL_act.bl 0).getD (0, [])).2 [(0, (2, 158)), (1, (0, x))] [] Y (fun o V => o = .inl none ∧ caP 226 K T L G ba f ar vn pn (0, 0, []) Y V) := by
  obtain ⟨⟨h, hW, hl, hT⟩, ⟨l4, l5, l7, l8, l9, l10, l12, l13⟩, y16, ⟨hx, e48⟩, hba⟩ := h
  have hP := xP_of (w := 226) (by omega) h
  rw [← w_up_eta y16] at hP
  obtain ⟨hTh, hCa, -, ⟨⟨m1, m2, m3, m4⟩, hl14, ⟨c0, c1⟩, hz16, hz10⟩, ⟨t1, t2, t3, t4⟩, -⟩ := id hW
  obtain ⟨hK, ⟨hC, hI⟩, ⟨k0, k1, -⟩, -⟩ := id h
  obtain ⟨f1, ⟨f2, f3⟩, f4, ⟨f5, f6⟩, f7, f8⟩ := hfn
  obtain ⟨⟨-, -, x3, x4, -⟩, -⟩ := hTh.2 gb.toNat (by omega)
  rw [show ((gb.toNat : Nat) : Int) = gb by omega] at x3 x4
  replace x3 : Y 129 gb = f := x3.trans f2
  replace x4 : Y 136 gb = ar := x4.trans f3
  refine wJ_mono (xcal_226 (d := d) (c := (K.2.1.length : Int)) (p := (K.2.1.getD (K.2.1.length - 1) (0, 0, 0, (0, 0, []), 0, 0, 0)).2.1) (h := (K.1.length : Int)) (ba := (ba : Int)) (cs := Y 140 2) (n := (L.length : Int)) (u0 := Y 150 0) (v0 := Y 150 1) (fn := gb) (f := f) (ar := ar) (vs := (vn : Int)) (pn := pn) hP hl l4 l5 l7 l8 l9 l10 hx ⟨by omega, by omega⟩ t1 t4 hl14 ⟨hz16, hz10⟩ hx1 rfl ⟨c0, c1⟩ m1 hCa.1 ⟨by omega, by omega⟩ ⟨by omega, by omega⟩ rfl hu1 rfl hv1 ⟨f1.1, by omega⟩ x3 f4 x4 f5 ⟨by omega, by omega⟩ f7 f8 y16 e48 hkd rfl) (fun o V hq => ?_)
  exact ⟨hq.1, enP_226 (gk := 0) (gb := 0) h hW y16 hba f8.1 hz f6 (cV_e (by first | decide | omega) rfl) hLc hq.2⟩
theorem amf_226 {f ar pn fn : Int} {vn : Nat} {th : aV} (hx1 : pe_at (pe_GA xs).xs 1 = some (1, tx_1)) (h : rdC 226 kd ec ba gk gb es x 0 K T L G Y) (he50 : Y 50 x = e50) (he51 : Y 51 x = wh) (hgb : 0 ≤ gb ∧ gb < (T.length : Int)) (hhd : (e50 = -1 ∧ hd = gb) ∨ (e50 ≠ -1 ∧ hd = e50)) (hh0 : 0 ≤ hd ∧ hd < (T.length : Int)) (hwh : wh = -1 ∨ (0 ≤ wh ∧ wh < ((tO T hd).2.2.2.2.2.2.length : Int))) (hsz : 0 ≤ wh → wh ≤ 100000) (hkd : kd = 5) (hvk : (gvA T hd wh).1 = 5 ∧ (gvA T hd wh).2.1 = fn) (hgk : 0 ≤ gk ∧ gk ≤ 8) (hth : cVl Y gk gb th) (hfn : cFn T fn f ar vn pn Y) (hu1 : 0 ≤ Y 150 0 ∧ Y 150 0 ≤ 8000) (hv1 : 0 ≤ Y 150 1 ∧ Y 150 1 ≤ 60000) (hz : Y 140 2 ≤ 4 * Y 150 1) (hLc : (L.length : Int) ≤ 8000) : wJ (pe_GA xs) wY0 (mS [228, 229, 138, 139, 141, 142]) (d + 8) t_XL_act ((pe_at t_XL_act.bl 0).getD (0, [])).2 [(0, (2, 158)), (1, (0, x))] [] Y (fun o V => o = .inl none ∧ caP 226 K T L G ba f ar vn pn th Y V) := by
  obtain ⟨⟨h, hW, hl, hT⟩, ⟨l4, l5, l7, l8, l9, l10, l12, l13⟩, y16, ⟨hx, e48⟩, hba⟩ := h
  have hP := xP_of (w := 226) (by omega) h
  rw [← w_up_eta y16] at hP
  obtain ⟨hTh, hCa, -, ⟨⟨m1, m2, m3, m4⟩, hl14, ⟨c0, c1⟩, hz16, hz10⟩, ⟨t1, t2, t3, t4⟩, -⟩ := id hW
  obtain ⟨hK, ⟨hC, hI⟩, ⟨k0, k1, -⟩, -⟩ := id h
  obtain ⟨f1, ⟨f2, f3⟩, f4, ⟨f5, f6⟩, f7, f8⟩ := hfn
  obtain ⟨⟨-, -, x3, x4, -⟩, -⟩ := hTh.2 fn.toNat (by omega)
  rw [show ((fn.toNat : Nat) : Int) = fn by omega] at x3 x4
  replace x3 : Y 129 fn = f := x3.trans f2
  replace x4 : Y 136 fn = ar := x4.trans f3
  obtain ⟨vk, vb, hvv, hcv⟩ := cRd hW hh0 hwh hsz
  have e5 : vk = 5 := hcv.1.trans hvk.1
  have eb : vb = fn := ((hcv.2.1 (by omega)).1).trans hvk.2
  refine wJ_mono (xmtf_226 (d := d) (c := (K.2.1.length : Int)) (p := (K.2.1.getD (K.2.1.length - 1) (0, 0, 0, (0, 0, []), 0, 0, 0)).2.1) (h := (K.1.length : Int)) (ba := (ba : Int)) (hd := hd) (st := Y 133 hd) (wh := wh) (vk := vk) (vb := vb) (e50 := e50) (cs := Y 140 2) (n := (L.length : Int)) (u0 := Y 150 0) (v0 := Y 150 1) (fn := fn) (f := f) (ar := ar) (vs := (vn : Int)) (pn := pn) hP hl l4 l5 l7 l8 l9 l10 hx ⟨by omega, by omega⟩ t1 t4 hl14 ⟨hz16, hz10⟩ e48 ⟨hh0.1, by omega⟩ hhd he50 he51 ⟨hgb.1, by omega⟩ rfl hvv hx1 rfl ⟨c0, c1⟩ m1 hCa.1 ⟨by omega, by omega⟩ ⟨by omega, by omega⟩ rfl hu1 rfl hv1 ⟨f1.1, by omega⟩ x3 f4 x4 f5 ⟨by omega, by omega⟩ f7 f8 y16 hkd e5 eb hgk) (fun o V hq => ?_)
  exact ⟨hq.1, enP_226 h hW y16 hba f8.1 hz f6 hth hLc hq.2⟩
end Wja
