/-! PART jd: acting at a site by tasks: lists: of the reference. -/
section Wjd
variable {xs : List (Nat × List Int32)} {M : Nat → Prop} {d : Nat} {Y : wS} {K : aK} {T : List aO} {H : List aH} {L : List aC} {G : Int → aV} {sl : Nat → List Int} {t s kd gk gb es hd wh e50 l : Int} {ba : Nat}
/-- a value is added to a list; a list's last value goes -/
def rMe (gb : Int) (j : Nat) (x : Int) : Prop := ((316 ≤ j ∧ j ≤ 318) ∧ x = gb) ∨ (325 ≤ j ∧ j ≤ 328 ∧ 0 ≤ x) ∨ (j = 237 ∧ (x = 82 ∨ x = 63))
def rMs (gb : Int) (j : Nat) (x : Int) : Prop := ((316 ≤ j ∧ j ≤ 318) ∧ x = gb) ∨ (j = 328 ∧ 0 ≤ x)
theorem p_lr (hE : ∃ ad hp, w_E wY0 ad Y hp) (hM : w_ML Y) {i : Int} (h0 : 0 ≤ i) (h1 : i < 4200) : -9223372036854775808 ≤ Y 364 i ∧ Y 364 i ≤ 9223372036854775807 := lr_E hE ⟨Or.inl (by first | decide | omega), by decide⟩ rfl h0 (by rw [ml_364 hM]; exact h1)
theorem s_lr (hE : ∃ ad hp, w_E wY0 ad Y hp) (hM : w_ML Y) {i : Int} (h0 : 0 ≤ i) (h1 : i < 60000) : -9223372036854775808 ≤ Y 326 i ∧ Y 326 i ≤ 9223372036854775807 := lr_E hE ⟨Or.inl (by first | decide | omega), by decide⟩ rfl h0 (by rw [ml_326 hM]; exact h1)
/-- behind a value that was added -/
theorem asF {k v : Int} {a : aV} (hW : rWd Y sl T L G) (hK : rTk t Y K) (hM : w_ML Y) (hgb : 0 ≤ gb ∧ gb < (T.length : Int)) (h82 : 0 ≤ Y 237 82 ∧ Y 237 82 < 60000) (hu : rVl Y k v a) : rWd (asZ gb (-1) k v (Y 237 82) (Y 237 63) ((tO T gb).2.2.2.2.2.2.length : Int) (Y 318 gb) Y) (aSa sl gb.toNat (Y 237 82)) (tAp T gb (-1) a) L G ∧ rTk t (asZ gb (-1) k v (Y 237 82) (Y 237 63) ((tO T gb).2.2.2.2.2.2.length : Int) (Y 318 gb) Y) K ∧ rTx Y (asZ gb (-1) k v (Y 237 82) (Y 237 63) ((tO T gb).2.2.2.2.2.2.length : Int) (Y 318 gb) Y) ∧ (asZ gb (-1) k v (Y 237 82) (Y 237 63) ((tO T gb).2.2.2.2.2.2.length : Int) (Y 318 gb) Y 237 82 = Y 237 82 + 1 ∧ asZ gb (-1) k v (Y 237 82) (Y 237 63) ((tO T gb).2.2.2.2.2.2.length : Int) (Y 318 gb) Y 237 63 = Y 237 63 + 1) ∧ ∀ (j : Nat) (x : Int), ¬ rMe gb j x → asZ gb (-1) k v (Y 237 82) (Y 237 63) ((tO T gb).2.2.2.2.2.2.length : Int) (Y 318 gb) Y j x = Y j x := by
  obtain ⟨-, ⟨b1, b2⟩, b3, b4, -⟩ := hW.1.2 gb.toNat (by omega)
  rw [show ((gb.toNat : Nat) : Int) = gb by omega] at b1 b3
  replace b1 : Y 317 gb = ((tO T gb).2.2.2.2.2.2.length : Int) := b1
  replace b2 : (sl gb.toNat).length = (tO T gb).2.2.2.2.2.2.length := b2
  have hla : ((tO T gb).2.2.2.2.2.2.length : Int) ≠ 0 → 0 ≤ Y 318 gb ∧ Y 318 gb < 60000 := fun z => by
    have w1 := (b3 (by omega)).2
    have w2 := (b4 ((sl gb.toNat).length - 1) (by omega)).1
    rw [w1]
    omega
  have haf : as_f gb (-1) k v (Y 237 82) ((tO T gb).2.2.2.2.2.2.length : Int) (Y 318 gb) Y (asZ gb (-1) k v (Y 237 82) (Y 237 63) ((tO T gb).2.2.2.2.2.2.length : Int) (Y 318 gb) Y) := as_fz rfl
  have fA : ∀ (j : Nat) (x : Int), ¬ rMe gb j x → asZ gb (-1) k v (Y 237 82) (Y 237 63) ((tO T gb).2.2.2.2.2.2.length : Int) (Y 318 gb) Y j x = Y j x := fun j x j0 => by
    unfold rMe at j0
    refine haf.2.2.2 j x (by omega) (by omega) ?_ (by omega)
    by_cases c : ((tO T gb).2.2.2.2.2.2.length : Int) = 0
    · exact Or.inr (Or.inl c)
    · have := hla c
      omega
  have eC : rTx Y (asZ gb (-1) k v (Y 237 82) (Y 237 63) ((tO T gb).2.2.2.2.2.2.length : Int) (Y 318 gb) Y) := rTx_of (fA 237 19 (by unfold rMe; omega)) (fA 237 102 (by unfold rMe; omega)) (fun j x j0 j1 => fA j x (by unfold rMe; omega))
  exact ⟨rWd_ap hW hgb.1 hgb.2 rfl b1 rfl haf h82.1 hu, rTk_fr hK eC (fun j x j0 j1 => fA j x (by unfold rMe; omega)), eC, haf.1, fA⟩
theorem rlzT {ho sh : Int} (h : rdR t kd ba gk gb es 3 ho wh sh K T sl L G Y) (hgk : gk = 6) (hgb : 0 ≤ gb ∧ gb < (T.length : Int)) (hsz : ((tO T gb).2.2.2.2.2.2.length : Int) ≤ 60000) (hes : es = 0) (hkd : kd = 0) : wJ (pe_GA xs) wY0 M (d + 8) t_M_actsOnRow ((pe_at t_M_actsOnRow.bl 0).getD (0, [])).2 [(0, (2, 237)), (1, (0, s)), (2, (0, kd))] [] Y (fun o Z => o = .inl none ∧ rTk t Z (kP K (K.1.length - ba) (2, ((tO T gb).2.2.2.2.2.2.length : Int), [])) ∧ rWd Z sl T L G ∧ rTf t Y Z) := by
  obtain ⟨⟨hP, hK, hW, ht⟩, hKl, ⟨hT, h82, hll⟩, ⟨h73, hba, h74, h75, h76⟩, h66, h69, h70, h71⟩ := h
  obtain ⟨hTh, hCa, -, ⟨hL8, h94⟩, -⟩ := id hW
  have k0 := hKl.1
  rw [hgk] at h74
  obtain ⟨-, ⟨b1, b2⟩, b3, b4, -⟩ := hW.1.2 gb.toNat (by omega)
  rw [show ((gb.toNat : Nat) : Int) = gb by omega] at b1 b3
  replace b1 : Y 317 gb = ((tO T gb).2.2.2.2.2.2.length : Int) := b1
  replace b2 : (sl gb.toNat).length = (tO T gb).2.2.2.2.2.2.length := b2
  have hbb : 0 ≤ (ba : Int) ∧ (ba : Int) < (K.1.length : Int) := ⟨by omega, by omega⟩
  refine wJ_mono (rlz_ok (d := d) (sz := ((tO T gb).2.2.2.2.2.2.length : Int)) hP h73 hbb h74 h75 ⟨hgb.1, by omega⟩ h76 b1 ⟨by omega, hsz⟩ hkd hes) (fun o Z hq => ?_)
  obtain ⟨rfl, rfl⟩ := hq
  exact ⟨rfl, rTk_gv hK ht hKl.1 (by omega) (rV_e (by first | decide | omega) rfl), gvZ_w hW, gvZ_f ht ⟨hKl.1, hKl.2.1⟩ (by omega)⟩
theorem rlnT {ho sh : Int} (h : rdR t kd ba gk gb es 3 ho wh sh K T sl L G Y) (hgk : gk = 6) (hgb : 0 ≤ gb ∧ gb < (T.length : Int)) (hsz : ((tO T gb).2.2.2.2.2.2.length : Int) ≤ 60000) (hs : 0 ≤ s ∧ s < 4000) (h06 : Y 306 s = 0) (hes : es = 0) (hkd : kd = 5) (hz0 : ((tO T gb).2.2.2.2.2.2.length : Int) = 0) : wJ (pe_GA xs) wY0 M (d + 8) t_M_actsOnRow ((pe_at t_M_actsOnRow.bl 0).getD (0, [])).2 [(0, (2, 237)), (1, (0, s)), (2, (0, kd))] [] Y (fun o Z => o = .inl none ∧ rTk t Z (kP K (K.1.length - ba) (0, 0, [])) ∧ rWd Z sl T L G ∧ rTf t Y Z) := by
  obtain ⟨⟨hP, hK, hW, ht⟩, hKl, ⟨hT, h82, hll⟩, ⟨h73, hba, h74, h75, h76⟩, h66, h69, h70, h71⟩ := h
  obtain ⟨hTh, hCa, -, ⟨hL8, h94⟩, -⟩ := id hW
  have k0 := hKl.1
  rw [hgk] at h74
  obtain ⟨-, ⟨b1, b2⟩, b3, b4, -⟩ := hW.1.2 gb.toNat (by omega)
  rw [show ((gb.toNat : Nat) : Int) = gb by omega] at b1 b3
  replace b1 : Y 317 gb = ((tO T gb).2.2.2.2.2.2.length : Int) := b1
  replace b2 : (sl gb.toNat).length = (tO T gb).2.2.2.2.2.2.length := b2
  have hbb : 0 ≤ (ba : Int) ∧ (ba : Int) < (K.1.length : Int) := ⟨by omega, by omega⟩
  refine wJ_mono (rln_ok2 (d := d) (sz := ((tO T gb).2.2.2.2.2.2.length : Int)) hP h73 hbb h74 h75 ⟨hgb.1, by omega⟩ h76 b1 ⟨by omega, hsz⟩ hs h06 hkd hes rfl hz0) (fun o Z hq => ?_)
  obtain ⟨rfl, rfl⟩ := hq
  exact ⟨rfl, rTk_gv hK ht hKl.1 (by omega) (rV_e (by first | decide | omega) rfl), gvZ_w hW, gvZ_f ht ⟨hKl.1, hKl.2.1⟩ (by omega)⟩
theorem rlpT {ho sh : Int} (h : rdR t kd ba gk gb es 3 ho wh sh K T sl L G Y) (hgk : gk = 6) (hgb : 0 ≤ gb ∧ gb < (T.length : Int)) (hsz : ((tO T gb).2.2.2.2.2.2.length : Int) ≤ 60000) (hs : 0 ≤ s ∧ s < 4000) (h06 : Y 306 s = 1) (hes : es = 1) (hkd : kd = 5) (hbl : ba + 2 = K.1.length) (hk1r : 0 ≤ (K.1.getD (K.1.length - 1) (0, 0, [])).1 ∧ (K.1.getD (K.1.length - 1) (0, 0, [])).1 ≤ 8) (h63 : 0 ≤ Y 237 63 ∧ Y 237 63 ≤ 60000) (h8b : 0 ≤ Y 237 82 ∧ Y 237 82 ≤ Y 237 63) : wJ (pe_GA xs) wY0 M (d + 8) t_M_actsOnRow ((pe_at t_M_actsOnRow.bl 0).getD (0, [])).2 [(0, (2, 237)), (1, (0, s)), (2, (0, kd))] [] Y (fun o Z => (60000 ≤ Y 237 63 ∧ o = .inr 238 ∧ hZ 99 Y = Z) ∨ (Y 237 63 < 60000 ∧ o = .inl none ∧ rTk t Z (kP K (K.1.length - ba) (2, ((tO T gb).2.2.2.2.2.2.length : Int) + 1, [])) ∧ rWd Z (aSa sl gb.toNat (Y 237 82)) (tAp T gb (-1) (K.1.getD (K.1.length - 1) (0, 0, []))) L G ∧ rTm t (rMe gb) Y Z ∧ Z 237 63 = Y 237 63 + 1 ∧ Z 237 82 = Y 237 82 + 1)) := wJ_E (fun hE => by
  obtain ⟨⟨hP, hK, hW, ht⟩, hKl, ⟨hT, h82, hll⟩, ⟨h73, hba, h74, h75, h76⟩, h66, h69, h70, h71⟩ := h
  obtain ⟨hTh, hCa, -, ⟨hL8, h94⟩, -⟩ := id hW
  have k0 := hKl.1
  rw [hgk] at h74
  obtain ⟨-, ⟨b1, b2⟩, b3, b4, -⟩ := hW.1.2 gb.toNat (by omega)
  rw [show ((gb.toNat : Nat) : Int) = gb by omega] at b1 b3
  replace b1 : Y 317 gb = ((tO T gb).2.2.2.2.2.2.length : Int) := b1
  replace b2 : (sl gb.toNat).length = (tO T gb).2.2.2.2.2.2.length := b2
  have hbb : 0 ≤ (ba : Int) ∧ (ba : Int) < (K.1.length : Int) := ⟨by omega, by omega⟩
  have hu : rVl Y (Y 363 (2100 * t + (ba : Int) + 1)) (Y 364 (2100 * t + (ba : Int) + 1)) (K.1.getD (ba + 1) (0, 0, [])) := by
    have z := hK.1.2 (ba + 1) (by omega)
    rw [show 2100 * t + ((ba + 1 : Nat) : Int) = 2100 * t + (ba : Int) + 1 by omega] at z
    exact z
  rw [show ba + 1 = K.1.length - 1 by omega] at hu
  have hla : ((tO T gb).2.2.2.2.2.2.length : Int) ≠ 0 → 0 ≤ Y 318 gb ∧ Y 318 gb < 60000 := fun z => by
    have w1 := (b3 (by omega)).2
    have w2 := (b4 ((sl gb.toNat).length - 1) (by omega)).1
    rw [w1]
    omega
  refine wJ_mono (rlp_ok (d := d) (sz := ((tO T gb).2.2.2.2.2.2.length : Int)) (k1 := Y 363 (2100 * t + (ba : Int) + 1)) (v1 := Y 364 (2100 * t + (ba : Int) + 1)) (v0 := Y 237 63) (s0 := Y 237 82) (la := Y 318 gb) hP h73 hbb h74 h75 ⟨hgb.1, by omega⟩ h76 b1 ⟨by omega, hsz⟩ rfl rfl (by rw [hu.1]; exact hk1r) (p_lr hE hP.1 (by omega) (by omega)) rfl h63 rfl h8b rfl hla hs h06 hkd hes rfl (by omega)) (fun o Z hq => ?_)
  rcases hq with hq | ⟨q1, rfl, rfl⟩
  · exact Or.inl hq
  · obtain ⟨g1, g2, g3, ⟨g4, g5⟩, g6⟩ := asF hW hK hP.1 hgb ⟨h8b.1, by omega⟩ hu
    have gf := gvZ_f (t := t) (ba := ba) (K := K) (k := 2) (v := ((tO T gb).2.2.2.2.2.2.length : Int) + 1) (Y := asZ gb (-1) (Y 363 (2100 * t + (ba : Int) + 1)) (Y 364 (2100 * t + (ba : Int) + 1)) (Y 237 82) (Y 237 63) ((tO T gb).2.2.2.2.2.2.length : Int) (Y 318 gb) Y) ht ⟨hKl.1, hKl.2.1⟩ (by omega)
    exact Or.inr ⟨q1, rfl, rTk_gv g2 ht hKl.1 (by omega) (rV_e (by first | decide | omega) rfl), gvZ_w g1, fun j x o n => (gf j x o).trans (g6 j x n), (gf 237 63 (by unfold rOut; omega)).trans g5, (gf 237 82 (by unfold rOut; omega)).trans g4⟩)
theorem rloT {ho sh : Int} (h : rdR t kd ba gk gb es 3 ho wh sh K T sl L G Y) (hgk : gk = 6) (hgb : 0 ≤ gb ∧ gb < (T.length : Int)) (hsz : ((tO T gb).2.2.2.2.2.2.length : Int) ≤ 60000) (hs : 0 ≤ s ∧ s < 4000) (h06 : Y 306 s = 0) (hes : es = 0) (hkd : kd = 5) (hz0 : 0 < ((tO T gb).2.2.2.2.2.2.length : Int)) (hvk : 0 ≤ (gvA T gb (((tO T gb).2.2.2.2.2.2.length : Int) - 1)).1 ∧ (gvA T gb (((tO T gb).2.2.2.2.2.2.length : Int) - 1)).1 ≤ 8) : wJ (pe_GA xs) wY0 M (d + 8) t_M_actsOnRow ((pe_at t_M_actsOnRow.bl 0).getD (0, [])).2 [(0, (2, 237)), (1, (0, s)), (2, (0, kd))] [] Y (fun o Z => o = .inl none ∧ rTk t Z (kP K (K.1.length - ba) (gvA T gb (((tO T gb).2.2.2.2.2.2.length : Int) - 1))) ∧ rWd Z (slD sl gb (((tO T gb).2.2.2.2.2.2.length : Int) - 1)) (tDp T gb (((tO T gb).2.2.2.2.2.2.length : Int) - 1)) L G ∧ rTm t (rMs gb) Y Z) := wJ_E (fun hE => by
  obtain ⟨⟨hP, hK, hW, ht⟩, hKl, ⟨hT, h82, hll⟩, ⟨h73, hba, h74, h75, h76⟩, h66, h69, h70, h71⟩ := h
  obtain ⟨hTh, hCa, -, ⟨hL8, h94⟩, -⟩ := id hW
  have k0 := hKl.1
  rw [hgk] at h74
  obtain ⟨-, ⟨b1, b2⟩, b3, b4, -⟩ := hW.1.2 gb.toNat (by omega)
  rw [show ((gb.toNat : Nat) : Int) = gb by omega] at b1 b3
  replace b1 : Y 317 gb = ((tO T gb).2.2.2.2.2.2.length : Int) := b1
  replace b2 : (sl gb.toNat).length = (tO T gb).2.2.2.2.2.2.length := b2
  have hbb : 0 ≤ (ba : Int) ∧ (ba : Int) < (K.1.length : Int) := ⟨by omega, by omega⟩
  obtain ⟨⟨z1, z2⟩, z3, z4⟩ := slot_v (hd := gb) (wh := ((tO T gb).2.2.2.2.2.2.length : Int) - 1) hW hgb h82 ⟨by omega, by omega⟩
  refine wJ_mono (rlo_ok (d := d) (sl := sl) (T := T) (l := sl gb.toNat) (sz := ((tO T gb).2.2.2.2.2.2.length : Int)) (lk := Y 325 ((sl gb.toNat).getD (((tO T gb).2.2.2.2.2.2.length : Int) - 1).toNat 0)) (lv := Y 326 ((sl gb.toNat).getD (((tO T gb).2.2.2.2.2.2.length : Int) - 1).toNat 0)) hP h73 hbb h74 h75 ⟨hgb.1, by omega⟩ h76 b1 ⟨by omega, hsz⟩ hs h06 hTh hgb.2 hT h82 rfl z2 (by omega) ⟨rfl, rfl⟩ (by rw [z4.1]; exact hvk) (s_lr hE hP.1 z3.1 z3.2) hkd hes rfl hz0) (fun o Z hq => ?_)
  obtain ⟨rfl, A, hds, rfl⟩ := hq
  have fA : ∀ (j : Nat) (x : Int), ¬ rMs gb j x → A j x = Y j x := fun j x j0 => by
    unfold rMs at j0
    refine hds.2.2.1 j x (by omega) ?_
    by_cases c : j = 328
    · exact Or.inr (Or.inl (by omega))
    · exact Or.inl c
  have eA : rTx Y A := rTx_of (fA 237 19 (by unfold rMs; omega)) (fA 237 102 (by unfold rMs; omega)) (fun j x j0 j1 => fA j x (by unfold rMs; omega))
  have hWA := rWd_dr hW hgb.1 hgb.2 ⟨by omega, by omega⟩ hds
  have hKA : rTk t A K := rTk_fr hK eA (fun j x j0 j1 => fA j x (by unfold rMs; omega))
  exact ⟨rfl, rTk_gv hKA ht hKl.1 (by omega) (rVl_mo z4 eA), gvZ_w hWA, fun j x o n => (gvZ_f ht ⟨hKl.1, hKl.2.1⟩ (by omega) j x o).trans (fA j x n)⟩)
theorem rleT {ho sh : Int} (h : rdR t kd ba gk gb es 3 ho wh sh K T sl L G Y) (hgk : gk = 6) (hgb : 0 ≤ gb ∧ gb < (T.length : Int)) (hsz : ((tO T gb).2.2.2.2.2.2.length : Int) ≤ 60000) (hes : es = 1) (hkd : kd = 2) (hb1 : ba + 1 < K.1.length) (hk1r : 0 ≤ (K.1.getD (ba + 1) (0, 0, [])).1 ∧ (K.1.getD (ba + 1) (0, 0, [])).1 ≤ 8) (hvk : ∀ i : Int, 0 ≤ i → i < ((tO T gb).2.2.2.2.2.2.length : Int) → 0 ≤ (gvA T gb i).1 ∧ (gvA T gb i).1 ≤ 8) : wJ (pe_GA xs) wY0 M (d + 8) t_M_actsOnRow ((pe_at t_M_actsOnRow.bl 0).getD (0, [])).2 [(0, (2, 237)), (1, (0, s)), (2, (0, kd))] [] Y (fun o Z => (¬ ((K.1.getD (ba + 1) (0, 0, [])).1 = 2 ∧ 0 ≤ (K.1.getD (ba + 1) (0, 0, [])).2.1 ∧ (K.1.getD (ba + 1) (0, 0, [])).2.1 < ((tO T gb).2.2.2.2.2.2.length : Int)) ∧ o = .inr 238 ∧ hZ 6 Y = Z) ∨ (((K.1.getD (ba + 1) (0, 0, [])).1 = 2 ∧ 0 ≤ (K.1.getD (ba + 1) (0, 0, [])).2.1 ∧ (K.1.getD (ba + 1) (0, 0, [])).2.1 < ((tO T gb).2.2.2.2.2.2.length : Int)) ∧ o = .inl none ∧ rTk t Z (kP K (K.1.length - ba) (gvA T gb (K.1.getD (ba + 1) (0, 0, [])).2.1)) ∧ rWd Z sl T L G ∧ rTf t Y Z)) := wJ_E (fun hE => by
  obtain ⟨⟨hP, hK, hW, ht⟩, hKl, ⟨hT, h82, hll⟩, ⟨h73, hba, h74, h75, h76⟩, h66, h69, h70, h71⟩ := h
  obtain ⟨hTh, hCa, -, ⟨hL8, h94⟩, -⟩ := id hW
  have k0 := hKl.1
  rw [hgk] at h74
  obtain ⟨-, ⟨b1, b2⟩, b3, b4, -⟩ := hW.1.2 gb.toNat (by omega)
  rw [show ((gb.toNat : Nat) : Int) = gb by omega] at b1 b3
  replace b1 : Y 317 gb = ((tO T gb).2.2.2.2.2.2.length : Int) := b1
  replace b2 : (sl gb.toNat).length = (tO T gb).2.2.2.2.2.2.length := b2
  have hbb : 0 ≤ (ba : Int) ∧ (ba : Int) < (K.1.length : Int) := ⟨by omega, by omega⟩
  have hu : rVl Y (Y 363 (2100 * t + (ba : Int) + 1)) (Y 364 (2100 * t + (ba : Int) + 1)) (K.1.getD (ba + 1) (0, 0, [])) := by
    have z := hK.1.2 (ba + 1) (by omega)
    rw [show 2100 * t + ((ba + 1 : Nat) : Int) = 2100 * t + (ba : Int) + 1 by omega] at z
    exact z
  have e1 := hu.1
  obtain ⟨v1, hv1e, hv1c⟩ : ∃ v1 : Int, Y 364 (2100 * t + (ba : Int) + 1) = v1 ∧ ((K.1.getD (ba + 1) (0, 0, [])).1 = 2 → v1 = (K.1.getD (ba + 1) (0, 0, [])).2.1) := ⟨_, rfl, fun z => (hu.2.1 (by omega)).1⟩
  have hslC : slC Y gb (sl gb.toNat) := ⟨by rw [b1, b2], fun z => (b3 z).1, fun q hq => ⟨by have := (b4 q hq).1; omega, (b4 q hq).2.2.2⟩⟩
  obtain ⟨lk, lv, q1, q2, q3, q4⟩ : ∃ lk lv : Int, (Y 363 (2100 * t + (ba : Int) + 1) = 2 → 0 ≤ v1 → v1 < ((tO T gb).2.2.2.2.2.2.length : Int) → Y 325 ((sl gb.toNat).getD v1.toNat 0) = lk ∧ Y 326 ((sl gb.toNat).getD v1.toNat 0) = lv) ∧ (0 ≤ lk ∧ lk ≤ 8) ∧ (-9223372036854775808 ≤ lv ∧ lv ≤ 9223372036854775807) ∧ (((K.1.getD (ba + 1) (0, 0, [])).1 = 2 ∧ 0 ≤ (K.1.getD (ba + 1) (0, 0, [])).2.1 ∧ (K.1.getD (ba + 1) (0, 0, [])).2.1 < ((tO T gb).2.2.2.2.2.2.length : Int)) → rVl Y lk lv (gvA T gb (K.1.getD (ba + 1) (0, 0, [])).2.1)) := by
    by_cases c : (K.1.getD (ba + 1) (0, 0, [])).1 = 2 ∧ 0 ≤ (K.1.getD (ba + 1) (0, 0, [])).2.1 ∧ (K.1.getD (ba + 1) (0, 0, [])).2.1 < ((tO T gb).2.2.2.2.2.2.length : Int)
    · have e := hv1c c.1
      obtain ⟨-, z3, z4⟩ := slot_v (hd := gb) (wh := (K.1.getD (ba + 1) (0, 0, [])).2.1) hW hgb h82 c.2
      have hv8 := hvk _ c.2.1 c.2.2
      rw [← e] at z3 z4 hv8 ⊢
      exact ⟨_, _, fun _ _ _ => ⟨rfl, rfl⟩, by rw [z4.1]; exact hv8, s_lr hE hP.1 z3.1 z3.2, fun _ => z4⟩
    · refine ⟨0, 0, fun z1 z2 z3 => absurd ?_ c, by decide, by decide, fun z => absurd z c⟩
      have e := hv1c (e1.symm.trans z1)
      rw [← e]
      exact ⟨e1.symm.trans z1, z2, z3⟩
  refine wJ_mono (rle_ok (d := d) (l := sl gb.toNat) (sz := ((tO T gb).2.2.2.2.2.2.length : Int)) (k1 := Y 363 (2100 * t + (ba : Int) + 1)) (v1 := v1) (lk := lk) (lv := lv) hP h73 hbb h74 h75 ⟨hgb.1, by omega⟩ h76 b1 ⟨by omega, hsz⟩ rfl hv1e (by rw [e1]; exact hk1r) (by rw [← hv1e]; exact p_lr hE hP.1 (by omega) (by omega)) hslC (by omega) q1 q2 q3 hkd hes (by omega)) (fun o Z hq => ?_)
  rcases hq with ⟨n1, n2, n3⟩ | ⟨⟨n1, n2, n3⟩, rfl, rfl⟩
  · refine Or.inl ⟨fun c => n1 ?_, n2, n3⟩
    rw [hv1c c.1]
    exact ⟨e1.trans c.1, c.2⟩
  · have e := hv1c (e1.symm.trans n1)
    have c : (K.1.getD (ba + 1) (0, 0, [])).1 = 2 ∧ 0 ≤ (K.1.getD (ba + 1) (0, 0, [])).2.1 ∧ (K.1.getD (ba + 1) (0, 0, [])).2.1 < ((tO T gb).2.2.2.2.2.2.length : Int) := ⟨e1.symm.trans n1, by omega, by omega⟩
    exact Or.inr ⟨c, rfl, rTk_gv hK ht hKl.1 (by omega) (q4 c), gvZ_w hW, gvZ_f ht ⟨hKl.1, hKl.2.1⟩ (by omega)⟩)
theorem rlsT {ho sh : Int} (h : rdR t kd ba gk gb es 3 ho wh sh K T sl L G Y) (hgk : gk = 6) (hgb : 0 ≤ gb ∧ gb < (T.length : Int)) (hsz : ((tO T gb).2.2.2.2.2.2.length : Int) ≤ 60000) (hes : es = 2) (hkd : kd = 3) (hbl : ba + 3 = K.1.length) (hk1r : 0 ≤ (K.1.getD (ba + 1) (0, 0, [])).1 ∧ (K.1.getD (ba + 1) (0, 0, [])).1 ≤ 8) (hk2r : 0 ≤ (K.1.getD (K.1.length - 1) (0, 0, [])).1 ∧ (K.1.getD (K.1.length - 1) (0, 0, [])).1 ≤ 8) (h63 : 0 ≤ Y 237 63 ∧ Y 237 63 ≤ 60000) (h8b : 0 ≤ Y 237 82 ∧ Y 237 82 ≤ Y 237 63) : wJ (pe_GA xs) wY0 M (d + 8) t_M_actsOnRow ((pe_at t_M_actsOnRow.bl 0).getD (0, [])).2 [(0, (2, 237)), (1, (0, s)), (2, (0, kd))] [] Y (fun o Z => (¬ ((K.1.getD (ba + 1) (0, 0, [])).1 = 2 ∧ 0 ≤ (K.1.getD (ba + 1) (0, 0, [])).2.1 ∧ (K.1.getD (ba + 1) (0, 0, [])).2.1 ≤ ((tO T gb).2.2.2.2.2.2.length : Int)) ∧ o = .inr 238 ∧ hZ 6 Y = Z) ∨ (((K.1.getD (ba + 1) (0, 0, [])).1 = 2 ∧ (K.1.getD (ba + 1) (0, 0, [])).2.1 = ((tO T gb).2.2.2.2.2.2.length : Int)) ∧ 60000 ≤ Y 237 63 ∧ o = .inr 238 ∧ hZ 99 Y = Z) ∨ (((K.1.getD (ba + 1) (0, 0, [])).1 = 2 ∧ (K.1.getD (ba + 1) (0, 0, [])).2.1 = ((tO T gb).2.2.2.2.2.2.length : Int)) ∧ Y 237 63 < 60000 ∧ o = .inl none ∧ rTk t Z (kP K (K.1.length - ba) (K.1.getD (K.1.length - 1) (0, 0, []))) ∧ rWd Z (aSa sl gb.toNat (Y 237 82)) (tAp T gb (-1) (K.1.getD (K.1.length - 1) (0, 0, []))) L G ∧ rTm t (rMe gb) Y Z ∧ Z 237 63 = Y 237 63 + 1 ∧ Z 237 82 = Y 237 82 + 1) ∨ (((K.1.getD (ba + 1) (0, 0, [])).1 = 2 ∧ 0 ≤ (K.1.getD (ba + 1) (0, 0, [])).2.1 ∧ (K.1.getD (ba + 1) (0, 0, [])).2.1 < ((tO T gb).2.2.2.2.2.2.length : Int)) ∧ o = .inl none ∧ rTk t Z (kP K (K.1.length - ba) (K.1.getD (K.1.length - 1) (0, 0, []))) ∧ rWd Z sl (tSp T gb (K.1.getD (ba + 1) (0, 0, [])).2.1.toNat (K.1.getD (K.1.length - 1) (0, 0, []))) L G ∧ rTm t rMv Y Z)) := wJ_E (fun hE => by
  obtain ⟨⟨hP, hK, hW, ht⟩, hKl, ⟨hT, h82, hll⟩, ⟨h73, hba, h74, h75, h76⟩, h66, h69, h70, h71⟩ := h
  obtain ⟨hTh, hCa, -, ⟨hL8, h94⟩, -⟩ := id hW
  have k0 := hKl.1
  rw [hgk] at h74
  obtain ⟨-, ⟨b1, b2⟩, b3, b4, -⟩ := hW.1.2 gb.toNat (by omega)
  rw [show ((gb.toNat : Nat) : Int) = gb by omega] at b1 b3
  replace b1 : Y 317 gb = ((tO T gb).2.2.2.2.2.2.length : Int) := b1
  replace b2 : (sl gb.toNat).length = (tO T gb).2.2.2.2.2.2.length := b2
  have hbb : 0 ≤ (ba : Int) ∧ (ba : Int) < (K.1.length : Int) := ⟨by omega, by omega⟩
  have hu1 : rVl Y (Y 363 (2100 * t + (ba : Int) + 1)) (Y 364 (2100 * t + (ba : Int) + 1)) (K.1.getD (ba + 1) (0, 0, [])) := by
    have z := hK.1.2 (ba + 1) (by omega)
    rw [show 2100 * t + ((ba + 1 : Nat) : Int) = 2100 * t + (ba : Int) + 1 by omega] at z
    exact z
  have hu : rVl Y (Y 363 (2100 * t + (ba : Int) + 2)) (Y 364 (2100 * t + (ba : Int) + 2)) (K.1.getD (ba + 2) (0, 0, [])) := by
    have z := hK.1.2 (ba + 2) (by omega)
    rw [show 2100 * t + ((ba + 2 : Nat) : Int) = 2100 * t + (ba : Int) + 2 by omega] at z
    exact z
  rw [show ba + 2 = K.1.length - 1 by omega] at hu
  have e1 := hu1.1
  obtain ⟨v1, hv1e, hv1c⟩ : ∃ v1 : Int, Y 364 (2100 * t + (ba : Int) + 1) = v1 ∧ ((K.1.getD (ba + 1) (0, 0, [])).1 = 2 → v1 = (K.1.getD (ba + 1) (0, 0, [])).2.1) := ⟨_, rfl, fun z => (hu1.2.1 (by omega)).1⟩
  have hslC : slC Y gb (sl gb.toNat) := ⟨by rw [b1, b2], fun z => (b3 z).1, fun q hq => ⟨by have := (b4 q hq).1; omega, (b4 q hq).2.2.2⟩⟩
  have hla : ((tO T gb).2.2.2.2.2.2.length : Int) ≠ 0 → 0 ≤ Y 318 gb ∧ Y 318 gb < 60000 := fun z => by
    have w1 := (b3 (by omega)).2
    have w2 := (b4 ((sl gb.toNat).length - 1) (by omega)).1
    rw [w1]
    omega
  refine wJ_mono (rls_ok2 (d := d) (l := sl gb.toNat) (sz := ((tO T gb).2.2.2.2.2.2.length : Int)) (k1 := Y 363 (2100 * t + (ba : Int) + 1)) (v1 := v1) (ky := Y 363 (2100 * t + (ba : Int) + 2)) (vy := Y 364 (2100 * t + (ba : Int) + 2)) (v0 := Y 237 63) (s0 := Y 237 82) (la := Y 318 gb) hP h73 hbb h74 h75 ⟨hgb.1, by omega⟩ h76 b1 ⟨by omega, hsz⟩ rfl hv1e (by rw [e1]; exact hk1r) (by rw [← hv1e]; exact p_lr hE hP.1 (by omega) (by omega)) rfl rfl (by rw [hu.1]; exact hk2r) (p_lr hE hP.1 (by omega) (by omega)) rfl h63 rfl h8b rfl hla hslC (by omega) hkd hes (by omega)) (fun o Z hq => ?_)
  rcases hq with ⟨n1, n2, n3⟩ | ⟨⟨n1, n2⟩, n3, n4, n5⟩ | ⟨⟨n1, n2⟩, n3, rfl, rfl⟩ | ⟨⟨n1, n2, n3⟩, rfl, rfl⟩
  · refine Or.inl ⟨fun c => n1 ?_, n2, n3⟩
    rw [hv1c c.1]
    exact ⟨e1.trans c.1, c.2⟩
  · have e := hv1c (e1.symm.trans n1)
    exact Or.inr (Or.inl ⟨⟨e1.symm.trans n1, by omega⟩, n3, n4, n5⟩)
  · have e := hv1c (e1.symm.trans n1)
    obtain ⟨g1, g2, g3, ⟨g4, g5⟩, g6⟩ := asF hW hK hP.1 hgb ⟨h8b.1, by omega⟩ hu
    have gf := gvZ_f (t := t) (ba := ba) (K := K) (k := Y 363 (2100 * t + (ba : Int) + 2)) (v := Y 364 (2100 * t + (ba : Int) + 2)) (Y := asZ gb (-1) (Y 363 (2100 * t + (ba : Int) + 2)) (Y 364 (2100 * t + (ba : Int) + 2)) (Y 237 82) (Y 237 63) ((tO T gb).2.2.2.2.2.2.length : Int) (Y 318 gb) Y) ht ⟨hKl.1, hKl.2.1⟩ (by omega)
    exact Or.inr (Or.inr (Or.inl ⟨⟨e1.symm.trans n1, by omega⟩, n3, rfl, rTk_gv g2 ht hKl.1 (by omega) (rVl_mo hu g3), gvZ_w g1, fun j x o n => (gf j x o).trans (g6 j x n), (gf 237 63 (by unfold rOut; omega)).trans g5, (gf 237 82 (by unfold rOut; omega)).trans g4⟩))
  · have e := hv1c (e1.symm.trans n1)
    have c : (K.1.getD (ba + 1) (0, 0, [])).1 = 2 ∧ 0 ≤ (K.1.getD (ba + 1) (0, 0, [])).2.1 ∧ (K.1.getD (ba + 1) (0, 0, [])).2.1 < ((tO T gb).2.2.2.2.2.2.length : Int) := ⟨e1.symm.trans n1, by omega, by omega⟩
    obtain ⟨-, z3, -⟩ := slot_v (hd := gb) (wh := (K.1.getD (ba + 1) (0, 0, [])).2.1) hW hgb h82 c.2
    rw [← e] at z3
    have hWA := rWd_sp (k := gb) (i := (K.1.getD (ba + 1) (0, 0, [])).2.1.toNat) hW hgb.1 hgb.2 (by omega) hu
    rw [← e] at hWA ⊢
    have eC : rTx Y (w_up (w_up Y 325 ((sl gb.toNat).getD v1.toNat 0) (Y 363 (2100 * t + (ba : Int) + 2))) 326 ((sl gb.toNat).getD v1.toNat 0) (Y 364 (2100 * t + (ba : Int) + 2))) := rTx_of rfl rfl (fun j x j0 j1 => (w_up_slot (by omega)).trans (w_up_slot (by omega)))
    have hKC := rTk_fr hK eC (fun j x j0 j1 => (w_up_slot (by omega)).trans (w_up_slot (by omega)))
    refine Or.inr (Or.inr (Or.inr ⟨⟨e1.symm.trans n1, n2, n3⟩, rfl, rTk_gv hKC ht hKl.1 (by omega) (rVl_mo hu eC), gvZ_w hWA, fun j x o n => ?_⟩))
    refine (gvZ_f ht ⟨hKl.1, hKl.2.1⟩ (by omega) j x o).trans ?_
    unfold rMv at n
    exact (w_up_no (by omega)).trans (w_up_no (by omega)))
end Wjd
