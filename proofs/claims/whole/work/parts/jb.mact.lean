/-! PART jb: acting at a site by tasks: a method that is no fun, calls: of the reference. -/
section Wjb
variable {xs : List (Nat × List Int32)} {M : Nat → Prop} {d : Nat} {Y : wS} {K : aK} {T : List aO} {H : List aH} {L : List aC} {G : Int → aV} {sl : Nat → List Int} {t s kd gk gb es hd wh e50 l : Int} {ba : Nat}
/-- a site is ready to act: the task, the world, where it goes to, what was found -/
def rdR (t kd : Int) (ba : Nat) (gk gb es l ho wh sh : Int) (K : aK) (T : List aO) (sl : Nat → List Int) (L : List aC) (G : Int → aV) (Y : wS) : Prop := (mP t (K.2.1.length : Int) (K.2.1.getD (K.2.1.length - 1) (0, 0, 0, (0, 0, []), 0, 0, 0)).2.1 (K.1.length : Int) (200 * t + (K.2.1.length : Int) - 1) Y ∧ rTk t Y K ∧ rWd Y sl T L G ∧ (0 ≤ t ∧ t ≤ 1)) ∧ (0 < K.2.1.length ∧ K.2.1.length ≤ 200 ∧ K.1.length ≤ 2001) ∧ ((T.length : Int) ≤ 8000 ∧ Y 237 82 ≤ 60000 ∧ ∀ q : Nat, q < T.length → (sl q).length ≤ 60000) ∧ (Y 237 173 = 2100 * t + (ba : Int) ∧ ba < K.1.length ∧ Y 237 174 = gk ∧ Y 237 175 = gb ∧ Y 237 176 = es) ∧ Y 237 166 = l ∧ Y 237 169 = ho ∧ Y 237 170 = wh ∧ Y 237 171 = sh
/-- what stands at a place that was found -/
theorem rRd (hW : rWd Y sl T L G) (h82 : Y 237 82 ≤ 60000) (hll : ∀ q : Nat, q < T.length → (sl q).length ≤ 60000) (hhd : (e50 = -1 ∧ hd = gb) ∨ (e50 ≠ -1 ∧ hd = e50)) (hh0 : 0 ≤ hd ∧ hd < (T.length : Int)) (hwh : wh = -1 ∨ (0 ≤ wh ∧ wh < ((tO T hd).2.2.2.2.2.2.length : Int))) (hE : ∃ ad hp, w_E wY0 ad Y hp) (hM : w_ML Y) : ∃ vk vb : Int, ((wh = -1 ∧ vk = 0 ∧ vb = 0) ∨ (0 ≤ wh ∧ wh < ((sl hd.toNat).length : Int) ∧ (sl hd.toNat).length ≤ 60000 ∧ slC Y (if e50 = -1 then gb else e50) (sl hd.toNat) ∧ (sl hd.toNat).getD wh.toNat 0 = (sl hd.toNat).getD wh.toNat 0 ∧ Y 325 ((sl hd.toNat).getD wh.toNat 0) = vk ∧ Y 326 ((sl hd.toNat).getD wh.toNat 0) = vb)) ∧ rVl Y vk vb (gvA T hd wh) ∧ (-9223372036854775808 ≤ vb ∧ vb ≤ 9223372036854775807) := by
  have hif : (if e50 = -1 then gb else e50) = hd := by
    rcases hhd with ⟨z1, z2⟩ | ⟨z1, z2⟩
    · rw [if_pos z1, z2]
    · rw [if_neg z1, z2]
  rcases hwh with c | c
  · exact ⟨0, 0, Or.inl ⟨c, rfl, rfl⟩, by unfold gvA; rw [if_pos c]; exact ⟨rfl, fun _ => ⟨rfl, rfl⟩, fun z => absurd z (by first | decide | omega)⟩, by decide⟩
  · obtain ⟨⟨z1, z2⟩, z3, z4⟩ := slot_v hW hh0 h82 c
    exact ⟨_, _, Or.inr ⟨c.1, z1, hll _ (by omega), by rw [hif]; exact z2, rfl, rfl, rfl⟩, z4, lr_E hE ⟨Or.inl (by first | decide | omega), by decide⟩ rfl z3.1 (by rw [ml_326 hM]; omega)⟩
theorem rmT (h : rdR t kd ba gk gb es 0 e50 wh (-1) K T sl L G Y) (hgb : 0 ≤ gb ∧ gb < (T.length : Int)) (hhd : (e50 = -1 ∧ hd = gb) ∨ (e50 ≠ -1 ∧ hd = e50)) (hh0 : 0 ≤ hd ∧ hd < (T.length : Int)) (hwh : wh = -1 ∨ (0 ≤ wh ∧ wh < ((tO T hd).2.2.2.2.2.2.length : Int))) (hkd : kd = 5) (hvk : (gvA T hd wh).1 ≠ 5 ∧ 0 ≤ (gvA T hd wh).1 ∧ (gvA T hd wh).1 ≤ 8) : wJ (pe_GA xs) wY0 M (d + 8) t_M_actsOnThing ((pe_at t_M_actsOnThing.bl 0).getD (0, [])).2 [(0, (2, 237)), (1, (0, s)), (2, (0, kd))] [] Y (fun o Z => o = .inr 238 ∧ hZ (if (gvA T hd wh).1 = 0 then 4 else 5) Y = Z) := wJ_E (fun hE => by
  obtain ⟨⟨hP, hK, hW, ht⟩, hKl, ⟨hT, h82, hll⟩, ⟨h73, hba, h74, h75, h76⟩, h66, h69, h70, h71⟩ := h
  obtain ⟨hTh, hCa, -, ⟨hL8, h94⟩, -⟩ := id hW
  obtain ⟨vk, vb, hvv, hcv⟩ := rRd hW h82 hll hhd hh0 hwh hE hP.1
  refine wJ_mono (rmn_ok (d := d) (l := sl hd.toNat) (sl := (sl hd.toNat).getD wh.toNat 0) (vk := vk) (vb := vb) (hd := e50) (wh := wh) hP h73 ⟨by omega, by omega⟩ h74 h75 ⟨hgb.1, by omega⟩ h76 h69 h70 ⟨by omega, by omega⟩ hvv (by rw [hcv.1.1]; exact hvk.2) hcv.2 hkd (by rw [hcv.1.1]; exact hvk.1)) (fun o Z hq => ?_)
  rw [hcv.1.1] at hq
  exact hq)
def rFn (T : List aO) (fn f ar : Int) (vn : Nat) (pn : Int) (Y : wS) : Prop := ((0 ≤ fn ∧ fn < (T.length : Int)) ∧ (tO T fn).1 = 5) ∧ ((tO T fn).2.2.1 = f ∧ (tO T fn).2.2.2.1 = ar) ∧ (0 ≤ f ∧ f < 400) ∧ (Y 296 f = (vn : Int) ∧ vn ≤ 1000) ∧ Y 295 f = pn ∧ 0 ≤ pn ∧ pn ≤ 1000
/-- what a call comes to -/
def crP (t : Int) (K : aK) (T : List aO) (sl : Nat → List Int) (L : List aC) (G : Int → aV) (ba : Nat) (f ar : Int) (vn : Nat) (pn : Int) (th : aV) (Y : wS) (o : wO) (Z : wS) : Prop := (K.2.1.length = 200 ∧ o = .inr 238 ∧ hZ 11 Y = Z) ∨ (K.2.1.length < 200 ∧ ¬ (Y 237 62 + 1 ≤ 8000 ∧ Y 237 63 + (vn : Int) ≤ 60000) ∧ o = .inr 238 ∧ hZ 99 Y = Z) ∨ (K.2.1.length < 200 ∧ (Y 237 62 + 1 ≤ 8000 ∧ Y 237 63 + (vn : Int) ≤ 60000) ∧ o = .inl none ∧ rTk t Z (kCl K (K.1.take ba) ((K.2.1.getD (K.2.1.length - 1) (0, 0, 0, (0, 0, []), 0, 0, 0)).2.1 + 1) f (L.length : Int) th (-1)) ∧ rWd Z sl T (L ++ [(ar, aVr K.1 ba (esN K ba pn) vn)]) G ∧ rTm t rMc Y Z ∧ Z 237 62 = Y 237 62 + 1 ∧ Z 237 63 = Y 237 63 + (vn : Int) ∧ Z 237 94 = Y 237 94 + (vn : Int))
theorem crP_o {f ar pn : Int} {vn : Nat} {th : aV} {o : wO} {Z : wS} (h : crP t K T sl L G ba f ar vn pn th Y o Z) : o = .inl none ∨ o = .inr 238 := by
  rcases h with h | h | h
  · exact Or.inr h.2.1
  · exact Or.inr h.2.2.1
  · exact Or.inl h.2.2.1
/-- counts that a call looks at -/
def rCn (L : List aC) (Y : wS) : Prop := (0 ≤ Y 237 62 ∧ Y 237 62 ≤ 8000) ∧ (0 ≤ Y 237 94 ∧ Y 237 94 ≤ Y 237 63) ∧ (0 ≤ Y 237 63 ∧ Y 237 63 ≤ 60000) ∧ (L.length : Int) < 8000
theorem rcf {f ar pn fn k v : Int} {vn : Nat} {th : aV} (hP : mP t (K.2.1.length : Int) (K.2.1.getD (K.2.1.length - 1) (0, 0, 0, (0, 0, []), 0, 0, 0)).2.1 (K.1.length : Int) (200 * t + (K.2.1.length : Int) - 1) Y) (hK : rTk t Y K) (hW : rWd Y sl T L G) (ht : 0 ≤ t ∧ t ≤ 1) (hKl : 0 < K.2.1.length ∧ K.2.1.length ≤ 200 ∧ K.1.length ≤ 2001) (hT : (T.length : Int) ≤ 8000) (h73 : Y 237 173 = 2100 * t + (ba : Int)) (hba : ba < K.1.length) (hes : es = (K.1.length : Int) - (ba : Int) - 1) (hes1 : es ≤ 100) (hfn : rFn T fn f ar vn pn Y) (hcn : rCn L Y) (hk : 0 ≤ k ∧ k ≤ 8) (hv : -9223372036854775808 ≤ v ∧ v ≤ 9223372036854775807) (hth : rVl Y k v th) : wJ (pe_GA xs) wY0 M (d + 6) t_M_callsFun ((pe_at t_M_callsFun.bl 0).getD (0, [])).2 [(0, (2, 237)), (1, (0, fn)), (2, (0, k)), (3, (1, v)), (5, (0, es))] [] Y (crP t K T sl L G ba f ar vn pn th Y) := by
  obtain ⟨⟨f1, f15⟩, ⟨f2, f3⟩, f4, ⟨f5, f6⟩, f7, f8⟩ := hfn
  obtain ⟨n1, n2, n3, n4⟩ := hcn
  obtain ⟨⟨-, -, x3, -, x4, -⟩, -⟩ := hW.1.2 fn.toNat (by omega)
  rw [show ((fn.toNat : Nat) : Int) = fn by omega] at x3 x4
  replace x3 : Y 319 fn = f := by
    refine x3.trans ?_
    show (if (tO T fn).1 = 5 then (tO T fn).2.2.1 else -1) = f
    rw [if_pos f15, f2]
  replace x4 : Y 320 fn = ar := x4.trans f3
  have h94 := hW.2.2.2.1.2
  obtain ⟨e1, e2⟩ := esN_e (K := K) (ba := ba) hba f8.1
  refine wJ_mono (cfM_c (d := d) (n := (L.length : Int)) (u := Y 237 94) (u0 := Y 237 62) (v0 := Y 237 63) (f := f) (ar := ar) (vs := (vn : Int)) (pn := pn) (pl := (ba : Int)) (z := (K.2.2.1.length : Int)) hP hW.2.1.1 ⟨by omega, n4⟩ rfl n1 rfl rfl ⟨f1.1, by omega⟩ x3 x4 f4 f5 f7 ⟨by omega, by omega⟩ n2 n3 h73 ⟨by omega, by omega⟩ ⟨by omega, hes1⟩ hK.2.2.1.1 (fun _ => n4) ⟨by omega, by omega⟩ hv) (fun o Z hq => ?_)
  rcases hq with ⟨q1, q2, q3⟩ | ⟨q1, q2, q3, q4⟩ | ⟨q1, q2, q3, q4⟩
  · exact Or.inl ⟨by omega, q2, q3⟩
  · exact Or.inr (Or.inl ⟨by omega, q2, q3, q4⟩)
  · obtain ⟨r1, r2, r3, r4, r5, r6⟩ := cf_k (es := esN K ba pn) (th := th) hK hW ht q4 rfl n2.1 rfl rfl hKl.1 (by omega) e2 (fun i => by rw [e1, hes]; split <;> omega) hKl.2.2 hth n4 (by omega)
    exact Or.inr (Or.inr ⟨by omega, q2, q3, r1, r2, r3, r4, r5, r6⟩)
theorem rclT {f ar pn : Int} {vn : Nat} {ho sh : Int} (h : rdR t kd ba gk gb es 0 ho wh sh K T sl L G Y) (hkd : kd = 4) (hes : es = (K.1.length : Int) - (ba : Int) - 1) (hes1 : es ≤ 100) (hfn : rFn T gb f ar vn pn Y) (hcn : rCn L Y) : wJ (pe_GA xs) wY0 M (d + 8) t_M_actsOnThing ((pe_at t_M_actsOnThing.bl 0).getD (0, [])).2 [(0, (2, 237)), (1, (0, s)), (2, (0, kd))] [] Y (crP t K T sl L G ba f ar vn pn (0, 0, []) Y) := by
  obtain ⟨⟨hP, hK, hW, ht⟩, hKl, ⟨hT, h82, hll⟩, ⟨h73, hba, h74, h75, h76⟩, h66, h69, h70, h71⟩ := h
  obtain ⟨hTh, hCa, -, ⟨hL8, h94⟩, -⟩ := id hW
  have hgb := hfn.1.1
  exact rac_ok hP h73 ⟨by omega, by omega⟩ h74 h75 ⟨hgb.1, by omega⟩ h76 hkd (rcf (d := d + 1) (k := 0) (v := 0) hP hK hW ht hKl hT h73 hba hes hes1 hfn hcn (by first | decide | omega) (by first | decide | omega) ⟨rfl, fun _ => ⟨rfl, rfl⟩, fun z => absurd z (by first | decide | omega)⟩) (fun o Z hq => crP_o hq)
theorem rmfT {f ar pn fn : Int} {vn : Nat} {th : aV} (h : rdR t kd ba gk gb es 0 e50 wh (-1) K T sl L G Y) (hgb : 0 ≤ gb ∧ gb < (T.length : Int)) (hhd : (e50 = -1 ∧ hd = gb) ∨ (e50 ≠ -1 ∧ hd = e50)) (hh0 : 0 ≤ hd ∧ hd < (T.length : Int)) (hwh : wh = -1 ∨ (0 ≤ wh ∧ wh < ((tO T hd).2.2.2.2.2.2.length : Int))) (hkd : kd = 5) (hvk : (gvA T hd wh).1 = 5 ∧ (gvA T hd wh).2.1 = fn) (hgk : 0 ≤ gk ∧ gk ≤ 8) (hth : rVl Y gk gb th) (hes : es = (K.1.length : Int) - (ba : Int) - 1) (hes1 : es ≤ 100) (hfn : rFn T fn f ar vn pn Y) (hcn : rCn L Y) : wJ (pe_GA xs) wY0 M (d + 8) t_M_actsOnThing ((pe_at t_M_actsOnThing.bl 0).getD (0, [])).2 [(0, (2, 237)), (1, (0, s)), (2, (0, kd))] [] Y (crP t K T sl L G ba f ar vn pn th Y) := wJ_E (fun hE => by
  obtain ⟨⟨hP, hK, hW, ht⟩, hKl, ⟨hT, h82, hll⟩, ⟨h73, hba, h74, h75, h76⟩, h66, h69, h70, h71⟩ := h
  obtain ⟨hTh, hCa, -, ⟨hL8, h94⟩, -⟩ := id hW
  obtain ⟨vk, vb, hvv, hcv⟩ := rRd hW h82 hll hhd hh0 hwh hE hP.1
  have e5 : vk = 5 := hcv.1.1.trans hvk.1
  have eb : vb = fn := ((hcv.1.2.1 (by omega)).1).trans hvk.2
  have hf1 := hfn.1.1
  exact rmf_ok (d := d) (l := sl hd.toNat) (sl := (sl hd.toNat).getD wh.toNat 0) (vk := vk) (vb := vb) (hd := e50) (wh := wh) hP h73 ⟨by omega, by omega⟩ h74 h75 ⟨hgb.1, by omega⟩ h76 h69 h70 ⟨by omega, by omega⟩ hvv (by omega) hcv.2 hkd e5 ⟨by omega, by omega⟩ hgk (by rw [eb]; exact rcf (d := d + 1) hP hK hW ht hKl hT h73 hba hes hes1 hfn hcn hgk (by omega) hth) (fun o Z hq => crP_o hq))
end Wjb
