/-! PART iy: a turn at a site; invokes up to behind its entries, by tasks: of the reference. -/
section Wiy
variable {xs : List (Nat × List Int32)} {M : Nat → Prop} {d : Nat} {S Z : wS} {K : aK} {T : List aO} {H : List aH} {L : List aC} {G : Int → aV} {sl : Nat → List Int} {E : Int → List aE} {t s b kd ne ec bh nms lo hi : Int} {ba : Nat} {ar : List aV} {Rn Rt : wS → Prop} {Q : wO → wS → Prop} {PQ : wS → Int → Prop}
theorem rt27 (h : stR t S K) (hs : S 357 t = 1) (hi0 : rIn S K 27 s b) (hcal : wJ (pe_GA xs) wY0 (fun _ => False) (d + 11) t_M_invokes ((pe_at t_M_invokes.bl 0).getD (0, [])).2 [(0, (2, 237)), (1, (0, s))] [] (w_up (w_up S 237 154 (200 * t + (K.2.1.length : Int) - 1)) 237 155 ((K.2.1.getD (K.2.1.length - 1) (0, 0, 0, (0, 0, []), 0, 0, 0)).2.1 + 1)) (fun o Z => (o = .inl none ∧ Rn Z) ∨ (o = .inr 238 ∧ Rt Z))) (hRt : ∀ Z : wS, Rt Z → w_ML Z ∧ Z 237 151 = t ∧ (Z 238 5 ≠ 99 → mR t Z)) (hP : ∀ (Z2 : wS) (dn : Int), msR t Rn Rt dn Z2 → PQ Z2 dn) : rTurn xs d t S PQ := by
  obtain ⟨ho, ha, hb⟩ := hi0
  obtain ⟨k1, -, -, -, ⟨k2, -⟩, ⟨g0, g1, -⟩, e0, e1⟩ := id h
  obtain ⟨r1, r2, -⟩ := sr_row k1 k2
  have es : ∀ (j : Nat) (x : Int), j ≠ 237 → (w_up (w_up S 237 154 (200 * t + (K.2.1.length : Int) - 1)) 237 155 ((K.2.1.getD (K.2.1.length - 1) (0, 0, 0, (0, 0, []), 0, 0, 0)).2.1 + 1)) j x = S j x := fun j x hj => (w_up_slot hj).trans (w_up_slot hj)
  exact rt_g h hs (d27_d (mP_of h) ((es 365 _ (by first | decide | omega)).trans r1) ⟨g0, g1⟩ ((es 366 _ (by first | decide | omega)).trans r2) (es 297 _ (by first | decide | omega)) ⟨e0, e1⟩ ((es 301 _ (by first | decide | omega)).trans ho) ((es 302 _ (by first | decide | omega)).trans ha) ((es 303 _ (by first | decide | omega)).trans hb) hcal) hRt hP
theorem rvi (h : stR t S K) (hW : rWd S sl T L G) (hH : rHs S H) (hwS : wSh T H) (hT : (T.length : Int) ≤ 8000) (h82 : S 237 82 ≤ 60000) (hse : rSe S E) (hs : 0 ≤ s ∧ s < S 237 47) (hkd : S 304 s = kd) (hne : S 306 s = ne) (hg : siG K kd ne ec bh ba ar) (hz : kd = 0 → ne = 0) (hv : ∀ v ∈ K.1, vOk T v) (hc : ¬ ((kd = 2 ∨ kd = 3) ∧ ((K.1.getD ba (0, 0, [])).1 = 4 ∨ (K.1.getD ba (0, 0, [])).1 = 5))) (h12 : 0 ≤ S 312 s ∧ S 312 s + 4 ≤ 1000000) (hwe : ∀ e ∈ E s, wEr T H kd nms (K.1.getD ba (0, 0, [])).1 (S 364 (2100 * t + (ba : Int))) nms (-1) lo hi (ar.map (clO T)) e) (hk : ∀ (Z : wS) (hit kk el : Int), ivR s kd nms (K.1.getD ba (0, 0, [])).1 (S 364 (2100 * t + (ba : Int))) nms (-1) lo hi (2100 * t + (ba : Int)) T H sl L G (ar.map (clO T)) E [] (E s) (ivZ (if kd = 0 then 0 else if kd < 4 then 1 else ne) bh (2100 * t + (ba : Int)) (K.1.getD ba (0, 0, [])).1 (S 364 (2100 * t + (ba : Int))) (w_up (w_up S 237 154 (200 * t + (K.2.1.length : Int) - 1)) 237 155 ((K.2.1.getD (K.2.1.length - 1) (0, 0, 0, (0, 0, []), 0, 0, 0)).2.1 + 1))) (ivZ (if kd = 0 then 0 else if kd < 4 then 1 else ne) bh (2100 * t + (ba : Int)) (K.1.getD ba (0, 0, [])).1 (S 364 (2100 * t + (ba : Int))) (w_up (w_up S 237 154 (200 * t + (K.2.1.length : Int) - 1)) 237 155 ((K.2.1.getD (K.2.1.length - 1) (0, 0, 0, (0, 0, []), 0, 0, 0)).2.1 + 1))) hit Z → wJ (pe_GA xs) wY0 M (d + 4) t_M_invokes ((pe_at t_M_invokes.bl 15).getD (0, [])).2 [(0, (2, 237)), (1, (0, s)), (2, (0, kd)), (3, (0, el)), (4, (0, hit)), (5, (0, kk))] [] Z Q) : wJ (pe_GA xs) wY0 M (d + 4) t_M_invokes ((pe_at t_M_invokes.bl 0).getD (0, [])).2 [(0, (2, 237)), (1, (0, s))] [] (w_up (w_up S 237 154 (200 * t + (K.2.1.length : Int) - 1)) 237 155 ((K.2.1.getD (K.2.1.length - 1) (0, 0, 0, (0, 0, []), 0, 0, 0)).2.1 + 1)) Q := by
  obtain ⟨⟨g1, g2⟩, ⟨g3, g4⟩, ⟨g5, g6⟩, g7, g8⟩ := id hg
  obtain ⟨⟨⟨a1, a2⟩, -⟩, hM, ⟨t0, t1⟩, -, ⟨-, -, a5, -⟩, -⟩ := id h
  have hbh : 0 ≤ bh := by omega
  have hs4 := hse.1
  have es : ∀ (j : Nat) (x : Int), j ≠ 237 → (w_up (w_up S 237 154 (200 * t + (K.2.1.length : Int) - 1)) 237 155 ((K.2.1.getD (K.2.1.length - 1) (0, 0, 0, (0, 0, []), 0, 0, 0)).2.1 + 1)) j x = S j x := fun j x hj => (w_up_slot hj).trans (w_up_slot hj)
  have ez : ∀ (j : Nat) (x : Int), (j ≠ 237 ∨ ((x < 154 ∨ 155 < x) ∧ (x < 173 ∨ 177 < x))) → (ivZ (if kd = 0 then 0 else if kd < 4 then 1 else ne) bh (2100 * t + (ba : Int)) (K.1.getD ba (0, 0, [])).1 (S 364 (2100 * t + (ba : Int))) (w_up (w_up S 237 154 (200 * t + (K.2.1.length : Int) - 1)) 237 155 ((K.2.1.getD (K.2.1.length - 1) (0, 0, 0, (0, 0, []), 0, 0, 0)).2.1 + 1))) j x = S j x := fun j x hj => (w_up_no (by omega)).trans ((w_up_no (by omega)).trans ((w_up_no (by omega)).trans ((w_up_no (by omega)).trans ((w_up_no (by omega)).trans ((w_up_no (by omega)).trans ((w_up_no (by omega)).trans (w_up_no (by omega))))))))
  have hkc : ∀ q : Nat, q < K.1.length → rVl S (S 363 (2100 * t + (q : Int))) (S 364 (2100 * t + (q : Int))) (K.1.getD q (0, 0, [])) := fun q hq => a2 q hq
  have hku := hkc ba (by omega)
  have hvu := vOk_get hv (show ba < K.1.length by omega)
  have hgb : (K.1.getD ba (0, 0, [])).1 ≠ 3 → (S 364 (2100 * t + (ba : Int))) = (K.1.getD ba (0, 0, [])).2.1 := fun z => (hku.2.1 z).1
  have hal : (ar.map (clO T)).length = ar.length := List.length_map _
  have eT : rTx S (ivZ (if kd = 0 then 0 else if kd < 4 then 1 else ne) bh (2100 * t + (ba : Int)) (K.1.getD ba (0, 0, [])).1 (S 364 (2100 * t + (ba : Int))) (w_up (w_up S 237 154 (200 * t + (K.2.1.length : Int) - 1)) 237 155 ((K.2.1.getD (K.2.1.length - 1) (0, 0, 0, (0, 0, []), 0, 0, 0)).2.1 + 1))) := rTx_of (ez 237 19 (by omega)) (ez 237 102 (by omega)) (fun j x j0 j1 => ez j x (by omega))
  have hW0 : rWd (ivZ (if kd = 0 then 0 else if kd < 4 then 1 else ne) bh (2100 * t + (ba : Int)) (K.1.getD ba (0, 0, [])).1 (S 364 (2100 * t + (ba : Int))) (w_up (w_up S 237 154 (200 * t + (K.2.1.length : Int) - 1)) 237 155 ((K.2.1.getD (K.2.1.length - 1) (0, 0, 0, (0, 0, []), 0, 0, 0)).2.1 + 1))) sl T L G := rWd_ag hW eT (fun j x hj => ez j x (by unfold rWo at hj; omega))
  have hH0 : rHs (ivZ (if kd = 0 then 0 else if kd < 4 then 1 else ne) bh (2100 * t + (ba : Int)) (K.1.getD ba (0, 0, [])).1 (S 364 (2100 * t + (ba : Int))) (w_up (w_up S 237 154 (200 * t + (K.2.1.length : Int) - 1)) 237 155 ((K.2.1.getD (K.2.1.length - 1) (0, 0, 0, (0, 0, []), 0, 0, 0)).2.1 + 1))) H := by
    refine ⟨(ez 237 87 (by omega)).trans hH.1, fun q hq => ?_⟩
    rw [ez 329 _ (by omega), ez 330 _ (by omega), ez 331 _ (by omega), ez 332 _ (by omega)]
    exact hH.2 q hq
  have hse0 : rSe (ivZ (if kd = 0 then 0 else if kd < 4 then 1 else ne) bh (2100 * t + (ba : Int)) (K.1.getD ba (0, 0, [])).1 (S 364 (2100 * t + (ba : Int))) (w_up (w_up S 237 154 (200 * t + (K.2.1.length : Int) - 1)) 237 155 ((K.2.1.getD (K.2.1.length - 1) (0, 0, 0, (0, 0, []), 0, 0, 0)).2.1 + 1))) E := rSe_ag hse (fun j x hj => ez j x (by omega))
  refine iv0_ok (es := bh) (e0 := if kd = 0 then 0 else if kd < 4 then 1 else ne) (ba := (ba : Int)) (gk := (K.1.getD ba (0, 0, [])).1) (gb := (S 364 (2100 * t + (ba : Int)))) (kd := kd) (ne := ne) (el := if kd = 2 ∨ kd = 3 then 1 else 0) (mP_of h) ⟨hs.1, by omega⟩ ((es 304 _ (by first | decide | omega)).trans hkd) g1 ((es 306 _ (by first | decide | omega)).trans hne) ⟨by omega, by omega⟩ rfl ?_ ⟨by omega, by omega⟩ ((es 363 _ (by first | decide | omega)).trans hku.1) (es 364 _ (by first | decide | omega)) hvu.1 hc rfl ?_
  · rw [g4, g3]
    by_cases c3 : kd = 3
    · rw [if_neg (by omega), if_pos c3, if_pos c3]
    · rw [if_neg c3, if_neg c3]
      by_cases c2 : kd = 2
      · rw [if_pos c2, if_neg (by omega), if_pos (by omega)]
      · rw [if_neg c2]
        by_cases c1 : kd = 1
        · rw [if_pos c1, if_neg (by omega), if_pos (by omega)]
        · rw [if_neg c1]
          by_cases c0 : kd = 0
          · rw [if_pos c0]; exact hz c0
          · rw [if_neg c0, if_neg (by omega)]
  · refine iv_l (S0 := (ivZ (if kd = 0 then 0 else if kd < 4 then 1 else ne) bh (2100 * t + (ba : Int)) (K.1.getD ba (0, 0, [])).1 (S 364 (2100 * t + (ba : Int))) (w_up (w_up S 237 154 (200 * t + (K.2.1.length : Int) - 1)) 237 155 ((K.2.1.getD (K.2.1.length - 1) (0, 0, 0, (0, 0, []), 0, 0, 0)).2.1 + 1)))) (H := H) (T := T) (sl := sl) (L := L) (Gl := G) (cl := (ar.map (clO T))) (nms := nms) (nm := nms) (en := -1) (lo := lo) (hi := hi) (r := 2100 * t + (ba : Int)) (gk := (K.1.getD ba (0, 0, [])).1) (gb := (S 364 (2100 * t + (ba : Int)))) hs.1 hwS hT g1 ⟨by omega, by rw [hal]; omega⟩ hvu.1 (fun z => ?_) (fun z => ?_) (fun z => ?_) (E s) [] E (ivZ (if kd = 0 then 0 else if kd < 4 then 1 else ne) bh (2100 * t + (ba : Int)) (K.1.getD ba (0, 0, [])).1 (S 364 (2100 * t + (ba : Int))) (w_up (w_up S 237 154 (200 * t + (K.2.1.length : Int) - 1)) 237 155 ((K.2.1.getD (K.2.1.length - 1) (0, 0, 0, (0, 0, []), 0, 0, 0)).2.1 + 1))) hse0 (by rw [ez 237 47 (by omega)]; exact hs.2) ?_ rfl ?_ hwe (fun Z hit kk hr => hk Z hit kk _ hr)
    · rw [hgb (by omega)]
      obtain ⟨y1, y2⟩ := hvu.2.1 (by omega) (by omega)
      exact ⟨⟨y1, by rw [y2]; exact z⟩, y2⟩
    · rw [hgb (by omega)]
      obtain ⟨y1, y2⟩ := hvu.2.1 (by omega) (by omega)
      exact ⟨y1, by rw [y2]; exact z⟩
    · rw [hgb (by omega)]
      exact hvu.2.2.1 z
    · refine ⟨⟨fun q hq => (ez q.1 (-1) (by omega)).trans (hM q hq), hW0, hH0, by rw [ez 237 82 (by omega)]; exact h82⟩, ⟨rfl, rfl, rfl, rfl⟩, fun i hi => ?_, fun j x => Or.inr (Or.inr rfl)⟩
      rw [hal] at hi
      have z := hkc (ba + 1 + i) (by omega)
      rw [show 2100 * t + ((ba + 1 + i : Nat) : Int) = 2100 * t + (ba : Int) + 1 + (i : Int) by omega, g8 i hi] at z
      have hvo : vOk T (ar.getD i (0, 0, [])) := by rw [← g8 i hi]; exact vOk_get hv (by omega)
      have hcl : (ar.map (clO T)).getD i 0 = clO T (ar.getD i (0, 0, [])) := by
        rw [List.getD_eq_getElem?_getD, List.getElem?_map, List.getD_eq_getElem?_getD, List.getElem?_eq_getElem hi]; rfl
      rw [ez 363 _ (by omega), ez 364 _ (by omega)]
      refine ⟨by rw [hcl]; exact clR_e (rVl_mo z eT) hW0.1 hvo, by rw [z.1]; exact hvo.1, fun h7 => ?_⟩
      rw [z.1] at h7
      have hb := (z.2.1 (by omega)).1
      obtain ⟨y1, y2⟩ := hvo.2.1 (by omega) (by omega)
      have y3 := hvo.2.2.2.1 h7
      rw [hb]
      have x3 := (hW0.1.2 (ar.getD i (0, 0, [])).2.1.toNat (by omega)).1.2.2.2.1
      rw [show (((ar.getD i (0, 0, [])).2.1.toNat : Nat) : Int) = (ar.getD i (0, 0, [])).2.1 by omega] at x3
      have x4 : (ivZ (if kd = 0 then 0 else if kd < 4 then 1 else ne) bh (2100 * t + (ba : Int)) (K.1.getD ba (0, 0, [])).1 (S 364 (2100 * t + (ba : Int))) (w_up (w_up S 237 154 (200 * t + (K.2.1.length : Int) - 1)) 237 155 ((K.2.1.getD (K.2.1.length - 1) (0, 0, 0, (0, 0, []), 0, 0, 0)).2.1 + 1))) 321 (ar.getD i (0, 0, [])).2.1 = (tO T (ar.getD i (0, 0, [])).2.1).2.2.1 := x3.trans (if_pos (y2.trans h7))
      exact ⟨y1.1, by omega, by rw [x4]; exact y3.1, by rw [x4]; exact y3.2⟩
    · rw [ez 312 s (by omega)]
      have := (hse.2 s hs.1 hs.2).2.1
      omega
end Wiy
