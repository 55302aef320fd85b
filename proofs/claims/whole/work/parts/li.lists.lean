/-! PART li: acting on lists. -/
section Wli
variable {Sb : wS} {xs : List (Nat × List Int32)} {d : Nat} {S0 S Z : wS} {p w m : Nat} {HT : Int → Int} {cs : List hCR} {ms : List hMR} {os : Int → List Int} {X : List (List Int)} {mo t n B B2 oq : Int} {fa : Int → Int} {WE : aA → Prop} {A A2 : aA} {K2 : aK} {ml : List Nat} {k c s kd nms ne ec bh nm en : Int} {b ba : Nat} {ar : List aV} {e : aE} {V Z2 Y : wS} {o : wO} {dn : Int} {H2 : List aH} {N2 : List (List Int)} {E2 : Int → List aE} {C2 : List aQ} {W2 : Int} {c2 : Int → Int} {k2 : Int → Int → Int} {mk rk : Nat → Int → Prop} {K : aK} {T : List aO} {H : List aH} {E : Int → List aE} {gk gb es lo hi a : Int} {r : List aE × Int × Option aE} {A1 : aA} {tl cl : List Int} {sl : Nat → List Int} {L : List aC} {G : Int → aV} {u : aV} {x : List Int} {T2 : List aO} {L2 : List aC} {G2 : Int → aV} {H2 : List aH} {c2 : Int → Int} {y : Int} {Q : wO → wS → Prop} {ps : List (Int × aV)} {k hd wh : Int} {f a9 pn fn md : Int} {vn m9 : Nat} {th : aV} {g : Int} {lp : List aV}
theorem c1_1 : (fUp (a_c A) 1 (a_c A 1 + 1)) 1 = a_c A 1 + 1 ∧ ∀ i : Int, i ≠ 1 → (fUp (a_c A) 1 (a_c A 1 + 1)) i = a_c A i := ⟨fUp_s, fun i hi => fUp_n hi⟩
theorem cCw_1 (hY : cRel S0 p HT cs ms os X mo A Y) (hw : isWt w t) {mk : Nat → Int → Prop} (hF : cFm w mk Y V) (h1 : V 150 1 = Y 150 1 + 1) (hd : ∀ (j : Nat) (x : Int), (j = 150 ∧ x ≠ 1 ∧ 0 ≤ x) ∨ (j = 72 ∧ x = 11) → ¬ mk j x) : cCw (fUp (a_c A) 1 (a_c A 1 + 1)) V := by
  have u := cR_u hY
  refine cCw_of ?_ ?_ ?_ ?_ ?_ ?_
  · rw [fUp_n (by first | decide | omega), fmG hF hw 150 0 (by first | decide | omega) (hd _ _ (by omega))]; exact u.1
  · rw [fUp_s, h1]; omega
  · rw [fUp_n (by first | decide | omega), fmG hF hw 150 2 (by first | decide | omega) (hd _ _ (by omega))]; exact u.2.2.1
  · rw [fUp_n (by first | decide | omega), fmG hF hw 150 3 (by first | decide | omega) (hd _ _ (by omega))]; exact u.2.2.2.1
  · rw [fUp_n (by first | decide | omega), fmG hF hw 150 4 (by first | decide | omega) (hd _ _ (by omega))]; exact u.2.2.2.2.1
  · rw [fUp_n (by first | decide | omega), fmG hF hw 72 11 (by first | decide | omega) (hd _ _ (by omega))]; exact u.2.2.2.2.2
theorem rCw_1 (hY : rRun S0 Sb HT cs ms os X mo t A Y) {rk : Nat → Int → Prop} (hF : rTm t rk Y V) (h1 : V 237 63 = Y 237 63 + 1) (h2 : V 237 82 = Y 237 82 + 1) (hd : ∀ x : Int, x = 62 ∨ (64 ≤ x ∧ x ≤ 66) ∨ x = 81 ∨ x = 94 → ¬ rk 237 x) : rCw (fUp (a_c A) 1 (a_c A 1 + 1)) V := by
  have u := rR_u hY
  have f := fun (x : Int) (hx : x = 62 ∨ (64 ≤ x ∧ x ≤ 66) ∨ x = 81 ∨ x = 94) => tmG hF 237 x (by unfold rKp; omega) (hd x hx)
  refine rCw_of ?_ ?_ ?_ ?_ ?_ ?_ ?_
  · rw [fUp_n (by first | decide | omega), f 62 (by omega)]; exact u.1
  · rw [fUp_s, h1]; omega
  · rw [fUp_n (by first | decide | omega), f 64 (by omega)]; exact u.2.2.1
  · rw [fUp_n (by first | decide | omega), f 65 (by omega)]; exact u.2.2.2.1
  · rw [fUp_n (by first | decide | omega), f 66 (by omega)]; exact u.2.2.2.2.1
  · rw [fUp_n (by first | decide | omega), f 81 (by omega)]; exact u.2.2.2.2.2.1
  · have e := f 94 (by omega)
    have := u.2.2.2.2.2.2
    omega
/-- size of a list -/
theorem ao_lsz (h : hyA S0 p HT cs ms os X fa n B2 w t A s kd nms ne ec bh ba ar) (hx1 : pe_at (pe_GA xs).xs 1 = some (1, tx_1)) (he3 : e.1 = 3) (hgk : ((a_K A t).1.getD ba (0, 0, [])).1 = 6) (hkd : kd = 0) : aOut xs d S0 p HT cs ms os X mo fa n B2 w t A s kd nms ec bh ba nm en es e := by
  obtain ⟨⟨hp, hw, hx⟩, hA, hB, ⟨hr, ho⟩, hsi, hme⟩ := id h
  have g3 : ((a_K A t).1.getD ba (0, 0, [])).1 ≠ 3 := by omega
  have hb := hA_ba h
  have hgv := gv_G h
  have hgo := hgv.1.2.1 (by omega) (by omega)
  rw [hgk] at hgo
  obtain ⟨hgb, hg6⟩ := hgo
  have hz6 := pln_1 hA hgb
  have hct := hA.2.2.2.2.1
  have hmT : tO (a_T A) ((a_K A t).1.getD ba (0, 0, [])).2.1 ∈ a_T A := by
    unfold tO
    rw [List.getD_eq_getElem?_getD, List.getElem?_eq_getElem (by omega)]
    exact List.getElem_mem _
  have hb0 : bh = 0 := by
    have z := hsi.2.2.1.2 (by omega)
    have z2 := hsi.2.1.2.1
    rw [hkd] at z2
    have z3 : ec = ne := z2.1
    have z4 : bh = ec := z2.2
    omega
  refine aO_v (u := (2, ((tO (a_T A) ((a_K A t).1.getD ba (0, 0, [])).2.1).2.2.2.2.2.2.length : Int), [])) h vG_n (cA_K (ml := [w + 2, w + 3]) h (by rcases hw with ⟨rfl, rfl⟩ | ⟨rfl, rfl⟩ <;> decide) (fun Y y hY ha hd9 he => ?_)) (rA_3 h he3 (fun Y sl hY ha hW hd9 => ?_))
  · have u := c14_c h hY
    rw [gb_c h hY g3, he3] at hd9
    rcases hw with ⟨rfl, rfl⟩ | ⟨rfl, rfl⟩
    · exact wJ_mono (alz_215 (d := d + 83) hx1 hd9 hgk hgb ⟨u.2.2.1.1, u.2.2.1.2.1⟩ (by omega) hkd) (fun o V hz => hz)
    · exact wJ_mono (alz_226 (d := d + 83) hx1 hd9 hgk hgb ⟨u.2.2.1.1, u.2.2.1.2.1⟩ (by omega) hkd) (fun o V hz => hz)
  · rw [gb_r h hY g3, he3] at hd9
    obtain ⟨g1, g2, g4, g5⟩ := s_4 h hY
    exact wJ_mono (rlzT (d := d + 81) (s := s) hd9 hgk hgb (by omega) hb0 hkd) (fun o Z hz hM => rQ_K h hY hM ⟨hz.1, hz.2.1, hz.2.2.2⟩)
/-- an element is read -/
theorem ao_lge (h : hyA S0 p HT cs ms os X fa n B2 w t A s kd nms ne ec bh ba ar) (hx1 : pe_at (pe_GA xs).xs 1 = some (1, tx_1)) (he3 : e.1 = 3) (hgk : ((a_K A t).1.getD ba (0, 0, [])).1 = 6) (hkd : kd = 2) : aOut xs d S0 p HT cs ms os X mo fa n B2 w t A s kd nms ec bh ba nm en es e := by
  obtain ⟨⟨hp, hw, hx⟩, hA, hB, ⟨hr, ho⟩, hsi, hme⟩ := id h
  have g3 : ((a_K A t).1.getD ba (0, 0, [])).1 ≠ 3 := by omega
  have hb := hA_ba h
  have hgv := gv_G h
  have hgo := hgv.1.2.1 (by omega) (by omega)
  rw [hgk] at hgo
  obtain ⟨hgb, hg6⟩ := hgo
  have hz6 := pln_1 hA hgb
  have hct := hA.2.2.2.2.1
  have hmT : tO (a_T A) ((a_K A t).1.getD ba (0, 0, [])).2.1 ∈ a_T A := by
    unfold tO
    rw [List.getD_eq_getElem?_getD, List.getElem?_eq_getElem (by omega)]
    exact List.getElem_mem _
  have hb1 : bh = 1 := by
    have z2 := hsi.2.1.2.1.2
    rw [if_pos hkd] at z2
    exact z2
  have hkG := gD_G (wV_of hA hw).1 (ba + 1)
  have hvk : ∀ i : Int, 0 ≤ i → i < ((tO (a_T A) ((a_K A t).1.getD ba (0, 0, [])).2.1).2.2.2.2.2.2.length : Int) → 0 ≤ (gvA (a_T A) ((a_K A t).1.getD ba (0, 0, [])).2.1 i).1 ∧ (gvA (a_T A) ((a_K A t).1.getD ba (0, 0, [])).2.1 i).1 ≤ 8 := fun i i0 i1 => (gvA_G (wh := i) hA hgb (Or.inr ⟨i0, i1⟩)).1.1
  by_cases hc : ((a_K A t).1.getD (ba + 1) (0, 0, [])).1 = 2 ∧ 0 ≤ ((a_K A t).1.getD (ba + 1) (0, 0, [])).2.1 ∧ ((a_K A t).1.getD (ba + 1) (0, 0, [])).2.1 < ((tO (a_T A) ((a_K A t).1.getD ba (0, 0, [])).2.1).2.2.2.2.2.2.length : Int)
  · refine aO_v (u := gvA (a_T A) ((a_K A t).1.getD ba (0, 0, [])).2.1 ((a_K A t).1.getD (ba + 1) (0, 0, [])).2.1) h (gvA_G hA hgb (Or.inr hc.2)) (cA_K (ml := [w + 2, w + 3]) h (by rcases hw with ⟨rfl, rfl⟩ | ⟨rfl, rfl⟩ <;> decide) (fun Y y hY ha hd9 he => ?_)) (rA_3 h he3 (fun Y sl hY ha hW hd9 => ?_))
    · have u := c14_c h hY
      rw [gb_c h hY g3, he3] at hd9
      rcases hw with ⟨rfl, rfl⟩ | ⟨rfl, rfl⟩
      · exact wJ_mono (alg_215 (d := d + 83) hx1 hd9 hgk hgb ⟨u.2.2.1.1, u.2.2.1.2.1⟩ (by omega) (by omega) hkd) (fun o V hz => ⟨hz.1, by rcases hz.2 with z | z; exact absurd hc z.1; exact z.2⟩)
      · exact wJ_mono (alg_226 (d := d + 83) hx1 hd9 hgk hgb ⟨u.2.2.1.1, u.2.2.1.2.1⟩ (by omega) (by omega) hkd) (fun o V hz => ⟨hz.1, by rcases hz.2 with z | z; exact absurd hc z.1; exact z.2⟩)
    · rw [gb_r h hY g3, he3] at hd9
      refine wJ_mono (rleT (d := d + 81) (s := s) hd9 hgk hgb (by omega) hb1 hkd (by omega) hkG.1.1 hvk) (fun o Z hz hM => ?_)
      rcases hz with z | z
      · exact absurd hc z.1
      · exact rQ_K h hY hM ⟨z.2.1, z.2.2.1, z.2.2.2.2⟩
  · refine aO_X (c := 6) h (cA_X (ml := [w + 2, w + 3]) h (by rcases hw with ⟨rfl, rfl⟩ | ⟨rfl, rfl⟩ <;> decide) (fun Y y hY ha hd9 he => ?_)) (rA_3 h he3 (fun Y sl hY ha hW hd9 => ?_))
    · have u := c14_c h hY
      rw [gb_c h hY g3, he3] at hd9
      rcases hw with ⟨rfl, rfl⟩ | ⟨rfl, rfl⟩
      · exact wJ_mono (alg_215 (d := d + 83) hx1 hd9 hgk hgb ⟨u.2.2.1.1, u.2.2.1.2.1⟩ (by omega) (by omega) hkd) (fun o V hz => ⟨hz.1, by rcases hz.2 with z | z; exact z.2; exact absurd z.1 hc⟩)
      · exact wJ_mono (alg_226 (d := d + 83) hx1 hd9 hgk hgb ⟨u.2.2.1.1, u.2.2.1.2.1⟩ (by omega) (by omega) hkd) (fun o V hz => ⟨hz.1, by rcases hz.2 with z | z; exact z.2; exact absurd z.1 hc⟩)
    · rw [gb_r h hY g3, he3] at hd9
      refine wJ_mono (rleT (d := d + 81) (s := s) hd9 hgk hgb (by omega) hb1 hkd (by omega) hkG.1.1 hvk) (fun o Z hz hM => ?_)
      rcases hz with z | z
      · exact rQ_X h hY (by first | decide | omega) z.2
      · exact absurd z.1 hc
theorem ec_5 (h : hyA S0 p HT cs ms os X fa n B2 w t A s kd nms ne ec bh ba ar) (hkd : kd = 5) : ec = ne ∧ bh = ne := by
  have z2 := h.2.2.2.2.1.2.1.2.1
  subst hkd
  have z3 : ec = ne := z2.1
  have z4 : bh = ec := z2.2
  omega
/-- the last element is taken -/
theorem ao_lpo (h : hyA S0 p HT cs ms os X fa n B2 w t A s kd nms ne ec bh ba ar) (hx1 : pe_at (pe_GA xs).xs 1 = some (1, tx_1)) (he3 : e.1 = 3) (hgk : ((a_K A t).1.getD ba (0, 0, [])).1 = 6) (hkd : kd = 5) (hne : ne = 0) : aOut xs d S0 p HT cs ms os X mo fa n B2 w t A s kd nms ec bh ba nm en es e := by
  obtain ⟨⟨hp, hw, hx⟩, hA, hB, ⟨hr, ho⟩, hsi, hme⟩ := id h
  have g3 : ((a_K A t).1.getD ba (0, 0, [])).1 ≠ 3 := by omega
  have hb := hA_ba h
  have hgv := gv_G h
  have hgo := hgv.1.2.1 (by omega) (by omega)
  rw [hgk] at hgo
  obtain ⟨hgb, hg6⟩ := hgo
  have hz6 := pln_1 hA hgb
  have hct := hA.2.2.2.2.1
  have hmT : tO (a_T A) ((a_K A t).1.getD ba (0, 0, [])).2.1 ∈ a_T A := by
    unfold tO
    rw [List.getD_eq_getElem?_getD, List.getElem?_eq_getElem (by omega)]
    exact List.getElem_mem _
  have h5 := ec_5 h hkd
  by_cases hc : ((tO (a_T A) ((a_K A t).1.getD ba (0, 0, [])).2.1).2.2.2.2.2.2.length : Int) = 0
  · refine aO_v (u := (0, 0, [])) h vG_0 (cA_K (ml := [w + 2, w + 3]) h (by rcases hw with ⟨rfl, rfl⟩ | ⟨rfl, rfl⟩ <;> decide) (fun Y y hY ha hd9 he => ?_)) (rA_3 h he3 (fun Y sl hY ha hW hd9 => ?_))
    · have u := c14_c h hY
      rw [gb_c h hY g3, he3] at hd9
      rcases hw with ⟨rfl, rfl⟩ | ⟨rfl, rfl⟩
      · exact wJ_mono (aln_215 (d := d + 83) hx1 hd9 hgk hgb ⟨u.2.2.1.1, u.2.2.1.2.1⟩ (by omega) hkd (by omega) hc) (fun o V hz => hz)
      · exact wJ_mono (aln_226 (d := d + 83) hx1 hd9 hgk hgb ⟨u.2.2.1.1, u.2.2.1.2.1⟩ (by omega) hkd (by omega) hc) (fun o V hz => hz)
    · rw [gb_r h hY g3, he3] at hd9
      obtain ⟨g1, g2, g4, g5⟩ := s_4 h hY
      exact wJ_mono (rlnT (d := d + 81) (s := s) hd9 hgk hgb (by omega) g1 (g5.trans hne) (by omega) hkd hc) (fun o Z hz hM => rQ_K h hY hM ⟨hz.1, hz.2.1, hz.2.2.2⟩)
  · have hu := gvA_G (wh := ((tO (a_T A) ((a_K A t).1.getD ba (0, 0, [])).2.1).2.2.2.2.2.2.length : Int) - 1) hA hgb (Or.inr ⟨by omega, by omega⟩)
    have hw2 : wfA S0 fa ms n (WEs S0 HT cs ms os) B2 (u_W A t (kP (a_K A t) ((a_K A t).1.length - ba) (gvA (a_T A) ((a_K A t).1.getD ba (0, 0, [])).2.1 (((tO (a_T A) ((a_K A t).1.getD ba (0, 0, [])).2.1).2.2.2.2.2.2.length : Int) - 1))) (tDp (a_T A) ((a_K A t).1.getD ba (0, 0, [])).2.1 (((tO (a_T A) ((a_K A t).1.getD ba (0, 0, [])).2.1).2.2.2.2.2.2.length : Int) - 1)) (a_L A) (a_G A) (a_H A) (a_c A)) := by
      refine wf_p (k := ((a_K A t).1.getD ba (0, 0, [])).2.1) hA WEs_w hw hB.2 (tyv_A h) (kv_P (wV_of hA hw) hu) fLe_P hgb (fun y hy => hA.2.2.1.2.1 _ hmT y (lDr_m _ _ hy)) ?_ (wSh_dl hA.2.1 hgb.1 hgb.2 hg6) (eCh_li hA.2.1 hgb (by omega)) ⟨⟨Int.le_refl _, by omega⟩, fun _ _ => rfl⟩
      have z := lDr_le (((tO (a_T A) ((a_K A t).1.getD ba (0, 0, [])).2.1).2.2.2.2.2.2.length : Int) - 1).toNat (tO (a_T A) ((a_K A t).1.getD ba (0, 0, [])).2.1).2.2.2.2.2.2
      omega
    refine aO_W h hw2 (cA_W (ml := [w + 2, w + 3]) (mk := cMs) h (by rcases hw with ⟨rfl, rfl⟩ | ⟨rfl, rfl⟩ <;> decide) (fun j x hm => mw_s hm) (fun _ _ _ => rfl) (Int.le_refl _) (fun Y y hY ha hd9 he => ?_)) (rA_3 h he3 (fun Y sl hY ha hW hd9 => ?_))
    · have u := c14_c h hY
      rw [gb_c h hY g3, he3] at hd9
      have fin : ∀ V : wS, cFm w cMs Y V → cSw V (tDp (a_T A) ((a_K A t).1.getD ba (0, 0, [])).2.1 (((tO (a_T A) ((a_K A t).1.getD ba (0, 0, [])).2.1).2.2.2.2.2.2.length : Int) - 1)) (a_H A) ∧ cCw (a_c A) V := fun V hF => ⟨cSw_U hY hw hF (List.length_set) (fun j x hj hm => by unfold shD at hj; unfold cMs at hm; omega), cCw_0 hY hw hF (fun j x hj hm => by unfold cMs at hm; omega)⟩
      rcases hw with ⟨rfl, rfl⟩ | ⟨rfl, rfl⟩
      · exact wJ_mono (alo_215 (d := d + 83) hx1 hd9 hgk hgb ⟨u.2.2.1.1, u.2.2.1.2.1⟩ (by omega) hkd (by omega) (by omega) hY.2.2.1.2.2) (fun o V hz => ⟨hz.1, hz.2.1, hz.2.2.1, hz.2.2.2.2.1, hz.2.2.2.1, (fin V hz.2.2.2.2.1).1, hz.2.2.2.2.2, (fin V hz.2.2.2.2.1).2⟩)
      · exact wJ_mono (alo_226 (d := d + 83) hx1 hd9 hgk hgb ⟨u.2.2.1.1, u.2.2.1.2.1⟩ (by omega) hkd (by omega) (by omega) hY.2.2.1.2.2) (fun o V hz => ⟨hz.1, hz.2.1, hz.2.2.1, hz.2.2.2.2.1, hz.2.2.2.1, (fin V hz.2.2.2.2.1).1, hz.2.2.2.2.2, (fin V hz.2.2.2.2.1).2⟩)
    · rw [gb_r h hY g3, he3] at hd9
      obtain ⟨g1, g2, g4, g5⟩ := s_4 h hY
      refine wJ_mono (rloT (d := d + 81) (s := s) hd9 hgk hgb (by omega) g1 (g5.trans hne) (by omega) hkd (by omega) hu.1.1) (fun o Z hz hM => ?_)
      exact rQ_W (rk := rMs ((a_K A t).1.getD ba (0, 0, [])).2.1) h (fun j x hm => by unfold rMs at hm; unfold rWd9; omega) (fun _ _ _ => rfl) hY hM ⟨hz.1, hz.2.1, hz.2.2.2, ⟨_, hz.2.2.1⟩, rR_H (A := A) hY.1 hz.2.2.2 (fun j x hj hm => by unfold rMs at hm; omega), rCw_0 hY hz.2.2.2 (fun x hx hm => by unfold rMs at hm; omega)⟩
/-- all that holds, when an element has come -/
theorem wf_pu (h : hyA S0 p HT cs ms os X fa n B2 w t A s kd nms ne ec bh ba ar) (hu : vG (a_T A) n u) (hv9 : vG (a_T A) n th) (hgb : 0 ≤ ((a_K A t).1.getD ba (0, 0, [])).2.1 ∧ ((a_K A t).1.getD ba (0, 0, [])).2.1 < ((a_T A).length : Int)) (hg6 : (tO (a_T A) ((a_K A t).1.getD ba (0, 0, [])).2.1).1 = 6) (hm : a_c A 1 < 60000) : wfA S0 fa ms n (WEs S0 HT cs ms os) B2 (u_W A t (kP (a_K A t) ((a_K A t).1.length - ba) th) (tAp (a_T A) ((a_K A t).1.getD ba (0, 0, [])).2.1 (-1) u) (a_L A) (a_G A) (a_H A) (fUp (a_c A) 1 (a_c A 1 + 1))) := by
  obtain ⟨⟨hp, hw, hx⟩, hA, hB, ⟨hr, ho⟩, hsi, hme⟩ := id h
  have hz6 := pln_1 hA hgb
  have hmT : tO (a_T A) ((a_K A t).1.getD ba (0, 0, [])).2.1 ∈ a_T A := by
    unfold tO
    rw [List.getD_eq_getElem?_getD, List.getElem?_eq_getElem (by omega)]
    exact List.getElem_mem _
  refine wf_p (k := ((a_K A t).1.getD ba (0, 0, [])).2.1) hA WEs_w hw hB.2 (tyv_A h) (kv_P (wV_of hA hw) hv9) fLe_P hgb (fun y hy => ?_) ?_ (wSh_al hA.2.1 hgb.1 hgb.2 hg6) (eCh_li hA.2.1 hgb (by omega)) ⟨⟨by rw [fUp_s]; omega, by rw [fUp_s]; omega⟩, fun i hi => fUp_n hi⟩
  · rcases List.mem_append.mp hy with z | z
    · exact hA.2.2.1.2.1 _ hmT y z
    · rw [List.mem_singleton.mp z]
      exact hu
  · rw [List.length_append, fUp_s]
    show (((tO (a_T A) ((a_K A t).1.getD ba (0, 0, [])).2.1).2.2.2.2.2.2.length + 1 : Nat) : Int) ≤ a_c A 1 + 1
    omega
/-- an element is put behind the others -/
theorem ao_lpu (h : hyA S0 p HT cs ms os X fa n B2 w t A s kd nms ne ec bh ba ar) (hx1 : pe_at (pe_GA xs).xs 1 = some (1, tx_1)) (he3 : e.1 = 3) (hgk : ((a_K A t).1.getD ba (0, 0, [])).1 = 6) (hkd : kd = 5) (hne : ne = 1) : aOut xs d S0 p HT cs ms os X mo fa n B2 w t A s kd nms ec bh ba nm en es e := by
  obtain ⟨⟨hp, hw, hx⟩, hA, hB, ⟨hr, ho⟩, hsi, hme⟩ := id h
  have g3 : ((a_K A t).1.getD ba (0, 0, [])).1 ≠ 3 := by omega
  have hb := hA_ba h
  have hgv := gv_G h
  have hgo := hgv.1.2.1 (by omega) (by omega)
  rw [hgk] at hgo
  obtain ⟨hgb, hg6⟩ := hgo
  have hz6 := pln_1 hA hgb
  have hct := hA.2.2.2.2.1
  have hmT : tO (a_T A) ((a_K A t).1.getD ba (0, 0, [])).2.1 ∈ a_T A := by
    unfold tO
    rw [List.getD_eq_getElem?_getD, List.getElem?_eq_getElem (by omega)]
    exact List.getElem_mem _
  have h5 := ec_5 h hkd
  have hu : vG (a_T A) n ((a_K A t).1.getD ((a_K A t).1.length - 1) (0, 0, [])) := (wV_of hA hw).1 _ (tp_m (by omega))
  by_cases hm : a_c A 1 < 60000
  · refine aO_W h (wf_pu (th := (2, ((tO (a_T A) ((a_K A t).1.getD ba (0, 0, [])).2.1).2.2.2.2.2.2.length : Int) + 1, [])) (u := ((a_K A t).1.getD ((a_K A t).1.length - 1) (0, 0, []))) h hu vG_n hgb hg6 hm) (cA_W (ml := [w + 2, w + 3, 141, 142]) (mk := cMe) h (by rcases hw with ⟨rfl, rfl⟩ | ⟨rfl, rfl⟩ <;> decide) (fun j x hm => mw_e hm) (fun i i0 _ => fUp_n (by omega)) (by rw [fUp_n (by first | decide | omega)]; exact Int.le_refl _) (fun Y y hY ha hd9 he => ?_)) (rA_3 h he3 (fun Y sl hY ha hW hd9 => ?_))
    · have u := c14_c h hY
      rw [gb_c h hY g3, he3] at hd9
      have fin : ∀ V : wS, cFm w cMe Y V → V 150 1 = Y 150 1 + 1 → cSw V (tAp (a_T A) ((a_K A t).1.getD ba (0, 0, [])).2.1 (-1) ((a_K A t).1.getD ((a_K A t).1.length - 1) (0, 0, []))) (a_H A) ∧ cCw (fUp (a_c A) 1 (a_c A 1 + 1)) V := fun V hF h1 => ⟨cSw_U hY hw hF (List.length_set) (fun j x hj hm => by unfold shD at hj; unfold cMe at hm; omega), cCw_1 hY hw hF h1 (fun j x hj hm => by unfold cMe at hm; omega)⟩
      rcases hw with ⟨rfl, rfl⟩ | ⟨rfl, rfl⟩
      · exact wJ_mono (alp_215 (d := d + 83) hx1 hd9 hgk hgb ⟨u.2.2.1.1, u.2.2.1.2.1⟩ (by omega) hkd (by omega) hY.2.2.1.2.2) (fun o V hz => ⟨hz.1, by rcases hz.2 with z | ⟨z1, z2, z3, z4, z5, z6, z7⟩; omega; exact ⟨z2, z3, z5, z4, (fin V z5 z6).1, z7, (fin V z5 z6).2⟩⟩)
      · exact wJ_mono (alp_226 (d := d + 83) hx1 hd9 hgk hgb ⟨u.2.2.1.1, u.2.2.1.2.1⟩ (by omega) hkd (by omega) hY.2.2.1.2.2) (fun o V hz => ⟨hz.1, by rcases hz.2 with z | ⟨z1, z2, z3, z4, z5, z6, z7⟩; omega; exact ⟨z2, z3, z5, z4, (fin V z5 z6).1, z7, (fin V z5 z6).2⟩⟩)
    · have u := rR_u hY
      rw [gb_r h hY g3, he3] at hd9
      obtain ⟨g1, g2, g4, g5⟩ := s_4 h hY
      refine wJ_mono (rlpT (d := d + 81) (s := s) hd9 hgk hgb (by omega) g1 (g5.trans hne) (by omega) hkd (by omega) hu.1.1 (by omega) (by omega)) (fun o Z hz hM => ?_)
      rcases hz with z | ⟨z1, z2, z3, z4, z5, z6, z7⟩
      · omega
      · exact rQ_W (rk := rMe ((a_K A t).1.getD ba (0, 0, [])).2.1) h (fun j x hm => by unfold rMe at hm; unfold rWd9; omega) (fun i i0 _ => fUp_n (by omega)) hY hM ⟨z2, z3, z5, ⟨_, z4⟩, rR_H (A := A) hY.1 z5 (fun j x hj hm => by unfold rMe at hm; omega), rCw_1 hY z5 z6 z7 (fun x hx hm => by unfold rMe at hm; omega)⟩
  · refine aO_X (c := 99) h (cA_X (ml := [w + 2, w + 3, 141, 142]) h (by rcases hw with ⟨rfl, rfl⟩ | ⟨rfl, rfl⟩ <;> decide) (fun Y y hY ha hd9 he => ?_)) (rA_3 h he3 (fun Y sl hY ha hW hd9 => ?_))
    · have u := c14_c h hY
      rw [gb_c h hY g3, he3] at hd9
      rcases hw with ⟨rfl, rfl⟩ | ⟨rfl, rfl⟩
      · exact wJ_mono (alp_215 (d := d + 83) hx1 hd9 hgk hgb ⟨u.2.2.1.1, u.2.2.1.2.1⟩ (by omega) hkd (by omega) hY.2.2.1.2.2) (fun o V hz => ⟨hz.1, by rcases hz.2 with z | z; exact z.2; have := z.1; omega⟩)
      · exact wJ_mono (alp_226 (d := d + 83) hx1 hd9 hgk hgb ⟨u.2.2.1.1, u.2.2.1.2.1⟩ (by omega) hkd (by omega) hY.2.2.1.2.2) (fun o V hz => ⟨hz.1, by rcases hz.2 with z | z; exact z.2; have := z.1; omega⟩)
    · have u := rR_u hY
      rw [gb_r h hY g3, he3] at hd9
      obtain ⟨g1, g2, g4, g5⟩ := s_4 h hY
      refine wJ_mono (rlpT (d := d + 81) (s := s) hd9 hgk hgb (by omega) g1 (g5.trans hne) (by omega) hkd (by omega) hu.1.1 (by omega) (by omega)) (fun o Z hz hM => ?_)
      rcases hz with z | z
      · exact rQ_X h hY (by first | decide | omega) z.2
      · have := z.1
        omega
/-- an element is set -/
theorem ao_lse (h : hyA S0 p HT cs ms os X fa n B2 w t A s kd nms ne ec bh ba ar) (hx1 : pe_at (pe_GA xs).xs 1 = some (1, tx_1)) (he3 : e.1 = 3) (hgk : ((a_K A t).1.getD ba (0, 0, [])).1 = 6) (hkd : kd = 3) : aOut xs d S0 p HT cs ms os X mo fa n B2 w t A s kd nms ec bh ba nm en es e := by
  obtain ⟨⟨hp, hw, hx⟩, hA, hB, ⟨hr, ho⟩, hsi, hme⟩ := id h
  have g3 : ((a_K A t).1.getD ba (0, 0, [])).1 ≠ 3 := by omega
  have hb := hA_ba h
  have hgv := gv_G h
  have hgo := hgv.1.2.1 (by omega) (by omega)
  rw [hgk] at hgo
  obtain ⟨hgb, hg6⟩ := hgo
  have hz6 := pln_1 hA hgb
  have hct := hA.2.2.2.2.1
  have hmT : tO (a_T A) ((a_K A t).1.getD ba (0, 0, [])).2.1 ∈ a_T A := by
    unfold tO
    rw [List.getD_eq_getElem?_getD, List.getElem?_eq_getElem (by omega)]
    exact List.getElem_mem _
  have hb1 : bh = 2 := by
    have z2 := hsi.2.1.2.1.2
    rw [if_neg (by omega), if_pos hkd] at z2
    exact z2
  have hkG := gD_G (wV_of hA hw).1 (ba + 1)
  have hu : vG (a_T A) n ((a_K A t).1.getD ((a_K A t).1.length - 1) (0, 0, [])) := (wV_of hA hw).1 _ (tp_m (by omega))
  have hcc : (¬ (((a_K A t).1.getD (ba + 1) (0, 0, [])).1 = 2 ∧ 0 ≤ ((a_K A t).1.getD (ba + 1) (0, 0, [])).2.1 ∧ ((a_K A t).1.getD (ba + 1) (0, 0, [])).2.1 ≤ ((tO (a_T A) ((a_K A t).1.getD ba (0, 0, [])).2.1).2.2.2.2.2.2.length : Int))) ∨ (((a_K A t).1.getD (ba + 1) (0, 0, [])).1 = 2 ∧ 0 ≤ ((a_K A t).1.getD (ba + 1) (0, 0, [])).2.1 ∧ ((a_K A t).1.getD (ba + 1) (0, 0, [])).2.1 < ((tO (a_T A) ((a_K A t).1.getD ba (0, 0, [])).2.1).2.2.2.2.2.2.length : Int)) ∨ (((a_K A t).1.getD (ba + 1) (0, 0, [])).1 = 2 ∧ ((a_K A t).1.getD (ba + 1) (0, 0, [])).2.1 = ((tO (a_T A) ((a_K A t).1.getD ba (0, 0, [])).2.1).2.2.2.2.2.2.length : Int)) := by omega
  rcases hcc with hc | hc | hc
  · refine aO_X (c := 6) h (cA_X (ml := [w + 2, w + 3, 141, 142]) h (by rcases hw with ⟨rfl, rfl⟩ | ⟨rfl, rfl⟩ <;> decide) (fun Y y hY ha hd9 he => ?_)) (rA_3 h he3 (fun Y sl hY ha hW hd9 => ?_))
    · have u := c14_c h hY
      rw [gb_c h hY g3, he3] at hd9
      rcases hw with ⟨rfl, rfl⟩ | ⟨rfl, rfl⟩
      · exact wJ_mono (als_215 (d := d + 83) hx1 hd9 hgk hgb ⟨u.2.2.1.1, u.2.2.1.2.1⟩ (by omega) (by omega) hkd hY.2.2.1.2.2) (fun o V hz => ⟨hz.1, by rcases hz.2 with z | z | z | z; exact z.2; omega; omega; omega⟩)
      · exact wJ_mono (als_226 (d := d + 83) hx1 hd9 hgk hgb ⟨u.2.2.1.1, u.2.2.1.2.1⟩ (by omega) (by omega) hkd hY.2.2.1.2.2) (fun o V hz => ⟨hz.1, by rcases hz.2 with z | z | z | z; exact z.2; omega; omega; omega⟩)
    · have u := rR_u hY
      rw [gb_r h hY g3, he3] at hd9
      refine wJ_mono (rlsT (d := d + 81) (s := s) hd9 hgk hgb (by omega) hb1 hkd (by omega) hkG.1.1 hu.1.1 (by omega) (by omega)) (fun o Z hz hM => ?_)
      rcases hz with z | z | z | z
      · exact rQ_X h hY (by first | decide | omega) z.2
      · omega
      · omega
      · omega
  · have hw2 : wfA S0 fa ms n (WEs S0 HT cs ms os) B2 (u_W A t (kP (a_K A t) ((a_K A t).1.length - ba) ((a_K A t).1.getD ((a_K A t).1.length - 1) (0, 0, []))) (tSp (a_T A) ((a_K A t).1.getD ba (0, 0, [])).2.1 ((a_K A t).1.getD (ba + 1) (0, 0, [])).2.1.toNat ((a_K A t).1.getD ((a_K A t).1.length - 1) (0, 0, []))) (a_L A) (a_G A) (a_H A) (a_c A)) := by
      refine wf_p (k := ((a_K A t).1.getD ba (0, 0, [])).2.1) hA WEs_w hw hB.2 (tyv_A h) (kv_P (wV_of hA hw) hu) fLe_P hgb (fun y hy => ?_) ?_ (wSh_sp hA.2.1 hgb.1 hgb.2 (by omega)) (eCh_sp hA.2.1 hgb) ⟨⟨Int.le_refl _, by omega⟩, fun _ _ => rfl⟩
      · rcases List.mem_or_eq_of_mem_set hy with z | z
        · exact hA.2.2.1.2.1 _ hmT y z
        · rw [z]
          exact hu
      · rw [List.length_set]
        exact hz6.1
    refine aO_W h hw2 (cA_W (ml := [w + 2, w + 3, 141, 142]) (mk := cMv) h (by rcases hw with ⟨rfl, rfl⟩ | ⟨rfl, rfl⟩ <;> decide) (fun j x hm => mw_v hm) (fun _ _ _ => rfl) (Int.le_refl _) (fun Y y hY ha hd9 he => ?_)) (rA_3 h he3 (fun Y sl hY ha hW hd9 => ?_))
    · have u := c14_c h hY
      rw [gb_c h hY g3, he3] at hd9
      have fin : ∀ V : wS, cFm w cMv Y V → cSw V (tSp (a_T A) ((a_K A t).1.getD ba (0, 0, [])).2.1 ((a_K A t).1.getD (ba + 1) (0, 0, [])).2.1.toNat ((a_K A t).1.getD ((a_K A t).1.length - 1) (0, 0, []))) (a_H A) ∧ cPo V ∧ cCw (a_c A) V := fun V hF => ⟨cSw_U hY hw hF tSp_l (fun j x hj hm => by unfold shD at hj; unfold cMv at hm; omega), cR_Po (A := A) hY hF hw (fun j x hj hm => by unfold poD at hj; unfold cMv at hm; omega), cCw_0 hY hw hF (fun j x hj hm => by unfold cMv at hm; omega)⟩
      rcases hw with ⟨rfl, rfl⟩ | ⟨rfl, rfl⟩
      · exact wJ_mono (als_215 (d := d + 83) hx1 hd9 hgk hgb ⟨u.2.2.1.1, u.2.2.1.2.1⟩ (by omega) (by omega) hkd hY.2.2.1.2.2) (fun o V hz => ⟨hz.1, by rcases hz.2 with z | z | z | z; omega; exact ⟨z.2.1, z.2.2.1, z.2.2.2.2, z.2.2.2.1, fin V z.2.2.2.2⟩; omega; omega⟩)
      · exact wJ_mono (als_226 (d := d + 83) hx1 hd9 hgk hgb ⟨u.2.2.1.1, u.2.2.1.2.1⟩ (by omega) (by omega) hkd hY.2.2.1.2.2) (fun o V hz => ⟨hz.1, by rcases hz.2 with z | z | z | z; omega; exact ⟨z.2.1, z.2.2.1, z.2.2.2.2, z.2.2.2.1, fin V z.2.2.2.2⟩; omega; omega⟩)
    · have u := rR_u hY
      rw [gb_r h hY g3, he3] at hd9
      refine wJ_mono (rlsT (d := d + 81) (s := s) hd9 hgk hgb (by omega) hb1 hkd (by omega) hkG.1.1 hu.1.1 (by omega) (by omega)) (fun o Z hz hM => ?_)
      rcases hz with z | z | z | z
      · omega
      · omega
      · omega
      · exact rQ_W (rk := rMv) h (fun j x hm => by unfold rMv at hm; unfold rWd9; omega) (fun _ _ _ => rfl) hY hM ⟨z.2.1, z.2.2.1, z.2.2.2.2, ⟨sl, z.2.2.2.1⟩, rR_H (A := A) hY.1 z.2.2.2.2 (fun j x hj hm => by unfold rMv at hm; omega), rCw_0 hY z.2.2.2.2 (fun x hx hm => by unfold rMv at hm; omega)⟩
  · by_cases hm : a_c A 1 < 60000
    · refine aO_W h (wf_pu (th := ((a_K A t).1.getD ((a_K A t).1.length - 1) (0, 0, []))) (u := ((a_K A t).1.getD ((a_K A t).1.length - 1) (0, 0, []))) h hu hu hgb hg6 hm) (cA_W (ml := [w + 2, w + 3, 141, 142]) (mk := cMe) h (by rcases hw with ⟨rfl, rfl⟩ | ⟨rfl, rfl⟩ <;> decide) (fun j x hm => mw_e hm) (fun i i0 _ => fUp_n (by omega)) (by rw [fUp_n (by first | decide | omega)]; exact Int.le_refl _) (fun Y y hY ha hd9 he => ?_)) (rA_3 h he3 (fun Y sl hY ha hW hd9 => ?_))
      · have u := c14_c h hY
        rw [gb_c h hY g3, he3] at hd9
        have fin : ∀ V : wS, cFm w cMe Y V → V 150 1 = Y 150 1 + 1 → cSw V (tAp (a_T A) ((a_K A t).1.getD ba (0, 0, [])).2.1 (-1) ((a_K A t).1.getD ((a_K A t).1.length - 1) (0, 0, []))) (a_H A) ∧ cCw (fUp (a_c A) 1 (a_c A 1 + 1)) V := fun V hF h1 => ⟨cSw_U hY hw hF (List.length_set) (fun j x hj hm => by unfold shD at hj; unfold cMe at hm; omega), cCw_1 hY hw hF h1 (fun j x hj hm => by unfold cMe at hm; omega)⟩
        rcases hw with ⟨rfl, rfl⟩ | ⟨rfl, rfl⟩
        · exact wJ_mono (als_215 (d := d + 83) hx1 hd9 hgk hgb ⟨u.2.2.1.1, u.2.2.1.2.1⟩ (by omega) (by omega) hkd hY.2.2.1.2.2) (fun o V hz => ⟨hz.1, by rcases hz.2 with z | z | z | ⟨z1, z2, z3, z4, z5, z6, z7, z8⟩; omega; omega; omega; exact ⟨z3, z4, z6, z5, (fin V z6 z7).1, z8, (fin V z6 z7).2⟩⟩)
        · exact wJ_mono (als_226 (d := d + 83) hx1 hd9 hgk hgb ⟨u.2.2.1.1, u.2.2.1.2.1⟩ (by omega) (by omega) hkd hY.2.2.1.2.2) (fun o V hz => ⟨hz.1, by rcases hz.2 with z | z | z | ⟨z1, z2, z3, z4, z5, z6, z7, z8⟩; omega; omega; omega; exact ⟨z3, z4, z6, z5, (fin V z6 z7).1, z8, (fin V z6 z7).2⟩⟩)
      · have u := rR_u hY
        rw [gb_r h hY g3, he3] at hd9
        refine wJ_mono (rlsT (d := d + 81) (s := s) hd9 hgk hgb (by omega) hb1 hkd (by omega) hkG.1.1 hu.1.1 (by omega) (by omega)) (fun o Z hz hM => ?_)
        rcases hz with z | z | ⟨z1, z2, z3, z4, z5, z6, z7, z8⟩ | z
        · omega
        · omega
        · exact rQ_W (rk := rMe ((a_K A t).1.getD ba (0, 0, [])).2.1) h (fun j x hm => by unfold rMe at hm; unfold rWd9; omega) (fun i i0 _ => fUp_n (by omega)) hY hM ⟨z3, z4, z6, ⟨_, z5⟩, rR_H (A := A) hY.1 z6 (fun j x hj hm => by unfold rMe at hm; omega), rCw_1 hY z6 z7 z8 (fun x hx hm => by unfold rMe at hm; omega)⟩
        · omega
    · refine aO_X (c := 99) h (cA_X (ml := [w + 2, w + 3, 141, 142]) h (by rcases hw with ⟨rfl, rfl⟩ | ⟨rfl, rfl⟩ <;> decide) (fun Y y hY ha hd9 he => ?_)) (rA_3 h he3 (fun Y sl hY ha hW hd9 => ?_))
      · have u := c14_c h hY
        rw [gb_c h hY g3, he3] at hd9
        rcases hw with ⟨rfl, rfl⟩ | ⟨rfl, rfl⟩
        · exact wJ_mono (als_215 (d := d + 83) hx1 hd9 hgk hgb ⟨u.2.2.1.1, u.2.2.1.2.1⟩ (by omega) (by omega) hkd hY.2.2.1.2.2) (fun o V hz => ⟨hz.1, by rcases hz.2 with z | z | z | z; omega; omega; exact z.2.2; omega⟩)
        · exact wJ_mono (als_226 (d := d + 83) hx1 hd9 hgk hgb ⟨u.2.2.1.1, u.2.2.1.2.1⟩ (by omega) (by omega) hkd hY.2.2.1.2.2) (fun o V hz => ⟨hz.1, by rcases hz.2 with z | z | z | z; omega; omega; exact z.2.2; omega⟩)
      · have u := rR_u hY
        rw [gb_r h hY g3, he3] at hd9
        refine wJ_mono (rlsT (d := d + 81) (s := s) hd9 hgk hgb (by omega) hb1 hkd (by omega) hkG.1.1 hu.1.1 (by omega) (by omega)) (fun o Z hz hM => ?_)
        rcases hz with z | z | z | z
        · omega
        · exact rQ_X h hY (by first | decide | omega) z.2.2
        · omega
        · omega
end Wli
