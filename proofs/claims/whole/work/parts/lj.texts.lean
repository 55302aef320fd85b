/-! PART lj: acting on texts. -/
section Wlj
variable {Sb : wS} {xs : List (Nat × List Int32)} {d : Nat} {S0 S Z : wS} {p w m : Nat} {HT : Int → Int} {cs : List hCR} {ms : List hMR} {os : Int → List Int} {X : List (List Int)} {mo t n B B2 oq : Int} {fa : Int → Int} {WE : aA → Prop} {A A2 : aA} {K2 : aK} {ml : List Nat} {k c s kd nms ne ec bh nm en : Int} {b ba : Nat} {ar : List aV} {e : aE} {V Z2 Y : wS} {o : wO} {dn : Int} {H2 : List aH} {N2 : List (List Int)} {E2 : Int → List aE} {C2 : List aQ} {W2 : Int} {c2 : Int → Int} {k2 : Int → Int → Int} {mk rk : Nat → Int → Prop} {K : aK} {T : List aO} {H : List aH} {E : Int → List aE} {gk gb es lo hi a : Int} {r : List aE × Int × Option aE} {A1 : aA} {tl cl : List Int} {sl : Nat → List Int} {L : List aC} {G : Int → aV} {u : aV} {x : List Int} {T2 : List aO} {L2 : List aC} {G2 : Int → aV} {H2 : List aH} {c2 : Int → Int} {y : Int} {Q : wO → wS → Prop} {ps : List (Int × aV)} {k hd wh : Int} {f a9 pn fn md : Int} {vn m9 : Nat} {th : aV} {g : Int} {lp : List aV}
theorem cA_T (h : hyA S0 p HT cs ms os X fa n B2 w t A s kd nms ne ec bh ba ar) (hs : ∀ k ∈ ml, k ∈ sML) {mk : Nat → Int → Prop} (hmk : ∀ (j : Nat) (x : Int), mk j x → mTx j x) (hc2 : ∀ i : Int, 5 ≤ i → c2 i = a_c A i) (hc : ∀ (Y : wS) (y : Int), cRel S0 p HT cs ms os X mo A Y → cAim w s kd ec ba ((a_K A t).1.getD ba (0, 0, [])).1 nm es Y → rdC w kd ec ba ((a_K A t).1.getD ba (0, 0, [])).1 (Y (w + 3) (ba : Int)) es y e.1 (a_K A t) (a_T A) (a_L A) (a_G A) Y → cEc Y kd nms e y → wJ (pe_GA xs) wY0 (mS ml) (d + 91) t_XL_act ((pe_at t_XL_act.bl 0).getD (0, [])).2 [(0, (2, 158)), (1, (0, y))] [] Y (fun o V => o = .inl none ∧ V w 16 = 0 ∧ cTk w V K2 ∧ cFm w mk Y V ∧ cTx Y V ∧ cNt (a_N A) X V ∧ cPo V ∧ cCw c2 V ∧ cPl (pV S0) (c2 3) (a_N A) V)) : cAct xs d S0 p HT cs ms os X mo w A s kd nms ec ba ((a_K A t).1.getD ba (0, 0, [])).1 nm es e 0 (u_W A t K2 (a_T A) (a_L A) (a_G A) (a_H A) c2) := fun Y y hY ha he hy => wJ_M (wJ_mono (hc Y y hY ha (rdC_of h hY ha he hy) he) (fun o V hz => by
  obtain ⟨z1, z2, z3, z4, z5, z6, z7, z8, z9⟩ := hz
  exact ⟨z1, z2, cRel_T hY h.1.1 h.1.2.1 z4 hmk z5 z6 z3 z7 z8 z9 hc2⟩)) (mS_sM hs)
theorem rQ_T (h : hyA S0 p HT cs ms os X fa n B2 w t A s kd nms ne ec bh ba ar) {rk : Nat → Int → Prop} (hrk : ∀ (j : Nat) (x : Int), rk j x → rTx9 j x) (hc2 : ∀ i : Int, 5 ≤ i → c2 i = a_c A i) (hY : rRun S0 Sb HT cs ms os X mo t A Y) (hM : w_ML Z) (hz : o = .inl none ∧ rTk t Z K2 ∧ rTm t rk Y Z ∧ rTx Y Z ∧ (rTt Z ∧ rTb Z) ∧ rCw c2 Z) : rOc S0 Sb HT cs ms os X mo t 0 (u_W A t K2 (a_T A) (a_L A) (a_G A) (a_H A) c2) o Z := Or.inl ⟨hz.1, rfl, rRel_T hY (wt_t h.1.2.1) (hl_A h) hz.2.2.1 hrk hM hz.2.1 hz.2.2.2.1 hz.2.2.2.2.1 hz.2.2.2.2.2 hc2⟩
theorem sbL_G {x9 : List Int} {i j : Int} (hx : (∀ y ∈ x9, 0 ≤ y ∧ y ≤ 255) ∧ x9.length ≤ 200000) : (∀ y ∈ sbL x9 i j, 0 ≤ y ∧ y ≤ 255) ∧ (sbL x9 i j).length ≤ 200000 := by
  unfold sbL
  refine ⟨fun y hy => hx.1 y (List.mem_of_mem_drop (List.mem_of_mem_take hy)), ?_⟩
  rw [List.length_take, List.length_drop]
  have := hx.2
  omega
/-- size of a text -/
theorem ao_tsz (h : hyA S0 p HT cs ms os X fa n B2 w t A s kd nms ne ec bh ba ar) (hx1 : pe_at (pe_GA xs).xs 1 = some (1, tx_1)) (he3 : e.1 = 3) (hgk : ((a_K A t).1.getD ba (0, 0, [])).1 = 3) (hkd : kd = 0) : aOut xs d S0 p HT cs ms os X mo fa n B2 w t A s kd nms ec bh ba nm en es e := by
  obtain ⟨⟨hp, hw, hx⟩, hA, hB, ⟨hr, ho⟩, hsi, hme⟩ := id h
  have hb := hA_ba h
  have hgv := gv_G h
  have hct := hA.2.2.2.2.1
  have h21 := fun (Y : wS) (hY : cRel S0 p HT cs ms os X mo A Y) => (h21_c hA hY).1
  have gvc := fun (Y : wS) (hY : cRel S0 p HT cs ms os X mo A Y) => gv_c h hY
  have gvr := fun {Sb : wS} (Y : wS) (hY : rRun S0 Sb HT cs ms os X mo t A Y) => gv_r h hY
  rw [hgk] at gvc gvr
  have hb0 : bh = 0 := by
    have z := hsi.2.2.1.2 (by omega)
    have z2 := hsi.2.1.2.1
    rw [hkd] at z2
    have z3 : ec = ne := z2.1
    have z4 : bh = ec := z2.2
    omega
  refine aO_v (u := (2, (((a_K A t).1.getD ba (0, 0, [])).2.2.length : Int), [])) h vG_n (cA_K (ml := [w + 2, w + 3]) h (by rcases hw with ⟨rfl, rfl⟩ | ⟨rfl, rfl⟩ <;> decide) (fun Y y hY ha hd9 he => ?_)) (rA_3 h he3 (fun Y sl hY ha hW hd9 => ?_))
  · rw [he3, hgk] at hd9
    rcases hw with ⟨rfl, rfl⟩ | ⟨rfl, rfl⟩
    · exact wJ_mono (atz_215 (d := d + 83) hx1 hd9 rfl (gvc Y hY) (by have := h21 Y hY; omega) hkd) (fun o V hz => hz)
    · exact wJ_mono (atz_226 (d := d + 83) hx1 hd9 rfl (gvc Y hY) (by have := h21 Y hY; omega) hkd) (fun o V hz => hz)
  · have u := rR_u hY
    rw [he3, hgk] at hd9
    exact wJ_mono (rtzT (d := d + 81) (s := s) hd9 rfl (gvr Y hY) hY.1.2.2.2.1.2.2.1 hY.1.2.2.2.1.2.2.2 (by have := hct.2.2.1; omega) (by have := hct.2.2.2.1; omega) hb0 hkd) (fun o Z hz hM => rQ_K h hY hM ⟨hz.1, hz.2.1, hz.2.2.2⟩)

theorem ao_tge (h : hyA S0 p HT cs ms os X fa n B2 w t A s kd nms ne ec bh ba ar) (hx1 : pe_at (pe_GA xs).xs 1 = some (1, tx_1)) (he3 : e.1 = 3) (hgk : ((a_K A t).1.getD ba (0, 0, [])).1 = 3) (hkd : kd = 2) : aOut xs d S0 p HT cs ms os X mo fa n B2 w t A s kd nms ec bh ba nm en es e := by
  obtain ⟨⟨hp, hw, hx⟩, hA, hB, ⟨hr, ho⟩, hsi, hme⟩ := id h
  have hb := hA_ba h
  have hgv := gv_G h
  have hct := hA.2.2.2.2.1
  have h21 := fun (Y : wS) (hY : cRel S0 p HT cs ms os X mo A Y) => (h21_c hA hY).1
  have gvc := fun (Y : wS) (hY : cRel S0 p HT cs ms os X mo A Y) => gv_c h hY
  have gvr := fun {Sb : wS} (Y : wS) (hY : rRun S0 Sb HT cs ms os X mo t A Y) => gv_r h hY
  rw [hgk] at gvc gvr
  have hb1 : bh = 1 := by
    have z2 := hsi.2.1.2.1.2
    rw [if_pos hkd] at z2
    exact z2
  have hkG := gD_G (wV_of hA hw).1 (ba + 1)
  have hxg : (∀ y ∈ ((a_K A t).1.getD ba (0, 0, [])).2.2, 0 ≤ y ∧ y ≤ 255) ∧ ((a_K A t).1.getD ba (0, 0, [])).2.2.length ≤ 200000 := hgv.2.2.2
  by_cases hc : ((a_K A t).1.getD (ba + 1) (0, 0, [])).1 = 2 ∧ 0 ≤ ((a_K A t).1.getD (ba + 1) (0, 0, [])).2.1 ∧ ((a_K A t).1.getD (ba + 1) (0, 0, [])).2.1 < (((a_K A t).1.getD ba (0, 0, [])).2.2.length : Int)
  · have hij : 0 ≤ ((a_K A t).1.getD (ba + 1) (0, 0, [])).2.1 ∧ ((a_K A t).1.getD (ba + 1) (0, 0, [])).2.1 ≤ (((a_K A t).1.getD (ba + 1) (0, 0, [])).2.1 + 1) ∧ (((a_K A t).1.getD (ba + 1) (0, 0, [])).2.1 + 1) ≤ (((a_K A t).1.getD ba (0, 0, [])).2.2.length : Int) := by omega
    by_cases hm : a_c A 2 < 12000 ∧ a_c A 3 + ((((a_K A t).1.getD (ba + 1) (0, 0, [])).2.1 + 1) - ((a_K A t).1.getD (ba + 1) (0, 0, [])).2.1) ≤ 200000
    · refine aO_W h (wf_T (K2 := kP (a_K A t) ((a_K A t).1.length - ba) (3, 0, sbL ((a_K A t).1.getD ba (0, 0, [])).2.2 ((a_K A t).1.getD (ba + 1) (0, 0, [])).2.1 (((a_K A t).1.getD (ba + 1) (0, 0, [])).2.1 + 1))) (c2 := (fUp (fUp (a_c A) 2 (a_c A 2 + 1)) 3 (a_c A 3 + ((((a_K A t).1.getD (ba + 1) (0, 0, [])).2.1 + 1) - ((a_K A t).1.getD (ba + 1) (0, 0, [])).2.1)))) hA WEs_w hw ⟨Int.le_refl _, hB.2⟩ (tyv_A h) (kv_P (wV_of hA hw) (vG_x (sbL_G hxg))) fLe_P ⟨by rw [fUp_n (by first | decide | omega), fUp_s]; have := hct.2.2.1; omega, by rw [fUp_s]; have := hct.2.2.2.1; omega, fun i i0 i1 => by rw [fUp_n i1, fUp_n i0]⟩) (cA_T (ml := [w + 2, w + 3]) (mk := cMy) h (by rcases hw with ⟨rfl, rfl⟩ | ⟨rfl, rfl⟩ <;> decide) (fun j x hm => by unfold cMy at hm; unfold mTx; omega) (fun i i0 => by rw [fUp_n (by omega), fUp_n (by omega)]) (fun Y y hY ha hd9 he => ?_)) (rA_3 h he3 (fun Y sl hY ha hW hd9 => ?_))
      · have u := cR_u hY
        have h29 := h21 Y hY
        rw [he3, hgk] at hd9
        have fin : ∀ V : wS, sbP w (a_K A t) ba (((a_K A t).1.getD (ba + 1) (0, 0, [])).1 = 2 ∧ 0 ≤ ((a_K A t).1.getD (ba + 1) (0, 0, [])).2.1 ∧ ((a_K A t).1.getD (ba + 1) (0, 0, [])).2.1 < (((a_K A t).1.getD ba (0, 0, [])).2.2.length : Int)) ((a_K A t).1.getD ba (0, 0, [])).2.2 ((a_K A t).1.getD (ba + 1) (0, 0, [])).2.1 (((a_K A t).1.getD (ba + 1) (0, 0, [])).2.1 + 1) Y V → V w 16 = 0 ∧ cTk w V (kP (a_K A t) ((a_K A t).1.length - ba) (3, 0, sbL ((a_K A t).1.getD ba (0, 0, [])).2.2 ((a_K A t).1.getD (ba + 1) (0, 0, [])).2.1 (((a_K A t).1.getD (ba + 1) (0, 0, [])).2.1 + 1))) ∧ cFm w cMy Y V ∧ cTx Y V ∧ cNt (a_N A) X V ∧ cPo V ∧ cCw (fUp (fUp (a_c A) 2 (a_c A 2 + 1)) 3 (a_c A 3 + ((((a_K A t).1.getD (ba + 1) (0, 0, [])).2.1 + 1) - ((a_K A t).1.getD (ba + 1) (0, 0, [])).2.1))) V ∧ cPl (pV S0) ((fUp (fUp (a_c A) 2 (a_c A 2 + 1)) 3 (a_c A 3 + ((((a_K A t).1.getD (ba + 1) (0, 0, [])).2.1 + 1) - ((a_K A t).1.getD (ba + 1) (0, 0, [])).2.1))) 3) (a_N A) V := fun V hz => by
          rcases hz with z | z | ⟨z1, z2, z3, z4, z5, z6, z7⟩
          · exact absurd hc z.1
          · have := z.2.1
            omega
          · refine ⟨z3, z4, z5, fr_tx z5 hw (fun x hm => by unfold cMy at hm; omega) (fun hm => by unfold cMy at hm; omega), cR_N (A := A) hY z5 hw (fun j x hj hm => by unfold cMy at hm; omega), cR_Po (A := A) hY z5 hw (fun j x hj hm => by unfold poD at hj; unfold cMy at hm; omega), cCw_t hY hw z5 z6 z7 (fun j x hj hm => by unfold cMy at hm; omega), ?_⟩
            exact cPl_ag hY.2.2.2.2.2.2.2.1.2.1.2 (fmG z5 hw 2 1 (by first | decide | omega) (fun hm => by unfold cMy at hm; omega)) (fmG z5 hw 3 (-1) (by first | decide | omega) (fun hm => by unfold cMy at hm; omega)) (fmG z5 hw 2 7 (by first | decide | omega) (fun hm => by unfold cMy at hm; omega)) (fmG z5 hw 4 (-1) (by first | decide | omega) (fun hm => by unfold cMy at hm; omega)) (by rw [fUp_s]; omega) (Nat.le_refl _)
        rcases hw with ⟨rfl, rfl⟩ | ⟨rfl, rfl⟩
        · exact wJ_mono (atg_215 (d := d + 83) hx1 hd9 rfl (gvc Y hY) (by omega) hkd (by omega) (by have := hct.2.2.1; omega) (by have := hct.2.2.2.1; omega)) (fun o V hz => ⟨hz.1, fin V hz.2⟩)
        · exact wJ_mono (atg_226 (d := d + 83) hx1 hd9 rfl (gvc Y hY) (by omega) hkd (by omega) (by have := hct.2.2.1; omega) (by have := hct.2.2.2.1; omega)) (fun o V hz => ⟨hz.1, fin V hz.2⟩)
      · have u := rR_u hY
        rw [he3, hgk] at hd9
        refine wJ_mono (rteT (d := d + 81) (s := s) hd9 rfl (gvr Y hY) hY.1.2.2.2.1.2.2.1 hY.1.2.2.2.1.2.2.2 (by have := hct.2.2.1; omega) (by have := hct.2.2.2.1; omega) hb1 hkd (by omega) hkG.1.1) (fun o Z hz hM => ?_)
        rcases hz with z | z | ⟨z1, z2, z3, z4, z5, z6, z7, z8, z9, z10, z11, z12⟩
        · exact absurd hc z.1
        · have := z.2.1
          omega
        · exact rQ_T (rk := rMj) h (fun j x hm => by unfold rMj at hm; unfold rTx9; omega) (fun i i0 => by rw [fUp_n (by omega), fUp_n (by omega)]) hY hM ⟨z3, z4, z6, z7, z8, rCw_t hY z6 z11 z12 (fun x hj hm => by unfold rMj at hm; omega)⟩
    · refine aO_X (c := 99) h (cA_X (ml := [w + 2, w + 3]) h (by rcases hw with ⟨rfl, rfl⟩ | ⟨rfl, rfl⟩ <;> decide) (fun Y y hY ha hd9 he => ?_)) (rA_3 h he3 (fun Y sl hY ha hW hd9 => ?_))
      · have u := cR_u hY
        have h29 := h21 Y hY
        rw [he3, hgk] at hd9
        rcases hw with ⟨rfl, rfl⟩ | ⟨rfl, rfl⟩
        · exact wJ_mono (atg_215 (d := d + 83) hx1 hd9 rfl (gvc Y hY) (by omega) hkd (by omega) (by have := hct.2.2.1; omega) (by have := hct.2.2.2.1; omega)) (fun o V hz => ⟨hz.1, by rcases hz.2 with z | z | z; exact absurd hc z.1; exact z.2.2; (have := z.2.1; omega)⟩)
        · exact wJ_mono (atg_226 (d := d + 83) hx1 hd9 rfl (gvc Y hY) (by omega) hkd (by omega) (by have := hct.2.2.1; omega) (by have := hct.2.2.2.1; omega)) (fun o V hz => ⟨hz.1, by rcases hz.2 with z | z | z; exact absurd hc z.1; exact z.2.2; (have := z.2.1; omega)⟩)
      · have u := rR_u hY
        rw [he3, hgk] at hd9
        refine wJ_mono (rteT (d := d + 81) (s := s) hd9 rfl (gvr Y hY) hY.1.2.2.2.1.2.2.1 hY.1.2.2.2.1.2.2.2 (by have := hct.2.2.1; omega) (by have := hct.2.2.2.1; omega) hb1 hkd (by omega) hkG.1.1) (fun o Z hz hM => ?_)
        rcases hz with z | z | z
        · exact absurd hc z.1
        · exact rQ_X h hY (by first | decide | omega) z.2.2
        · have := z.2.1
          omega
  · refine aO_X (c := 6) h (cA_X (ml := [w + 2, w + 3]) h (by rcases hw with ⟨rfl, rfl⟩ | ⟨rfl, rfl⟩ <;> decide) (fun Y y hY ha hd9 he => ?_)) (rA_3 h he3 (fun Y sl hY ha hW hd9 => ?_))
    · have u := cR_u hY
      have h29 := h21 Y hY
      rw [he3, hgk] at hd9
      rcases hw with ⟨rfl, rfl⟩ | ⟨rfl, rfl⟩
      · exact wJ_mono (atg_215 (d := d + 83) hx1 hd9 rfl (gvc Y hY) (by omega) hkd (by omega) (by have := hct.2.2.1; omega) (by have := hct.2.2.2.1; omega)) (fun o V hz => ⟨hz.1, by rcases hz.2 with z | z | z; exact z.2; exact absurd z.1 hc; exact absurd z.1 hc⟩)
      · exact wJ_mono (atg_226 (d := d + 83) hx1 hd9 rfl (gvc Y hY) (by omega) hkd (by omega) (by have := hct.2.2.1; omega) (by have := hct.2.2.2.1; omega)) (fun o V hz => ⟨hz.1, by rcases hz.2 with z | z | z; exact z.2; exact absurd z.1 hc; exact absurd z.1 hc⟩)
    · have u := rR_u hY
      rw [he3, hgk] at hd9
      refine wJ_mono (rteT (d := d + 81) (s := s) hd9 rfl (gvr Y hY) hY.1.2.2.2.1.2.2.1 hY.1.2.2.2.1.2.2.2 (by have := hct.2.2.1; omega) (by have := hct.2.2.2.1; omega) hb1 hkd (by omega) hkG.1.1) (fun o Z hz hM => ?_)
      rcases hz with z | z | z
      · exact rQ_X h hY (by first | decide | omega) z.2
      · exact absurd z.1 hc
      · exact absurd z.1 hc

theorem ao_tsb (h : hyA S0 p HT cs ms os X fa n B2 w t A s kd nms ne ec bh ba ar) (hx1 : pe_at (pe_GA xs).xs 1 = some (1, tx_1)) (he3 : e.1 = 3) (hgk : ((a_K A t).1.getD ba (0, 0, [])).1 = 3) (hkd : kd = 5) (hne : ne = 2) : aOut xs d S0 p HT cs ms os X mo fa n B2 w t A s kd nms ec bh ba nm en es e := by
  obtain ⟨⟨hp, hw, hx⟩, hA, hB, ⟨hr, ho⟩, hsi, hme⟩ := id h
  have hb := hA_ba h
  have hgv := gv_G h
  have hct := hA.2.2.2.2.1
  have h21 := fun (Y : wS) (hY : cRel S0 p HT cs ms os X mo A Y) => (h21_c hA hY).1
  have gvc := fun (Y : wS) (hY : cRel S0 p HT cs ms os X mo A Y) => gv_c h hY
  have gvr := fun {Sb : wS} (Y : wS) (hY : rRun S0 Sb HT cs ms os X mo t A Y) => gv_r h hY
  rw [hgk] at gvc gvr
  have h5 := ec_5 h hkd
  have hkG := gD_G (wV_of hA hw).1 (ba + 1)
  have hkH := gD_G (wV_of hA hw).1 ((a_K A t).1.length - 1)
  have hxg : (∀ y ∈ ((a_K A t).1.getD ba (0, 0, [])).2.2, 0 ≤ y ∧ y ≤ 255) ∧ ((a_K A t).1.getD ba (0, 0, [])).2.2.length ≤ 200000 := hgv.2.2.2
  by_cases hc : ((a_K A t).1.getD (ba + 1) (0, 0, [])).1 = 2 ∧ ((a_K A t).1.getD ((a_K A t).1.length - 1) (0, 0, [])).1 = 2 ∧ 0 ≤ ((a_K A t).1.getD (ba + 1) (0, 0, [])).2.1 ∧ ((a_K A t).1.getD (ba + 1) (0, 0, [])).2.1 ≤ ((a_K A t).1.getD ((a_K A t).1.length - 1) (0, 0, [])).2.1 ∧ ((a_K A t).1.getD ((a_K A t).1.length - 1) (0, 0, [])).2.1 ≤ (((a_K A t).1.getD ba (0, 0, [])).2.2.length : Int)
  · have hij : 0 ≤ ((a_K A t).1.getD (ba + 1) (0, 0, [])).2.1 ∧ ((a_K A t).1.getD (ba + 1) (0, 0, [])).2.1 ≤ ((a_K A t).1.getD ((a_K A t).1.length - 1) (0, 0, [])).2.1 ∧ ((a_K A t).1.getD ((a_K A t).1.length - 1) (0, 0, [])).2.1 ≤ (((a_K A t).1.getD ba (0, 0, [])).2.2.length : Int) := by omega
    by_cases hm : a_c A 2 < 12000 ∧ a_c A 3 + (((a_K A t).1.getD ((a_K A t).1.length - 1) (0, 0, [])).2.1 - ((a_K A t).1.getD (ba + 1) (0, 0, [])).2.1) ≤ 200000
    · refine aO_W h (wf_T (K2 := kP (a_K A t) ((a_K A t).1.length - ba) (3, 0, sbL ((a_K A t).1.getD ba (0, 0, [])).2.2 ((a_K A t).1.getD (ba + 1) (0, 0, [])).2.1 ((a_K A t).1.getD ((a_K A t).1.length - 1) (0, 0, [])).2.1)) (c2 := (fUp (fUp (a_c A) 2 (a_c A 2 + 1)) 3 (a_c A 3 + (((a_K A t).1.getD ((a_K A t).1.length - 1) (0, 0, [])).2.1 - ((a_K A t).1.getD (ba + 1) (0, 0, [])).2.1)))) hA WEs_w hw ⟨Int.le_refl _, hB.2⟩ (tyv_A h) (kv_P (wV_of hA hw) (vG_x (sbL_G hxg))) fLe_P ⟨by rw [fUp_n (by first | decide | omega), fUp_s]; have := hct.2.2.1; omega, by rw [fUp_s]; have := hct.2.2.2.1; omega, fun i i0 i1 => by rw [fUp_n i1, fUp_n i0]⟩) (cA_T (ml := [w + 2, w + 3]) (mk := cMy) h (by rcases hw with ⟨rfl, rfl⟩ | ⟨rfl, rfl⟩ <;> decide) (fun j x hm => by unfold cMy at hm; unfold mTx; omega) (fun i i0 => by rw [fUp_n (by omega), fUp_n (by omega)]) (fun Y y hY ha hd9 he => ?_)) (rA_3 h he3 (fun Y sl hY ha hW hd9 => ?_))
      · have u := cR_u hY
        have h29 := h21 Y hY
        rw [he3, hgk] at hd9
        have fin : ∀ V : wS, sbP w (a_K A t) ba (((a_K A t).1.getD (ba + 1) (0, 0, [])).1 = 2 ∧ ((a_K A t).1.getD ((a_K A t).1.length - 1) (0, 0, [])).1 = 2 ∧ 0 ≤ ((a_K A t).1.getD (ba + 1) (0, 0, [])).2.1 ∧ ((a_K A t).1.getD (ba + 1) (0, 0, [])).2.1 ≤ ((a_K A t).1.getD ((a_K A t).1.length - 1) (0, 0, [])).2.1 ∧ ((a_K A t).1.getD ((a_K A t).1.length - 1) (0, 0, [])).2.1 ≤ (((a_K A t).1.getD ba (0, 0, [])).2.2.length : Int)) ((a_K A t).1.getD ba (0, 0, [])).2.2 ((a_K A t).1.getD (ba + 1) (0, 0, [])).2.1 ((a_K A t).1.getD ((a_K A t).1.length - 1) (0, 0, [])).2.1 Y V → V w 16 = 0 ∧ cTk w V (kP (a_K A t) ((a_K A t).1.length - ba) (3, 0, sbL ((a_K A t).1.getD ba (0, 0, [])).2.2 ((a_K A t).1.getD (ba + 1) (0, 0, [])).2.1 ((a_K A t).1.getD ((a_K A t).1.length - 1) (0, 0, [])).2.1)) ∧ cFm w cMy Y V ∧ cTx Y V ∧ cNt (a_N A) X V ∧ cPo V ∧ cCw (fUp (fUp (a_c A) 2 (a_c A 2 + 1)) 3 (a_c A 3 + (((a_K A t).1.getD ((a_K A t).1.length - 1) (0, 0, [])).2.1 - ((a_K A t).1.getD (ba + 1) (0, 0, [])).2.1))) V ∧ cPl (pV S0) ((fUp (fUp (a_c A) 2 (a_c A 2 + 1)) 3 (a_c A 3 + (((a_K A t).1.getD ((a_K A t).1.length - 1) (0, 0, [])).2.1 - ((a_K A t).1.getD (ba + 1) (0, 0, [])).2.1))) 3) (a_N A) V := fun V hz => by
          rcases hz with z | z | ⟨z1, z2, z3, z4, z5, z6, z7⟩
          · exact absurd hc z.1
          · have := z.2.1
            omega
          · refine ⟨z3, z4, z5, fr_tx z5 hw (fun x hm => by unfold cMy at hm; omega) (fun hm => by unfold cMy at hm; omega), cR_N (A := A) hY z5 hw (fun j x hj hm => by unfold cMy at hm; omega), cR_Po (A := A) hY z5 hw (fun j x hj hm => by unfold poD at hj; unfold cMy at hm; omega), cCw_t hY hw z5 z6 z7 (fun j x hj hm => by unfold cMy at hm; omega), ?_⟩
            exact cPl_ag hY.2.2.2.2.2.2.2.1.2.1.2 (fmG z5 hw 2 1 (by first | decide | omega) (fun hm => by unfold cMy at hm; omega)) (fmG z5 hw 3 (-1) (by first | decide | omega) (fun hm => by unfold cMy at hm; omega)) (fmG z5 hw 2 7 (by first | decide | omega) (fun hm => by unfold cMy at hm; omega)) (fmG z5 hw 4 (-1) (by first | decide | omega) (fun hm => by unfold cMy at hm; omega)) (by rw [fUp_s]; omega) (Nat.le_refl _)
        rcases hw with ⟨rfl, rfl⟩ | ⟨rfl, rfl⟩
        · exact wJ_mono (atb_215 (d := d + 83) hx1 hd9 rfl (gvc Y hY) (by omega) hkd (by omega) (by have := hct.2.2.1; omega) (by have := hct.2.2.2.1; omega)) (fun o V hz => ⟨hz.1, fin V hz.2⟩)
        · exact wJ_mono (atb_226 (d := d + 83) hx1 hd9 rfl (gvc Y hY) (by omega) hkd (by omega) (by have := hct.2.2.1; omega) (by have := hct.2.2.2.1; omega)) (fun o V hz => ⟨hz.1, fin V hz.2⟩)
      · have u := rR_u hY
        rw [he3, hgk] at hd9
        refine wJ_mono (rtbT (d := d + 81) (s := s) hd9 rfl (gvr Y hY) hY.1.2.2.2.1.2.2.1 hY.1.2.2.2.1.2.2.2 (by have := hct.2.2.1; omega) (by have := hct.2.2.2.1; omega) (by omega) hkd (by omega) hkG.1.1 hkH.1.1) (fun o Z hz hM => ?_)
        rcases hz with z | z | ⟨z1, z2, z3, z4, z5, z6, z7, z8, z9, z10, z11, z12⟩
        · exact absurd hc z.1
        · have := z.2.1
          omega
        · exact rQ_T (rk := rMj) h (fun j x hm => by unfold rMj at hm; unfold rTx9; omega) (fun i i0 => by rw [fUp_n (by omega), fUp_n (by omega)]) hY hM ⟨z3, z4, z6, z7, z8, rCw_t hY z6 z11 z12 (fun x hj hm => by unfold rMj at hm; omega)⟩
    · refine aO_X (c := 99) h (cA_X (ml := [w + 2, w + 3]) h (by rcases hw with ⟨rfl, rfl⟩ | ⟨rfl, rfl⟩ <;> decide) (fun Y y hY ha hd9 he => ?_)) (rA_3 h he3 (fun Y sl hY ha hW hd9 => ?_))
      · have u := cR_u hY
        have h29 := h21 Y hY
        rw [he3, hgk] at hd9
        rcases hw with ⟨rfl, rfl⟩ | ⟨rfl, rfl⟩
        · exact wJ_mono (atb_215 (d := d + 83) hx1 hd9 rfl (gvc Y hY) (by omega) hkd (by omega) (by have := hct.2.2.1; omega) (by have := hct.2.2.2.1; omega)) (fun o V hz => ⟨hz.1, by rcases hz.2 with z | z | z; exact absurd hc z.1; exact z.2.2; (have := z.2.1; omega)⟩)
        · exact wJ_mono (atb_226 (d := d + 83) hx1 hd9 rfl (gvc Y hY) (by omega) hkd (by omega) (by have := hct.2.2.1; omega) (by have := hct.2.2.2.1; omega)) (fun o V hz => ⟨hz.1, by rcases hz.2 with z | z | z; exact absurd hc z.1; exact z.2.2; (have := z.2.1; omega)⟩)
      · have u := rR_u hY
        rw [he3, hgk] at hd9
        refine wJ_mono (rtbT (d := d + 81) (s := s) hd9 rfl (gvr Y hY) hY.1.2.2.2.1.2.2.1 hY.1.2.2.2.1.2.2.2 (by have := hct.2.2.1; omega) (by have := hct.2.2.2.1; omega) (by omega) hkd (by omega) hkG.1.1 hkH.1.1) (fun o Z hz hM => ?_)
        rcases hz with z | z | z
        · exact absurd hc z.1
        · exact rQ_X h hY (by first | decide | omega) z.2.2
        · have := z.2.1
          omega
  · refine aO_X (c := 6) h (cA_X (ml := [w + 2, w + 3]) h (by rcases hw with ⟨rfl, rfl⟩ | ⟨rfl, rfl⟩ <;> decide) (fun Y y hY ha hd9 he => ?_)) (rA_3 h he3 (fun Y sl hY ha hW hd9 => ?_))
    · have u := cR_u hY
      have h29 := h21 Y hY
      rw [he3, hgk] at hd9
      rcases hw with ⟨rfl, rfl⟩ | ⟨rfl, rfl⟩
      · exact wJ_mono (atb_215 (d := d + 83) hx1 hd9 rfl (gvc Y hY) (by omega) hkd (by omega) (by have := hct.2.2.1; omega) (by have := hct.2.2.2.1; omega)) (fun o V hz => ⟨hz.1, by rcases hz.2 with z | z | z; exact z.2; exact absurd z.1 hc; exact absurd z.1 hc⟩)
      · exact wJ_mono (atb_226 (d := d + 83) hx1 hd9 rfl (gvc Y hY) (by omega) hkd (by omega) (by have := hct.2.2.1; omega) (by have := hct.2.2.2.1; omega)) (fun o V hz => ⟨hz.1, by rcases hz.2 with z | z | z; exact z.2; exact absurd z.1 hc; exact absurd z.1 hc⟩)
    · have u := rR_u hY
      rw [he3, hgk] at hd9
      refine wJ_mono (rtbT (d := d + 81) (s := s) hd9 rfl (gvr Y hY) hY.1.2.2.2.1.2.2.1 hY.1.2.2.2.1.2.2.2 (by have := hct.2.2.1; omega) (by have := hct.2.2.2.1; omega) (by omega) hkd (by omega) hkG.1.1 hkH.1.1) (fun o Z hz hM => ?_)
      rcases hz with z | z | z
      · exact rQ_X h hY (by first | decide | omega) z.2
      · exact absurd z.1 hc
      · exact absurd z.1 hc

end Wlj
