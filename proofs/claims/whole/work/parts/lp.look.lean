/-! PART lp: looking at things, on both sides. -/
section Wlp
variable {Sb : wS} {xs : List (Nat × List Int32)} {d : Nat} {S0 S Z : wS} {p w m : Nat} {HT : Int → Int} {cs : List hCR} {ms : List hMR} {os : Int → List Int} {X : List (List Int)} {mo t n B B2 oq : Int} {fa : Int → Int} {WE : aA → Prop} {A A2 : aA} {K2 : aK} {ml : List Nat} {k c s kd nms ne ec bh nm en : Int} {b ba : Nat} {ar : List aV} {e : aE} {V Z2 Y : wS} {o : wO} {dn : Int} {H2 : List aH} {N2 : List (List Int)} {E2 : Int → List aE} {C2 : List aQ} {W2 : Int} {c2 : Int → Int} {k2 : Int → Int → Int} {mk rk : Nat → Int → Prop} {K : aK} {T : List aO} {H : List aH} {E : Int → List aE} {gk gb es lo hi a : Int} {r : List aE × Int × Option aE} {A1 : aA} {tl cl : List Int} {sl : Nat → List Int} {L : List aC} {G : Int → aV} {u : aV} {x : List Int} {T2 : List aO} {L2 : List aC} {G2 : Int → aV} {H2 : List aH} {c2 : Int → Int} {y : Int} {Q : wO → wS → Prop} {ps : List (Int × aV)} {k hd wh : Int} {f a9 pn fn md : Int} {vn m9 : Nat} {th : aV} {g : Int} {lp : List aV} {l ds fo g : Int} {mk : Nat → Int → Prop} {C2 : List aQ} {W2 : Int} {RZ : wS → Prop} {N3 : Nat} {SB : wS}
theorem lx_f (j : Nat) (x : Int) (h : ¬ (j = 237 ∧ (x = 166 ∨ (169 ≤ x ∧ x ≤ 172)))) (h2 : ¬ (j = 344 ∧ x = l)) : lkX l 1 Y j x = Y j x := by
  unfold lkX
  rw [if_neg (by first | decide | omega), w_up_no (by omega), w_up_no (by omega), w_up_no (by omega), w_up_no (by omega), w_up_no (by omega), w_up_no (by omega)]
theorem lx_v : lkX l 1 Y 237 169 = -1 ∧ lkX l 1 Y 237 170 = -1 ∧ lkX l 1 Y 237 171 = -1 ∧ lkX l 1 Y 237 172 = 0 ∧ lkX l 1 Y 237 166 = l ∧ lkX l 1 Y 344 l = Y 344 l + 1 := by
  unfold lkX
  rw [if_neg (by first | decide | omega)]
  refine ⟨?_, ?_, ?_, ?_, ?_, w_up_same _ _ _ _⟩
  · rw [w_up_no (by omega), w_up_no (by omega), w_up_no (by omega), w_up_no (by omega), w_up_no (by omega)]
    exact w_up_same _ _ _ _
  · rw [w_up_no (by omega), w_up_no (by omega), w_up_no (by omega), w_up_no (by omega)]
    exact w_up_same _ _ _ _
  · rw [w_up_no (by omega), w_up_no (by omega), w_up_no (by omega)]
    exact w_up_same _ _ _ _
  · rw [w_up_no (by omega), w_up_no (by omega)]
    exact w_up_same _ _ _ _
  · rw [w_up_no (by omega)]
    exact w_up_same _ _ _ _
/-- the reference was asked: its counters, perhaps a shape -/
theorem rq_V (ht : t = 0 ∨ t = 1) (hl9 : kLn (a_K A 0) ∧ kLn (a_K A 1)) (hY : rRun S0 Sb HT cs ms os X mo t A Y) (hl : 0 ≤ l ∧ l ≤ 3) (hM : w_ML V) (f : ∀ (j : Nat) (x : Int), ¬ (j = 344 ∧ x = l) → (j < 329 ∨ 332 < j) → ¬ (j = 237 ∧ (x = 66 ∨ x = 87)) → V j x = Y j x) (hH : rHs V H2) (hW : ∃ sl : Nat → List Int, rWd V sl (a_T A) (a_L A) (a_G A)) (h66 : V 237 66 = a_c A 4 + ds) (h344 : V 344 l = Y 344 l + 1) : rRun S0 Sb HT cs ms os X mo t (u_Q A H2 (a_C A) (a_W A) l ds) V := by
  have hF : rTm t (fun j x => (j = 344 ∧ x = l) ∨ (329 ≤ j ∧ j ≤ 332) ∨ (j = 237 ∧ (x = 66 ∨ x = 87))) Y V := fun j x _ hm => f j x (fun z => hm (Or.inl z)) (by have : ¬ (329 ≤ j ∧ j ≤ 332) := fun z => hm (Or.inr (Or.inl z)); omega) (fun z => hm (Or.inr (Or.inr z)))
  have g : ∀ (j : Nat) (x : Int), j ≠ 344 → (j < 329 ∨ 332 < j) → (j ≠ 237 ∨ (x ≠ 66 ∧ x ≠ 87)) → V j x = Y j x := fun j x h1 h2 h3 => f j x (by omega) h2 (by omega)
  refine rRel_L hY ht hl9 hF (fun j x hm => by unfold rLk; omega) hM (rTk_e (rT_of hY.1 ht) (fun j x hj => g j x (by omega) (by omega) (by omega))) hW hH (rR_N hY.1 hF (fun j x hj hm => by omega)) (rR_E hY.1 hF (fun j x hj hm => by omega)) (rCh_ag hY.1.2.2.2.2.2.2.1.1 (fun j x hj => g j x (by unfold chM at hj; omega) (by unfold chM at hj; omega) (by unfold chM at hj; omega))) ?_
  obtain ⟨c1, c2, c3, c4, c5, c6⟩ := hY.1.2.2.2.2.2.2.2.1
  refine ⟨fun i hi => ?_, ?_, ?_, fun i hi => ?_, fun q q0 q1 => ?_, ?_⟩
  · show V 237 (62 + (i : Int)) = (fUp (fUp (a_c A) (20 + l) (a_c A (20 + l) + 1)) 4 (a_c A 4 + ds)) (i : Int)
    by_cases e : (i : Int) = 4
    · rw [e, cq_4]
      exact h66
    · rw [cq_n e (by omega), g 237 _ (by omega) (by omega) (by omega)]
      exact c1 i hi
  · show V 237 81 = (fUp (fUp (a_c A) (20 + l) (a_c A (20 + l) + 1)) 4 (a_c A 4 + ds)) 11
    rw [cq_n (by first | decide | omega) (by omega), g 237 81 (by omega) (by omega) (by omega)]
    exact c2
  · show V 237 108 = (fUp (fUp (a_c A) (20 + l) (a_c A (20 + l) + 1)) 4 (a_c A 4 + ds)) 19
    rw [cq_n (by first | decide | omega) (by omega), g 237 108 (by omega) (by omega) (by omega)]
    exact c3
  · show V 344 (i : Int) = (fUp (fUp (a_c A) (20 + l) (a_c A (20 + l) + 1)) 4 (a_c A 4 + ds)) (20 + (i : Int))
    by_cases e : (i : Int) = l
    · rw [e, cq_l hl.1, h344]
      have z := c4 i hi
      rw [e] at z
      omega
    · rw [cq_n (by omega) (by omega), f 344 i (by omega) (by omega) (by omega)]
      exact c4 i hi
  · rw [g 237 47 (by omega) (by omega) (by omega)] at q1
    rw [g 310 q (by omega) (by omega) (by omega), g 311 q (by omega) (by omega) (by omega), g 312 q (by omega) (by omega) (by omega), g 313 q (by omega) (by omega) (by omega)]
    exact c5 q q0 q1
  · rw [g 237 82 (by omega) (by omega) (by omega), g 237 94 (by omega) (by omega) (by omega), g 237 63 (by omega) (by omega) (by omega)]
    exact c6
/-- the reference was asked, and nothing but its counter changed -/
theorem rq_R (ht : t = 0 ∨ t = 1) (hl9 : kLn (a_K A 0) ∧ kLn (a_K A 1)) (hY : rRun S0 Sb HT cs ms os X mo t A Y) (hl : 0 ≤ l ∧ l ≤ 3) : rRun S0 Sb HT cs ms os X mo t (u_Q A (a_H A) (a_C A) (a_W A) l 0) (lkX l 1 Y) ∧ w_ML (lkX l 1 Y) := by
  have hV : w_ML (w_up Y 344 l (Y 344 l + 1)) := w_ML_up hY.1.1 (by omega)
  have f : ∀ (j : Nat) (x : Int), ¬ (j = 344 ∧ x = l) → w_up Y 344 l (Y 344 l + 1) j x = Y j x := fun j x h => w_up_no h
  have hF : rTm t (fun j x => j = 344 ∧ x = l) Y (w_up Y 344 l (Y 344 l + 1)) := fun j x _ hm => f j x hm
  have r1 := rq_V (ds := 0) (H2 := a_H A) ht hl9 hY hl hV (fun j x h1 _ _ => f j x h1) (rR_H hY.1 hF (fun j x hj hm => by omega)) (rR_W hY.1 hF (tf_tx hF (fun j x hj hm => by omega)) (fun j x hj hm => by unfold rWo at hj; omega)) (by rw [f 237 66 (by omega)]; have z : Y 237 66 = a_c A 4 := hY.1.2.2.2.2.2.2.2.1.1 4 (by first | decide | omega); rw [z]; omega) (w_up_same _ _ _ _)
  have hM : w_ML (lkX l 1 Y) := by
    unfold lkX
    rw [if_neg (by first | decide | omega)]
    exact w_ML_up (w_ML_up (w_ML_up (w_ML_up (w_ML_up (w_ML_up hY.1.1 (by first | decide | omega)) (by first | decide | omega)) (by first | decide | omega)) (by first | decide | omega)) (by first | decide | omega)) (by first | decide | omega)
  refine ⟨rRun_s r1 ht hl9 (fun j x h1 h2 h3 h4 h5 => ?_) hM, hM⟩
  by_cases e : j = 344 ∧ x = l
  · rw [e.1, e.2, lx_v.2.2.2.2.2]
    exact (w_up_same _ _ _ _).symm
  · rw [lx_f j x (by omega) e]
    exact (f j x e).symm
/-- the same state with other tables of sites -/
theorem hy_2 {A3 : aA} (h : hyA S0 p HT cs ms os X fa n B2 w t A s kd nms ne ec bh ba ar) (hw2 : wfA S0 fa ms n (WEs S0 HT cs ms os) B2 A3) (hK : a_K A3 t = a_K A t) (hc : a_c A3 11 = a_c A 11) : hyA S0 p HT cs ms os X fa n B2 w t A3 s kd nms ne ec bh ba ar := by
  refine ⟨h.1, hw2, ?_, ?_, ?_, h.2.2.2.2.2⟩
  · rw [hc]
    exact h.2.2.1
  · rw [hK]
    exact h.2.2.2.1
  · rw [hK]
    exact h.2.2.2.2.1
theorem eOk_2 {A3 : aA} (h : eOk S0 HT cs ms os A s e) (hT : a_T A3 = a_T A) (hH : a_H A3 = a_H A) (hN : a_N A3 = a_N A) (hc : a_c A3 11 = a_c A 11) : eOk S0 HT cs ms os A3 s e := by
  unfold eOk
  rw [hT, hH, hN, hc]
  exact h
theorem gO (h : hyA S0 p HT cs ms os X fa n B2 w t A s kd nms ne ec bh ba ar) (hgk : ((a_K A t).1.getD ba (0, 0, [])).1 = 4 ∨ ((a_K A t).1.getD ba (0, 0, [])).1 = 5) : isO (a_T A) ((a_K A t).1.getD ba (0, 0, [])).2.1 ∧ (tO (a_T A) ((a_K A t).1.getD ba (0, 0, [])).2.1).1 = ((a_K A t).1.getD ba (0, 0, [])).1 ∧ (0 ≤ (tO (a_T A) ((a_K A t).1.getD ba (0, 0, [])).2.1).2.1 ∧ (tO (a_T A) ((a_K A t).1.getD ba (0, 0, [])).2.1).2.1 < ((a_H A).length : Int)) := by
  obtain ⟨v1, v2, v3⟩ := (gv_G h).1
  have z := v2 (by omega) (by omega)
  have zo : isO (a_T A) ((a_K A t).1.getD ba (0, 0, [])).2.1 := ⟨z.1, by have := z.2; omega⟩
  exact ⟨zo, z.2, (h.2.1.2.1.2.2.1 ((a_K A t).1.getD ba (0, 0, [])).2.1.toNat (by have := zo.1; omega)).2.1 zo.2⟩
/-- all of acting on things -/
theorem ao_0 (h : hyA S0 p HT cs ms os X fa n B2 w t A s kd nms ne ec bh ba ar) (hx1 : pe_at (pe_GA xs).xs 1 = some (1, tx_1)) (h97 : pe_at (pe_GA xs).xs 97 = some (3, tx_97)) (hq9 : stQ S0) (hP : aP0 (a_T A) (a_H A) ((a_N A).length : Int) kd nm ((a_K A t).1.getD ba (0, 0, [])).1 ((a_K A t).1.getD ba (0, 0, [])).2.1 e) (hnm : (kd = 1 ∨ kd = 3) → nm = if kd = 1 then nms else en) : aOut xs d S0 p HT cs ms os X mo fa n B2 w t A s kd nms ec bh ba nm en es e := by
  have k6 := h.2.2.2.2.1.2.1.1.1
  by_cases k0 : kd = 0 ∨ kd = 2
  · exact ao_get h hP k0
  by_cases k1 : kd = 1 ∨ kd = 3
  · by_cases hi : e.2.2.2.2.1 = -1
    · exact ao_sen h hx1 hP k1 (hnm k1) hi
    · exact ao_set h hP k1 (hnm k1) hi
  by_cases k4 : kd = 4
  · exact ao_cal h hx1 hq9 hP k4
  by_cases k5 : kd = 5
  · have hz := hP
    obtain ⟨⟨p1, p2, p3, p4⟩, p5, -, -⟩ := hz
    obtain ⟨⟨q1, q2, q3⟩, q4⟩ := p5 (by omega)
    obtain ⟨hd, h1, h2, h3⟩ := rd_h h.2.1.2.1 p3 q2 q1
    by_cases h5 : (gvA (a_T A) hd e.2.2.2.2.1).1 = 5
    · exact ao_mef h hx1 hq9 hP k5 h1 h2 h3 h5
    · exact ao_men h hP k5 h1 h2 h3 h5
  exact ao_new h hx1 h97 hq9 hP (by omega)
/-- where a look begins, in the class -/
theorem cB_0 (h : hyA S0 p HT cs ms os X fa n B2 w t A s kd nms ne ec bh ba ar) (hY : cRel S0 p HT cs ms os X mo A Y) (ha : cAim w s kd ec ba ((a_K A t).1.getD ba (0, 0, [])).1 nm es Y) (hg : ((a_K A t).1.getD ba (0, 0, [])).1 ≠ 3) : (w_CL (bkZ (Y 158 14) 0 (w_up Y 160 0 (Y 160 0 + 1))) ∧ gI (bkZ (Y 158 14) 0 (w_up Y 160 0 (Y 160 0 + 1))) ∧ cSl (bkZ (Y 158 14) 0 (w_up Y 160 0 (Y 160 0 + 1))) ∧ cWd (bkZ (Y 158 14) 0 (w_up Y 160 0 (Y 160 0 + 1))) (a_T A) (a_L A) (a_G A) ∧ cSw (bkZ (Y 158 14) 0 (w_up Y 160 0 (Y 160 0 + 1))) (a_T A) (a_H A)) ∧ ((bkZ (Y 158 14) 0 (w_up Y 160 0 (Y 160 0 + 1))) 158 4 = (w : Int) ∧ (bkZ (Y 158 14) 0 (w_up Y 160 0 (Y 160 0 + 1))) 158 7 = kd ∧ (bkZ (Y 158 14) 0 (w_up Y 160 0 (Y 160 0 + 1))) 158 9 = ((a_K A t).1.getD ba (0, 0, [])).1 ∧ (bkZ (Y 158 14) 0 (w_up Y 160 0 (Y 160 0 + 1))) 158 10 = ((a_K A t).1.getD ba (0, 0, [])).2.1 ∧ (bkZ (Y 158 14) 0 (w_up Y 160 0 (Y 160 0 + 1))) 158 11 = nm ∧ (bkZ (Y 158 14) 0 (w_up Y 160 0 (Y 160 0 + 1))) 158 13 = es ∧ (bkZ (Y 158 14) 0 (w_up Y 160 0 (Y 160 0 + 1))) 158 14 = Y 158 14) ∧ (0 ≤ Y 158 14 ∧ Y 158 14 < (bkZ (Y 158 14) 0 (w_up Y 160 0 (Y 160 0 + 1))) 48 (-1)) ∧ (bkZ (Y 158 14) 0 (w_up Y 160 0 (Y 160 0 + 1))) 72 11 = a_c A 11 ∧ (bkZ (Y 158 14) 0 (w_up Y 160 0 (Y 160 0 + 1))) 150 4 = a_c A 4 ∧ (bkZ (Y 158 14) 0 (w_up Y 160 0 (Y 160 0 + 1))) w 16 = 0 := by
  obtain ⟨⟨v4, v5, v6, v7, v8, v9, v10, v11, v12, v13⟩, v16⟩ := id ha
  obtain ⟨⟨hp, hw, hx⟩, hA, hB, ⟨hr, ho⟩, hsi, hme⟩ := id h
  have ww := isWt_w hw
  obtain ⟨ix, fl, ow, hE⟩ := hY.2.2.2.2.1
  obtain ⟨c1, ⟨c2, c3⟩, c4, c5, c6⟩ := hY.2.2.2.2.2.2.2.1
  have hfo : 0 ≤ Y 158 14 ∧ Y 158 14 < Y 48 (-1) := by
    have z1 := hE.2.2.2.1
    have z2 := hE.1.2.2.2
    omega
  obtain ⟨r1, r2, r3⟩ := lk_pl (Z := (bkZ (Y 158 14) 0 (w_up Y 160 0 (Y 160 0 + 1)))) (l := 0) hp hw hY (by first | decide | omega) hfo.1 (fun _ _ _ _ => rfl)
  obtain ⟨ix2, fl2, ow2, hE2⟩ := r3.2.2.2.2.1
  have g : ∀ (j : Nat) (x : Int), (j < 48 ∨ 57 < j) → j ≠ 160 → (bkZ (Y 158 14) 0 (w_up Y 160 0 (Y 160 0 + 1))) j x = Y j x := fun j x h1 h2 => bk_f j x h1 (by omega)
  refine ⟨⟨r2, r3.1.2.1, hE2.1, r3.2.2.1.1, r3.2.2.1.2.1⟩, ⟨(g 158 4 (by omega) (by omega)).trans v4, (g 158 7 (by omega) (by omega)).trans v7, (g 158 9 (by omega) (by omega)).trans v9, (g 158 10 (by omega) (by omega)).trans (v10.trans (gb_c h hY hg)), (g 158 11 (by omega) (by omega)).trans v11, (g 158 13 (by omega) (by omega)).trans v13, g 158 14 (by omega) (by omega)⟩, ⟨hfo.1, ?_⟩, (g 72 11 (by omega) (by omega)).trans c2, (g 150 4 (by omega) (by omega)).trans (c1 4 (by first | decide | omega)), (g w 16 (by omega) (by omega)).trans v16⟩
  rw [bk_m hfo.1 (by first | decide | omega)]
  exact hfo.2
/-- the reference's aim stays -/
theorem rA_k (ha : rAim t K ba bh en Y) (f : ∀ (j : Nat) (x : Int), (j = 237 ∧ ((154 ≤ x ∧ x ≤ 155) ∨ (173 ≤ x ∧ x ≤ 177))) ∨ j = 364 → Z j x = Y j x) : rAim t K ba bh en Z := by
  obtain ⟨⟨a1, a2⟩, a3, a4, a5, a6, a7⟩ := ha
  exact ⟨⟨(f _ _ (by omega)).trans a1, (f _ _ (by omega)).trans a2⟩, (f _ _ (by omega)).trans a3, (f _ _ (by omega)).trans a4, by rw [f 237 175 (by omega), f 364 _ (by omega)]; exact a5, (f _ _ (by omega)).trans a6, (f _ _ (by omega)).trans a7⟩
/-- where a look begins, in the reference -/
theorem rB_0 (h : hyA S0 p HT cs ms os X fa n B2 w t A s kd nms ne ec bh ba ar) (hY : rRun S0 Sb HT cs ms os X mo t A Y) (ha : rAim t (a_K A t) ba bh en Y) (hg : ((a_K A t).1.getD ba (0, 0, [])).1 ≠ 3) : (rRun S0 Sb HT cs ms os X mo t (u_Q A (a_H A) (a_C A) (a_W A) 0 0) (lkX 0 1 Y) ∧ w_ML (lkX 0 1 Y) ∧ (∃ sl : Nat → List Int, rWd (lkX 0 1 Y) sl (a_T A) (a_L A) (a_G A)) ∧ rHs (lkX 0 1 Y) (a_H A)) ∧ (lkX 0 1 Y 237 82 ≤ 60000 ∧ lkX 0 1 Y 237 174 = ((a_K A t).1.getD ba (0, 0, [])).1 ∧ lkX 0 1 Y 237 175 = ((a_K A t).1.getD ba (0, 0, [])).2.1 ∧ lkX 0 1 Y 237 177 = en) ∧ (0 ≤ s ∧ s < 4000) ∧ lkX 0 1 Y 305 s = nms ∧ rAim t (a_K A t) ba bh en (lkX 0 1 Y) ∧ lkX 0 1 Y 237 81 = a_c A 11 ∧ lkX 0 1 Y 237 66 = a_c A 4 := by
  have hl9 := hl_A h
  obtain ⟨⟨hp, hw, hx⟩, hA, hB, ⟨hr, ho⟩, hsi, hme⟩ := id h
  have ht := wt_t hw
  obtain ⟨q1, q2⟩ := rq_R (l := 0) ht hl9 hY (by first | decide | omega)
  have h8 := h82_r h hY
  obtain ⟨k0, k4, k5, k6⟩ := s_4 h hY
  have g : ∀ (j : Nat) (x : Int), (j ≠ 237 ∨ (x < 166 ∨ 172 < x)) → j ≠ 344 → lkX 0 1 Y j x = Y j x := fun j x h1 h2 => lx_f j x (by omega) (by omega)
  obtain ⟨c1, c2, c3, c4, c5, c6⟩ := hY.1.2.2.2.2.2.2.2.1
  refine ⟨⟨q1, q2, q1.1.2.2.1.1, q1.1.2.2.1.2⟩, ⟨?_, ?_, ?_, ?_⟩, k0, (g 305 s (by omega) (by omega)).trans k5, rA_k ha (fun j x hj => g j x (by omega) (by omega)), (g 237 81 (by omega) (by omega)).trans c2, (g 237 66 (by omega) (by omega)).trans (c1 4 (by first | decide | omega))⟩
  · rw [g 237 82 (by omega) (by omega)]
    omega
  · exact (g 237 174 (by omega) (by omega)).trans ha.2.2.1
  · exact (g 237 175 (by omega) (by omega)).trans (ha.2.2.2.1.trans (gb_r h hY hg))
  · exact (g 237 177 (by omega) (by omega)).trans ha.2.2.2.2.2
theorem ak_0 (h : hyA S0 p HT cs ms os X fa n B2 w t A s kd nms ne ec bh ba ar) (hY : rRun S0 Sb HT cs ms os X mo t A Y) (hl : 0 ≤ l ∧ l ≤ 3) : 0 ≤ Y 344 l ∧ Y 344 l ≤ 1000000 := by
  have z := h.2.1.2.2.2.2.1.2.2.2.2.2.1.2.2 (20 + l) (by omega) (by omega)
  have c4 := hY.1.2.2.2.2.2.2.2.1.2.2.2.1 l.toNat (by omega)
  have e : ((l.toNat : Nat) : Int) = l := by omega
  rw [e] at c4
  have := h.2.2.1.2
  omega

theorem ckg_215 (h : hyA S0 p HT cs ms os X fa n B2 215 0 A s kd nms ne ec bh ba ar) (hL9 : stL S0) (hkd : kd = 0 ∨ kd = 2 ∨ kd = 5) (hgk : ((a_K A 0).1.getD ba (0, 0, [])).1 = 4 ∨ ((a_K A 0).1.getD ba (0, 0, [])).1 = 5) (hnm : 0 ≤ nm ∧ nm ≤ 100000) (hne : nmE kd nms nm) (hact : cAct xs d S0 p HT cs ms os X mo 215 (u_N (u_Q A (a_H A) (a_C A) (a_W A) 0 0) s (gtE (a_T A) (a_H A) kd nm ((a_K A 0).1.getD ba (0, 0, [])).2.1 (a_c A 11))) s kd nms ec ba ((a_K A 0).1.getD ba (0, 0, [])).1 nm es (gtE (a_T A) (a_H A) kd nm ((a_K A 0).1.getD ba (0, 0, [])).2.1 (a_c A 11)) c A2) : cLook xs d S0 p HT cs ms os X mo 215 A s kd ec ba ((a_K A 0).1.getD ba (0, 0, [])).1 nm es c A2 := fun Y hY ha => by
  have hT8 := hA_T h
  obtain ⟨go1, go2, go3⟩ := gO h hgk
  obtain ⟨⟨b1, b2, b3, b4, b5⟩, ⟨l4, l7, l9, l10, l11, l13, l14⟩, hfo, b11, b15, b16⟩ := cB_0 h hY ha (by omega)
  obtain ⟨⟨hp, hw, hx⟩, hA, hB, ⟨hr, ho⟩, hsi, hme⟩ := id h
  have h11 := hA.2.2.2.2.1.2.2.2.2.2.1.1
  refine cLk0_215 (mk := fun _ _ => False) (RZ := fun Z => cEc Z kd nms (gtE (a_T A) (a_H A) kd nm ((a_K A 0).1.getD ba (0, 0, [])).2.1 (a_c A 11)) (Y 158 14) ∧ ∀ (j : Nat) (x : Int), ¬ (48 ≤ j ∧ j ≤ 56 ∧ x = Y 158 14) → Z j x = (bkZ (Y 158 14) 0 (w_up Y 160 0 (Y 160 0 + 1))) j x) (A1 := (u_Q A (a_H A) (a_C A) (a_W A) 0 0)) (e := (gtE (a_T A) (a_H A) kd nm ((a_K A 0).1.getD ba (0, 0, [])).2.1 (a_c A 11))) h hL9 hgk ⟨go1.1.1, by have := go1.1.2; omega⟩ (fun _ _ z => z.elim) hY ha (latg_215 (d := d + 88) (L := a_L A) (G := a_G A) b1 b3 b4 l4 l7 l9 l10 l11 l13 l14 hfo hT8 go1 b5 hA.2.1 hnm hne b11 (by omega) bkZ_b hkd) (fun Z hz => ?_) rfl rfl (fun _ => hact)
  obtain ⟨r1, r2, r3⟩ := lk_pl (l := 0) hp hw hY (by first | decide | omega) hfo.1 (fun j x a1 _ => hz.2 j x a1)
  exact ⟨r1, r2, Or.inl ⟨(hz.2 215 16 (by omega)).trans b16, hz.1, r3⟩⟩

theorem ckg_226 (h : hyA S0 p HT cs ms os X fa n B2 226 1 A s kd nms ne ec bh ba ar) (hL9 : stL S0) (hkd : kd = 0 ∨ kd = 2 ∨ kd = 5) (hgk : ((a_K A 1).1.getD ba (0, 0, [])).1 = 4 ∨ ((a_K A 1).1.getD ba (0, 0, [])).1 = 5) (hnm : 0 ≤ nm ∧ nm ≤ 100000) (hne : nmE kd nms nm) (hact : cAct xs d S0 p HT cs ms os X mo 226 (u_N (u_Q A (a_H A) (a_C A) (a_W A) 0 0) s (gtE (a_T A) (a_H A) kd nm ((a_K A 1).1.getD ba (0, 0, [])).2.1 (a_c A 11))) s kd nms ec ba ((a_K A 1).1.getD ba (0, 0, [])).1 nm es (gtE (a_T A) (a_H A) kd nm ((a_K A 1).1.getD ba (0, 0, [])).2.1 (a_c A 11)) c A2) : cLook xs d S0 p HT cs ms os X mo 226 A s kd ec ba ((a_K A 1).1.getD ba (0, 0, [])).1 nm es c A2 := fun Y hY ha => by
  have hT8 := hA_T h
  obtain ⟨go1, go2, go3⟩ := gO h hgk
  obtain ⟨⟨b1, b2, b3, b4, b5⟩, ⟨l4, l7, l9, l10, l11, l13, l14⟩, hfo, b11, b15, b16⟩ := cB_0 h hY ha (by omega)
  obtain ⟨⟨hp, hw, hx⟩, hA, hB, ⟨hr, ho⟩, hsi, hme⟩ := id h
  have h11 := hA.2.2.2.2.1.2.2.2.2.2.1.1
  refine cLk0_226 (mk := fun _ _ => False) (RZ := fun Z => cEc Z kd nms (gtE (a_T A) (a_H A) kd nm ((a_K A 1).1.getD ba (0, 0, [])).2.1 (a_c A 11)) (Y 158 14) ∧ ∀ (j : Nat) (x : Int), ¬ (48 ≤ j ∧ j ≤ 56 ∧ x = Y 158 14) → Z j x = (bkZ (Y 158 14) 0 (w_up Y 160 0 (Y 160 0 + 1))) j x) (A1 := (u_Q A (a_H A) (a_C A) (a_W A) 0 0)) (e := (gtE (a_T A) (a_H A) kd nm ((a_K A 1).1.getD ba (0, 0, [])).2.1 (a_c A 11))) h hL9 hgk ⟨go1.1.1, by have := go1.1.2; omega⟩ (fun _ _ z => z.elim) hY ha (latg_226 (d := d + 88) (L := a_L A) (G := a_G A) b1 b3 b4 l4 l7 l9 l10 l11 l13 l14 hfo hT8 go1 b5 hA.2.1 hnm hne b11 (by omega) bkZ_b hkd) (fun Z hz => ?_) rfl rfl (fun _ => hact)
  obtain ⟨r1, r2, r3⟩ := lk_pl (l := 0) hp hw hY (by first | decide | omega) hfo.1 (fun j x a1 _ => hz.2 j x a1)
  exact ⟨r1, r2, Or.inl ⟨(hz.2 226 16 (by omega)).trans b16, hz.1, r3⟩⟩

theorem rkg (h : hyA S0 p HT cs ms os X fa n B2 w t A s kd nms ne ec bh ba ar) (hkd : kd = 0 ∨ kd = 2 ∨ kd = 5) (hgk : ((a_K A t).1.getD ba (0, 0, [])).1 = 4 ∨ ((a_K A t).1.getD ba (0, 0, [])).1 = 5) (hnm : 0 ≤ nm ∧ nm ≤ 100000) (hne : nm = if kd = 2 ∨ kd = 3 then en else nms) (hen : en = enE kd nm) : ∀ {Sb : wS} (Y : wS), rRun S0 Sb HT cs ms os X mo t A Y → rAim t (a_K A t) ba bh en Y → wJ (pe_GA xs) wY0 (fun _ => False) (d + 90) t_M_looks ((pe_at t_M_looks.bl 0).getD (0, [])).2 [(0, (2, 237)), (1, (0, s)), (2, (0, 1))] [] Y (fun o Z => o = .inl none ∧ w_ML Z ∧ rRun S0 Sb HT cs ms os X mo t (u_Q A (a_H A) (a_C A) (a_W A) 0 0) Z ∧ rAim t (a_K A t) ba bh en Z ∧ (Z 237 166 = ((gtE (a_T A) (a_H A) kd nm ((a_K A t).1.getD ba (0, 0, [])).2.1 (a_c A 11)) : aE).1 ∧ Z 237 167 = ((gtE (a_T A) (a_H A) kd nm ((a_K A t).1.getD ba (0, 0, [])).2.1 (a_c A 11)) : aE).2.1 ∧ Z 237 177 = ((gtE (a_T A) (a_H A) kd nm ((a_K A t).1.getD ba (0, 0, [])).2.1 (a_c A 11)) : aE).2.2.1 ∧ Z 237 169 = ((gtE (a_T A) (a_H A) kd nm ((a_K A t).1.getD ba (0, 0, [])).2.1 (a_c A 11)) : aE).2.2.2.1 ∧ Z 237 170 = ((gtE (a_T A) (a_H A) kd nm ((a_K A t).1.getD ba (0, 0, [])).2.1 (a_c A 11)) : aE).2.2.2.2.1 ∧ Z 237 171 = ((gtE (a_T A) (a_H A) kd nm ((a_K A t).1.getD ba (0, 0, [])).2.1 (a_c A 11)) : aE).2.2.2.2.2.1 ∧ Z 237 81 = ((gtE (a_T A) (a_H A) kd nm ((a_K A t).1.getD ba (0, 0, [])).2.1 (a_c A 11)) : aE).2.2.2.2.2.2.1) ∧ Z 237 172 = ((0 : Nat) : Int)) := fun Y hY ha => by
  have hT8 := hA_T h
  have hl9 := hl_A h
  obtain ⟨go1, go2, go3⟩ := gO h hgk
  obtain ⟨⟨b1, b2, ⟨sl, b3⟩, b4⟩, ⟨b5, b6, b7, b8⟩, b9, b10, b11, b12, b13⟩ := rB_0 h hY ha (by omega)
  obtain ⟨y1, y2, y3, y4, y5, y6⟩ := lx_v (Y := Y) (l := 0)
  obtain ⟨k0, k4, k5, k6⟩ := s_4 h hY
  obtain ⟨⟨hp, hw, hx⟩, hA, hB, ⟨hr, ho⟩, hsi, hme⟩ := id h
  have ht := wt_t hw
  refine rlk0 (d := d + 82) hY.1.1 k0 k4 ha.2.2.1 hgk (Or.inr rfl) (ak_0 h hY (by first | decide | omega)) (wJ_mono (rlg_ok (d := d + 87) b2 b3.1 b4 hA.2.1 hT8 b5 b6 b7 b8 y1 y2 y3 b9 b10 hne go1 hkd hnm) (fun o Z hz => ?_)) (fun o Z hz => Or.inl hz.1)
  obtain ⟨z0, ⟨z1, z2, z3, z4⟩, z5, z6⟩ := hz
  have g : ∀ (j : Nat) (x : Int), (j ≠ 237 ∨ (x < 167 ∨ 171 < x)) → Z j x = lkX 0 1 Y j x := fun j x hj => z5 j x (by omega)
  refine ⟨z0, z6, rRun_s (A := (u_Q A (a_H A) (a_C A) (a_W A) 0 0)) b1 ht hl9 (fun j x h1 _ _ _ _ => g j x (by omega)) z6, rA_k b11 (fun j x hj => g j x (by omega)), ⟨?_, z1, ?_, z2, z3, z4, ?_⟩, ?_⟩
  · exact (z5 237 166 (by omega)).trans y5
  · exact (g 237 177 (by omega)).trans (b8.trans hen)
  · exact (g 237 81 (by omega)).trans b12
  · exact (g 237 172 (by omega)).trans y4
/-- what holds of an entry that was read -/
theorem sKn_of (h : hyA S0 p HT cs ms os X fa n B2 w t A s kd nms ne ec bh ba ar) : sKn S0 s := by
  obtain ⟨⟨hp, hw, hx⟩, hA, hB, ⟨hr, ho⟩, hsi, hme⟩ := id h
  obtain ⟨⟨s1, s2, s3, s4⟩, s5, s6, s7, s8⟩ := hsi
  unfold sKn
  rw [s2, s3]
  exact ⟨s5.1.1, fun z => (s7 z).1⟩
theorem ok_gt (h : hyA S0 p HT cs ms os X fa n B2 w t A s kd nms ne ec bh ba ar) (hL9 : stL S0) (hkd : kd = 0 ∨ kd = 2 ∨ kd = 5) (hgk : ((a_K A t).1.getD ba (0, 0, [])).1 = 4 ∨ ((a_K A t).1.getD ba (0, 0, [])).1 = 5) (hnm : 0 ≤ nm ∧ nm < ((a_N A).length : Int)) (hne : nmE kd nms nm) : eOk S0 HT cs ms os A s (gtE (a_T A) (a_H A) kd nm ((a_K A t).1.getD ba (0, 0, [])).2.1 (a_c A 11)) := by
  obtain ⟨go1, go2, go3⟩ := gO h hgk
  obtain ⟨⟨hp, hw, hx⟩, hA, hB, ⟨hr, ho⟩, hsi, hme⟩ := id h
  have h11 := hA.2.2.2.2.1.2.2.2.2.2.1.1
  obtain ⟨⟨s1, s2, s3, s4⟩, s5, s6, s7, s8⟩ := hsi
  have hup := aUp_rg (nm := nm) hA.2.1 go1
  refine ⟨⟨⟨Int.le_refl _, by show (0 : Int) ≤ 3; decide, ?_⟩, h11.1, Int.le_refl _⟩, fun _ => ⟨fun _ => ⟨go3, rfl, fun _ => ?_⟩, fun z => ?_, fun z => ?_⟩, fun _ => ⟨⟨rfl, rfl⟩, ?_, fun z => ?_, fun z => ?_⟩, fun z => absurd z (by show ¬ (0 : Int) = 3; decide), fun z => absurd z (by show ¬ ((0 : Int) = 1 ∨ (0 : Int) = 2); decide)⟩
  · refine ⟨?_, sKn_of h⟩
    rw [s3]
    have := hL9.2.2
    omega
  · rw [s2, s3, cNm_e (e := (gtE (a_T A) (a_H A) kd nm ((a_K A t).1.getD ba (0, 0, [])).2.1 (a_c A 11))) rfl ⟨by omega, by omega⟩ hne rfl]
    exact eRd_gt hA.2.1 go1
  · rw [s2] at z
    omega
  · rw [s2] at z
    omega
  · show -1 ≤ (if aUp (a_T A) (a_H A) nm ((a_K A t).1.getD ba (0, 0, [])).2.1 = ((a_K A t).1.getD ba (0, 0, [])).2.1 then -1 else aUp (a_T A) (a_H A) nm ((a_K A t).1.getD ba (0, 0, [])).2.1)
    by_cases c9 : aUp (a_T A) (a_H A) nm ((a_K A t).1.getD ba (0, 0, [])).2.1 = ((a_K A t).1.getD ba (0, 0, [])).2.1
    · rw [if_pos c9]
      decide
    · rw [if_neg c9]
      rcases hup with u | u
      · omega
      · have := u.1.1
        omega
  · rw [s2] at z
    show 0 ≤ enE kd nm ∧ enE kd nm < ((a_N A).length : Int)
    unfold enE
    rw [if_pos z]
    exact hnm
  · rw [s2] at z
    show enE kd nm = -1
    unfold enE
    rw [if_neg z]
theorem aP_gt (h : hyA S0 p HT cs ms os X fa n B2 w t A s kd nms ne ec bh ba ar) (hkd : kd = 0 ∨ kd = 2 ∨ kd = 5) (hgk : ((a_K A t).1.getD ba (0, 0, [])).1 = 4 ∨ ((a_K A t).1.getD ba (0, 0, [])).1 = 5) (hnm : 0 ≤ nm ∧ nm < ((a_N A).length : Int)) : aP0 (a_T A) (a_H A) ((a_N A).length : Int) kd nm ((a_K A t).1.getD ba (0, 0, [])).1 ((a_K A t).1.getD ba (0, 0, [])).2.1 (gtE (a_T A) (a_H A) kd nm ((a_K A t).1.getD ba (0, 0, [])).2.1 (a_c A 11)) := by
  obtain ⟨go1, go2, go3⟩ := gO h hgk
  exact ⟨⟨rfl, hgk, go1, go2⟩, fun _ => ⟨⟨eRd_gt h.2.1.2.1 go1, rfl, rfl⟩, hnm⟩, fun z => by omega, fun z => by omega⟩
/-- looking at a thing to read -/
theorem lo_get (h : hyA S0 p HT cs ms os X fa n B2 w t A s kd nms ne ec bh ba ar) (hL9 : stL S0) (hx1 : pe_at (pe_GA xs).xs 1 = some (1, tx_1)) (h97 : pe_at (pe_GA xs).xs 97 = some (3, tx_97)) (hq9 : stQ S0) (hb : a_c A 20 + 1 ≤ B2) (hkd : kd = 0 ∨ kd = 2 ∨ kd = 5) (hgk : ((a_K A t).1.getD ba (0, 0, [])).1 = 4 ∨ ((a_K A t).1.getD ba (0, 0, [])).1 = 5) (hnm : 0 ≤ nm ∧ nm < ((a_N A).length : Int)) (hne : nm = if kd = 2 ∨ kd = 3 then en else nms) (hen : en = enE kd nm) : lOut xs d S0 p HT cs ms os X mo fa n B2 w t A s kd nms ec bh ba nm en es := by
  have hN4 := h.2.1.2.2.2.2.2.1.1.1
  have hn2 : nmE kd nms nm := by
    unfold nmE
    by_cases z : kd = 2 ∨ kd = 3
    · exact Or.inl z
    · rw [if_neg z] at hne
      exact Or.inr hne
  have w1 := wf_Q0 (l := 0) h.2.1 (by first | decide | omega) hb
  have c11 : a_c (u_Q A (a_H A) (a_C A) (a_W A) 0 0) 11 = a_c A 11 := cq_n (A := A) (l := 0) (ds := 0) (i := 11) (by first | decide | omega) (by first | decide | omega)
  have w2 := wf_N (s := s) w1 ⟨h.2.2.2.2.1.2.2.1.1.1, h.2.2.2.2.1.2.2.1.1.2.1⟩ (eOk_2 (ok_gt h hL9 hkd hgk hnm hn2) rfl rfl rfl c11)
  have h3 := hy_2 h w2 rfl c11
  have hp0 := aP_gt h hkd hgk hnm
  obtain ⟨c, A2, y1, y2, y3, y4, y5⟩ := ao_0 (en := en) (es := es) (d := d) (mo := mo) h3 hx1 h97 hq9 hp0 (fun z => by omega)
  refine ⟨c, A2, y1, y2, y3, ?_, fun Z hZ ha => rLk_s (N3 := 0) h rfl w1 ⟨rfl, rfl⟩ (Nat.zero_le _) (rkg h hkd hgk ⟨hnm.1, by omega⟩ hne hen) y5 Z hZ ha⟩
  rcases h.1.2.1 with ⟨rfl, rfl⟩ | ⟨rfl, rfl⟩
  · exact ckg_215 h hL9 hkd hgk ⟨hnm.1, by omega⟩ hn2 y4
  · exact ckg_226 h hL9 hkd hgk ⟨hnm.1, by omega⟩ hn2 y4
end Wlp
