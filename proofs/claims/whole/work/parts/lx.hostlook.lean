/-! PART lx: looking at what is a host's, in the class: the frame of it. -/
section Wlx
variable {xs : List (Nat × List Int32)} {d : Nat} {S0 S Z : wS} {p w m : Nat} {HT : Int → Int} {cs : List hCR} {ms : List hMR} {os : Int → List Int} {X : List (List Int)} {mo t n B B2 oq : Int} {fa : Int → Int} {WE : aA → Prop} {A A2 : aA} {K2 : aK} {ml : List Nat} {k c s kd nms ne ec bh nm en : Int} {b ba : Nat} {ar : List aV} {e : aE} {V Z2 Y : wS} {o : wO} {dn : Int} {H2 : List aH} {N2 : List (List Int)} {E2 : Int → List aE} {C2 : List aQ} {W2 : Int} {c2 : Int → Int} {k2 : Int → Int → Int} {mk rk : Nat → Int → Prop} {K : aK} {T : List aO} {H : List aH} {E : Int → List aE} {gk gb es lo hi a : Int} {r : List aE × Int × Option aE} {A1 : aA} {tl cl : List Int} {sl : Nat → List Int} {L : List aC} {G : Int → aV} {u : aV} {x : List Int} {T2 : List aO} {L2 : List aC} {G2 : Int → aV} {H2 : List aH} {c2 : Int → Int} {y : Int} {Q : wO → wS → Prop} {ps : List (Int × aV)} {k hd wh : Int} {f a9 pn fn md : Int} {vn m9 : Nat} {th : aV} {g : Int} {lp : List aV} {l ds fo g : Int} {mk : Nat → Int → Prop} {C2 : List aQ} {W2 : Int} {RZ : wS → Prop} {N3 : Nat} {SB : wS} {r r0 : Int} {sh : Int} {K9 : aK} {nt : Int}
/-- the class's tables of the host -/
def stHc (S0 : wS) (p : Nat) (HT : Int → Int) (cs : List hCR) (ms : List hMR) (os : Int → List Int) : Prop := KC (p + 14) (p + 24) (p + 20) (p + 41) (p + 42) (p + 1) p HT cs ms os S0 ∧ S0 159 (-1) = 64
theorem hkc_c (hp : p = 73 ∨ p = 162) (h : stHc S0 p HT cs ms os) (hY : cRel S0 p HT cs ms os X mo A Y) : KC (p + 14) (p + 24) (p + 20) (p + 41) (p + 42) (p + 1) p HT cs ms os Y ∧ Y 159 (-1) = 64 := by
  have f := hY.2.2.2.2.2.2.2.2
  have fe : ∀ j : Nat, p < j → j ≤ p + 43 → Y j = S0 j := fun j j0 j1 => funext fun x => f j x (by unfold cSta; omega)
  refine ⟨KC_ag h.1 (f p 2 (by unfold cSta; omega)) (f p 4 (by unfold cSta; omega)) (fun j hj => fe j (by omega) (by omega)), (f 159 (-1) (by unfold cSta; omega)).trans h.2⟩
/-- a name in the class -/
theorem hkl_c (h : hyA S0 p HT cs ms os X fa n B2 w t A s kd nms ne ec bh ba ar) (hH : stHo S0 p b HT nt cs ms os n) (hC9 : stHc S0 p HT cs ms os) (hY : cRel S0 p HT cs ms os X mo A Y) (hnm : nm = nms) (h11 : Y 158 11 = nm) (h0 : 0 ≤ nms ∧ nms < S0 237 16) : hLn p (p + 1) nm (Y 9 nms) (nmT (a_N A) nms) Y := by
  obtain ⟨⟨hp, hw, hx⟩, hA, hB, ⟨hr, ho⟩, hsi, hme⟩ := id h
  obtain ⟨z1, z2⟩ := hkc_c hp hC9 hY
  obtain ⟨o1, o2, o3, o4, o5, o6, o7⟩ := ho_c hH hY
  obtain ⟨⟨⟨w1, w2, w3, w4⟩, w5⟩, w6⟩ := hY.2.2.2.1
  have hN := hA.2.2.2.2.2.1.1.2.1
  have hv := w1.2.2.1.2.2.1
  replace hv : Y 2 10 ≤ Y 9 (-1) := hv
  have h10 := w3.1
  have zk := w3.2 nms.toNat (by omega)
  have en : ((nms.toNat : Nat) : Int) = nms := by omega
  rw [en] at zk
  have hCh := hY.2.2.2.2.2.2.1.1
  refine ⟨⟨o1, h11⟩, by omega, ⟨w1.1, w1.2.1⟩, ⟨by rw [hnm], zk.1, ?_⟩, ⟨o4, o5⟩, z2, hCh.2.2.2.2.2.2⟩
  rw [nmT_g h0.1]
  exact zk.2

theorem cLk1_215 (h : hyA S0 p HT cs ms os X fa n B2 215 0 A s kd nms ne ec bh ba ar) (hL9 : stL S0) (hgk : ((a_K A 0).1.getD ba (0, 0, [])).1 = 7) (hmk : mkL mk) (hY : cRel S0 p HT cs ms os X mo A Y) (ha : cAim 215 s kd ec ba ((a_K A 0).1.getD ba (0, 0, [])).1 nm es Y) (hcal : wJ (pe_GA xs) wY0 (mS sML) (d + 90) t_XL_lookAtHost ((pe_at t_XL_lookAtHost.bl 0).getD (0, [])).2 [(0, (2, 158)), (1, (0, (tO (a_T A) ((a_K A 0).1.getD ba (0, 0, [])).2.1).2.2.1)), (2, (0, 0))] [] (bkZ (Y 158 14) 1 (w_up Y 160 1 (Y 160 1 + 1))) (fun o Z => o = .inl none ∧ RZ Z)) (hRZ : ∀ Z : wS, RZ Z → lkF 215 (Y 158 14) mk (bkZ (Y 158 14) 1 (w_up Y 160 1 (Y 160 1 + 1))) Z ∧ w_CL Z ∧ ((Z 215 16 = 0 ∧ cEc Z kd nms e (Y 158 14) ∧ cRel S0 p HT cs ms os X mo A1 Z) ∨ (Z 215 16 ≠ 0 ∧ Z 215 16 = c ∧ cRel S0 p HT cs ms os X mo A2 Z))) (hE1 : a_E A1 = a_E A) (hk1 : a_k A1 = a_k A) (hact : (∃ Z : wS, RZ Z ∧ Z 215 16 = 0) → cAct xs d S0 p HT cs ms os X mo 215 (u_N A1 s e) s kd nms ec ba ((a_K A 0).1.getD ba (0, 0, [])).1 nm es e c A2) : wJ (pe_GA xs) wY0 (mS sML) (d + 91) t_XL_look ((pe_at t_XL_look.bl 0).getD (0, [])).2 [(0, (2, 158))] [] Y (fun o X2 => ∃ y2 : Int, o = .inl (some (0, y2)) ∧ ((X2 215 16 ≠ 0 ∧ (X2 215 16 = c ∧ cRel S0 p HT cs ms os X mo A2 X2)) ∨ (X2 215 16 = 0 ∧ wJ (pe_GA xs) wY0 (mS sML) (d + 91) t_XL_act ((pe_at t_XL_act.bl 0).getD (0, [])).2 [(0, (2, 158)), (1, (0, y2))] [] X2 (fun o V => o = .inl none ∧ V 215 16 = c ∧ cRel S0 p HT cs ms os X mo A2 V)))) := by
  obtain ⟨⟨v4, v5, v6, v7, v8, v9, v10, v11, v12, v13⟩, v16⟩ := id ha
  have hAk := h.2.1.2.2.2.2.1
  have hT8 := hA_T h
  have hvo := (gv_G h).1
  obtain ⟨⟨hp, hw, hx⟩, hA, hB, ⟨hr, ho⟩, hsi, hme⟩ := id h
  obtain ⟨s0, s1, s2⟩ := hsi.2.2.1.1
  obtain ⟨g1, g2, g3, g4⟩ := si_c hx hY hsi
  obtain ⟨ix, fl, ow, hE⟩ := hY.2.2.2.2.1
  have hst := hY.2.2.2.2.2.2.2.2
  obtain ⟨c1, ⟨c2, c3⟩, c4, c5, c6⟩ := hY.2.2.2.2.2.2.2.1
  obtain ⟨d1, d2, d3, d4⟩ := c6 s s0 (by omega)
  have f7 := hAk.2.2.2.2.2.2.1 s s0 s1
  have a20 := hAk.2.2.2.2.2.1.2.2 (20 + 1) (by first | decide | omega) (by first | decide | omega)
  have c5l := c5 1 (by first | decide | omega)
  replace c5l : Y 160 1 = a_c A (20 + 1) := c5l
  have hfo : 0 ≤ Y 158 14 ∧ Y 158 14 < Y 48 (-1) := by
    have z1 := hE.2.2.2.1
    have z2 := hE.1.2.2.2
    omega
  have e34 : Y 34 (-1) = 12 := (hst 34 (-1) (by unfold cSta; omega)).trans hL9.1
  have e160 : Y 160 (-1) = 4 := (hst 160 (-1) (by unfold cSta; omega)).trans hL9.2.1
  have v10b : Y 158 10 = ((a_K A 0).1.getD ba (0, 0, [])).2.1 := by rw [v10]; exact gb_c h hY (by omega)
  have hgo := (hvo.2.1 (by omega) (by omega)).1
  refine wJ_mono (lkG_215 (d := d + 85) (ml := sML) (mk := mk) (RZ := RZ) (e := e) (l := 1) (kd := kd) (nms := nms) (fo := Y 158 14) hE ⟨s0, by omega⟩ v4 v6 rfl g2 g3 (by rw [d4]; omega) (fun z => by rw [d4] at z; rw [d1]; omega) e34 (by first | decide | omega) hmk (by first | decide | omega) (fun Q hQ => lok1_215 (d := d + 85) (T := a_T A) (ty := (tO (a_T A) ((a_K A 0).1.getD ba (0, 0, [])).2.1).2.2.1) (ml := sML) (Q := Q) (R := RZ) hY.1.1 hE.1 v4 v6 v7 v9 v10b v11 v13 rfl hfo hgk hgo (c_th hY.2.2.1.1.1 hgo.1 hgo.2).1.2.2.1 hY.2.2.1.1.2.2.2.2.1 (by omega) hcal hQ no_sM.2.2 e160 hT8) (fun Z hz => ⟨(hRZ Z hz).1, (hRZ Z hz).2.1, fun z => by rcases (hRZ Z hz).2.2 with q | q; exact q.2.1; exact absurd z q.1⟩)) (fun o V hv => ?_)
  obtain ⟨y, y1, Z, z1, z2⟩ := hv
  refine ⟨y, y1, ?_⟩
  obtain ⟨zf, zc, zz⟩ := hRZ Z z1
  rcases z2 with ⟨z3, rfl⟩ | ⟨z3, z4⟩
  · rcases zz with q | q
    · exact absurd q.1 z3
    · exact Or.inl ⟨z3, q.2⟩
  · rcases zz with q | q
    · right
      rw [← hE1] at z4
      have sf := (lkF_se hE rfl (isWt_w hw) hmk (l := 1) (by first | decide | omega) hfo.1 zf).2
      have g8 : ∀ x : Int, Z 158 x = Y 158 x := fun x => sf 158 x (by first | decide | omega) (by first | decide | omega) (by omega) (by omega) (by omega) (fun hm => by have := hmk 158 x hm; omega)
      have g19 : Z 19 9 = Y 19 9 := sf 19 9 (by first | decide | omega) (by first | decide | omega) (by omega) (by omega) (by omega) (fun hm => by have := hmk 19 9 hm; omega)
      have ha2 : cAim 215 s kd ec ba ((a_K A 0).1.getD ba (0, 0, [])).1 nm es Z := ⟨⟨(g8 4).trans v4, (g8 5).trans v5, (g8 6).trans v6, (g8 7).trans v7, (g8 8).trans v8, (g8 9).trans v9, by rw [g8 10, sf 218 _ (by first | decide | omega) (by first | decide | omega) (by omega) (by omega) (by omega) (fun hm => by have := hmk 218 _ hm; omega)]; exact v10, (g8 11).trans v11, (g8 12).trans v12, (g8 13).trans v13⟩, z3⟩
      obtain ⟨r1, r2, r3, r4⟩ := ln_R hp hw q.2.2 ⟨s0, by omega⟩ ha2 z4
      exact ⟨r2.2, hact ⟨Z, z1, z3⟩ V y r1 r2 r3 r4⟩
    · exact absurd z3 q.1

theorem cLk1_226 (h : hyA S0 p HT cs ms os X fa n B2 226 1 A s kd nms ne ec bh ba ar) (hL9 : stL S0) (hgk : ((a_K A 1).1.getD ba (0, 0, [])).1 = 7) (hmk : mkL mk) (hY : cRel S0 p HT cs ms os X mo A Y) (ha : cAim 226 s kd ec ba ((a_K A 1).1.getD ba (0, 0, [])).1 nm es Y) (hcal : wJ (pe_GA xs) wY0 (mS sML) (d + 90) t_XL_lookAtHost ((pe_at t_XL_lookAtHost.bl 0).getD (0, [])).2 [(0, (2, 158)), (1, (0, (tO (a_T A) ((a_K A 1).1.getD ba (0, 0, [])).2.1).2.2.1)), (2, (0, 0))] [] (bkZ (Y 158 14) 1 (w_up Y 160 1 (Y 160 1 + 1))) (fun o Z => o = .inl none ∧ RZ Z)) (hRZ : ∀ Z : wS, RZ Z → lkF 226 (Y 158 14) mk (bkZ (Y 158 14) 1 (w_up Y 160 1 (Y 160 1 + 1))) Z ∧ w_CL Z ∧ ((Z 226 16 = 0 ∧ cEc Z kd nms e (Y 158 14) ∧ cRel S0 p HT cs ms os X mo A1 Z) ∨ (Z 226 16 ≠ 0 ∧ Z 226 16 = c ∧ cRel S0 p HT cs ms os X mo A2 Z))) (hE1 : a_E A1 = a_E A) (hk1 : a_k A1 = a_k A) (hact : (∃ Z : wS, RZ Z ∧ Z 226 16 = 0) → cAct xs d S0 p HT cs ms os X mo 226 (u_N A1 s e) s kd nms ec ba ((a_K A 1).1.getD ba (0, 0, [])).1 nm es e c A2) : wJ (pe_GA xs) wY0 (mS sML) (d + 91) t_XL_look ((pe_at t_XL_look.bl 0).getD (0, [])).2 [(0, (2, 158))] [] Y (fun o X2 => ∃ y2 : Int, o = .inl (some (0, y2)) ∧ ((X2 226 16 ≠ 0 ∧ (X2 226 16 = c ∧ cRel S0 p HT cs ms os X mo A2 X2)) ∨ (X2 226 16 = 0 ∧ wJ (pe_GA xs) wY0 (mS sML) (d + 91) t_XL_act ((pe_at t_XL_act.bl 0).getD (0, [])).2 [(0, (2, 158)), (1, (0, y2))] [] X2 (fun o V => o = .inl none ∧ V 226 16 = c ∧ cRel S0 p HT cs ms os X mo A2 V)))) := by
  obtain ⟨⟨v4, v5, v6, v7, v8, v9, v10, v11, v12, v13⟩, v16⟩ := id ha
  have hAk := h.2.1.2.2.2.2.1
  have hT8 := hA_T h
  have hvo := (gv_G h).1
  obtain ⟨⟨hp, hw, hx⟩, hA, hB, ⟨hr, ho⟩, hsi, hme⟩ := id h
  obtain ⟨s0, s1, s2⟩ := hsi.2.2.1.1
  obtain ⟨g1, g2, g3, g4⟩ := si_c hx hY hsi
  obtain ⟨ix, fl, ow, hE⟩ := hY.2.2.2.2.1
  have hst := hY.2.2.2.2.2.2.2.2
  obtain ⟨c1, ⟨c2, c3⟩, c4, c5, c6⟩ := hY.2.2.2.2.2.2.2.1
  obtain ⟨d1, d2, d3, d4⟩ := c6 s s0 (by omega)
  have f7 := hAk.2.2.2.2.2.2.1 s s0 s1
  have a20 := hAk.2.2.2.2.2.1.2.2 (20 + 1) (by first | decide | omega) (by first | decide | omega)
  have c5l := c5 1 (by first | decide | omega)
  replace c5l : Y 160 1 = a_c A (20 + 1) := c5l
  have hfo : 0 ≤ Y 158 14 ∧ Y 158 14 < Y 48 (-1) := by
    have z1 := hE.2.2.2.1
    have z2 := hE.1.2.2.2
    omega
  have e34 : Y 34 (-1) = 12 := (hst 34 (-1) (by unfold cSta; omega)).trans hL9.1
  have e160 : Y 160 (-1) = 4 := (hst 160 (-1) (by unfold cSta; omega)).trans hL9.2.1
  have v10b : Y 158 10 = ((a_K A 1).1.getD ba (0, 0, [])).2.1 := by rw [v10]; exact gb_c h hY (by omega)
  have hgo := (hvo.2.1 (by omega) (by omega)).1
  refine wJ_mono (lkG_226 (d := d + 85) (ml := sML) (mk := mk) (RZ := RZ) (e := e) (l := 1) (kd := kd) (nms := nms) (fo := Y 158 14) hE ⟨s0, by omega⟩ v4 v6 rfl g2 g3 (by rw [d4]; omega) (fun z => by rw [d4] at z; rw [d1]; omega) e34 (by first | decide | omega) hmk (by first | decide | omega) (fun Q hQ => lok1_226 (d := d + 85) (T := a_T A) (ty := (tO (a_T A) ((a_K A 1).1.getD ba (0, 0, [])).2.1).2.2.1) (ml := sML) (Q := Q) (R := RZ) hY.1.1 hE.1 v4 v6 v7 v9 v10b v11 v13 rfl hfo hgk hgo (c_th hY.2.2.1.1.1 hgo.1 hgo.2).1.2.2.1 hY.2.2.1.1.2.2.2.2.1 (by omega) hcal hQ no_sM.2.2 e160 hT8) (fun Z hz => ⟨(hRZ Z hz).1, (hRZ Z hz).2.1, fun z => by rcases (hRZ Z hz).2.2 with q | q; exact q.2.1; exact absurd z q.1⟩)) (fun o V hv => ?_)
  obtain ⟨y, y1, Z, z1, z2⟩ := hv
  refine ⟨y, y1, ?_⟩
  obtain ⟨zf, zc, zz⟩ := hRZ Z z1
  rcases z2 with ⟨z3, rfl⟩ | ⟨z3, z4⟩
  · rcases zz with q | q
    · exact absurd q.1 z3
    · exact Or.inl ⟨z3, q.2⟩
  · rcases zz with q | q
    · right
      rw [← hE1] at z4
      have sf := (lkF_se hE rfl (isWt_w hw) hmk (l := 1) (by first | decide | omega) hfo.1 zf).2
      have g8 : ∀ x : Int, Z 158 x = Y 158 x := fun x => sf 158 x (by first | decide | omega) (by first | decide | omega) (by omega) (by omega) (by omega) (fun hm => by have := hmk 158 x hm; omega)
      have g19 : Z 19 9 = Y 19 9 := sf 19 9 (by first | decide | omega) (by first | decide | omega) (by omega) (by omega) (by omega) (fun hm => by have := hmk 19 9 hm; omega)
      have ha2 : cAim 226 s kd ec ba ((a_K A 1).1.getD ba (0, 0, [])).1 nm es Z := ⟨⟨(g8 4).trans v4, (g8 5).trans v5, (g8 6).trans v6, (g8 7).trans v7, (g8 8).trans v8, (g8 9).trans v9, by rw [g8 10, sf 229 _ (by first | decide | omega) (by first | decide | omega) (by omega) (by omega) (by omega) (fun hm => by have := hmk 229 _ hm; omega)]; exact v10, (g8 11).trans v11, (g8 12).trans v12, (g8 13).trans v13⟩, z3⟩
      obtain ⟨r1, r2, r3, r4⟩ := ln_R hp hw q.2.2 ⟨s0, by omega⟩ ha2 z4
      exact ⟨r2.2, hact ⟨Z, z1, z3⟩ V y r1 r2 r3 r4⟩
    · exact absurd z3 q.1

theorem cLk2_215 (h : hyA S0 p HT cs ms os X fa n B2 215 0 A s kd nms ne ec bh ba ar) (hL9 : stL S0) (hgk : ((a_K A 0).1.getD ba (0, 0, [])).1 = 8) (hmk : mkL mk) (hY : cRel S0 p HT cs ms os X mo A Y) (ha : cAim 215 s kd ec ba ((a_K A 0).1.getD ba (0, 0, [])).1 nm es Y) (hcal : wJ (pe_GA xs) wY0 (mS sML) (d + 90) t_XL_lookAtHost ((pe_at t_XL_lookAtHost.bl 0).getD (0, [])).2 [(0, (2, 158)), (1, (0, ((a_K A 0).1.getD ba (0, 0, [])).2.1)), (2, (0, 1))] [] (bkZ (Y 158 14) 2 (w_up Y 160 2 (Y 160 2 + 1))) (fun o Z => o = .inl none ∧ RZ Z)) (hRZ : ∀ Z : wS, RZ Z → lkF 215 (Y 158 14) mk (bkZ (Y 158 14) 2 (w_up Y 160 2 (Y 160 2 + 1))) Z ∧ w_CL Z ∧ ((Z 215 16 = 0 ∧ cEc Z kd nms e (Y 158 14) ∧ cRel S0 p HT cs ms os X mo A1 Z) ∨ (Z 215 16 ≠ 0 ∧ Z 215 16 = c ∧ cRel S0 p HT cs ms os X mo A2 Z))) (hE1 : a_E A1 = a_E A) (hk1 : a_k A1 = a_k A) (hact : (∃ Z : wS, RZ Z ∧ Z 215 16 = 0) → cAct xs d S0 p HT cs ms os X mo 215 (u_N A1 s e) s kd nms ec ba ((a_K A 0).1.getD ba (0, 0, [])).1 nm es e c A2) : wJ (pe_GA xs) wY0 (mS sML) (d + 91) t_XL_look ((pe_at t_XL_look.bl 0).getD (0, [])).2 [(0, (2, 158))] [] Y (fun o X2 => ∃ y2 : Int, o = .inl (some (0, y2)) ∧ ((X2 215 16 ≠ 0 ∧ (X2 215 16 = c ∧ cRel S0 p HT cs ms os X mo A2 X2)) ∨ (X2 215 16 = 0 ∧ wJ (pe_GA xs) wY0 (mS sML) (d + 91) t_XL_act ((pe_at t_XL_act.bl 0).getD (0, [])).2 [(0, (2, 158)), (1, (0, y2))] [] X2 (fun o V => o = .inl none ∧ V 215 16 = c ∧ cRel S0 p HT cs ms os X mo A2 V)))) := by
  obtain ⟨⟨v4, v5, v6, v7, v8, v9, v10, v11, v12, v13⟩, v16⟩ := id ha
  have hAk := h.2.1.2.2.2.2.1
  have hT8 := hA_T h
  have hvo := (gv_G h).1
  obtain ⟨⟨hp, hw, hx⟩, hA, hB, ⟨hr, ho⟩, hsi, hme⟩ := id h
  obtain ⟨s0, s1, s2⟩ := hsi.2.2.1.1
  obtain ⟨g1, g2, g3, g4⟩ := si_c hx hY hsi
  obtain ⟨ix, fl, ow, hE⟩ := hY.2.2.2.2.1
  have hst := hY.2.2.2.2.2.2.2.2
  obtain ⟨c1, ⟨c2, c3⟩, c4, c5, c6⟩ := hY.2.2.2.2.2.2.2.1
  obtain ⟨d1, d2, d3, d4⟩ := c6 s s0 (by omega)
  have f7 := hAk.2.2.2.2.2.2.1 s s0 s1
  have a20 := hAk.2.2.2.2.2.1.2.2 (20 + 2) (by first | decide | omega) (by first | decide | omega)
  have c5l := c5 2 (by first | decide | omega)
  replace c5l : Y 160 2 = a_c A (20 + 2) := c5l
  have hfo : 0 ≤ Y 158 14 ∧ Y 158 14 < Y 48 (-1) := by
    have z1 := hE.2.2.2.1
    have z2 := hE.1.2.2.2
    omega
  have e34 : Y 34 (-1) = 12 := (hst 34 (-1) (by unfold cSta; omega)).trans hL9.1
  have e160 : Y 160 (-1) = 4 := (hst 160 (-1) (by unfold cSta; omega)).trans hL9.2.1
  have v10b : Y 158 10 = ((a_K A 0).1.getD ba (0, 0, [])).2.1 := by rw [v10]; exact gb_c h hY (by omega)
  refine wJ_mono (lkG_215 (d := d + 85) (ml := sML) (mk := mk) (RZ := RZ) (e := e) (l := 2) (kd := kd) (nms := nms) (fo := Y 158 14) hE ⟨s0, by omega⟩ v4 v6 rfl g2 g3 (by rw [d4]; omega) (fun z => by rw [d4] at z; rw [d1]; omega) e34 (by first | decide | omega) hmk (by first | decide | omega) (fun Q hQ => lok2_215 (d := d + 85) (ty := 0) (ml := sML) (Q := Q) (R := RZ) hY.1.1 hE.1 v4 v6 v7 v9 v10b v11 v13 rfl hfo hgk (by have := hvo.2.2.1 hgk; omega) (by omega) hcal hQ no_sM.2.2 e160) (fun Z hz => ⟨(hRZ Z hz).1, (hRZ Z hz).2.1, fun z => by rcases (hRZ Z hz).2.2 with q | q; exact q.2.1; exact absurd z q.1⟩)) (fun o V hv => ?_)
  obtain ⟨y, y1, Z, z1, z2⟩ := hv
  refine ⟨y, y1, ?_⟩
  obtain ⟨zf, zc, zz⟩ := hRZ Z z1
  rcases z2 with ⟨z3, rfl⟩ | ⟨z3, z4⟩
  · rcases zz with q | q
    · exact absurd q.1 z3
    · exact Or.inl ⟨z3, q.2⟩
  · rcases zz with q | q
    · right
      rw [← hE1] at z4
      have sf := (lkF_se hE rfl (isWt_w hw) hmk (l := 2) (by first | decide | omega) hfo.1 zf).2
      have g8 : ∀ x : Int, Z 158 x = Y 158 x := fun x => sf 158 x (by first | decide | omega) (by first | decide | omega) (by omega) (by omega) (by omega) (fun hm => by have := hmk 158 x hm; omega)
      have g19 : Z 19 9 = Y 19 9 := sf 19 9 (by first | decide | omega) (by first | decide | omega) (by omega) (by omega) (by omega) (fun hm => by have := hmk 19 9 hm; omega)
      have ha2 : cAim 215 s kd ec ba ((a_K A 0).1.getD ba (0, 0, [])).1 nm es Z := ⟨⟨(g8 4).trans v4, (g8 5).trans v5, (g8 6).trans v6, (g8 7).trans v7, (g8 8).trans v8, (g8 9).trans v9, by rw [g8 10, sf 218 _ (by first | decide | omega) (by first | decide | omega) (by omega) (by omega) (by omega) (fun hm => by have := hmk 218 _ hm; omega)]; exact v10, (g8 11).trans v11, (g8 12).trans v12, (g8 13).trans v13⟩, z3⟩
      obtain ⟨r1, r2, r3, r4⟩ := ln_R hp hw q.2.2 ⟨s0, by omega⟩ ha2 z4
      exact ⟨r2.2, hact ⟨Z, z1, z3⟩ V y r1 r2 r3 r4⟩
    · exact absurd z3 q.1

theorem cLk2_226 (h : hyA S0 p HT cs ms os X fa n B2 226 1 A s kd nms ne ec bh ba ar) (hL9 : stL S0) (hgk : ((a_K A 1).1.getD ba (0, 0, [])).1 = 8) (hmk : mkL mk) (hY : cRel S0 p HT cs ms os X mo A Y) (ha : cAim 226 s kd ec ba ((a_K A 1).1.getD ba (0, 0, [])).1 nm es Y) (hcal : wJ (pe_GA xs) wY0 (mS sML) (d + 90) t_XL_lookAtHost ((pe_at t_XL_lookAtHost.bl 0).getD (0, [])).2 [(0, (2, 158)), (1, (0, ((a_K A 1).1.getD ba (0, 0, [])).2.1)), (2, (0, 1))] [] (bkZ (Y 158 14) 2 (w_up Y 160 2 (Y 160 2 + 1))) (fun o Z => o = .inl none ∧ RZ Z)) (hRZ : ∀ Z : wS, RZ Z → lkF 226 (Y 158 14) mk (bkZ (Y 158 14) 2 (w_up Y 160 2 (Y 160 2 + 1))) Z ∧ w_CL Z ∧ ((Z 226 16 = 0 ∧ cEc Z kd nms e (Y 158 14) ∧ cRel S0 p HT cs ms os X mo A1 Z) ∨ (Z 226 16 ≠ 0 ∧ Z 226 16 = c ∧ cRel S0 p HT cs ms os X mo A2 Z))) (hE1 : a_E A1 = a_E A) (hk1 : a_k A1 = a_k A) (hact : (∃ Z : wS, RZ Z ∧ Z 226 16 = 0) → cAct xs d S0 p HT cs ms os X mo 226 (u_N A1 s e) s kd nms ec ba ((a_K A 1).1.getD ba (0, 0, [])).1 nm es e c A2) : wJ (pe_GA xs) wY0 (mS sML) (d + 91) t_XL_look ((pe_at t_XL_look.bl 0).getD (0, [])).2 [(0, (2, 158))] [] Y (fun o X2 => ∃ y2 : Int, o = .inl (some (0, y2)) ∧ ((X2 226 16 ≠ 0 ∧ (X2 226 16 = c ∧ cRel S0 p HT cs ms os X mo A2 X2)) ∨ (X2 226 16 = 0 ∧ wJ (pe_GA xs) wY0 (mS sML) (d + 91) t_XL_act ((pe_at t_XL_act.bl 0).getD (0, [])).2 [(0, (2, 158)), (1, (0, y2))] [] X2 (fun o V => o = .inl none ∧ V 226 16 = c ∧ cRel S0 p HT cs ms os X mo A2 V)))) := by
  obtain ⟨⟨v4, v5, v6, v7, v8, v9, v10, v11, v12, v13⟩, v16⟩ := id ha
  have hAk := h.2.1.2.2.2.2.1
  have hT8 := hA_T h
  have hvo := (gv_G h).1
  obtain ⟨⟨hp, hw, hx⟩, hA, hB, ⟨hr, ho⟩, hsi, hme⟩ := id h
  obtain ⟨s0, s1, s2⟩ := hsi.2.2.1.1
  obtain ⟨g1, g2, g3, g4⟩ := si_c hx hY hsi
  obtain ⟨ix, fl, ow, hE⟩ := hY.2.2.2.2.1
  have hst := hY.2.2.2.2.2.2.2.2
  obtain ⟨c1, ⟨c2, c3⟩, c4, c5, c6⟩ := hY.2.2.2.2.2.2.2.1
  obtain ⟨d1, d2, d3, d4⟩ := c6 s s0 (by omega)
  have f7 := hAk.2.2.2.2.2.2.1 s s0 s1
  have a20 := hAk.2.2.2.2.2.1.2.2 (20 + 2) (by first | decide | omega) (by first | decide | omega)
  have c5l := c5 2 (by first | decide | omega)
  replace c5l : Y 160 2 = a_c A (20 + 2) := c5l
  have hfo : 0 ≤ Y 158 14 ∧ Y 158 14 < Y 48 (-1) := by
    have z1 := hE.2.2.2.1
    have z2 := hE.1.2.2.2
    omega
  have e34 : Y 34 (-1) = 12 := (hst 34 (-1) (by unfold cSta; omega)).trans hL9.1
  have e160 : Y 160 (-1) = 4 := (hst 160 (-1) (by unfold cSta; omega)).trans hL9.2.1
  have v10b : Y 158 10 = ((a_K A 1).1.getD ba (0, 0, [])).2.1 := by rw [v10]; exact gb_c h hY (by omega)
  refine wJ_mono (lkG_226 (d := d + 85) (ml := sML) (mk := mk) (RZ := RZ) (e := e) (l := 2) (kd := kd) (nms := nms) (fo := Y 158 14) hE ⟨s0, by omega⟩ v4 v6 rfl g2 g3 (by rw [d4]; omega) (fun z => by rw [d4] at z; rw [d1]; omega) e34 (by first | decide | omega) hmk (by first | decide | omega) (fun Q hQ => lok2_226 (d := d + 85) (ty := 0) (ml := sML) (Q := Q) (R := RZ) hY.1.1 hE.1 v4 v6 v7 v9 v10b v11 v13 rfl hfo hgk (by have := hvo.2.2.1 hgk; omega) (by omega) hcal hQ no_sM.2.2 e160) (fun Z hz => ⟨(hRZ Z hz).1, (hRZ Z hz).2.1, fun z => by rcases (hRZ Z hz).2.2 with q | q; exact q.2.1; exact absurd z q.1⟩)) (fun o V hv => ?_)
  obtain ⟨y, y1, Z, z1, z2⟩ := hv
  refine ⟨y, y1, ?_⟩
  obtain ⟨zf, zc, zz⟩ := hRZ Z z1
  rcases z2 with ⟨z3, rfl⟩ | ⟨z3, z4⟩
  · rcases zz with q | q
    · exact absurd q.1 z3
    · exact Or.inl ⟨z3, q.2⟩
  · rcases zz with q | q
    · right
      rw [← hE1] at z4
      have sf := (lkF_se hE rfl (isWt_w hw) hmk (l := 2) (by first | decide | omega) hfo.1 zf).2
      have g8 : ∀ x : Int, Z 158 x = Y 158 x := fun x => sf 158 x (by first | decide | omega) (by first | decide | omega) (by omega) (by omega) (by omega) (fun hm => by have := hmk 158 x hm; omega)
      have g19 : Z 19 9 = Y 19 9 := sf 19 9 (by first | decide | omega) (by first | decide | omega) (by omega) (by omega) (by omega) (fun hm => by have := hmk 19 9 hm; omega)
      have ha2 : cAim 226 s kd ec ba ((a_K A 1).1.getD ba (0, 0, [])).1 nm es Z := ⟨⟨(g8 4).trans v4, (g8 5).trans v5, (g8 6).trans v6, (g8 7).trans v7, (g8 8).trans v8, (g8 9).trans v9, by rw [g8 10, sf 229 _ (by first | decide | omega) (by first | decide | omega) (by omega) (by omega) (by omega) (fun hm => by have := hmk 229 _ hm; omega)]; exact v10, (g8 11).trans v11, (g8 12).trans v12, (g8 13).trans v13⟩, z3⟩
      obtain ⟨r1, r2, r3, r4⟩ := ln_R hp hw q.2.2 ⟨s0, by omega⟩ ha2 z4
      exact ⟨r2.2, hact ⟨Z, z1, z3⟩ V y r1 r2 r3 r4⟩
    · exact absurd z3 q.1

end Wlx
