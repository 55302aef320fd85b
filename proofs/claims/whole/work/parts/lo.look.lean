/-! PART lo: looking at a site, on both sides: the frame of it. -/
section Wlo
variable {Sb : wS} {xs : List (Nat × List Int32)} {d : Nat} {S0 S Z : wS} {p w m : Nat} {HT : Int → Int} {cs : List hCR} {ms : List hMR} {os : Int → List Int} {X : List (List Int)} {mo t n B B2 oq : Int} {fa : Int → Int} {WE : aA → Prop} {A A2 : aA} {K2 : aK} {ml : List Nat} {k c s kd nms ne ec bh nm en : Int} {b ba : Nat} {ar : List aV} {e : aE} {V Z2 Y : wS} {o : wO} {dn : Int} {H2 : List aH} {N2 : List (List Int)} {E2 : Int → List aE} {C2 : List aQ} {W2 : Int} {c2 : Int → Int} {k2 : Int → Int → Int} {mk rk : Nat → Int → Prop} {K : aK} {T : List aO} {H : List aH} {E : Int → List aE} {gk gb es lo hi a : Int} {r : List aE × Int × Option aE} {A1 : aA} {tl cl : List Int} {sl : Nat → List Int} {L : List aC} {G : Int → aV} {u : aV} {x : List Int} {T2 : List aO} {L2 : List aC} {G2 : Int → aV} {H2 : List aH} {c2 : Int → Int} {y : Int} {Q : wO → wS → Prop} {ps : List (Int × aV)} {k hd wh : Int} {f a9 pn fn md : Int} {vn m9 : Nat} {th : aV} {g : Int} {lp : List aV} {l ds fo g : Int} {mk : Nat → Int → Prop} {C2 : List aQ} {W2 : Int} {RZ : wS → Prop} {N3 : Nat} {SB : wS}
/-- what looking is told besides -/
def stL (S0 : wS) : Prop := S0 34 (-1) = 12 ∧ S0 160 (-1) = 4 ∧ 0 ≤ S0 237 16
/-- what looking, linking and acting come to, on both sides -/
def lOut (xs : List (Nat × List Int32)) (d : Nat) (S0 : wS) (p : Nat) (HT : Int → Int) (cs : List hCR) (ms : List hMR) (os : Int → List Int) (X : List (List Int)) (mo : Int) (fa : Int → Int) (n B2 : Int) (w : Nat) (t : Int) (A : aA) (s kd nms ec bh : Int) (ba : Nat) (nm en es : Int) : Prop := ∃ (c : Int) (A2 : aA), wfA S0 fa ms n (WEs S0 HT cs ms os) B2 A2 ∧ (∀ t2 : Int, t2 ≠ t → a_K A2 t2 = a_K A t2) ∧ (c ≠ 0 → a_K A2 t = a_K A t) ∧ cLook xs d S0 p HT cs ms os X mo w A s kd ec ba ((a_K A t).1.getD ba (0, 0, [])).1 nm es c A2 ∧ ∀ {Sb : wS} (Z : wS), rRun S0 Sb HT cs ms os X mo t A Z → rAim t (a_K A t) ba bh en Z → rI15 xs d S0 Sb HT cs ms os X mo t s kd (-1) c A2 Z
theorem bk_f {v : Int} (j : Nat) (x : Int) (h : j < 48 ∨ 57 < j) (h2 : ¬ (j = 160 ∧ x = l)) : bkZ fo l (w_up Y 160 l v) j x = Y j x := (bkZ_e j x (Or.inl h)).trans (w_up_no (by omega))
theorem bk_m {v : Int} (hf : 0 ≤ fo) (hl : 0 ≤ l) (j : Nat) : bkZ fo l (w_up Y 160 l v) j (-1) = Y j (-1) := (bkZ_e j (-1) (by omega)).trans (w_up_at (by omega))
/-- a look that changes nothing but what it found -/
theorem lk_pl (hp : p = 73 ∨ p = 162) (hw : isWt w t) (hY : cRel S0 p HT cs ms os X mo A Y) (hl : 0 ≤ l ∧ l ≤ 3) (hfo0 : 0 ≤ Y 158 14) (f : ∀ (j : Nat) (x : Int), ¬ (48 ≤ j ∧ j ≤ 56 ∧ x = Y 158 14) → (j ≠ w ∨ x ≠ 16) → Z j x = (bkZ (Y 158 14) l (w_up Y 160 l (Y 160 l + 1))) j x) : lkF w (Y 158 14) (fun _ _ => False) (bkZ (Y 158 14) l (w_up Y 160 l (Y 160 l + 1))) Z ∧ w_CL Z ∧ cRel S0 p HT cs ms os X mo (u_Q A (a_H A) (a_C A) (a_W A) l 0) Z := by
  have ww := isWt_w hw
  have fm : ∀ k : Nat, Z k (-1) = (bkZ (Y 158 14) l (w_up Y 160 l (Y 160 l + 1))) k (-1) := fun k => f k (-1) (by omega) (by omega)
  have fm2 : ∀ k : Nat, Z k (-1) = Y k (-1) := fun k => (fm k).trans (bk_m hfo0 hl.1 k)
  have hI := bkZ_g (fo := Y 158 14) (l := l) (S := w_up Y 160 l (Y 160 l + 1)) (gI_eq hY.1.2.1 (fun k => w_up_at (by omega)) (fun x => w_up_slot (by first | decide | omega)) (w_up_slot (by first | decide | omega))) hfo0
  have gz : gI Z := gI_eq hI.1 fm (fun x => f 238 x (by omega) (by omega)) (f 14 5 (by omega) (by omega))
  have rz : rmR (bkZ (Y 158 14) l (w_up Y 160 l (Y 160 l + 1))) Z := rmR_ag (rmR_rfl _) (fun k _ => fm k) (f wG 0 (by unfold wG; omega) (by unfold wG; omega)) (f wG 1 (by unfold wG; omega) (by unfold wG; omega))
  have hF : lkF w (Y 158 14) (fun _ _ => False) (bkZ (Y 158 14) l (w_up Y 160 l (Y 160 l + 1))) Z := ⟨fun j x _ _ a1 a2 _ => f j x a1 a2, gz, rz⟩
  have hCL : w_CL Z := fun q hq => (fm2 q.1).trans (hY.1.1 q hq)
  have g : ∀ (j : Nat) (x : Int), (j < 48 ∨ 57 < j) → j ≠ 160 → (j ≠ w ∨ x ≠ 16) → Z j x = Y j x := fun j x h1 h2 h3 => (f j x (by omega) h3).trans (bk_f j x h1 (by omega))
  refine ⟨hF, hCL, lk_R hp hw hY rfl hfo0 hl (fun j x z => z.elim) (fun j x z => z.elim) (fun _ _ z => z) hF hCL (cSw_ag hY.2.2.1.2.1 (fun j x hj => g j x (by omega) (by omega) (by omega))) (cCh_ag hY.2.2.2.2.2.2.1.1 (fun j x hj => g j x (by omega) (by omega) (by omega))) ?_⟩
  rw [g 150 4 (by omega) (by omega) (by omega), (cR_u hY).2.2.2.2.1]
  omega
/-- the reference has looked with success -/
theorem rLk_s (h : hyA S0 p HT cs ms os X fa n B2 w t A s kd nms ne ec bh ba ar) (hT9 : a_T (u_Q A H2 C2 W2 l ds) = a_T A) (hwz : wfA S0 fa ms n (WEs S0 HT cs ms os) B2 (u_Q A H2 C2 W2 l ds)) (he8 : e.2.2.2.2.2.2.2.1 = (N3 : Int) ∧ e.2.2.2.2.2.2.2.2 = esV ((ar.map (clO (a_T A))).take N3)) (hN3 : N3 ≤ ar.length) (hlook : ∀ {Sb : wS} (Y : wS), rRun S0 Sb HT cs ms os X mo t A Y → rAim t (a_K A t) ba bh en Y → wJ (pe_GA xs) wY0 (fun _ => False) (d + 90) t_M_looks ((pe_at t_M_looks.bl 0).getD (0, [])).2 [(0, (2, 237)), (1, (0, s)), (2, (0, 1))] [] Y (fun o Z => o = .inl none ∧ w_ML Z ∧ rRun S0 Sb HT cs ms os X mo t (u_Q A H2 C2 W2 l ds) Z ∧ rAim t (a_K A t) ba bh en Z ∧ (Z 237 166 = e.1 ∧ Z 237 167 = e.2.1 ∧ Z 237 177 = e.2.2.1 ∧ Z 237 169 = e.2.2.2.1 ∧ Z 237 170 = e.2.2.2.2.1 ∧ Z 237 171 = e.2.2.2.2.2.1 ∧ Z 237 81 = e.2.2.2.2.2.2.1) ∧ Z 237 172 = (N3 : Int))) (hact : rAct xs d S0 HT cs ms os X mo t (u_N (u_Q A H2 C2 W2 l ds) s e) (a_K A t) s ba bh en e c A2) (Z : wS) (hZ : rRun S0 Sb HT cs ms os X mo t A Z) (ha : rAim t (a_K A t) ba bh en Z) : rI15 xs d S0 Sb HT cs ms os X mo t s kd (-1) c A2 Z := fun el kk => by
  have hba := hA_ba h
  have hT8 := hA_T h
  have hl9 := hl_A h
  obtain ⟨⟨hp, hw, hx⟩, hA, hB, ⟨hr, ho⟩, hsi, hme⟩ := id h
  have ht := wt_t hw
  obtain ⟨s0, s1, s2⟩ := hsi.2.2.1.1
  obtain ⟨c1, c2, c3, c4, c5, c6⟩ := hZ.1.2.2.2.2.2.2.2.1
  have s47 := (si_r hZ.1 hsi).1
  obtain ⟨d1, d2, d3, d4⟩ := c5 s s0 (by omega)
  have f7 := hA.2.2.2.2.1.2.2.2.2.2.2.1 s s0 s1
  have hv1 := vk_of hA hw
  refine rlkG (d := d + 81) (n := N3) (cl := ar.map (clO (a_T A))) (r := 2100 * t + (ba : Int)) (E := a_E A) (e := e) (RE := fun _ => False) (RF := fun Z => w_ML Z ∧ rRun S0 Sb HT cs ms os X mo t (u_Q A H2 C2 W2 l ds) Z ∧ rAim t (a_K A t) ba bh en Z ∧ (Z 237 166 = e.1 ∧ Z 237 167 = e.2.1 ∧ Z 237 177 = e.2.2.1 ∧ Z 237 169 = e.2.2.2.1 ∧ Z 237 170 = e.2.2.2.2.1 ∧ Z 237 171 = e.2.2.2.2.2.1 ∧ Z 237 81 = e.2.2.2.2.2.2.1) ∧ Z 237 172 = (N3 : Int)) hZ.1.1 ⟨s0, by omega⟩ (by omega) rfl (fun o Z hz => rOc_o hz) (by rw [d4]; omega) (fun z => by rw [d4] at z; rw [d1]; omega) he8 (by rw [List.length_map]; exact hN3) (by rw [List.length_map]; exact (ec_8 hsi.2.1).1) (es_ok hsi.2.1 hv1) ?_ (wJ_mono (hlook Z hZ ha) (fun o Z hz => Or.inr hz)) (fun _ z => z.elim) (fun V hV => ?_) (fun V X9 hV hx9 => ?_)
  · rw [List.length_map]
    have := hsi.2.1.2.2.1
    have := hsi.2.1.2.2.2.1
    omega
  · obtain ⟨v1, v2, v3, v4, v5⟩ := hV
    obtain ⟨sl, hW⟩ := v2.1.2.2.1.1
    have z5 := v2.1.2.2.2.2.2.2.2.1.2.2.2.2.1
    have v47 : V 237 47 = S0 237 47 := (si_r v2.1 hsi).1
    obtain ⟨e1, e2, e3, e4⟩ := z5 s s0 (by omega)
    refine ⟨v1, v4, v5, v2.1.2.2.2.2.1, ⟨?_, ?_, by omega⟩, v3.2.1, ?_⟩
    · rw [d1]
      exact e1
    · rw [d4]
      exact e4
    · exact rCl_of ht (rT_of v2.1 ht) hW hT8 hv1 hsi.2.1
  · obtain ⟨v1, v2, v3, v4, v5⟩ := hV
    have v47 : V 237 47 = S0 237 47 := (si_r v2.1 hsi).1
    have hl8 : kLn (a_K (u_Q A H2 C2 W2 l ds) 0) ∧ kLn (a_K (u_Q A H2 C2 W2 l ds) 1) := hl9
    obtain ⟨r1, r2, r3⟩ := rn_R (A := (u_Q A H2 C2 W2 l ds)) (e := e) ht hl8 v2 ⟨s0, by omega⟩ v3 hx9
    exact hact X9 r1 r2 ⟨(r3 _).trans v4.1, (r3 _).trans v4.2.2.2.1, (r3 _).trans v4.2.2.2.2.1, (r3 _).trans v4.2.2.2.2.2.1⟩
/-- the reference has looked in vain -/
theorem rLk_x (h : hyA S0 p HT cs ms os X fa n B2 w t A s kd nms ne ec bh ba ar) (hlook : ∀ {Sb : wS} (Y : wS), rRun S0 Sb HT cs ms os X mo t A Y → rAim t (a_K A t) ba bh en Y → wJ (pe_GA xs) wY0 (fun _ => False) (d + 90) t_M_looks ((pe_at t_M_looks.bl 0).getD (0, [])).2 [(0, (2, 237)), (1, (0, s)), (2, (0, 1))] [] Y (fun o Z => o = .inr 238 ∧ (c ≠ 0 ∧ Z 238 5 = c ∧ rRun S0 Sb HT cs ms os X mo t A2 Z))) (Z : wS) (hZ : rRun S0 Sb HT cs ms os X mo t A Z) (ha : rAim t (a_K A t) ba bh en Z) : rI15 xs d S0 Sb HT cs ms os X mo t s kd (-1) c A2 Z := fun el kk => by
  obtain ⟨⟨hp, hw, hx⟩, hA, hB, ⟨hr, ho⟩, hsi, hme⟩ := id h
  obtain ⟨s0, s1, s2⟩ := hsi.2.2.1.1
  obtain ⟨c1, c2, c3, c4, c5, c6⟩ := hZ.1.2.2.2.2.2.2.2.1
  have s47 := (si_r hZ.1 hsi).1
  obtain ⟨d1, d2, d3, d4⟩ := c5 s s0 (by omega)
  have f7 := hA.2.2.2.2.1.2.2.2.2.2.2.1 s s0 s1
  exact rlkG (d := d + 81) (n := 0) (cl := []) (r := 0) (E := a_E A) (e := (0, 0, 0, 0, 0, 0, 0, 0, 0)) (RE := fun Z => c ≠ 0 ∧ Z 238 5 = c ∧ rRun S0 Sb HT cs ms os X mo t A2 Z) (RF := fun _ => False) hZ.1.1 ⟨s0, by omega⟩ (by omega) rfl (fun o Z hz => rOc_o hz) (by rw [d4]; omega) (fun z => by rw [d4] at z; rw [d1]; omega) ⟨rfl, rfl⟩ (Nat.le_refl _) (Nat.zero_le _) (fun c hc => absurd hc (List.not_mem_nil)) ⟨by decide, by decide⟩ (wJ_mono (hlook Z hZ ha) (fun o Z hz => Or.inl hz)) (fun Z hz => Or.inr ⟨rfl, hz⟩) (fun _ z => z.elim) (fun _ _ z => z.elim)

theorem cLk0_215 (h : hyA S0 p HT cs ms os X fa n B2 215 0 A s kd nms ne ec bh ba ar) (hL9 : stL S0) (hgk : ((a_K A 0).1.getD ba (0, 0, [])).1 = 4 ∨ ((a_K A 0).1.getD ba (0, 0, [])).1 = 5) (hgb : 0 ≤ ((a_K A 0).1.getD ba (0, 0, [])).2.1 ∧ ((a_K A 0).1.getD ba (0, 0, [])).2.1 < 8000) (hmk : mkL mk) (hY : cRel S0 p HT cs ms os X mo A Y) (ha : cAim 215 s kd ec ba ((a_K A 0).1.getD ba (0, 0, [])).1 nm es Y) (hcal : wJ (pe_GA xs) wY0 (mS sML) (d + 90) t_XL_lookAtThing ((pe_at t_XL_lookAtThing.bl 0).getD (0, [])).2 [(0, (2, 158)), (1, (0, ((a_K A 0).1.getD ba (0, 0, [])).2.1))] [] (bkZ (Y 158 14) 0 (w_up Y 160 0 (Y 160 0 + 1))) (fun o Z => o = .inl none ∧ RZ Z)) (hRZ : ∀ Z : wS, RZ Z → lkF 215 (Y 158 14) mk (bkZ (Y 158 14) 0 (w_up Y 160 0 (Y 160 0 + 1))) Z ∧ w_CL Z ∧ ((Z 215 16 = 0 ∧ cEc Z kd nms e (Y 158 14) ∧ cRel S0 p HT cs ms os X mo A1 Z) ∨ (Z 215 16 ≠ 0 ∧ Z 215 16 = c ∧ cRel S0 p HT cs ms os X mo A2 Z))) (hE1 : a_E A1 = a_E A) (hk1 : a_k A1 = a_k A) (hact : (∃ Z : wS, RZ Z ∧ Z 215 16 = 0) → cAct xs d S0 p HT cs ms os X mo 215 (u_N A1 s e) s kd nms ec ba ((a_K A 0).1.getD ba (0, 0, [])).1 nm es e c A2) : wJ (pe_GA xs) wY0 (mS sML) (d + 91) t_XL_look ((pe_at t_XL_look.bl 0).getD (0, [])).2 [(0, (2, 158))] [] Y (fun o X2 => ∃ y2 : Int, o = .inl (some (0, y2)) ∧ ((X2 215 16 ≠ 0 ∧ (X2 215 16 = c ∧ cRel S0 p HT cs ms os X mo A2 X2)) ∨ (X2 215 16 = 0 ∧ wJ (pe_GA xs) wY0 (mS sML) (d + 91) t_XL_act ((pe_at t_XL_act.bl 0).getD (0, [])).2 [(0, (2, 158)), (1, (0, y2))] [] X2 (fun o V => o = .inl none ∧ V 215 16 = c ∧ cRel S0 p HT cs ms os X mo A2 V)))) := by
  obtain ⟨⟨v4, v5, v6, v7, v8, v9, v10, v11, v12, v13⟩, v16⟩ := id ha
  have hAk := h.2.1.2.2.2.2.1
  obtain ⟨⟨hp, hw, hx⟩, hA, hB, ⟨hr, ho⟩, hsi, hme⟩ := id h
  obtain ⟨s0, s1, s2⟩ := hsi.2.2.1.1
  obtain ⟨g1, g2, g3, g4⟩ := si_c hx hY hsi
  obtain ⟨ix, fl, ow, hE⟩ := hY.2.2.2.2.1
  have hst := hY.2.2.2.2.2.2.2.2
  obtain ⟨c1, ⟨c2, c3⟩, c4, c5, c6⟩ := hY.2.2.2.2.2.2.2.1
  obtain ⟨d1, d2, d3, d4⟩ := c6 s s0 (by omega)
  have f7 := hAk.2.2.2.2.2.2.1 s s0 s1
  have a20 := hAk.2.2.2.2.2.1.2.2 (20 + 0) (by first | decide | omega) (by first | decide | omega)
  have c5l := c5 0 (by first | decide | omega)
  replace c5l : Y 160 0 = a_c A (20 + 0) := c5l
  have hfo : 0 ≤ Y 158 14 ∧ Y 158 14 < Y 48 (-1) := by
    have z1 := hE.2.2.2.1
    have z2 := hE.1.2.2.2
    omega
  have e34 : Y 34 (-1) = 12 := (hst 34 (-1) (by unfold cSta; omega)).trans hL9.1
  have e160 : Y 160 (-1) = 4 := (hst 160 (-1) (by unfold cSta; omega)).trans hL9.2.1
  have v10b : Y 158 10 = ((a_K A 0).1.getD ba (0, 0, [])).2.1 := by rw [v10]; exact gb_c h hY (by omega)
  refine wJ_mono (lkG_215 (d := d + 85) (ml := sML) (mk := mk) (RZ := RZ) (e := e) (l := 0) (kd := kd) (nms := nms) (fo := Y 158 14) hE ⟨s0, by omega⟩ v4 v6 rfl g2 g3 (by rw [d4]; omega) (fun z => by rw [d4] at z; rw [d1]; omega) e34 (by first | decide | omega) hmk (by first | decide | omega) (fun Q hQ => lok0_215 (d := d + 85) (ty := 0) (ml := sML) (Q := Q) (R := RZ) hY.1.1 hE.1 v4 v6 v7 v9 v10b v11 v13 rfl hfo hgk hgb (by omega) hcal hQ no_sM.2.2 e160) (fun Z hz => ⟨(hRZ Z hz).1, (hRZ Z hz).2.1, fun z => by rcases (hRZ Z hz).2.2 with q | q; exact q.2.1; exact absurd z q.1⟩)) (fun o V hv => ?_)
  obtain ⟨y, y1, Z, z1, z2⟩ := hv
  refine ⟨y, y1, ?_⟩
  obtain ⟨zf, zc, zz⟩ := hRZ Z z1
  rcases z2 with ⟨z3, rfl⟩ | ⟨z3, z4⟩
  · rcases zz with q | q
    · exact absurd q.1 z3
    · exact Or.inl ⟨z3, q.2⟩
  · rcases zz with q | q
    · right
      rw [← hE1] at z4
      have sf := (lkF_se hE rfl (isWt_w hw) hmk (l := 0) (by first | decide | omega) hfo.1 zf).2
      have g8 : ∀ x : Int, Z 158 x = Y 158 x := fun x => sf 158 x (by first | decide | omega) (by first | decide | omega) (by omega) (by omega) (by omega) (fun hm => by have := hmk 158 x hm; omega)
      have g19 : Z 19 9 = Y 19 9 := sf 19 9 (by first | decide | omega) (by first | decide | omega) (by omega) (by omega) (by omega) (fun hm => by have := hmk 19 9 hm; omega)
      have ha2 : cAim 215 s kd ec ba ((a_K A 0).1.getD ba (0, 0, [])).1 nm es Z := ⟨⟨(g8 4).trans v4, (g8 5).trans v5, (g8 6).trans v6, (g8 7).trans v7, (g8 8).trans v8, (g8 9).trans v9, by rw [g8 10, sf 218 _ (by first | decide | omega) (by first | decide | omega) (by omega) (by omega) (by omega) (fun hm => by have := hmk 218 _ hm; omega)]; exact v10, (g8 11).trans v11, (g8 12).trans v12, (g8 13).trans v13⟩, z3⟩
      obtain ⟨r1, r2, r3, r4⟩ := ln_R hp hw q.2.2 ⟨s0, by omega⟩ ha2 z4
      exact ⟨r2.2, hact ⟨Z, z1, z3⟩ V y r1 r2 r3 r4⟩
    · exact absurd z3 q.1

theorem cLk0_226 (h : hyA S0 p HT cs ms os X fa n B2 226 1 A s kd nms ne ec bh ba ar) (hL9 : stL S0) (hgk : ((a_K A 1).1.getD ba (0, 0, [])).1 = 4 ∨ ((a_K A 1).1.getD ba (0, 0, [])).1 = 5) (hgb : 0 ≤ ((a_K A 1).1.getD ba (0, 0, [])).2.1 ∧ ((a_K A 1).1.getD ba (0, 0, [])).2.1 < 8000) (hmk : mkL mk) (hY : cRel S0 p HT cs ms os X mo A Y) (ha : cAim 226 s kd ec ba ((a_K A 1).1.getD ba (0, 0, [])).1 nm es Y) (hcal : wJ (pe_GA xs) wY0 (mS sML) (d + 90) t_XL_lookAtThing ((pe_at t_XL_lookAtThing.bl 0).getD (0, [])).2 [(0, (2, 158)), (1, (0, ((a_K A 1).1.getD ba (0, 0, [])).2.1))] [] (bkZ (Y 158 14) 0 (w_up Y 160 0 (Y 160 0 + 1))) (fun o Z => o = .inl none ∧ RZ Z)) (hRZ : ∀ Z : wS, RZ Z → lkF 226 (Y 158 14) mk (bkZ (Y 158 14) 0 (w_up Y 160 0 (Y 160 0 + 1))) Z ∧ w_CL Z ∧ ((Z 226 16 = 0 ∧ cEc Z kd nms e (Y 158 14) ∧ cRel S0 p HT cs ms os X mo A1 Z) ∨ (Z 226 16 ≠ 0 ∧ Z 226 16 = c ∧ cRel S0 p HT cs ms os X mo A2 Z))) (hE1 : a_E A1 = a_E A) (hk1 : a_k A1 = a_k A) (hact : (∃ Z : wS, RZ Z ∧ Z 226 16 = 0) → cAct xs d S0 p HT cs ms os X mo 226 (u_N A1 s e) s kd nms ec ba ((a_K A 1).1.getD ba (0, 0, [])).1 nm es e c A2) : wJ (pe_GA xs) wY0 (mS sML) (d + 91) t_XL_look ((pe_at t_XL_look.bl 0).getD (0, [])).2 [(0, (2, 158))] [] Y (fun o X2 => ∃ y2 : Int, o = .inl (some (0, y2)) ∧ ((X2 226 16 ≠ 0 ∧ (X2 226 16 = c ∧ cRel S0 p HT cs ms os X mo A2 X2)) ∨ (X2 226 16 = 0 ∧ wJ (pe_GA xs) wY0 (mS sML) (d + 91) t_XL_act ((pe_at t_XL_act.bl 0).getD (0, [])).2 [(0, (2, 158)), (1, (0, y2))] [] X2 (fun o V => o = .inl none ∧ V 226 16 = c ∧ cRel S0 p HT cs ms os X mo A2 V)))) := by
  obtain ⟨⟨v4, v5, v6, v7, v8, v9, v10, v11, v12, v13⟩, v16⟩ := id ha
  have hAk := h.2.1.2.2.2.2.1
  obtain ⟨⟨hp, hw, hx⟩, hA, hB, ⟨hr, ho⟩, hsi, hme⟩ := id h
  obtain ⟨s0, s1, s2⟩ := hsi.2.2.1.1
  obtain ⟨g1, g2, g3, g4⟩ := si_c hx hY hsi
  obtain ⟨ix, fl, ow, hE⟩ := hY.2.2.2.2.1
  have hst := hY.2.2.2.2.2.2.2.2
  obtain ⟨c1, ⟨c2, c3⟩, c4, c5, c6⟩ := hY.2.2.2.2.2.2.2.1
  obtain ⟨d1, d2, d3, d4⟩ := c6 s s0 (by omega)
  have f7 := hAk.2.2.2.2.2.2.1 s s0 s1
  have a20 := hAk.2.2.2.2.2.1.2.2 (20 + 0) (by first | decide | omega) (by first | decide | omega)
  have c5l := c5 0 (by first | decide | omega)
  replace c5l : Y 160 0 = a_c A (20 + 0) := c5l
  have hfo : 0 ≤ Y 158 14 ∧ Y 158 14 < Y 48 (-1) := by
    have z1 := hE.2.2.2.1
    have z2 := hE.1.2.2.2
    omega
  have e34 : Y 34 (-1) = 12 := (hst 34 (-1) (by unfold cSta; omega)).trans hL9.1
  have e160 : Y 160 (-1) = 4 := (hst 160 (-1) (by unfold cSta; omega)).trans hL9.2.1
  have v10b : Y 158 10 = ((a_K A 1).1.getD ba (0, 0, [])).2.1 := by rw [v10]; exact gb_c h hY (by omega)
  refine wJ_mono (lkG_226 (d := d + 85) (ml := sML) (mk := mk) (RZ := RZ) (e := e) (l := 0) (kd := kd) (nms := nms) (fo := Y 158 14) hE ⟨s0, by omega⟩ v4 v6 rfl g2 g3 (by rw [d4]; omega) (fun z => by rw [d4] at z; rw [d1]; omega) e34 (by first | decide | omega) hmk (by first | decide | omega) (fun Q hQ => lok0_226 (d := d + 85) (ty := 0) (ml := sML) (Q := Q) (R := RZ) hY.1.1 hE.1 v4 v6 v7 v9 v10b v11 v13 rfl hfo hgk hgb (by omega) hcal hQ no_sM.2.2 e160) (fun Z hz => ⟨(hRZ Z hz).1, (hRZ Z hz).2.1, fun z => by rcases (hRZ Z hz).2.2 with q | q; exact q.2.1; exact absurd z q.1⟩)) (fun o V hv => ?_)
  obtain ⟨y, y1, Z, z1, z2⟩ := hv
  refine ⟨y, y1, ?_⟩
  obtain ⟨zf, zc, zz⟩ := hRZ Z z1
  rcases z2 with ⟨z3, rfl⟩ | ⟨z3, z4⟩
  · rcases zz with q | q
    · exact absurd q.1 z3
    · exact Or.inl ⟨z3, q.2⟩
  · rcases zz with q | q
    · right
      rw [← hE1] at z4
      have sf := (lkF_se hE rfl (isWt_w hw) hmk (l := 0) (by first | decide | omega) hfo.1 zf).2
      have g8 : ∀ x : Int, Z 158 x = Y 158 x := fun x => sf 158 x (by first | decide | omega) (by first | decide | omega) (by omega) (by omega) (by omega) (fun hm => by have := hmk 158 x hm; omega)
      have g19 : Z 19 9 = Y 19 9 := sf 19 9 (by first | decide | omega) (by first | decide | omega) (by omega) (by omega) (by omega) (fun hm => by have := hmk 19 9 hm; omega)
      have ha2 : cAim 226 s kd ec ba ((a_K A 1).1.getD ba (0, 0, [])).1 nm es Z := ⟨⟨(g8 4).trans v4, (g8 5).trans v5, (g8 6).trans v6, (g8 7).trans v7, (g8 8).trans v8, (g8 9).trans v9, by rw [g8 10, sf 229 _ (by first | decide | omega) (by first | decide | omega) (by omega) (by omega) (by omega) (fun hm => by have := hmk 229 _ hm; omega)]; exact v10, (g8 11).trans v11, (g8 12).trans v12, (g8 13).trans v13⟩, z3⟩
      obtain ⟨r1, r2, r3, r4⟩ := ln_R hp hw q.2.2 ⟨s0, by omega⟩ ha2 z4
      exact ⟨r2.2, hact ⟨Z, z1, z3⟩ V y r1 r2 r3 r4⟩
    · exact absurd z3 q.1

theorem cLk3_215 (h : hyA S0 p HT cs ms os X fa n B2 215 0 A s kd nms ne ec bh ba ar) (hL9 : stL S0) (hgk : ((a_K A 0).1.getD ba (0, 0, [])).1 = 3 ∨ ((a_K A 0).1.getD ba (0, 0, [])).1 = 6) (hmk : mkL mk) (hY : cRel S0 p HT cs ms os X mo A Y) (ha : cAim 215 s kd ec ba ((a_K A 0).1.getD ba (0, 0, [])).1 nm es Y) (hcal : wJ (pe_GA xs) wY0 (mS sML) (d + 90) t_XL_lookAtRow ((pe_at t_XL_lookAtRow.bl 0).getD (0, [])).2 [(0, (2, 158))] [] (bkZ (Y 158 14) 3 (w_up Y 160 3 (Y 160 3 + 1))) (fun o Z => o = .inl none ∧ RZ Z)) (hRZ : ∀ Z : wS, RZ Z → lkF 215 (Y 158 14) mk (bkZ (Y 158 14) 3 (w_up Y 160 3 (Y 160 3 + 1))) Z ∧ w_CL Z ∧ ((Z 215 16 = 0 ∧ cEc Z kd nms e (Y 158 14) ∧ cRel S0 p HT cs ms os X mo A1 Z) ∨ (Z 215 16 ≠ 0 ∧ Z 215 16 = c ∧ cRel S0 p HT cs ms os X mo A2 Z))) (hE1 : a_E A1 = a_E A) (hk1 : a_k A1 = a_k A) (hact : (∃ Z : wS, RZ Z ∧ Z 215 16 = 0) → cAct xs d S0 p HT cs ms os X mo 215 (u_N A1 s e) s kd nms ec ba ((a_K A 0).1.getD ba (0, 0, [])).1 nm es e c A2) : wJ (pe_GA xs) wY0 (mS sML) (d + 91) t_XL_look ((pe_at t_XL_look.bl 0).getD (0, [])).2 [(0, (2, 158))] [] Y (fun o X2 => ∃ y2 : Int, o = .inl (some (0, y2)) ∧ ((X2 215 16 ≠ 0 ∧ (X2 215 16 = c ∧ cRel S0 p HT cs ms os X mo A2 X2)) ∨ (X2 215 16 = 0 ∧ wJ (pe_GA xs) wY0 (mS sML) (d + 91) t_XL_act ((pe_at t_XL_act.bl 0).getD (0, [])).2 [(0, (2, 158)), (1, (0, y2))] [] X2 (fun o V => o = .inl none ∧ V 215 16 = c ∧ cRel S0 p HT cs ms os X mo A2 V)))) := by
  obtain ⟨⟨v4, v5, v6, v7, v8, v9, v10, v11, v12, v13⟩, v16⟩ := id ha
  have hAk := h.2.1.2.2.2.2.1
  obtain ⟨⟨hp, hw, hx⟩, hA, hB, ⟨hr, ho⟩, hsi, hme⟩ := id h
  obtain ⟨s0, s1, s2⟩ := hsi.2.2.1.1
  obtain ⟨g1, g2, g3, g4⟩ := si_c hx hY hsi
  obtain ⟨ix, fl, ow, hE⟩ := hY.2.2.2.2.1
  have hst := hY.2.2.2.2.2.2.2.2
  obtain ⟨c1, ⟨c2, c3⟩, c4, c5, c6⟩ := hY.2.2.2.2.2.2.2.1
  obtain ⟨d1, d2, d3, d4⟩ := c6 s s0 (by omega)
  have f7 := hAk.2.2.2.2.2.2.1 s s0 s1
  have a20 := hAk.2.2.2.2.2.1.2.2 (20 + 3) (by first | decide | omega) (by first | decide | omega)
  have c5l := c5 3 (by first | decide | omega)
  replace c5l : Y 160 3 = a_c A (20 + 3) := c5l
  have hfo : 0 ≤ Y 158 14 ∧ Y 158 14 < Y 48 (-1) := by
    have z1 := hE.2.2.2.1
    have z2 := hE.1.2.2.2
    omega
  have e34 : Y 34 (-1) = 12 := (hst 34 (-1) (by unfold cSta; omega)).trans hL9.1
  have e160 : Y 160 (-1) = 4 := (hst 160 (-1) (by unfold cSta; omega)).trans hL9.2.1
  have v10b : Y 158 10 = Y 218 (ba : Int) := v10
  refine wJ_mono (lkG_215 (d := d + 85) (ml := sML) (mk := mk) (RZ := RZ) (e := e) (l := 3) (kd := kd) (nms := nms) (fo := Y 158 14) hE ⟨s0, by omega⟩ v4 v6 rfl g2 g3 (by rw [d4]; omega) (fun z => by rw [d4] at z; rw [d1]; omega) e34 (by first | decide | omega) hmk (by first | decide | omega) (fun Q hQ => lok3_215 (d := d + 85) (ty := 0) (ml := sML) (Q := Q) (R := RZ) hY.1.1 hE.1 v4 v6 v7 v9 v10b v11 v13 rfl hfo hgk (by omega) hcal hQ no_sM.2.2 e160) (fun Z hz => ⟨(hRZ Z hz).1, (hRZ Z hz).2.1, fun z => by rcases (hRZ Z hz).2.2 with q | q; exact q.2.1; exact absurd z q.1⟩)) (fun o V hv => ?_)
  obtain ⟨y, y1, Z, z1, z2⟩ := hv
  refine ⟨y, y1, ?_⟩
  obtain ⟨zf, zc, zz⟩ := hRZ Z z1
  rcases z2 with ⟨z3, rfl⟩ | ⟨z3, z4⟩
  · rcases zz with q | q
    · exact absurd q.1 z3
    · exact Or.inl ⟨z3, q.2⟩
  · rcases zz with q | q
    · right
      rw [← hE1] at z4
      have sf := (lkF_se hE rfl (isWt_w hw) hmk (l := 3) (by first | decide | omega) hfo.1 zf).2
      have g8 : ∀ x : Int, Z 158 x = Y 158 x := fun x => sf 158 x (by first | decide | omega) (by first | decide | omega) (by omega) (by omega) (by omega) (fun hm => by have := hmk 158 x hm; omega)
      have g19 : Z 19 9 = Y 19 9 := sf 19 9 (by first | decide | omega) (by first | decide | omega) (by omega) (by omega) (by omega) (fun hm => by have := hmk 19 9 hm; omega)
      have ha2 : cAim 215 s kd ec ba ((a_K A 0).1.getD ba (0, 0, [])).1 nm es Z := ⟨⟨(g8 4).trans v4, (g8 5).trans v5, (g8 6).trans v6, (g8 7).trans v7, (g8 8).trans v8, (g8 9).trans v9, by rw [g8 10, sf 218 _ (by first | decide | omega) (by first | decide | omega) (by omega) (by omega) (by omega) (fun hm => by have := hmk 218 _ hm; omega)]; exact v10, (g8 11).trans v11, (g8 12).trans v12, (g8 13).trans v13⟩, z3⟩
      obtain ⟨r1, r2, r3, r4⟩ := ln_R hp hw q.2.2 ⟨s0, by omega⟩ ha2 z4
      exact ⟨r2.2, hact ⟨Z, z1, z3⟩ V y r1 r2 r3 r4⟩
    · exact absurd z3 q.1

theorem cLk3_226 (h : hyA S0 p HT cs ms os X fa n B2 226 1 A s kd nms ne ec bh ba ar) (hL9 : stL S0) (hgk : ((a_K A 1).1.getD ba (0, 0, [])).1 = 3 ∨ ((a_K A 1).1.getD ba (0, 0, [])).1 = 6) (hmk : mkL mk) (hY : cRel S0 p HT cs ms os X mo A Y) (ha : cAim 226 s kd ec ba ((a_K A 1).1.getD ba (0, 0, [])).1 nm es Y) (hcal : wJ (pe_GA xs) wY0 (mS sML) (d + 90) t_XL_lookAtRow ((pe_at t_XL_lookAtRow.bl 0).getD (0, [])).2 [(0, (2, 158))] [] (bkZ (Y 158 14) 3 (w_up Y 160 3 (Y 160 3 + 1))) (fun o Z => o = .inl none ∧ RZ Z)) (hRZ : ∀ Z : wS, RZ Z → lkF 226 (Y 158 14) mk (bkZ (Y 158 14) 3 (w_up Y 160 3 (Y 160 3 + 1))) Z ∧ w_CL Z ∧ ((Z 226 16 = 0 ∧ cEc Z kd nms e (Y 158 14) ∧ cRel S0 p HT cs ms os X mo A1 Z) ∨ (Z 226 16 ≠ 0 ∧ Z 226 16 = c ∧ cRel S0 p HT cs ms os X mo A2 Z))) (hE1 : a_E A1 = a_E A) (hk1 : a_k A1 = a_k A) (hact : (∃ Z : wS, RZ Z ∧ Z 226 16 = 0) → cAct xs d S0 p HT cs ms os X mo 226 (u_N A1 s e) s kd nms ec ba ((a_K A 1).1.getD ba (0, 0, [])).1 nm es e c A2) : wJ (pe_GA xs) wY0 (mS sML) (d + 91) t_XL_look ((pe_at t_XL_look.bl 0).getD (0, [])).2 [(0, (2, 158))] [] Y (fun o X2 => ∃ y2 : Int, o = .inl (some (0, y2)) ∧ ((X2 226 16 ≠ 0 ∧ (X2 226 16 = c ∧ cRel S0 p HT cs ms os X mo A2 X2)) ∨ (X2 226 16 = 0 ∧ wJ (pe_GA xs) wY0 (mS sML) (d + 91) t_XL_act ((pe_at t_XL_act.bl 0).getD (0, [])).2 [(0, (2, 158)), (1, (0, y2))] [] X2 (fun o V => o = .inl none ∧ V 226 16 = c ∧ cRel S0 p HT cs ms os X mo A2 V)))) := by
  obtain ⟨⟨v4, v5, v6, v7, v8, v9, v10, v11, v12, v13⟩, v16⟩ := id ha
  have hAk := h.2.1.2.2.2.2.1
  obtain ⟨⟨hp, hw, hx⟩, hA, hB, ⟨hr, ho⟩, hsi, hme⟩ := id h
  obtain ⟨s0, s1, s2⟩ := hsi.2.2.1.1
  obtain ⟨g1, g2, g3, g4⟩ := si_c hx hY hsi
  obtain ⟨ix, fl, ow, hE⟩ := hY.2.2.2.2.1
  have hst := hY.2.2.2.2.2.2.2.2
  obtain ⟨c1, ⟨c2, c3⟩, c4, c5, c6⟩ := hY.2.2.2.2.2.2.2.1
  obtain ⟨d1, d2, d3, d4⟩ := c6 s s0 (by omega)
  have f7 := hAk.2.2.2.2.2.2.1 s s0 s1
  have a20 := hAk.2.2.2.2.2.1.2.2 (20 + 3) (by first | decide | omega) (by first | decide | omega)
  have c5l := c5 3 (by first | decide | omega)
  replace c5l : Y 160 3 = a_c A (20 + 3) := c5l
  have hfo : 0 ≤ Y 158 14 ∧ Y 158 14 < Y 48 (-1) := by
    have z1 := hE.2.2.2.1
    have z2 := hE.1.2.2.2
    omega
  have e34 : Y 34 (-1) = 12 := (hst 34 (-1) (by unfold cSta; omega)).trans hL9.1
  have e160 : Y 160 (-1) = 4 := (hst 160 (-1) (by unfold cSta; omega)).trans hL9.2.1
  have v10b : Y 158 10 = Y 229 (ba : Int) := v10
  refine wJ_mono (lkG_226 (d := d + 85) (ml := sML) (mk := mk) (RZ := RZ) (e := e) (l := 3) (kd := kd) (nms := nms) (fo := Y 158 14) hE ⟨s0, by omega⟩ v4 v6 rfl g2 g3 (by rw [d4]; omega) (fun z => by rw [d4] at z; rw [d1]; omega) e34 (by first | decide | omega) hmk (by first | decide | omega) (fun Q hQ => lok3_226 (d := d + 85) (ty := 0) (ml := sML) (Q := Q) (R := RZ) hY.1.1 hE.1 v4 v6 v7 v9 v10b v11 v13 rfl hfo hgk (by omega) hcal hQ no_sM.2.2 e160) (fun Z hz => ⟨(hRZ Z hz).1, (hRZ Z hz).2.1, fun z => by rcases (hRZ Z hz).2.2 with q | q; exact q.2.1; exact absurd z q.1⟩)) (fun o V hv => ?_)
  obtain ⟨y, y1, Z, z1, z2⟩ := hv
  refine ⟨y, y1, ?_⟩
  obtain ⟨zf, zc, zz⟩ := hRZ Z z1
  rcases z2 with ⟨z3, rfl⟩ | ⟨z3, z4⟩
  · rcases zz with q | q
    · exact absurd q.1 z3
    · exact Or.inl ⟨z3, q.2⟩
  · rcases zz with q | q
    · right
      rw [← hE1] at z4
      have sf := (lkF_se hE rfl (isWt_w hw) hmk (l := 3) (by first | decide | omega) hfo.1 zf).2
      have g8 : ∀ x : Int, Z 158 x = Y 158 x := fun x => sf 158 x (by first | decide | omega) (by first | decide | omega) (by omega) (by omega) (by omega) (fun hm => by have := hmk 158 x hm; omega)
      have g19 : Z 19 9 = Y 19 9 := sf 19 9 (by first | decide | omega) (by first | decide | omega) (by omega) (by omega) (by omega) (fun hm => by have := hmk 19 9 hm; omega)
      have ha2 : cAim 226 s kd ec ba ((a_K A 1).1.getD ba (0, 0, [])).1 nm es Z := ⟨⟨(g8 4).trans v4, (g8 5).trans v5, (g8 6).trans v6, (g8 7).trans v7, (g8 8).trans v8, (g8 9).trans v9, by rw [g8 10, sf 229 _ (by first | decide | omega) (by first | decide | omega) (by omega) (by omega) (by omega) (fun hm => by have := hmk 229 _ hm; omega)]; exact v10, (g8 11).trans v11, (g8 12).trans v12, (g8 13).trans v13⟩, z3⟩
      obtain ⟨r1, r2, r3, r4⟩ := ln_R hp hw q.2.2 ⟨s0, by omega⟩ ha2 z4
      exact ⟨r2.2, hact ⟨Z, z1, z3⟩ V y r1 r2 r3 r4⟩
    · exact absurd z3 q.1

end Wlo
