/-! PART lq: looking at things, on both sides: errors, and funs that are called. -/
section Wlq
variable {Sb : wS} {xs : List (Nat × List Int32)} {d : Nat} {S0 S Z : wS} {p w m : Nat} {HT : Int → Int} {cs : List hCR} {ms : List hMR} {os : Int → List Int} {X : List (List Int)} {mo t n B B2 oq : Int} {fa : Int → Int} {WE : aA → Prop} {A A2 : aA} {K2 : aK} {ml : List Nat} {k c s kd nms ne ec bh nm en : Int} {b ba : Nat} {ar : List aV} {e : aE} {V Z2 Y : wS} {o : wO} {dn : Int} {H2 : List aH} {N2 : List (List Int)} {E2 : Int → List aE} {C2 : List aQ} {W2 : Int} {c2 : Int → Int} {k2 : Int → Int → Int} {mk rk : Nat → Int → Prop} {K : aK} {T : List aO} {H : List aH} {E : Int → List aE} {gk gb es lo hi a : Int} {r : List aE × Int × Option aE} {A1 : aA} {tl cl : List Int} {sl : Nat → List Int} {L : List aC} {G : Int → aV} {u : aV} {x : List Int} {T2 : List aO} {L2 : List aC} {G2 : Int → aV} {H2 : List aH} {c2 : Int → Int} {y : Int} {Q : wO → wS → Prop} {ps : List (Int × aV)} {k hd wh : Int} {f a9 pn fn md : Int} {vn m9 : Nat} {th : aV} {g : Int} {lp : List aV} {l ds fo g : Int} {mk : Nat → Int → Prop} {C2 : List aQ} {W2 : Int} {RZ : wS → Prop} {N3 : Nat} {SB : wS}

theorem cxe_215 (h : hyA S0 p HT cs ms os X fa n B2 215 0 A s kd nms ne ec bh ba ar) (hL9 : stL S0) (hgk : ((a_K A 0).1.getD ba (0, 0, [])).1 = 4 ∨ ((a_K A 0).1.getD ba (0, 0, [])).1 = 5) (hc0 : c ≠ 0) (hcal : ∀ Y : wS, cRel S0 p HT cs ms os X mo A Y → cAim 215 s kd ec ba ((a_K A 0).1.getD ba (0, 0, [])).1 nm es Y → wJ (pe_GA xs) wY0 (mS sML) (d + 90) t_XL_lookAtThing ((pe_at t_XL_lookAtThing.bl 0).getD (0, [])).2 [(0, (2, 158)), (1, (0, ((a_K A 0).1.getD ba (0, 0, [])).2.1))] [] (bkZ (Y 158 14) 0 (w_up Y 160 0 (Y 160 0 + 1))) (fun o Z => o = .inl none ∧ (Z 215 16 = c ∧ ∀ (j : Nat) (x : Int), ¬ (48 ≤ j ∧ j ≤ 56 ∧ x = Y 158 14) → (j ≠ 215 ∨ x ≠ 16) → Z j x = (bkZ (Y 158 14) 0 (w_up Y 160 0 (Y 160 0 + 1))) j x))) : cLook xs d S0 p HT cs ms os X mo 215 A s kd ec ba ((a_K A 0).1.getD ba (0, 0, [])).1 nm es c (u_Q A (a_H A) (a_C A) (a_W A) 0 0) := fun Y hY ha => by
  obtain ⟨go1, go2, go3⟩ := gO h hgk
  have hT8 := hA_T h
  obtain ⟨⟨b1, b2, b3, b4, b5⟩, ⟨l4, l7, l9, l10, l11, l13, l14⟩, hfo, b11, b15, b16⟩ := cB_0 h hY ha (by omega)
  obtain ⟨⟨hp, hw, hx⟩, hA, hB, ⟨hr, ho⟩, hsi, hme⟩ := id h
  refine cLk0_215 (mk := fun _ _ => False) (RZ := fun Z => Z 215 16 = c ∧ ∀ (j : Nat) (x : Int), ¬ (48 ≤ j ∧ j ≤ 56 ∧ x = Y 158 14) → (j ≠ 215 ∨ x ≠ 16) → Z j x = (bkZ (Y 158 14) 0 (w_up Y 160 0 (Y 160 0 + 1))) j x) (A1 := A) (e := ((0 : Int), (0 : Int), (0 : Int), (0 : Int), (0 : Int), (0 : Int), (0 : Int), (0 : Int), (0 : Int))) (nms := nms) h hL9 hgk ⟨go1.1.1, by have := go1.1.2; omega⟩ (fun _ _ z => z.elim) hY ha (hcal Y hY ha) (fun Z hz => ?_) rfl rfl (fun z => ?_)
  · obtain ⟨r1, r2, r3⟩ := lk_pl (l := 0) hp hw hY (by first | decide | omega) hfo.1 hz.2
    exact ⟨r1, r2, Or.inr ⟨by rw [hz.1]; exact hc0, hz.1, r3⟩⟩
  · obtain ⟨Z, z1, z2⟩ := z
    rw [z1.1] at z2
    exact absurd z2 hc0
theorem cec_215 (h : hyA S0 p HT cs ms os X fa n B2 215 0 A s kd nms ne ec bh ba ar) (hL9 : stL S0) (hkd : kd = 4 ∨ kd = 6) (hgk : ((a_K A 0).1.getD ba (0, 0, [])).1 = 4) : cLook xs d S0 p HT cs ms os X mo 215 A s kd ec ba ((a_K A 0).1.getD ba (0, 0, [])).1 nm es 5 (u_Q A (a_H A) (a_C A) (a_W A) 0 0) := by
  have hT8 := hA_T h
  obtain ⟨go1, go2, go3⟩ := gO h (Or.inl hgk)
  refine cxe_215 h hL9 (Or.inl hgk) (by first | decide | omega) (fun Y hY ha => ?_)
  obtain ⟨⟨b1, b2, b3, b4, b5⟩, ⟨l4, l7, l9, l10, l11, l13, l14⟩, hfo, b11, b15, b16⟩ := cB_0 h hY ha (by omega)
  refine wJ_mono (latc_215 (L := a_L A) (G := a_G A) b1 b3 b4 l4 l7 l9 l10 l11 l13 l14 hfo hT8 go1 hkd (Or.inl hgk)) (fun o Z hz => ⟨hz.1, ?_⟩)
  rcases hz.2 with z | ⟨_, rfl⟩
  · exact absurd z.1 (by omega)
  · exact ⟨w_up_same _ _ _ _, fun j x a1 a2 => by rw [w_up_no (by omega), w_up_no (by omega)]⟩
theorem cen_215 (h : hyA S0 p HT cs ms os X fa n B2 215 0 A s kd nms ne ec bh ba ar) (hL9 : stL S0) (hkd : kd = 2 ∨ kd = 3) (hgk : ((a_K A 0).1.getD ba (0, 0, [])).1 = 4 ∨ ((a_K A 0).1.getD ba (0, 0, [])).1 = 5) (hnm : nm = -1) : cLook xs d S0 p HT cs ms os X mo 215 A s kd ec ba ((a_K A 0).1.getD ba (0, 0, [])).1 nm es 6 (u_Q A (a_H A) (a_C A) (a_W A) 0 0) := by
  have hT8 := hA_T h
  obtain ⟨go1, go2, go3⟩ := gO h hgk
  refine cxe_215 h hL9 hgk (by first | decide | omega) (fun Y hY ha => ?_)
  obtain ⟨⟨b1, b2, b3, b4, b5⟩, ⟨l4, l7, l9, l10, l11, l13, l14⟩, hfo, b11, b15, b16⟩ := cB_0 h hY ha (by omega)
  refine wJ_mono (latn_215 (L := a_L A) (G := a_G A) b1 b3 b4 l4 l7 l9 l10 l11 l13 l14 hfo hT8 go1 ⟨by omega, by omega⟩ hnm) (fun o Z hz => ⟨hz.1, ?_⟩)
  obtain ⟨_, rfl⟩ := hz
  exact ⟨w_up_same _ _ _ _, fun j x a1 a2 => w_up_no (by omega)⟩
theorem ckc_215 (h : hyA S0 p HT cs ms os X fa n B2 215 0 A s kd nms ne ec bh ba ar) (hL9 : stL S0) (hkd : kd = 4 ∨ kd = 6) (hgk : ((a_K A 0).1.getD ba (0, 0, [])).1 = 5) (hact : cAct xs d S0 p HT cs ms os X mo 215 (u_N (u_Q A (a_H A) (a_C A) (a_W A) 0 0) s (0, (tO (a_T A) ((a_K A 0).1.getD ba (0, 0, [])).2.1).2.2.1, -1, -1, -1, -1, a_c A 11, 0, 0)) s kd nms ec ba ((a_K A 0).1.getD ba (0, 0, [])).1 nm es (0, (tO (a_T A) ((a_K A 0).1.getD ba (0, 0, [])).2.1).2.2.1, -1, -1, -1, -1, a_c A 11, 0, 0) c A2) : cLook xs d S0 p HT cs ms os X mo 215 A s kd ec ba ((a_K A 0).1.getD ba (0, 0, [])).1 nm es c A2 := fun Y hY ha => by
  have hT8 := hA_T h
  obtain ⟨go1, go2, go3⟩ := gO h (Or.inr hgk)
  obtain ⟨⟨b1, b2, b3, b4, b5⟩, ⟨l4, l7, l9, l10, l11, l13, l14⟩, hfo, b11, b15, b16⟩ := cB_0 h hY ha (by omega)
  obtain ⟨⟨hp, hw, hx⟩, hA, hB, ⟨hr, ho⟩, hsi, hme⟩ := id h
  refine cLk0_215 (mk := fun _ _ => False) (RZ := fun Z => w_up (bkZ (Y 158 14) 0 (w_up Y 160 0 (Y 160 0 + 1))) 49 (Y 158 14) (tO (a_T A) ((a_K A 0).1.getD ba (0, 0, [])).2.1).2.2.1 = Z) (A1 := (u_Q A (a_H A) (a_C A) (a_W A) 0 0)) (e := (0, (tO (a_T A) ((a_K A 0).1.getD ba (0, 0, [])).2.1).2.2.1, -1, -1, -1, -1, a_c A 11, 0, 0)) h hL9 (Or.inr hgk) ⟨go1.1.1, by have := go1.1.2; omega⟩ (fun _ _ z => z.elim) hY ha (wJ_mono (latc_215 (L := a_L A) (G := a_G A) b1 b3 b4 l4 l7 l9 l10 l11 l13 l14 hfo hT8 go1 hkd (Or.inr hgk)) (fun o Z hz => ⟨hz.1, ?_⟩)) (fun Z hz => ?_) rfl rfl (fun _ => hact)
  · rcases hz.2 with z | z
    · exact z.2
    · exact absurd z.1 (by omega)
  · obtain rfl := hz
    obtain ⟨r1, r2, r3⟩ := lk_pl (Z := w_up (bkZ (Y 158 14) 0 (w_up Y 160 0 (Y 160 0 + 1))) 49 (Y 158 14) (tO (a_T A) ((a_K A 0).1.getD ba (0, 0, [])).2.1).2.2.1) (l := 0) hp hw hY (by first | decide | omega) hfo.1 (fun j x a1 _ => w_up_no (by omega))
    exact ⟨r1, r2, Or.inl ⟨(w_up_no (by omega)).trans b16, cE_c bkZ_b hkd, r3⟩⟩

theorem cxe_226 (h : hyA S0 p HT cs ms os X fa n B2 226 1 A s kd nms ne ec bh ba ar) (hL9 : stL S0) (hgk : ((a_K A 1).1.getD ba (0, 0, [])).1 = 4 ∨ ((a_K A 1).1.getD ba (0, 0, [])).1 = 5) (hc0 : c ≠ 0) (hcal : ∀ Y : wS, cRel S0 p HT cs ms os X mo A Y → cAim 226 s kd ec ba ((a_K A 1).1.getD ba (0, 0, [])).1 nm es Y → wJ (pe_GA xs) wY0 (mS sML) (d + 90) t_XL_lookAtThing ((pe_at t_XL_lookAtThing.bl 0).getD (0, [])).2 [(0, (2, 158)), (1, (0, ((a_K A 1).1.getD ba (0, 0, [])).2.1))] [] (bkZ (Y 158 14) 0 (w_up Y 160 0 (Y 160 0 + 1))) (fun o Z => o = .inl none ∧ (Z 226 16 = c ∧ ∀ (j : Nat) (x : Int), ¬ (48 ≤ j ∧ j ≤ 56 ∧ x = Y 158 14) → (j ≠ 226 ∨ x ≠ 16) → Z j x = (bkZ (Y 158 14) 0 (w_up Y 160 0 (Y 160 0 + 1))) j x))) : cLook xs d S0 p HT cs ms os X mo 226 A s kd ec ba ((a_K A 1).1.getD ba (0, 0, [])).1 nm es c (u_Q A (a_H A) (a_C A) (a_W A) 0 0) := fun Y hY ha => by
  obtain ⟨go1, go2, go3⟩ := gO h hgk
  have hT8 := hA_T h
  obtain ⟨⟨b1, b2, b3, b4, b5⟩, ⟨l4, l7, l9, l10, l11, l13, l14⟩, hfo, b11, b15, b16⟩ := cB_0 h hY ha (by omega)
  obtain ⟨⟨hp, hw, hx⟩, hA, hB, ⟨hr, ho⟩, hsi, hme⟩ := id h
  refine cLk0_226 (mk := fun _ _ => False) (RZ := fun Z => Z 226 16 = c ∧ ∀ (j : Nat) (x : Int), ¬ (48 ≤ j ∧ j ≤ 56 ∧ x = Y 158 14) → (j ≠ 226 ∨ x ≠ 16) → Z j x = (bkZ (Y 158 14) 0 (w_up Y 160 0 (Y 160 0 + 1))) j x) (A1 := A) (e := ((0 : Int), (0 : Int), (0 : Int), (0 : Int), (0 : Int), (0 : Int), (0 : Int), (0 : Int), (0 : Int))) (nms := nms) h hL9 hgk ⟨go1.1.1, by have := go1.1.2; omega⟩ (fun _ _ z => z.elim) hY ha (hcal Y hY ha) (fun Z hz => ?_) rfl rfl (fun z => ?_)
  · obtain ⟨r1, r2, r3⟩ := lk_pl (l := 0) hp hw hY (by first | decide | omega) hfo.1 hz.2
    exact ⟨r1, r2, Or.inr ⟨by rw [hz.1]; exact hc0, hz.1, r3⟩⟩
  · obtain ⟨Z, z1, z2⟩ := z
    rw [z1.1] at z2
    exact absurd z2 hc0
theorem cec_226 (h : hyA S0 p HT cs ms os X fa n B2 226 1 A s kd nms ne ec bh ba ar) (hL9 : stL S0) (hkd : kd = 4 ∨ kd = 6) (hgk : ((a_K A 1).1.getD ba (0, 0, [])).1 = 4) : cLook xs d S0 p HT cs ms os X mo 226 A s kd ec ba ((a_K A 1).1.getD ba (0, 0, [])).1 nm es 5 (u_Q A (a_H A) (a_C A) (a_W A) 0 0) := by
  have hT8 := hA_T h
  obtain ⟨go1, go2, go3⟩ := gO h (Or.inl hgk)
  refine cxe_226 h hL9 (Or.inl hgk) (by first | decide | omega) (fun Y hY ha => ?_)
  obtain ⟨⟨b1, b2, b3, b4, b5⟩, ⟨l4, l7, l9, l10, l11, l13, l14⟩, hfo, b11, b15, b16⟩ := cB_0 h hY ha (by omega)
  refine wJ_mono (latc_226 (L := a_L A) (G := a_G A) b1 b3 b4 l4 l7 l9 l10 l11 l13 l14 hfo hT8 go1 hkd (Or.inl hgk)) (fun o Z hz => ⟨hz.1, ?_⟩)
  rcases hz.2 with z | ⟨_, rfl⟩
  · exact absurd z.1 (by omega)
  · exact ⟨w_up_same _ _ _ _, fun j x a1 a2 => by rw [w_up_no (by omega), w_up_no (by omega)]⟩
theorem cen_226 (h : hyA S0 p HT cs ms os X fa n B2 226 1 A s kd nms ne ec bh ba ar) (hL9 : stL S0) (hkd : kd = 2 ∨ kd = 3) (hgk : ((a_K A 1).1.getD ba (0, 0, [])).1 = 4 ∨ ((a_K A 1).1.getD ba (0, 0, [])).1 = 5) (hnm : nm = -1) : cLook xs d S0 p HT cs ms os X mo 226 A s kd ec ba ((a_K A 1).1.getD ba (0, 0, [])).1 nm es 6 (u_Q A (a_H A) (a_C A) (a_W A) 0 0) := by
  have hT8 := hA_T h
  obtain ⟨go1, go2, go3⟩ := gO h hgk
  refine cxe_226 h hL9 hgk (by first | decide | omega) (fun Y hY ha => ?_)
  obtain ⟨⟨b1, b2, b3, b4, b5⟩, ⟨l4, l7, l9, l10, l11, l13, l14⟩, hfo, b11, b15, b16⟩ := cB_0 h hY ha (by omega)
  refine wJ_mono (latn_226 (L := a_L A) (G := a_G A) b1 b3 b4 l4 l7 l9 l10 l11 l13 l14 hfo hT8 go1 ⟨by omega, by omega⟩ hnm) (fun o Z hz => ⟨hz.1, ?_⟩)
  obtain ⟨_, rfl⟩ := hz
  exact ⟨w_up_same _ _ _ _, fun j x a1 a2 => w_up_no (by omega)⟩
theorem ckc_226 (h : hyA S0 p HT cs ms os X fa n B2 226 1 A s kd nms ne ec bh ba ar) (hL9 : stL S0) (hkd : kd = 4 ∨ kd = 6) (hgk : ((a_K A 1).1.getD ba (0, 0, [])).1 = 5) (hact : cAct xs d S0 p HT cs ms os X mo 226 (u_N (u_Q A (a_H A) (a_C A) (a_W A) 0 0) s (0, (tO (a_T A) ((a_K A 1).1.getD ba (0, 0, [])).2.1).2.2.1, -1, -1, -1, -1, a_c A 11, 0, 0)) s kd nms ec ba ((a_K A 1).1.getD ba (0, 0, [])).1 nm es (0, (tO (a_T A) ((a_K A 1).1.getD ba (0, 0, [])).2.1).2.2.1, -1, -1, -1, -1, a_c A 11, 0, 0) c A2) : cLook xs d S0 p HT cs ms os X mo 226 A s kd ec ba ((a_K A 1).1.getD ba (0, 0, [])).1 nm es c A2 := fun Y hY ha => by
  have hT8 := hA_T h
  obtain ⟨go1, go2, go3⟩ := gO h (Or.inr hgk)
  obtain ⟨⟨b1, b2, b3, b4, b5⟩, ⟨l4, l7, l9, l10, l11, l13, l14⟩, hfo, b11, b15, b16⟩ := cB_0 h hY ha (by omega)
  obtain ⟨⟨hp, hw, hx⟩, hA, hB, ⟨hr, ho⟩, hsi, hme⟩ := id h
  refine cLk0_226 (mk := fun _ _ => False) (RZ := fun Z => w_up (bkZ (Y 158 14) 0 (w_up Y 160 0 (Y 160 0 + 1))) 49 (Y 158 14) (tO (a_T A) ((a_K A 1).1.getD ba (0, 0, [])).2.1).2.2.1 = Z) (A1 := (u_Q A (a_H A) (a_C A) (a_W A) 0 0)) (e := (0, (tO (a_T A) ((a_K A 1).1.getD ba (0, 0, [])).2.1).2.2.1, -1, -1, -1, -1, a_c A 11, 0, 0)) h hL9 (Or.inr hgk) ⟨go1.1.1, by have := go1.1.2; omega⟩ (fun _ _ z => z.elim) hY ha (wJ_mono (latc_226 (L := a_L A) (G := a_G A) b1 b3 b4 l4 l7 l9 l10 l11 l13 l14 hfo hT8 go1 hkd (Or.inr hgk)) (fun o Z hz => ⟨hz.1, ?_⟩)) (fun Z hz => ?_) rfl rfl (fun _ => hact)
  · rcases hz.2 with z | z
    · exact z.2
    · exact absurd z.1 (by omega)
  · obtain rfl := hz
    obtain ⟨r1, r2, r3⟩ := lk_pl (Z := w_up (bkZ (Y 158 14) 0 (w_up Y 160 0 (Y 160 0 + 1))) 49 (Y 158 14) (tO (a_T A) ((a_K A 1).1.getD ba (0, 0, [])).2.1).2.2.1) (l := 0) hp hw hY (by first | decide | omega) hfo.1 (fun j x a1 _ => w_up_no (by omega))
    exact ⟨r1, r2, Or.inl ⟨(w_up_no (by omega)).trans b16, cE_c bkZ_b hkd, r3⟩⟩

/-- the reference has looked in vain -/
theorem re_0 (h : hyA S0 p HT cs ms os X fa n B2 w t A s kd nms ne ec bh ba ar) (hgk : ((a_K A t).1.getD ba (0, 0, [])).1 = 4 ∨ ((a_K A t).1.getD ba (0, 0, [])).1 = 5) (hc0 : c ≠ 0) (hcal : ∀ {Sb : wS} (Y : wS), rRun S0 Sb HT cs ms os X mo t A Y → rAim t (a_K A t) ba bh en Y → wJ (pe_GA xs) wY0 (fun _ => False) (d + 89) t_M_looksAtThing ((pe_at t_M_looksAtThing.bl 0).getD (0, [])).2 [(0, (2, 237)), (1, (0, s)), (2, (0, kd)), (3, (0, 1))] [] (lkX 0 1 Y) (fun o Z => o = .inr 238 ∧ ∃ V : wS, w_ML V ∧ rSc (lkX 0 1 Y) V ∧ hZ c V = Z)) : ∀ {Sb : wS} (Y : wS), rRun S0 Sb HT cs ms os X mo t A Y → rAim t (a_K A t) ba bh en Y → wJ (pe_GA xs) wY0 (fun _ => False) (d + 90) t_M_looks ((pe_at t_M_looks.bl 0).getD (0, [])).2 [(0, (2, 237)), (1, (0, s)), (2, (0, 1))] [] Y (fun o Z => o = .inr 238 ∧ ((c : Int) ≠ 0 ∧ Z 238 5 = c ∧ rRun S0 Sb HT cs ms os X mo t (u_Q A (a_H A) (a_C A) (a_W A) 0 0) Z)) := fun Y hY ha => by
  have hl9 := hl_A h
  obtain ⟨⟨b1, b2, b3, b4⟩, b5⟩ := rB_0 h hY ha (by omega)
  obtain ⟨k0, k4, k5, k6⟩ := s_4 h hY
  obtain ⟨⟨hp, hw, hx⟩, hA, hB, ⟨hr, ho⟩, hsi, hme⟩ := id h
  have ht := wt_t hw
  refine rlk0 (d := d + 82) hY.1.1 k0 k4 ha.2.2.1 hgk (Or.inr rfl) (ak_0 h hY (by first | decide | omega)) (wJ_mono (hcal Y hY ha) (fun o Z hz => ?_)) (fun o Z hz => Or.inr hz.1)
  obtain ⟨z1, V, z2, z3, rfl⟩ := hz
  have q1 := rRun_s (A := (u_Q A (a_H A) (a_C A) (a_W A) 0 0)) b1 ht hl9 z3 z2
  refine ⟨z1, hc0, ?_, rRun_h (A := (u_Q A (a_H A) (a_C A) (a_W A) 0 0)) q1 ht hl9⟩
  unfold hZ
  rw [w_up_no (by omega)]
  exact w_up_same _ _ _ _
theorem rSc_0 : rSc Y Y := fun _ _ _ _ _ _ _ => rfl
theorem rec_0 (h : hyA S0 p HT cs ms os X fa n B2 w t A s kd nms ne ec bh ba ar) (hkd : kd = 4 ∨ kd = 6) (hgk : ((a_K A t).1.getD ba (0, 0, [])).1 = 4) : ∀ {Sb : wS} (Y : wS), rRun S0 Sb HT cs ms os X mo t A Y → rAim t (a_K A t) ba bh en Y → wJ (pe_GA xs) wY0 (fun _ => False) (d + 90) t_M_looks ((pe_at t_M_looks.bl 0).getD (0, [])).2 [(0, (2, 237)), (1, (0, s)), (2, (0, 1))] [] Y (fun o Z => o = .inr 238 ∧ ((5 : Int) ≠ 0 ∧ Z 238 5 = 5 ∧ rRun S0 Sb HT cs ms os X mo t (u_Q A (a_H A) (a_C A) (a_W A) 0 0) Z)) := by
  have hT8 := hA_T h
  obtain ⟨go1, go2, go3⟩ := gO h (Or.inl hgk)
  intro Sb
  refine re_0 h (Or.inl hgk) (by first | decide | omega) (fun Y hY ha => ?_)
  obtain ⟨⟨b1, b2, ⟨sl, b3⟩, b4⟩, ⟨b5, b6, b7, b8⟩, b9, b10, b11, b12, b13⟩ := rB_0 h hY ha (by omega)
  obtain ⟨y1, y2, y3, y4, y5, y6⟩ := lx_v (Y := Y) (l := 0)
  refine wJ_mono (rlc_ok (d := d + 87) b2 b3.1 b4 h.2.1.2.1 hT8 b5 b6 b7 b8 y1 y2 y3 go1 hkd go2.symm) (fun o Z hz => ?_)
  rcases hz with z | ⟨_, z1, z2⟩
  · exact absurd z.1 (by omega)
  · exact ⟨z1, _, b2, rSc_0, z2⟩
theorem ren_0 (h : hyA S0 p HT cs ms os X fa n B2 w t A s kd nms ne ec bh ba ar) (hkd : kd = 2 ∨ kd = 3) (hgk : ((a_K A t).1.getD ba (0, 0, [])).1 = 4 ∨ ((a_K A t).1.getD ba (0, 0, [])).1 = 5) (hen : en = -1) : ∀ {Sb : wS} (Y : wS), rRun S0 Sb HT cs ms os X mo t A Y → rAim t (a_K A t) ba bh en Y → wJ (pe_GA xs) wY0 (fun _ => False) (d + 90) t_M_looks ((pe_at t_M_looks.bl 0).getD (0, [])).2 [(0, (2, 237)), (1, (0, s)), (2, (0, 1))] [] Y (fun o Z => o = .inr 238 ∧ ((6 : Int) ≠ 0 ∧ Z 238 5 = 6 ∧ rRun S0 Sb HT cs ms os X mo t (u_Q A (a_H A) (a_C A) (a_W A) 0 0) Z)) := by
  have hT8 := hA_T h
  obtain ⟨go1, go2, go3⟩ := gO h hgk
  intro Sb
  refine re_0 h hgk (by first | decide | omega) (fun Y hY ha => ?_)
  obtain ⟨⟨b1, b2, ⟨sl, b3⟩, b4⟩, ⟨b5, b6, b7, b8⟩, b9, b10, b11, b12, b13⟩ := rB_0 h hY ha (by omega)
  obtain ⟨y1, y2, y3, y4, y5, y6⟩ := lx_v (Y := Y) (l := 0)
  refine wJ_mono (rln_ok (d := d + 87) b2 b3.1 b4 h.2.1.2.1 hT8 b5 b6 b7 b8 y1 y2 y3 go1 hkd hen) (fun o Z hz => ?_)
  exact ⟨hz.1, _, b2, rSc_0, hz.2⟩
theorem rkc (h : hyA S0 p HT cs ms os X fa n B2 w t A s kd nms ne ec bh ba ar) (hkd : kd = 4 ∨ kd = 6) (hgk : ((a_K A t).1.getD ba (0, 0, [])).1 = 5) (hen : en = -1) : ∀ {Sb : wS} (Y : wS), rRun S0 Sb HT cs ms os X mo t A Y → rAim t (a_K A t) ba bh en Y → wJ (pe_GA xs) wY0 (fun _ => False) (d + 90) t_M_looks ((pe_at t_M_looks.bl 0).getD (0, [])).2 [(0, (2, 237)), (1, (0, s)), (2, (0, 1))] [] Y (fun o Z => o = .inl none ∧ w_ML Z ∧ rRun S0 Sb HT cs ms os X mo t (u_Q A (a_H A) (a_C A) (a_W A) 0 0) Z ∧ rAim t (a_K A t) ba bh en Z ∧ (Z 237 166 = ((0, (tO (a_T A) ((a_K A t).1.getD ba (0, 0, [])).2.1).2.2.1, -1, -1, -1, -1, a_c A 11, 0, 0) : aE).1 ∧ Z 237 167 = ((0, (tO (a_T A) ((a_K A t).1.getD ba (0, 0, [])).2.1).2.2.1, -1, -1, -1, -1, a_c A 11, 0, 0) : aE).2.1 ∧ Z 237 177 = ((0, (tO (a_T A) ((a_K A t).1.getD ba (0, 0, [])).2.1).2.2.1, -1, -1, -1, -1, a_c A 11, 0, 0) : aE).2.2.1 ∧ Z 237 169 = ((0, (tO (a_T A) ((a_K A t).1.getD ba (0, 0, [])).2.1).2.2.1, -1, -1, -1, -1, a_c A 11, 0, 0) : aE).2.2.2.1 ∧ Z 237 170 = ((0, (tO (a_T A) ((a_K A t).1.getD ba (0, 0, [])).2.1).2.2.1, -1, -1, -1, -1, a_c A 11, 0, 0) : aE).2.2.2.2.1 ∧ Z 237 171 = ((0, (tO (a_T A) ((a_K A t).1.getD ba (0, 0, [])).2.1).2.2.1, -1, -1, -1, -1, a_c A 11, 0, 0) : aE).2.2.2.2.2.1 ∧ Z 237 81 = ((0, (tO (a_T A) ((a_K A t).1.getD ba (0, 0, [])).2.1).2.2.1, -1, -1, -1, -1, a_c A 11, 0, 0) : aE).2.2.2.2.2.2.1) ∧ Z 237 172 = ((0 : Nat) : Int)) := fun Y hY ha => by
  have hT8 := hA_T h
  have hl9 := hl_A h
  obtain ⟨go1, go2, go3⟩ := gO h (Or.inr hgk)
  obtain ⟨⟨b1, b2, ⟨sl, b3⟩, b4⟩, ⟨b5, b6, b7, b8⟩, b9, b10, b11, b12, b13⟩ := rB_0 h hY ha (by omega)
  obtain ⟨y1, y2, y3, y4, y5, y6⟩ := lx_v (Y := Y) (l := 0)
  obtain ⟨k0, k4, k5, k6⟩ := s_4 h hY
  obtain ⟨⟨hp, hw, hx⟩, hA, hB, ⟨hr, ho⟩, hsi, hme⟩ := id h
  have ht := wt_t hw
  refine rlk0 (d := d + 82) hY.1.1 k0 k4 ha.2.2.1 (Or.inr hgk) (Or.inr rfl) (ak_0 h hY (by first | decide | omega)) (wJ_mono (rlc_ok (d := d + 87) b2 b3.1 b4 hA.2.1 hT8 b5 b6 b7 b8 y1 y2 y3 go1 hkd go2.symm) (fun o Z hz => ?_)) (fun o Z hz => Or.inl hz.1)
  rcases hz with ⟨_, z0, ⟨z1, z2, z3, z4⟩, z5, z6⟩ | z
  · have g : ∀ (j : Nat) (x : Int), (j ≠ 237 ∨ (x < 167 ∨ 171 < x)) → Z j x = lkX 0 1 Y j x := fun j x hj => z5 j x (by omega)
    refine ⟨z0, z6, rRun_s (A := (u_Q A (a_H A) (a_C A) (a_W A) 0 0)) b1 ht hl9 (fun j x h1 _ _ _ _ => g j x (by omega)) z6, rA_k b11 (fun j x hj => g j x (by omega)), ⟨?_, z1, ?_, z2, z3, z4, ?_⟩, ?_⟩
    · exact (z5 237 166 (by omega)).trans y5
    · exact (g 237 177 (by omega)).trans (b8.trans hen)
    · exact (g 237 81 (by omega)).trans b12
    · exact (g 237 172 (by omega)).trans y4
  · exact absurd z.1 (by omega)
theorem ok_ca (h : hyA S0 p HT cs ms os X fa n B2 w t A s kd nms ne ec bh ba ar) (hL9 : stL S0) (hkd : kd = 4 ∨ kd = 6) : eOk S0 HT cs ms os A s (0, (tO (a_T A) ((a_K A t).1.getD ba (0, 0, [])).2.1).2.2.1, -1, -1, -1, -1, a_c A 11, 0, 0) := by
  obtain ⟨⟨hp, hw, hx⟩, hA, hB, ⟨hr, ho⟩, hsi, hme⟩ := id h
  have h11 := hA.2.2.2.2.1.2.2.2.2.2.1.1
  obtain ⟨⟨s1, s2, s3, s4⟩, s5, s6, s7, s8⟩ := hsi
  refine ⟨⟨⟨Int.le_refl _, by show (0 : Int) ≤ 3; decide, ?_⟩, h11.1, Int.le_refl _⟩, fun _ => ⟨fun z => ?_, fun z => ?_, fun _ => ⟨rfl, rfl, rfl⟩⟩, fun _ => ⟨⟨rfl, rfl⟩, Int.le_refl _, fun z => ?_, fun _ => rfl⟩, fun z => absurd z (by show ¬ (0 : Int) = 3; decide), fun z => absurd z (by show ¬ ((0 : Int) = 1 ∨ (0 : Int) = 2); decide)⟩
  · refine ⟨?_, sKn_of h⟩
    rw [s3]
    have := hL9.2.2
    omega
  · rw [s2] at z
    omega
  · rw [s2] at z
    omega
  · rw [s2] at z
    omega
/-- an error of a look at things -/
theorem lo_er (h : hyA S0 p HT cs ms os X fa n B2 w t A s kd nms ne ec bh ba ar) (hb : a_c A 20 + 1 ≤ B2) (hc : cLook xs d S0 p HT cs ms os X mo w A s kd ec ba ((a_K A t).1.getD ba (0, 0, [])).1 nm es c (u_Q A (a_H A) (a_C A) (a_W A) 0 0)) (hr : ∀ {Sb : wS} (Y : wS), rRun S0 Sb HT cs ms os X mo t A Y → rAim t (a_K A t) ba bh en Y → wJ (pe_GA xs) wY0 (fun _ => False) (d + 90) t_M_looks ((pe_at t_M_looks.bl 0).getD (0, [])).2 [(0, (2, 237)), (1, (0, s)), (2, (0, 1))] [] Y (fun o Z => o = .inr 238 ∧ ((c : Int) ≠ 0 ∧ Z 238 5 = c ∧ rRun S0 Sb HT cs ms os X mo t (u_Q A (a_H A) (a_C A) (a_W A) 0 0) Z))) : lOut xs d S0 p HT cs ms os X mo fa n B2 w t A s kd nms ec bh ba nm en es := ⟨c, (u_Q A (a_H A) (a_C A) (a_W A) 0 0), wf_Q0 (l := 0) h.2.1 (by first | decide | omega) hb, fun _ _ => rfl, fun _ => rfl, hc, fun Z hZ ha => rLk_x h hr Z hZ ha⟩
/-- looking at a thing to call it -/
theorem lo_cal (h : hyA S0 p HT cs ms os X fa n B2 w t A s kd nms ne ec bh ba ar) (hL9 : stL S0) (hx1 : pe_at (pe_GA xs).xs 1 = some (1, tx_1)) (h97 : pe_at (pe_GA xs).xs 97 = some (3, tx_97)) (hq9 : stQ S0) (hb : a_c A 20 + 1 ≤ B2) (hkd : kd = 4 ∨ kd = 6) (hgk : ((a_K A t).1.getD ba (0, 0, [])).1 = 4 ∨ ((a_K A t).1.getD ba (0, 0, [])).1 = 5) (hen : en = -1) : lOut xs d S0 p HT cs ms os X mo fa n B2 w t A s kd nms ec bh ba nm en es := by
  by_cases hg : ((a_K A t).1.getD ba (0, 0, [])).1 = 4
  · refine lo_er (c := 5) h hb ?_ (rec_0 h hkd hg)
    rcases h.1.2.1 with ⟨rfl, rfl⟩ | ⟨rfl, rfl⟩
    · exact cec_215 h hL9 hkd hg
    · exact cec_226 h hL9 hkd hg
  · have hg5 : ((a_K A t).1.getD ba (0, 0, [])).1 = 5 := by omega
    obtain ⟨go1, go2, go3⟩ := gO h hgk
    have w1 := wf_Q0 (l := 0) h.2.1 (by first | decide | omega) hb
    have c11 : a_c (u_Q A (a_H A) (a_C A) (a_W A) 0 0) 11 = a_c A 11 := cq_n (A := A) (l := 0) (ds := 0) (i := 11) (by first | decide | omega) (by first | decide | omega)
    have w2 := wf_N (s := s) w1 ⟨h.2.2.2.2.1.2.2.1.1.1, h.2.2.2.2.1.2.2.1.1.2.1⟩ (eOk_2 (ok_ca h hL9 hkd) rfl rfl rfl c11)
    have h3 := hy_2 h w2 rfl c11
    have hp0 : aP0 (a_T A) (a_H A) ((a_N A).length : Int) kd nm ((a_K A t).1.getD ba (0, 0, [])).1 ((a_K A t).1.getD ba (0, 0, [])).2.1 (0, (tO (a_T A) ((a_K A t).1.getD ba (0, 0, [])).2.1).2.2.1, -1, -1, -1, -1, a_c A 11, 0, 0) := ⟨⟨rfl, hgk, go1, go2⟩, fun z => by omega, fun z => by omega, fun _ => ⟨hg5, rfl, rfl⟩⟩
    obtain ⟨c, A2, y1, y2, y3, y4, y5⟩ := ao_0 (en := en) (es := es) (d := d) (mo := mo) h3 hx1 h97 hq9 hp0 (fun z => by omega)
    refine ⟨c, A2, y1, y2, y3, ?_, fun Z hZ ha => rLk_s (N3 := 0) h rfl w1 ⟨rfl, rfl⟩ (Nat.zero_le _) (rkc h hkd hg5 hen) y5 Z hZ ha⟩
    rcases h.1.2.1 with ⟨rfl, rfl⟩ | ⟨rfl, rfl⟩
    · exact ckc_215 h hL9 hkd hg5 y4
    · exact ckc_226 h hL9 hkd hg5 y4
/-- an element that no name stands for -/
theorem lo_nul (h : hyA S0 p HT cs ms os X fa n B2 w t A s kd nms ne ec bh ba ar) (hL9 : stL S0) (hb : a_c A 20 + 1 ≤ B2) (hkd : kd = 2 ∨ kd = 3) (hgk : ((a_K A t).1.getD ba (0, 0, [])).1 = 4 ∨ ((a_K A t).1.getD ba (0, 0, [])).1 = 5) (hnm : nm = -1) (hen : en = -1) : lOut xs d S0 p HT cs ms os X mo fa n B2 w t A s kd nms ec bh ba nm en es := by
  refine lo_er (c := 6) h hb ?_ (ren_0 h hkd hgk hen)
  rcases h.1.2.1 with ⟨rfl, rfl⟩ | ⟨rfl, rfl⟩
  · exact cen_215 h hL9 hkd hgk hnm
  · exact cen_226 h hL9 hkd hgk hnm
end Wlq
