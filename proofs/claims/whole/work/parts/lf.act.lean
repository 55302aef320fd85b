/-! PART lf: acting at a site: what is known, and how a result is told. -/
section Wlf
variable {Sb : wS} {xs : List (Nat × List Int32)} {d : Nat} {S0 S Z : wS} {p w m : Nat} {HT : Int → Int} {cs : List hCR} {ms : List hMR} {os : Int → List Int} {X : List (List Int)} {mo t n B B2 oq : Int} {fa : Int → Int} {WE : aA → Prop} {A A2 : aA} {K2 : aK} {ml : List Nat} {k c s kd nms ne ec bh nm en : Int} {b ba : Nat} {ar : List aV} {e : aE} {V Z2 Y : wS} {o : wO} {dn : Int} {H2 : List aH} {N2 : List (List Int)} {E2 : Int → List aE} {C2 : List aQ} {W2 : Int} {c2 : Int → Int} {k2 : Int → Int → Int} {mk rk : Nat → Int → Prop} {K : aK} {T : List aO} {H : List aH} {E : Int → List aE} {gk gb es lo hi a : Int} {r : List aE × Int × Option aE} {A1 : aA} {tl cl : List Int} {sl : Nat → List Int} {L : List aC} {G : Int → aV} {u : aV} {x : List Int} {T2 : List aO} {L2 : List aC} {G2 : Int → aV} {H2 : List aH} {c2 : Int → Int} {y : Int} {Q : wO → wS → Prop}
/-- what is known where an entry acts -/
def hyA (S0 : wS) (p : Nat) (HT : Int → Int) (cs : List hCR) (ms : List hMR) (os : Int → List Int) (X : List (List Int)) (fa : Int → Int) (n B2 : Int) (w : Nat) (t : Int) (A : aA) (s kd nms ne ec bh : Int) (ba : Nat) (ar : List aV) : Prop := ((p = 73 ∨ p = 162) ∧ isWt w t ∧ stX S0 fa X) ∧ wfA S0 fa ms n (WEs S0 HT cs ms os) B2 A ∧ (a_c A 11 + 1 ≤ B2 ∧ B2 ≤ 600000) ∧ ((a_K A t).2.2.2.1 = 1 ∧ opI S0 (a_K A t) = 27) ∧ siH S0 (a_K A t) s kd nms ne ec bh ba ar ∧ mes kd ne = bh
/-- what acting comes to, on both sides -/
def aOut (xs : List (Nat × List Int32)) (d : Nat) (S0 : wS) (p : Nat) (HT : Int → Int) (cs : List hCR) (ms : List hMR) (os : Int → List Int) (X : List (List Int)) (mo : Int) (fa : Int → Int) (n B2 : Int) (w : Nat) (t : Int) (A : aA) (s kd nms ec bh : Int) (ba : Nat) (nm en es : Int) (e : aE) : Prop := ∃ (c : Int) (A2 : aA), wfA S0 fa ms n (WEs S0 HT cs ms os) B2 A2 ∧ (∀ t2 : Int, t2 ≠ t → a_K A2 t2 = a_K A t2) ∧ (c ≠ 0 → a_K A2 t = a_K A t) ∧ cAct xs d S0 p HT cs ms os X mo w A s kd nms ec ba ((a_K A t).1.getD ba (0, 0, [])).1 nm es e c A2 ∧ rAct xs d S0 HT cs ms os X mo t A (a_K A t) s ba bh en e c A2
theorem wJ_ml {mt : pe_Mt} {is : List pe_I} {Lo : wL} {st : List wv} (hM : w_ML S) (h : wJ (pe_GA xs) wY0 (fun _ => False) d mt is Lo st S Q) : wJ (pe_GA xs) wY0 (fun _ => False) d mt is Lo st S (fun o Z => Q o Z ∧ w_ML Z) := wJ_mono (wJ_len h) (fun o Z hz => ⟨hz.1, ML_len hM hz.2⟩)
theorem wJ_cl {mt : pe_Mt} {is : List pe_I} {Lo : wL} {st : List wv} (hC : w_CL S) (hs : ∀ k ∈ ml, k ∈ sML) (h : wJ (pe_GA xs) wY0 (mS ml) d mt is Lo st S Q) : wJ (pe_GA xs) wY0 (mS sML) d mt is Lo st S (fun o Z => Q o Z ∧ w_CL Z) := wJ_M (wJ_mono (wJ_len h) (fun o Z hz => ⟨hz.1, CL_len hC hs hz.2⟩)) (mS_sM hs)
theorem hA_ba (h : hyA S0 p HT cs ms os X fa n B2 w t A s kd nms ne ec bh ba ar) : ba < (a_K A t).1.length ∧ ((a_K A t).1.length : Int) = (ba : Int) + 1 + bh ∧ (a_K A t).1.length ≤ 2001 ∧ 0 ≤ bh := by
  obtain ⟨⟨hp, hw, hx⟩, hA, hB, ⟨hr, ho⟩, hsi, hme⟩ := h
  have hk := wT_of hA hw
  have := hsi.2.1.2.2.1
  have := hsi.2.1.2.1
  have := hsi.2.1.1
  have := hk.1.1
  omega
theorem hA_T (h : hyA S0 p HT cs ms os X fa n B2 w t A s kd nms ne ec bh ba ar) : ((a_T A).length : Int) ≤ 8000 := by
  have := h.2.1.2.2.2.2.1.1
  omega
theorem gv_G (h : hyA S0 p HT cs ms os X fa n B2 w t A s kd nms ne ec bh ba ar) : vG (a_T A) n ((a_K A t).1.getD ba (0, 0, [])) := (wV_of h.2.1 h.1.2.1).1 _ (tq_m (hA_ba h).1)
theorem rdC_of (h : hyA S0 p HT cs ms os X fa n B2 w t A s kd nms ne ec bh ba ar) (hY : cRel S0 p HT cs ms os X mo A Y) (ha : cAim w s kd ec ba ((a_K A t).1.getD ba (0, 0, [])).1 nm es Y) (he : cEc Y kd nms e y) (hy : 0 ≤ y ∧ y < Y 48 (-1)) : rdC w kd ec ba ((a_K A t).1.getD ba (0, 0, [])).1 (Y (w + 3) (ba : Int)) es y e.1 (a_K A t) (a_T A) (a_L A) (a_G A) Y := by
  have hT := hA_T h
  have hb := hA_ba h
  obtain ⟨⟨hp, hw, hx⟩, hA, hB, ⟨hr, ho⟩, hsi, hme⟩ := h
  have hst := (stt_c hx (wT_of hA hw) hr hw hY).1
  obtain ⟨ix, fl, ow, hE⟩ := hY.2.2.2.2.1
  obtain ⟨⟨v4, v5, v6, v7, v8, v9, v10, v11, v12, v13⟩, v16⟩ := ha
  exact ⟨⟨hst, hY.2.2.1.1, hE.1, hT⟩, ⟨v4, v5, v7, v8, v9, v10, v12, v13⟩, v16, ⟨hy, he.1.1⟩, hb.1⟩
theorem gb_c (h : hyA S0 p HT cs ms os X fa n B2 w t A s kd nms ne ec bh ba ar) (hY : cRel S0 p HT cs ms os X mo A Y) (hg : ((a_K A t).1.getD ba (0, 0, [])).1 ≠ 3) : Y (w + 3) (ba : Int) = ((a_K A t).1.getD ba (0, 0, [])).2.1 := ((c_at (cT_of hY h.1.2.1) (hA_ba h).1 (j := (ba : Int)) rfl).2.1 hg).1
theorem gv_c (h : hyA S0 p HT cs ms os X fa n B2 w t A s kd nms ne ec bh ba ar) (hY : cRel S0 p HT cs ms os X mo A Y) : cVl Y ((a_K A t).1.getD ba (0, 0, [])).1 (Y (w + 3) (ba : Int)) ((a_K A t).1.getD ba (0, 0, [])) := by
  have z := c_at (cT_of hY h.1.2.1) (hA_ba h).1 (j := (ba : Int)) rfl
  rw [z.1] at z
  exact z
theorem gb_r (h : hyA S0 p HT cs ms os X fa n B2 w t A s kd nms ne ec bh ba ar) (hY : rRun S0 Sb HT cs ms os X mo t A Y) (hg : ((a_K A t).1.getD ba (0, 0, [])).1 ≠ 3) : Y 364 (2100 * t + (ba : Int)) = ((a_K A t).1.getD ba (0, 0, [])).2.1 := ((r_at (rT_of hY.1 (wt_t h.1.2.1)) (hA_ba h).1 (j := 2100 * t + (ba : Int)) rfl).2.1 hg).1
theorem gv_r (h : hyA S0 p HT cs ms os X fa n B2 w t A s kd nms ne ec bh ba ar) (hY : rRun S0 Sb HT cs ms os X mo t A Y) : rVl Y ((a_K A t).1.getD ba (0, 0, [])).1 (Y 364 (2100 * t + (ba : Int))) ((a_K A t).1.getD ba (0, 0, [])) := by
  have z := r_at (rT_of hY.1 (wt_t h.1.2.1)) (hA_ba h).1 (j := 2100 * t + (ba : Int)) rfl
  rw [z.1] at z
  exact z
theorem h82_r (h : hyA S0 p HT cs ms os X fa n B2 w t A s kd nms ne ec bh ba ar) (hY : rRun S0 Sb HT cs ms os X mo t A Y) : 0 ≤ Y 237 82 ∧ Y 237 82 ≤ Y 237 63 ∧ Y 237 63 ≤ 60000 ∧ Y 237 63 = a_c A 1 := by
  have u := rR_u hY
  have c1 := h.2.1.2.2.2.2.1.2.1
  omega
theorem rdR_of (h : hyA S0 p HT cs ms os X fa n B2 w t A s kd nms ne ec bh ba ar) (hY : rRun S0 Sb HT cs ms os X mo t A Y) (hW : rWd Y sl (a_T A) (a_L A) (a_G A)) (ha : rAim t (a_K A t) ba bh en Y) (he : Y 237 166 = e.1 ∧ Y 237 169 = e.2.2.2.1 ∧ Y 237 170 = e.2.2.2.2.1 ∧ Y 237 171 = e.2.2.2.2.2.1) : rdR t kd ba ((a_K A t).1.getD ba (0, 0, [])).1 (Y 364 (2100 * t + (ba : Int))) bh e.1 e.2.2.2.1 e.2.2.2.2.1 e.2.2.2.2.2.1 (a_K A t) (a_T A) sl (a_L A) (a_G A) Y := by
  have hT := hA_T h
  have hb := hA_ba h
  have h82 := h82_r h hY
  obtain ⟨⟨hp, hw, hx⟩, hA, hB, ⟨hr, ho⟩, hsi, hme⟩ := h
  have ht := wt_t hw
  have hst := (stt_r hx (wT_of hA hw) hr ht hY).1
  obtain ⟨t1, t2, t3, ⟨t4, t5, t6⟩, ⟨t7, t8, t9, t10⟩, ⟨-, -, t11, t12⟩, -⟩ := hst
  obtain ⟨⟨a1, a2⟩, a3, a4, a5, a6, a7⟩ := ha
  refine ⟨⟨⟨t2, ⟨t4, t3⟩, t5, t6, ⟨t1.2.1.1, by omega, by omega⟩, ⟨a1, rfl⟩, ⟨a2, t11, t12⟩, t1.1.1, by omega, by omega⟩, t1, hW, t3⟩, ⟨t7, t8, t9⟩, ⟨hT, by omega, fun q hq => ?_⟩, ⟨a3, hb.1, a4, a5, a6⟩, he⟩
  have z := (hW.1.2 q hq).2.1.2
  have c1 := hA.2.2.2.2.1.2.1.2.2 _ (List.getElem_mem hq)
  have q2 : (a_T A).getD q (0, 0, 0, 0, 0, 0, []) = (a_T A)[q] := by
    rw [List.getD_eq_getElem?_getD, List.getElem?_eq_getElem hq]
    rfl
  rw [q2] at z
  omega
/-- the class: the task alone changes -/
theorem cA_K (h : hyA S0 p HT cs ms os X fa n B2 w t A s kd nms ne ec bh ba ar) (hs : ∀ k ∈ ml, k ∈ sML) (hc : ∀ (Y : wS) (y : Int), cRel S0 p HT cs ms os X mo A Y → cAim w s kd ec ba ((a_K A t).1.getD ba (0, 0, [])).1 nm es Y → rdC w kd ec ba ((a_K A t).1.getD ba (0, 0, [])).1 (Y (w + 3) (ba : Int)) es y e.1 (a_K A t) (a_T A) (a_L A) (a_G A) Y → cEc Y kd nms e y → wJ (pe_GA xs) wY0 (mS ml) (d + 91) t_XL_act ((pe_at t_XL_act.bl 0).getD (0, [])).2 [(0, (2, 158)), (1, (0, y))] [] Y (fun o V => o = .inl none ∧ V w 16 = 0 ∧ cTk w V K2 ∧ cFr w Y V)) : cAct xs d S0 p HT cs ms os X mo w A s kd nms ec ba ((a_K A t).1.getD ba (0, 0, [])).1 nm es e 0 (u_K A t K2) := fun Y y hY ha he hy => wJ_M (wJ_mono (hc Y y hY ha (rdC_of h hY ha he hy) he) (fun o V hz => ⟨hz.1, hz.2.1, cRel_K hY h.1.1 h.1.2.1 hz.2.2.1 hz.2.2.2⟩)) (mS_sM hs)
/-- the class: an ERROR, or no memory -/
theorem cA_X (h : hyA S0 p HT cs ms os X fa n B2 w t A s kd nms ne ec bh ba ar) (hs : ∀ k ∈ ml, k ∈ sML) (hc : ∀ (Y : wS) (y : Int), cRel S0 p HT cs ms os X mo A Y → cAim w s kd ec ba ((a_K A t).1.getD ba (0, 0, [])).1 nm es Y → rdC w kd ec ba ((a_K A t).1.getD ba (0, 0, [])).1 (Y (w + 3) (ba : Int)) es y e.1 (a_K A t) (a_T A) (a_L A) (a_G A) Y → cEc Y kd nms e y → wJ (pe_GA xs) wY0 (mS ml) (d + 91) t_XL_act ((pe_at t_XL_act.bl 0).getD (0, [])).2 [(0, (2, 158)), (1, (0, y))] [] Y (fun o V => o = .inl none ∧ w_up Y w 16 c = V)) : cAct xs d S0 p HT cs ms os X mo w A s kd nms ec ba ((a_K A t).1.getD ba (0, 0, [])).1 nm es e c A := fun Y y hY ha he hy => wJ_M (wJ_mono (hc Y y hY ha (rdC_of h hY ha he hy) he) (fun o V hz => by
  obtain ⟨z1, rfl⟩ := hz
  exact ⟨z1, w_up_same _ _ _ _, cRel_16 hY h.1.1 h.1.2.1⟩)) (mS_sM hs)
/-- the class: the world changes -/
theorem cA_W (h : hyA S0 p HT cs ms os X fa n B2 w t A s kd nms ne ec bh ba ar) (hs : ∀ k ∈ ml, k ∈ sML) {mk : Nat → Int → Prop} (hmk : ∀ (j : Nat) (x : Int), mk j x → mWd j x) (hc2 : ∀ i : Int, 5 ≤ i → i ≠ 11 → c2 i = a_c A i) (hc3 : a_c A 3 ≤ c2 3) (hc : ∀ (Y : wS) (y : Int), cRel S0 p HT cs ms os X mo A Y → cAim w s kd ec ba ((a_K A t).1.getD ba (0, 0, [])).1 nm es Y → rdC w kd ec ba ((a_K A t).1.getD ba (0, 0, [])).1 (Y (w + 3) (ba : Int)) es y e.1 (a_K A t) (a_T A) (a_L A) (a_G A) Y → cEc Y kd nms e y → wJ (pe_GA xs) wY0 (mS ml) (d + 91) t_XL_act ((pe_at t_XL_act.bl 0).getD (0, [])).2 [(0, (2, 158)), (1, (0, y))] [] Y (fun o V => o = .inl none ∧ V w 16 = 0 ∧ cTk w V K2 ∧ cFm w mk Y V ∧ cWd V T2 L2 G2 ∧ cSw V T2 H2 ∧ cPo V ∧ cCw c2 V)) : cAct xs d S0 p HT cs ms os X mo w A s kd nms ec ba ((a_K A t).1.getD ba (0, 0, [])).1 nm es e 0 (u_W A t K2 T2 L2 G2 H2 c2) := fun Y y hY ha he hy => wJ_mono (wJ_cl hY.1.1 hs (hc Y y hY ha (rdC_of h hY ha he hy) he)) (fun o V hz => by
  obtain ⟨⟨z1, z2, z3, z4, z5, z6, z7, z8⟩, z9⟩ := hz
  exact ⟨z1, z2, cRel_W hY h.1.1 h.1.2.1 z4 hmk z9 z3 z5 z6 z7 z8 hc2 hc3⟩)
theorem hl_A (h : hyA S0 p HT cs ms os X fa n B2 w t A s kd nms ne ec bh ba ar) : kLn (a_K A 0) ∧ kLn (a_K A 1) := ⟨h.2.1.1.1.1, h.2.1.1.2.1⟩
/-- the reference: the task alone changes -/
theorem rQ_K (h : hyA S0 p HT cs ms os X fa n B2 w t A s kd nms ne ec bh ba ar) (hY : rRun S0 Sb HT cs ms os X mo t A Y) (hM : w_ML Z) (hz : o = .inl none ∧ rTk t Z K2 ∧ rTf t Y Z) : rOc S0 Sb HT cs ms os X mo t 0 (u_K A t K2) o Z := Or.inl ⟨hz.1, rfl, rRun_K hY (wt_t h.1.2.1) (hl_A h) hz.2.1 hz.2.2 hM⟩
theorem rQ_X (h : hyA S0 p HT cs ms os X fa n B2 w t A s kd nms ne ec bh ba ar) (hY : rRun S0 Sb HT cs ms os X mo t A Y) (hc0 : c ≠ 0) (hz : o = .inr 238 ∧ hZ c Y = Z) : rOc S0 Sb HT cs ms os X mo t c A o Z := by
  obtain ⟨z1, rfl⟩ := hz
  exact Or.inr ⟨z1, hc0, hZ_5, rRun_h hY (wt_t h.1.2.1) (hl_A h)⟩
theorem rQ_W (h : hyA S0 p HT cs ms os X fa n B2 w t A s kd nms ne ec bh ba ar) {rk : Nat → Int → Prop} (hrk : ∀ (j : Nat) (x : Int), rk j x → rWd9 j x) (hc2 : ∀ i : Int, 5 ≤ i → i ≠ 11 → c2 i = a_c A i) (hY : rRun S0 Sb HT cs ms os X mo t A Y) (hM : w_ML Z) (hz : o = .inl none ∧ rTk t Z K2 ∧ rTm t rk Y Z ∧ (∃ sl : Nat → List Int, rWd Z sl T2 L2 G2) ∧ rHs Z H2 ∧ rCw c2 Z) : rOc S0 Sb HT cs ms os X mo t 0 (u_W A t K2 T2 L2 G2 H2 c2) o Z := Or.inl ⟨hz.1, rfl, rRel_W hY (wt_t h.1.2.1) (hl_A h) hz.2.2.1 hrk hM hz.2.1 hz.2.2.2.1 hz.2.2.2.2.1 hz.2.2.2.2.2 hc2⟩
theorem s_4 (h : hyA S0 p HT cs ms os X fa n B2 w t A s kd nms ne ec bh ba ar) (hY : rRun S0 Sb HT cs ms os X mo t A Y) : (0 ≤ s ∧ s < 4000) ∧ Y 304 s = kd ∧ Y 305 s = nms ∧ Y 306 s = ne := by
  obtain ⟨⟨hp, hw, hx⟩, hA, hB, ⟨hr, ho⟩, hsi, hme⟩ := h
  obtain ⟨s0, s1, s2⟩ := hsi.2.2.1.1
  obtain ⟨g1, g2, g3, g4⟩ := si_r hY.1 hsi
  exact ⟨⟨s0, by omega⟩, g2, g3, g4⟩
theorem rOc_o (h : rOc S0 Sb HT cs ms os X mo t c A2 o Z) : o = .inl none ∨ o = .inr 238 := by
  rcases h with z | z
  · exact Or.inl z.1
  · exact Or.inr z.1
theorem rA_0 (h : hyA S0 p HT cs ms os X fa n B2 w t A s kd nms ne ec bh ba ar) (he0 : e.1 = 0) (hin : ∀ {Sb : wS} (Y : wS) (sl : Nat → List Int), rRun S0 Sb HT cs ms os X mo t A Y → rAim t (a_K A t) ba bh en Y → rWd Y sl (a_T A) (a_L A) (a_G A) → rdR t kd ba ((a_K A t).1.getD ba (0, 0, [])).1 (Y 364 (2100 * t + (ba : Int))) bh e.1 e.2.2.2.1 e.2.2.2.2.1 e.2.2.2.2.2.1 (a_K A t) (a_T A) sl (a_L A) (a_G A) Y → wJ (pe_GA xs) wY0 (fun _ => False) (d + 89) t_M_actsOnThing ((pe_at t_M_actsOnThing.bl 0).getD (0, [])).2 [(0, (2, 237)), (1, (0, s)), (2, (0, kd))] [] Y (fun o Z => w_ML Z → rOc S0 Sb HT cs ms os X mo t c A2 o Z)) : rAct xs d S0 HT cs ms os X mo t A (a_K A t) s ba bh en e c A2 := fun Y hY ha he => by
  obtain ⟨sl, hW⟩ := hY.1.2.2.1.1
  obtain ⟨g1, g2, g3, g4⟩ := s_4 h hY
  exact ract0 (d := d + 81) (lk := 0) hY.1.1 g1 g2 (he.1.trans he0) (wJ_mono (wJ_ml hY.1.1 (hin Y sl hY ha hW (rdR_of h hY hW ha he))) (fun o Z hz => hz.1 hz.2)) (fun o Z hz => rOc_o hz)
theorem rA_3 (h : hyA S0 p HT cs ms os X fa n B2 w t A s kd nms ne ec bh ba ar) (he0 : e.1 = 3) (hin : ∀ {Sb : wS} (Y : wS) (sl : Nat → List Int), rRun S0 Sb HT cs ms os X mo t A Y → rAim t (a_K A t) ba bh en Y → rWd Y sl (a_T A) (a_L A) (a_G A) → rdR t kd ba ((a_K A t).1.getD ba (0, 0, [])).1 (Y 364 (2100 * t + (ba : Int))) bh e.1 e.2.2.2.1 e.2.2.2.2.1 e.2.2.2.2.2.1 (a_K A t) (a_T A) sl (a_L A) (a_G A) Y → wJ (pe_GA xs) wY0 (fun _ => False) (d + 89) t_M_actsOnRow ((pe_at t_M_actsOnRow.bl 0).getD (0, [])).2 [(0, (2, 237)), (1, (0, s)), (2, (0, kd))] [] Y (fun o Z => w_ML Z → rOc S0 Sb HT cs ms os X mo t c A2 o Z)) : rAct xs d S0 HT cs ms os X mo t A (a_K A t) s ba bh en e c A2 := fun Y hY ha he => by
  obtain ⟨sl, hW⟩ := hY.1.2.2.1.1
  obtain ⟨g1, g2, g3, g4⟩ := s_4 h hY
  exact ract3 (d := d + 81) (lk := 3) hY.1.1 g1 g2 (he.1.trans he0) (wJ_mono (wJ_ml hY.1.1 (hin Y sl hY ha hW (rdR_of h hY hW ha he))) (fun o Z hz => hz.1 hz.2)) (fun o Z hz => rOc_o hz)
theorem rA_1 (h : hyA S0 p HT cs ms os X fa n B2 w t A s kd nms ne ec bh ba ar) (he0 : e.1 = 1 ∨ e.1 = 2) (hin : ∀ {Sb : wS} (Y : wS) (sl : Nat → List Int), rRun S0 Sb HT cs ms os X mo t A Y → rAim t (a_K A t) ba bh en Y → rWd Y sl (a_T A) (a_L A) (a_G A) → rdR t kd ba ((a_K A t).1.getD ba (0, 0, [])).1 (Y 364 (2100 * t + (ba : Int))) bh e.1 e.2.2.2.1 e.2.2.2.2.1 e.2.2.2.2.2.1 (a_K A t) (a_T A) sl (a_L A) (a_G A) Y → wJ (pe_GA xs) wY0 (fun _ => False) (d + 89) t_M_actsOnHost ((pe_at t_M_actsOnHost.bl 0).getD (0, [])).2 [(0, (2, 237)), (1, (0, kd))] [] Y (fun o Z => w_ML Z → rOc S0 Sb HT cs ms os X mo t c A2 o Z)) : rAct xs d S0 HT cs ms os X mo t A (a_K A t) s ba bh en e c A2 := fun Y hY ha he => by
  obtain ⟨sl, hW⟩ := hY.1.2.2.1.1
  obtain ⟨g1, g2, g3, g4⟩ := s_4 h hY
  exact ract1 (d := d + 81) (lk := e.1) hY.1.1 g1 g2 he.1 he0 (wJ_mono (wJ_ml hY.1.1 (hin Y sl hY ha hW (rdR_of h hY hW ha he))) (fun o Z hz => hz.1 hz.2)) (fun o Z hz => rOc_o hz)
/-- one value goes on the pile for the receiver and what stands above it -/
theorem tyv_A (h : hyA S0 p HT cs ms os X fa n B2 w t A s kd nms ne ec bh ba ar) : wTk fa S0 (kP (a_K A t) ((a_K A t).1.length - ba) u) := by
  have hb := hA_ba h
  obtain ⟨⟨hp, hw, hx⟩, hA, hB, ⟨hr, ho⟩, hsi, hme⟩ := h
  refine tyt_P hx (wT_of hA hw) hr (by rw [ho]; decide) ?_ (Nat.sub_le _ _) (fun z => by omega)
  rw [ho, hsi.1.1, hsi.1.2.1, hsi.1.2.2.2, hme]
  show -bh = 1 - (((a_K A t).1.length - ba : Nat) : Int)
  omega
/-- a task changes on both sides -/
theorem aO_K (h : hyA S0 p HT cs ms os X fa n B2 w t A s kd nms ne ec bh ba ar) (h1 : wTk fa S0 K2) (h2 : wKv (a_T A) n K2) (h3 : fLe K2.2.1 (a_K A t).2.1) (hc : cAct xs d S0 p HT cs ms os X mo w A s kd nms ec ba ((a_K A t).1.getD ba (0, 0, [])).1 nm es e 0 (u_K A t K2)) (hr : rAct xs d S0 HT cs ms os X mo t A (a_K A t) s ba bh en e 0 (u_K A t K2)) : aOut xs d S0 p HT cs ms os X mo fa n B2 w t A s kd nms ec bh ba nm en es e := ⟨0, u_K A t K2, wf_K h.2.1 WEs_k (wt_t h.1.2.1) h1 h2 (fun cf _ c2 => kc_le c2 h3) ⟨Int.le_refl _, h.2.2.1.2⟩, fun t2 h2 => fUp_n h2, fun z => absurd rfl z, hc, hr⟩
/-- a value is given on both sides -/
theorem aO_v (h : hyA S0 p HT cs ms os X fa n B2 w t A s kd nms ne ec bh ba ar) (hu : vG (a_T A) n u) (hc : cAct xs d S0 p HT cs ms os X mo w A s kd nms ec ba ((a_K A t).1.getD ba (0, 0, [])).1 nm es e 0 (u_K A t (kP (a_K A t) ((a_K A t).1.length - ba) u))) (hr : rAct xs d S0 HT cs ms os X mo t A (a_K A t) s ba bh en e 0 (u_K A t (kP (a_K A t) ((a_K A t).1.length - ba) u))) : aOut xs d S0 p HT cs ms os X mo fa n B2 w t A s kd nms ec bh ba nm en es e := aO_K h (tyv_A h) (kv_P (wV_of h.2.1 h.1.2.1) hu) fLe_P hc hr
theorem aO_X (h : hyA S0 p HT cs ms os X fa n B2 w t A s kd nms ne ec bh ba ar) (hc : cAct xs d S0 p HT cs ms os X mo w A s kd nms ec ba ((a_K A t).1.getD ba (0, 0, [])).1 nm es e c A) (hr : rAct xs d S0 HT cs ms os X mo t A (a_K A t) s ba bh en e c A) : aOut xs d S0 p HT cs ms os X mo fa n B2 w t A s kd nms ec bh ba nm en es e := ⟨c, A, h.2.1, fun _ _ => rfl, fun _ => rfl, hc, hr⟩
theorem aO_W (h : hyA S0 p HT cs ms os X fa n B2 w t A s kd nms ne ec bh ba ar) (hw2 : wfA S0 fa ms n (WEs S0 HT cs ms os) B2 (u_W A t K2 T2 L2 G2 H2 c2)) (hc : cAct xs d S0 p HT cs ms os X mo w A s kd nms ec ba ((a_K A t).1.getD ba (0, 0, [])).1 nm es e 0 (u_W A t K2 T2 L2 G2 H2 c2)) (hr : rAct xs d S0 HT cs ms os X mo t A (a_K A t) s ba bh en e 0 (u_W A t K2 T2 L2 G2 H2 c2)) : aOut xs d S0 p HT cs ms os X mo fa n B2 w t A s kd nms ec bh ba nm en es e := ⟨0, _, hw2, fun t2 h2 => fUp_n h2, fun z => absurd rfl z, hc, hr⟩
end Wlf
