/-! PART kw: a step at a site: how it ends. -/
section Wkw
variable {Sb : wS} {xs : List (Nat × List Int32)} {d : Nat} {S0 S Z : wS} {p w m : Nat} {HT : Int → Int} {cs : List hCR} {ms : List hMR} {os : Int → List Int} {X : List (List Int)} {mo t n B B2 oq : Int} {fa : Int → Int} {WE : aA → Prop} {A A2 : aA} {K2 : aK} {ml : List Nat} {k c s kd nms ne ec bh nm en : Int} {b ba : Nat} {ar : List aV} {e : aE} {V Z2 Y : wS} {o : wO} {dn : Int} {HTn : Int}
theorem h21_c (hA : wfA S0 fa ms n WE B A) (hS : cRel S0 p HT cs ms os X mo A S) : S 2 1 ≤ 4000000 ∧ S 3 (-1) ≤ 8000000 := by
  have q := hS.2.2.2.2.2.2.2.1.2.1.2
  have a := hA.2.2.2.2.1.2.2.2.1
  have b := hA.2.2.2.2.2.1.1.1
  unfold cPl at q
  omega
/-- every instruction but SITE -/
theorem st_np (h : hyS S0 p X fa ms n WE B B2 w t A) (hX : hyX xs S0 p b HT HTn cs ms os n WE) (hB1 : B + 1 ≤ B2) (ho : opI S0 (a_K A t) ≠ 27) : stO xs d S0 p HT cs ms os X mo fa n WE B2 w t A := st_ns h hX hB1 (fun S hS => h21_c h.2.2.2.1 hS) ho
theorem u_K_id : u_K A t (a_K A t) = A := by
  show (fUp A.1 t (A.1 t), A.2) = A
  rw [fUp_id]
theorem cT_of (h : cRel S0 p HT cs ms os X mo A S) (hw : isWt w t) : cTk w S (a_K A t) := by
  rcases hw with ⟨rfl, rfl⟩ | ⟨rfl, rfl⟩
  · exact h.2.1.1
  · exact h.2.1.2
theorem rT_of (h : rRel S0 Sb HT cs ms os X mo A S) (ht : t = 0 ∨ t = 1) : rTk t S (a_K A t) := by
  rcases ht with rfl | rfl
  · exact h.2.1.1
  · exact h.2.1.2
/-- the task's note of a problem is no part of the state -/
theorem cRel_16 (h : cRel S0 p HT cs ms os X mo A S) (hp : p = 73 ∨ p = 162) (hw : isWt w t) : cRel S0 p HT cs ms os X mo A (w_up S w 16 c) := by
  have z := cRel_K (K2 := a_K A t) h hp hw (cTk_16 (x := c) (cT_of h hw) (isWt_w hw)) (cFr_up (isWt_w hw) (cFr_rfl h.1.2.1) (by first | decide | omega) (by omega))
  rw [u_K_id] at z
  exact z
/-- how a step at a site ends: well, with an ERROR, or without memory -/
def finA (c t : Int) (A : aA) : aA := if c = 0 then A else if c = 99 then u_K A t (kSt (a_K A t)) else u_K A t (kTh (a_K A t) (2, c, []))
theorem xR_c (h : cRel S0 p HT cs ms os X mo A V) (hw : isWt w t) (hk : wTk fa S0 (a_K A t)) (hr : (a_K A t).2.2.2.1 = 1) : xR w V := xR_of (cT_of h hw) h.1.1 h.1.2.1 (wKt_tr (hk.2.1 hr).1)
theorem fin_c (hp : p = 73 ∨ p = 162) (hw : isWt w t) (hk : c ≠ 0 → wTk fa S0 (a_K A t) ∧ (a_K A t).2.2.2.1 = 1) (h16 : V w 16 = c) (h : cRel S0 p HT cs ms os X mo A V) (hs : sR w V o Z2) : o = .inl (some (0, if c = 99 then 0 else 1)) ∧ cRel S0 p HT cs ms os X mo (finA c t A) Z2 := by
  unfold finA
  rcases hs with ⟨a, rfl, rfl⟩ | ⟨a, rfl, rfl⟩ | ⟨a, b, rfl, q⟩
  · rw [if_pos (show c = 0 by omega), if_neg (show ¬ c = 99 by omega)]
    exact ⟨rfl, h⟩
  · rw [if_neg (show ¬ c = 0 by omega), if_pos (show c = 99 by omega), if_pos (show c = 99 by omega)]
    exact ⟨rfl, cRel_K h hp hw (cTk_st (cT_of h hw) (isWt_w hw)) (cFr_up (isWt_w hw) (cFr_rfl h.1.2.1) (by first | decide | omega) (by omega))⟩
  · rw [if_neg (show ¬ c = 0 by omega), if_neg (show ¬ c = 99 by omega), if_neg (show ¬ c = 99 by omega)]
    obtain ⟨k1, k2⟩ := hk (by omega)
    have hx := xR_c h hw k1 k2
    rw [h16] at q
    exact ⟨rfl, cRel_K h hp hw (cTk_rs (cT_of h hw) (isWt_w hw) q ⟨rfl, fun _ => ⟨rfl, rfl⟩, fun q => absurd (show (2 : Int) = 3 from q) (by first | decide | omega)⟩ (wKt_tr (k1.2.1 k2).1) (by have := k1.1.1; omega)) (cFr_rs (isWt_w hw) (cFr_rfl h.1.2.1) q (fun q => (hx.2.2.2 q).1.1) (fun q => (hx.2.2.2 q).2.1))⟩
/-- what the reference comes to at a site -/
def rOc (S0 Sb : wS) (HT : Int → Int) (cs : List hCR) (ms : List hMR) (os : Int → List Int) (X : List (List Int)) (mo : Int) (t c : Int) (A2 : aA) (o : wO) (Z : wS) : Prop := (o = .inl none ∧ c = 0 ∧ rRun S0 Sb HT cs ms os X mo t A2 Z) ∨ (o = .inr 238 ∧ (c ≠ 0 ∧ Z 238 5 = c ∧ rRun S0 Sb HT cs ms os X mo t A2 Z))
theorem fin_r (ht : t = 0 ∨ t = 1) (hl : kLn (a_K A 0) ∧ kLn (a_K A 1)) (hk : c ≠ 0 → wTk fa S0 (a_K A t) ∧ (a_K A t).2.2.2.1 = 1) (hs : msR t (fun Z => c = 0 ∧ rRun S0 Sb HT cs ms os X mo t A Z) (fun Z => c ≠ 0 ∧ Z 238 5 = c ∧ rRun S0 Sb HT cs ms os X mo t A Z) dn Z2) : dn = (if c = 99 then 0 else 1) ∧ (w_ML Z2 → rRun S0 Sb HT cs ms os X mo t (finA c t A) Z2) := by
  unfold finA
  rcases hs with ⟨rfl, c0, h⟩ | ⟨Z, ⟨c0, c5, h⟩, q, rfl, rfl⟩ | ⟨Z, ⟨c0, c5, h⟩, q, rfl, r⟩
  · rw [if_pos c0, if_neg (show ¬ c = 99 by omega)]
    exact ⟨rfl, fun _ => h⟩
  · rw [if_neg c0, if_pos (show c = 99 by omega), if_pos (show c = 99 by omega)]
    exact ⟨rfl, fun hM => rRun_K h ht hl (rTk_st (rT_of h.1 ht)) (rTf_up (fun _ _ _ => rfl) (no_t (by first | decide | omega))) hM⟩
  · rw [if_neg c0, if_neg (show ¬ c = 99 by omega), if_neg (show ¬ c = 99 by omega)]
    obtain ⟨k1, k2⟩ := hk c0
    rw [c5] at r
    have hT := wKt_tr (k1.2.1 k2).1
    have hR : mR t Z := mR_of (rT_of h.1 ht) h.1.1 (by omega) h.2 hT ⟨k1.1.2, k1.1.1⟩
    exact ⟨rfl, fun hM => rRun_K h ht hl (rTk_ts (rT_of h.1 ht) (by omega) r ⟨rfl, fun _ => ⟨rfl, rfl⟩, fun q => absurd (show (2 : Int) = 3 from q) (by first | decide | omega)⟩ hT) (rTf_ts (fun _ _ _ => rfl) hR r) hM⟩
theorem fin_w (h : wfA S0 fa ms n WE B A) (hE : WEk WE) (hw : isWt w t) (hB : B ≤ 600000) (hr : c ≠ 0 → (a_K A t).2.2.2.1 = 1) : wfA S0 fa ms n WE B (finA c t A) := by
  unfold finA
  by_cases c0 : c = 0
  · rw [if_pos c0]
    exact h
  · rw [if_neg c0]
    have hk := wT_of h hw
    have hv := wV_of h hw
    by_cases c9 : c = 99
    · rw [if_pos c9]
      exact wf_K h hE (wt_t hw) (tyt_S hk) (kv_S hv) (fun cf _ c2 => kc_le c2 fLe_r) ⟨Int.le_refl _, hB⟩
    · rw [if_neg c9]
      exact wf_K h hE (wt_t hw) (tyt_T hk (hr c0)) (kv_T hv (hr c0) vG_n) (fun cf _ c2 => kc_le c2 fLe_th) ⟨Int.le_refl _, hB⟩
theorem fin_t {t2 : Int} (h : t2 ≠ t) : a_K (finA c t A) t2 = a_K A t2 := by
  unfold finA
  by_cases c0 : c = 0
  · rw [if_pos c0]
  · rw [if_neg c0]
    by_cases c9 : c = 99
    · rw [if_pos c9]
      exact fUp_n h
    · rw [if_neg c9]
      exact fUp_n h
/-- a step at a site, from what its visit comes to on each side -/
theorem stO_I (h : hyS S0 p X fa ms n WE B B2 w t A) (ho : opI S0 (a_K A t) = 27) (hw2 : wfA S0 fa ms n WE B2 A2) (ht2 : ∀ t2 : Int, t2 ≠ t → a_K A2 t2 = a_K A t2) (hk2 : c ≠ 0 → a_K A2 t = a_K A t) (hC : ∀ S : wS, cRel S0 p HT cs ms os X mo A S → wJ (pe_GA xs) wY0 (mS sML) (d + 12) t_XK_step ((pe_at t_XK_step.bl 0).getD (0, [])).2 [(0, (2, w))] [] S (fun o Z2 => ∃ Z : wS, (Z w 16 = c ∧ cRel S0 p HT cs ms os X mo A2 Z) ∧ sR w Z o Z2)) (hR : ∀ {Sb : wS} (S : wS), rRun S0 Sb HT cs ms os X mo t A S → wJ (pe_GA xs) wY0 (fun _ => False) (d + 11) t_M_invokes ((pe_at t_M_invokes.bl 0).getD (0, [])).2 [(0, (2, 237)), (1, (0, opA S0 (a_K A t)))] [] (w_up (w_up S 237 154 (200 * t + ((a_K A t).2.1.length : Int) - 1)) 237 155 (((a_K A t).2.1.getD ((a_K A t).2.1.length - 1) (0, 0, 0, (0, 0, []), 0, 0, 0)).2.1 + 1)) (rOc S0 Sb HT cs ms os X mo t c A2)) : stO xs d S0 p HT cs ms os X mo fa n WE B2 w t A := by
  obtain ⟨hp, hw, hx, hA, hE, hB, hr⟩ := h
  have hk := wT_of hA hw
  have hkc : c ≠ 0 → wTk fa S0 (a_K A2 t) ∧ (a_K A2 t).2.2.2.1 = 1 := fun c0 => by
    rw [hk2 c0]
    exact ⟨hk, hr⟩
  refine ⟨if c = 99 then 0 else 1, finA c t A2, ?_, fin_w hw2 hE hw hB.2 (fun c0 => (hkc c0).2), fun t2 h2 => (fin_t h2).trans (ht2 t2 h2), fun e0 => ?_, fun S hS => ?_, fun S hS => ?_⟩
  · by_cases c9 : c = 99
    · exact Or.inl (if_pos c9)
    · exact Or.inr (if_neg c9)
  · have c9 : c = 99 := by
      by_cases c9 : c = 99
      · exact c9
      · rw [if_neg c9] at e0
        exact absurd e0 (by first | decide | omega)
    unfold finA
    rw [if_neg (show ¬ c = 0 by omega), if_pos c9]
    show (fUp A2.1 t (kSt (a_K A2 t)) t).2.2.2.1 ≠ 1
    rw [fUp_s]
    show (4 : Int) ≠ 1
    decide
  · refine wJ_mono (hC S hS) (fun o Z2 hz => ?_)
    obtain ⟨Z, ⟨z1, z2⟩, z3⟩ := hz
    exact fin_c hp hw hkc z1 z2 z3
  · have hq := hqo_r hx hk hr hw ho hS
    refine rt27 (Rn := fun Z => c = 0 ∧ rRun S0 _ HT cs ms os X mo t A2 Z) (Rt := fun Z => c ≠ 0 ∧ Z 238 5 = c ∧ rRun S0 _ HT cs ms os X mo t A2 Z) hq.1 hq.2.2 hq.2.1 (wJ_mono (hR S hS) (fun o Z hz => hz)) (fun Z hz => ⟨hz.2.2.1.1, hz.2.2.2.1, fun c5 => ?_⟩) (fun Z2 dn hz => fin_r (wt_t hw) ⟨hw2.1.1.1, hw2.1.2.1⟩ hkc hz)
    obtain ⟨k1, k2⟩ := hkc hz.1
    exact mR_of (rT_of hz.2.2.1 (wt_t hw)) hz.2.2.1.1 (by have := wt_t hw; omega) hz.2.2.2 (wKt_tr (k1.2.1 k2).1) ⟨k1.1.2, k1.1.1⟩
end Wkw
