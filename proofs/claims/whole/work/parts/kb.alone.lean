/-! PART kb: a step of a task, on both sides: what changes the task alone. -/
section Wkb
variable {Sb : wS} {xs : List (Nat × List Int32)} {d : Nat} {S0 S Z : wS} {p w m : Nat} {HT : Int → Int} {cs : List hCR} {ms : List hMR} {os : Int → List Int} {X : List (List Int)} {mo t n B B2 oq : Int} {fa : Int → Int} {WE : aA → Prop} {A A2 : aA} {K2 : aK} {ml : List Nat}
/-- slots that a step may grow -/
def sML : List Nat := [3, 4, 5, 6, 7, 8, 9, 48, 49, 50, 51, 52, 53, 54, 55, 56, 57, 120, 121, 122, 123, 124, 127, 128, 129, 130, 131, 132, 133, 134, 135, 136, 138, 139, 141, 142, 144, 145, 146, 147, 148, 151, 152, 154, 155, 209, 210, 211, 212, 213, 217, 218, 225, 228, 229, 236]
theorem mS_sM (hs : ∀ k ∈ ml, k ∈ sML) (j : Nat) : mS ml j → mS sML j := fun z => Or.imp id (hs j) z
theorem rtu_mo {PQ PQ2 : wS → Int → Prop} (h : rTurn xs d t S PQ) (g : ∀ (Z : wS) (dn : Int), PQ Z dn → PQ2 Z dn) : rTurn xs d t S PQ2 := fun M Q n k x1 a b c => h M Q n k x1 a b (fun Z2 dn z1 z2 z3 => c Z2 dn (g Z2 dn z1) z2 z3)
/-- a step of both sides: from A to A2, answering e -/
def stpR (xs : List (Nat × List Int32)) (d : Nat) (S0 : wS) (p : Nat) (HT : Int → Int) (cs : List hCR) (ms : List hMR) (os : Int → List Int) (X : List (List Int)) (mo : Int) (w : Nat) (t : Int) (A : aA) (e : Int) (A2 : aA) : Prop := (∀ S : wS, cRel S0 p HT cs ms os X mo A S → wJ (pe_GA xs) wY0 (mS sML) (d + 12) t_XK_step ((pe_at t_XK_step.bl 0).getD (0, [])).2 [(0, (2, w))] [] S (fun o Z => o = .inl (some (0, e)) ∧ cRel S0 p HT cs ms os X mo A2 Z)) ∧ ∀ {Sb : wS} (S : wS), rRun S0 Sb HT cs ms os X mo t A S → rTurn xs d t S (fun Z dn => dn = e ∧ (w_ML Z → rRun S0 Sb HT cs ms os X mo t A2 Z))
/-- there is a step of both sides -/
def stO (xs : List (Nat × List Int32)) (d : Nat) (S0 : wS) (p : Nat) (HT : Int → Int) (cs : List hCR) (ms : List hMR) (os : Int → List Int) (X : List (List Int)) (mo : Int) (fa : Int → Int) (n : Int) (WE : aA → Prop) (B : Int) (w : Nat) (t : Int) (A : aA) : Prop := ∃ (e : Int) (A2 : aA), (e = 0 ∨ e = 1) ∧ wfA S0 fa ms n WE B A2 ∧ (∀ t2 : Int, t2 ≠ t → a_K A2 t2 = a_K A t2) ∧ (e = 0 → (a_K A2 t).2.2.2.1 ≠ 1) ∧ stpR xs d S0 p HT cs ms os X mo w t A e A2
/-- where a step begins -/
def hyS (S0 : wS) (p : Nat) (X : List (List Int)) (fa : Int → Int) (ms : List hMR) (n : Int) (WE : aA → Prop) (B B2 : Int) (w : Nat) (t : Int) (A : aA) : Prop := (p = 73 ∨ p = 162) ∧ isWt w t ∧ stX S0 fa X ∧ wfA S0 fa ms n WE B A ∧ WEk WE ∧ (B ≤ B2 ∧ B2 ≤ 600000) ∧ (a_K A t).2.2.2.1 = 1
theorem wt_t (h : isWt w t) : t = 0 ∨ t = 1 := h.imp (fun z => z.2) (fun z => z.2)
theorem wT_of (hA : wfA S0 fa ms n WE B A) (hw : isWt w t) : wTk fa S0 (a_K A t) := by
  rcases hw with ⟨-, rfl⟩ | ⟨-, rfl⟩
  · exact hA.1.1
  · exact hA.1.2
theorem wV_of (hA : wfA S0 fa ms n WE B A) (hw : isWt w t) : wKv (a_T A) n (a_K A t) := by
  rcases hw with ⟨-, rfl⟩ | ⟨-, rfl⟩
  · exact hA.2.2.1.1.1
  · exact hA.2.2.1.1.2
theorem rRun_K (h : rRun S0 Sb HT cs ms os X mo t A S) (ht : t = 0 ∨ t = 1) (hl : kLn (a_K A 0) ∧ kLn (a_K A 1)) (hK : rTk t Z K2) (hf : rTf t S Z) (hM : w_ML Z) : rRun S0 Sb HT cs ms os X mo t (u_K A t K2) Z := by
  have f := fun (x : Int) (hx : 151 ≤ x ∧ x ≤ 153) => tmG (rTf_m hf) 237 x (by unfold rKp; omega) (fun z => z)
  exact ⟨rRel_K h.1 ht hl hK hf hM, (f 151 (by omega)).trans h.2.1, (f 152 (by omega)).trans h.2.2.1, (f 153 (by omega)).trans h.2.2.2⟩
/-- a step that changes its task alone -/
theorem stO_K (hp : p = 73 ∨ p = 162) (hw : isWt w t) (hs : ∀ k ∈ ml, k ∈ sML) (hA : wfA S0 fa ms n WE B A) (hE : WEk WE) (hB : B ≤ B2 ∧ B2 ≤ 600000) (hc : ∀ S : wS, cRel S0 p HT cs ms os X mo A S → cSx xs d w ml S K2) (hr : ∀ {Sb : wS} (S : wS), rRun S0 Sb HT cs ms os X mo t A S → rSt xs d t S K2) (h1 : wTk fa S0 K2) (h2 : wKv (a_T A) n (a_K A t) → wKv (a_T A) n K2) (h3 : fLe K2.2.1 (a_K A t).2.1) : stO xs d S0 p HT cs ms os X mo fa n WE B2 w t A := by
  have tt := wt_t hw
  refine ⟨1, u_K A t K2, Or.inr rfl, wf_K hA hE tt h1 (h2 (wV_of hA hw)) (fun cf _ c2 => kc_le c2 h3) hB, fun t2 h => fUp_n h, fun z => absurd z (by first | decide | omega), fun S hS => ?_, fun S hS => ?_⟩
  · exact wJ_M (wJ_mono (hc S hS) (fun o Z hz => ⟨hz.1, cRel_K hS hp hw hz.2.1 hz.2.2⟩)) (mS_sM hs)
  · exact rtu_mo (hr S hS) (fun Z dn hz => ⟨hz.1, fun hM => rRun_K hS tt ⟨hA.1.1.1, hA.1.2.1⟩ hz.2.1 hz.2.2 hM⟩)
/-- a step that stops -/
theorem stO_S (hp : p = 73 ∨ p = 162) (hw : isWt w t) (hs : ∀ k ∈ ml, k ∈ sML) (hA : wfA S0 fa ms n WE B A) (hE : WEk WE) (hB : B ≤ B2 ∧ B2 ≤ 600000) (hc : ∀ S : wS, cRel S0 p HT cs ms os X mo A S → cSn xs d w ml S (a_K A t)) (hr : ∀ {Sb : wS} (S : wS), rRun S0 Sb HT cs ms os X mo t A S → rSn xs d t S (a_K A t)) : stO xs d S0 p HT cs ms os X mo fa n WE B2 w t A := by
  have tt := wt_t hw
  refine ⟨0, u_K A t (kSt (a_K A t)), Or.inl rfl, wf_K hA hE tt (tyt_S (wT_of hA hw)) (kv_S (wV_of hA hw)) (fun cf _ c2 => kc_le c2 fLe_r) hB, fun t2 h => fUp_n h, fun _ => ?_, fun S hS => ?_, fun S hS => ?_⟩
  · show (fUp A.1 t (kSt (a_K A t)) t).2.2.2.1 ≠ 1
    rw [fUp_s]
    show (4 : Int) ≠ 1
    decide
  · exact wJ_M (wJ_mono (hc S hS) (fun o Z hz => ⟨hz.1, cRel_K hS hp hw hz.2.1 hz.2.2⟩)) (mS_sM hs)
  · exact rtu_mo (hr S hS) (fun Z dn hz => ⟨hz.1, fun hM => rRun_K hS tt ⟨hA.1.1.1, hA.1.2.1⟩ hz.2.1 hz.2.2 hM⟩)
theorem hco_c (hx : stX S0 fa X) (hk : wTk fa S0 (a_K A t)) (hr : (a_K A t).2.2.2.1 = 1) (hw : isWt w t) (ho : opI S0 (a_K A t) = oq) (h : cRel S0 p HT cs ms os X mo A S) : stC w S (a_K A t) ∧ cIn S (a_K A t) oq (opA S0 (a_K A t)) (opB S0 (a_K A t)) := by
  have z := stt_c hx hk hr hw h
  rw [ho] at z
  exact z
theorem hqo_r (hx : stX S0 fa X) (hk : wTk fa S0 (a_K A t)) (hr : (a_K A t).2.2.2.1 = 1) (hw : isWt w t) (ho : opI S0 (a_K A t) = oq) (h : rRun S0 Sb HT cs ms os X mo t A S) : stR t S (a_K A t) ∧ rIn S (a_K A t) oq (opA S0 (a_K A t)) (opB S0 (a_K A t)) ∧ S 357 t = 1 := by
  have z := stt_r hx hk hr (wt_t hw) h
  rw [ho] at z
  exact z
theorem fLe_P {K : aK} {u : aV} : fLe (kP K m u).2.1 K.2.1 := fLe_n (K := (_, K.2))
theorem fLe_D {K : aK} {q : Int} : fLe (kD K m q).2.1 K.2.1 := fLe_n (K := (_, K.2))
theorem mne_2 {a e : Int} (h : (7 ≤ oq ∧ oq ≤ 11) ∨ (14 ≤ oq ∧ oq ≤ 19)) : mne oq a e = 2 := by
  unfold mne tne
  rw [if_neg (by omega), if_neg (by omega), if_neg (by omega), if_neg (by omega), if_neg (by omega), if_neg (by omega), if_pos (by omega)]
/-- texts are comparable -/
theorem tx_cm {T : List aO} {u v : aV} (hu : vG T n u) (hv : vG T n v) : -1000000 ≤ cmpL u.2.2 v.2.2 ∧ cmpL u.2.2 v.2.2 ≤ 1000000 := by
  have z := cmpL_rg (n := 200000) (by first | decide | omega) u.2.2 v.2.2 hu.2.2.2.1 hv.2.2.2.1 (by have := hu.2.2.2.2; omega) (by have := hv.2.2.2.2; omega)
  omega
theorem cR_tt (h : cRel S0 p HT cs ms os X mo A S) : cTt S := by
  obtain ⟨⟨⟨⟨⟨-, b1, -⟩, -⟩, -⟩, -⟩, a2, a3, a4, a5⟩ := h.2.2.2.1
  exact ⟨b1.1, b1.2, a5⟩

theorem so_7 (h : hyS S0 p X fa ms n WE B B2 w t A) (ho : opI S0 (a_K A t) = 7) (hx2 : ((a_K A t).1.getD ((a_K A t).1.length - 2) (0, 0, [])).1 = 2) (hy : ((a_K A t).1.getD ((a_K A t).1.length - 1) (0, 0, [])).1 = 2) : stO xs d S0 p HT cs ms os X mo fa n WE B2 w t A := by
  obtain ⟨hp, hw, hx, hA, hE, hB, hr⟩ := h
  have hk := wT_of hA hw
  have hv := wV_of hA hw
  have hab := hab_x hx hk hr
  have hc := fun (S : wS) (hS : cRel S0 p HT cs ms os X mo A S) => hco_c hx hk hr hw ho hS
  have hq := fun {Sb : wS} (S : wS) (hS : rRun S0 Sb HT cs ms os X mo t A S) => hqo_r hx hk hr hw ho hS
  have hh := tyt_h hx hk hr
  rw [ho] at hh
  replace hh : 2 ≤ (a_K A t).1.length := by have z : (2 : Int) ≤ ((a_K A t).1.length : Int) := hh; omega
  rcases hw with ⟨rfl, rfl⟩ | ⟨rfl, rfl⟩
  · exact stO_K (ml := [217, 218]) hp (Or.inl ⟨rfl, rfl⟩) (by first | decide | omega) hA hE hB (fun S hS => z7_215 (hc S hS).1 (hc S hS).2 hh hx2 hy) (fun S hS => rn7 (hq S hS).1 (hq S hS).2.2 (hq S hS).2.1 hh hx2 hy) (tyt_P (m := 2) hx hk hr (by rw [ho]; decide) (by rw [ho]; rfl) (by omega) (fun z => absurd z (by first | decide | omega))) (fun v => kv_P v vG_n) (fLe_P)
  · exact stO_K (ml := [228, 229]) hp (Or.inr ⟨rfl, rfl⟩) (by first | decide | omega) hA hE hB (fun S hS => z7_226 (hc S hS).1 (hc S hS).2 hh hx2 hy) (fun S hS => rn7 (hq S hS).1 (hq S hS).2.2 (hq S hS).2.1 hh hx2 hy) (tyt_P (m := 2) hx hk hr (by rw [ho]; decide) (by rw [ho]; rfl) (by omega) (fun z => absurd z (by first | decide | omega))) (fun v => kv_P v vG_n) (fLe_P)

theorem so_8 (h : hyS S0 p X fa ms n WE B B2 w t A) (ho : opI S0 (a_K A t) = 8) (hx2 : ((a_K A t).1.getD ((a_K A t).1.length - 2) (0, 0, [])).1 = 2) (hy : ((a_K A t).1.getD ((a_K A t).1.length - 1) (0, 0, [])).1 = 2) : stO xs d S0 p HT cs ms os X mo fa n WE B2 w t A := by
  obtain ⟨hp, hw, hx, hA, hE, hB, hr⟩ := h
  have hk := wT_of hA hw
  have hv := wV_of hA hw
  have hab := hab_x hx hk hr
  have hc := fun (S : wS) (hS : cRel S0 p HT cs ms os X mo A S) => hco_c hx hk hr hw ho hS
  have hq := fun {Sb : wS} (S : wS) (hS : rRun S0 Sb HT cs ms os X mo t A S) => hqo_r hx hk hr hw ho hS
  have hh := tyt_h hx hk hr
  rw [ho] at hh
  replace hh : 2 ≤ (a_K A t).1.length := by have z : (2 : Int) ≤ ((a_K A t).1.length : Int) := hh; omega
  rcases hw with ⟨rfl, rfl⟩ | ⟨rfl, rfl⟩
  · exact stO_K (ml := [217, 218]) hp (Or.inl ⟨rfl, rfl⟩) (by first | decide | omega) hA hE hB (fun S hS => z8_215 (hc S hS).1 (hc S hS).2 hh hx2 hy) (fun S hS => rn8 (hq S hS).1 (hq S hS).2.2 (hq S hS).2.1 hh hx2 hy) (tyt_P (m := 2) hx hk hr (by rw [ho]; decide) (by rw [ho]; rfl) (by omega) (fun z => absurd z (by first | decide | omega))) (fun v => kv_P v vG_n) (fLe_P)
  · exact stO_K (ml := [228, 229]) hp (Or.inr ⟨rfl, rfl⟩) (by first | decide | omega) hA hE hB (fun S hS => z8_226 (hc S hS).1 (hc S hS).2 hh hx2 hy) (fun S hS => rn8 (hq S hS).1 (hq S hS).2.2 (hq S hS).2.1 hh hx2 hy) (tyt_P (m := 2) hx hk hr (by rw [ho]; decide) (by rw [ho]; rfl) (by omega) (fun z => absurd z (by first | decide | omega))) (fun v => kv_P v vG_n) (fLe_P)

theorem so_9 (h : hyS S0 p X fa ms n WE B B2 w t A) (ho : opI S0 (a_K A t) = 9) (hx2 : ((a_K A t).1.getD ((a_K A t).1.length - 2) (0, 0, [])).1 = 2) (hy : ((a_K A t).1.getD ((a_K A t).1.length - 1) (0, 0, [])).1 = 2) : stO xs d S0 p HT cs ms os X mo fa n WE B2 w t A := by
  obtain ⟨hp, hw, hx, hA, hE, hB, hr⟩ := h
  have hk := wT_of hA hw
  have hv := wV_of hA hw
  have hab := hab_x hx hk hr
  have hc := fun (S : wS) (hS : cRel S0 p HT cs ms os X mo A S) => hco_c hx hk hr hw ho hS
  have hq := fun {Sb : wS} (S : wS) (hS : rRun S0 Sb HT cs ms os X mo t A S) => hqo_r hx hk hr hw ho hS
  have hh := tyt_h hx hk hr
  rw [ho] at hh
  replace hh : 2 ≤ (a_K A t).1.length := by have z : (2 : Int) ≤ ((a_K A t).1.length : Int) := hh; omega
  rcases hw with ⟨rfl, rfl⟩ | ⟨rfl, rfl⟩
  · exact stO_K (ml := [217, 218]) hp (Or.inl ⟨rfl, rfl⟩) (by first | decide | omega) hA hE hB (fun S hS => z9_215 (hc S hS).1 (hc S hS).2 hh hx2 hy) (fun S hS => rn9 (hq S hS).1 (hq S hS).2.2 (hq S hS).2.1 hh hx2 hy) (tyt_P (m := 2) hx hk hr (by rw [ho]; decide) (by rw [ho]; rfl) (by omega) (fun z => absurd z (by first | decide | omega))) (fun v => kv_P v vG_n) (fLe_P)
  · exact stO_K (ml := [228, 229]) hp (Or.inr ⟨rfl, rfl⟩) (by first | decide | omega) hA hE hB (fun S hS => z9_226 (hc S hS).1 (hc S hS).2 hh hx2 hy) (fun S hS => rn9 (hq S hS).1 (hq S hS).2.2 (hq S hS).2.1 hh hx2 hy) (tyt_P (m := 2) hx hk hr (by rw [ho]; decide) (by rw [ho]; rfl) (by omega) (fun z => absurd z (by first | decide | omega))) (fun v => kv_P v vG_n) (fLe_P)

theorem so_10 (h : hyS S0 p X fa ms n WE B B2 w t A) (ho : opI S0 (a_K A t) = 10) (hx2 : ((a_K A t).1.getD ((a_K A t).1.length - 2) (0, 0, [])).1 = 2) (hy : ((a_K A t).1.getD ((a_K A t).1.length - 1) (0, 0, [])).1 = 2) (h0 : ((a_K A t).1.getD ((a_K A t).1.length - 1) (0, 0, [])).2.1 ≠ 0) : stO xs d S0 p HT cs ms os X mo fa n WE B2 w t A := by
  obtain ⟨hp, hw, hx, hA, hE, hB, hr⟩ := h
  have hk := wT_of hA hw
  have hv := wV_of hA hw
  have hab := hab_x hx hk hr
  have hc := fun (S : wS) (hS : cRel S0 p HT cs ms os X mo A S) => hco_c hx hk hr hw ho hS
  have hq := fun {Sb : wS} (S : wS) (hS : rRun S0 Sb HT cs ms os X mo t A S) => hqo_r hx hk hr hw ho hS
  have hh := tyt_h hx hk hr
  rw [ho] at hh
  replace hh : 2 ≤ (a_K A t).1.length := by have z : (2 : Int) ≤ ((a_K A t).1.length : Int) := hh; omega
  rcases hw with ⟨rfl, rfl⟩ | ⟨rfl, rfl⟩
  · exact stO_K (ml := [217, 218]) hp (Or.inl ⟨rfl, rfl⟩) (by first | decide | omega) hA hE hB (fun S hS => z10_215 (hc S hS).1 (hc S hS).2 hh hx2 hy h0) (fun S hS => rn10 (hq S hS).1 (hq S hS).2.2 (hq S hS).2.1 hh hx2 hy h0) (tyt_P (m := 2) hx hk hr (by rw [ho]; decide) (by rw [ho]; rfl) (by omega) (fun z => absurd z (by first | decide | omega))) (fun v => kv_P v vG_n) (fLe_P)
  · exact stO_K (ml := [228, 229]) hp (Or.inr ⟨rfl, rfl⟩) (by first | decide | omega) hA hE hB (fun S hS => z10_226 (hc S hS).1 (hc S hS).2 hh hx2 hy h0) (fun S hS => rn10 (hq S hS).1 (hq S hS).2.2 (hq S hS).2.1 hh hx2 hy h0) (tyt_P (m := 2) hx hk hr (by rw [ho]; decide) (by rw [ho]; rfl) (by omega) (fun z => absurd z (by first | decide | omega))) (fun v => kv_P v vG_n) (fLe_P)

theorem so_10e (h : hyS S0 p X fa ms n WE B B2 w t A) (ho : opI S0 (a_K A t) = 10) (hx2 : ((a_K A t).1.getD ((a_K A t).1.length - 2) (0, 0, [])).1 = 2) (hy : ((a_K A t).1.getD ((a_K A t).1.length - 1) (0, 0, [])).1 = 2) (h0 : ((a_K A t).1.getD ((a_K A t).1.length - 1) (0, 0, [])).2.1 = 0) : stO xs d S0 p HT cs ms os X mo fa n WE B2 w t A := by
  obtain ⟨hp, hw, hx, hA, hE, hB, hr⟩ := h
  have hk := wT_of hA hw
  have hv := wV_of hA hw
  have hab := hab_x hx hk hr
  have hc := fun (S : wS) (hS : cRel S0 p HT cs ms os X mo A S) => hco_c hx hk hr hw ho hS
  have hq := fun {Sb : wS} (S : wS) (hS : rRun S0 Sb HT cs ms os X mo t A S) => hqo_r hx hk hr hw ho hS
  have hh := tyt_h hx hk hr
  rw [ho] at hh
  replace hh : 2 ≤ (a_K A t).1.length := by have z : (2 : Int) ≤ ((a_K A t).1.length : Int) := hh; omega
  rcases hw with ⟨rfl, rfl⟩ | ⟨rfl, rfl⟩
  · exact stO_K (ml := [217, 218]) hp (Or.inl ⟨rfl, rfl⟩) (by first | decide | omega) hA hE hB (fun S hS => z10e_215 (hc S hS).1 (hc S hS).2 hh hx2 hy h0) (fun S hS => rn10e (hq S hS).1 (hq S hS).2.2 (hq S hS).2.1 hh hx2 hy h0) (tyt_T hk hr) (fun v => kv_T v hr vG_n) (fLe_th)
  · exact stO_K (ml := [228, 229]) hp (Or.inr ⟨rfl, rfl⟩) (by first | decide | omega) hA hE hB (fun S hS => z10e_226 (hc S hS).1 (hc S hS).2 hh hx2 hy h0) (fun S hS => rn10e (hq S hS).1 (hq S hS).2.2 (hq S hS).2.1 hh hx2 hy h0) (tyt_T hk hr) (fun v => kv_T v hr vG_n) (fLe_th)

theorem so_11 (h : hyS S0 p X fa ms n WE B B2 w t A) (ho : opI S0 (a_K A t) = 11) (hx2 : ((a_K A t).1.getD ((a_K A t).1.length - 2) (0, 0, [])).1 = 2) (hy : ((a_K A t).1.getD ((a_K A t).1.length - 1) (0, 0, [])).1 = 2) (h0 : ((a_K A t).1.getD ((a_K A t).1.length - 1) (0, 0, [])).2.1 ≠ 0) : stO xs d S0 p HT cs ms os X mo fa n WE B2 w t A := by
  obtain ⟨hp, hw, hx, hA, hE, hB, hr⟩ := h
  have hk := wT_of hA hw
  have hv := wV_of hA hw
  have hab := hab_x hx hk hr
  have hc := fun (S : wS) (hS : cRel S0 p HT cs ms os X mo A S) => hco_c hx hk hr hw ho hS
  have hq := fun {Sb : wS} (S : wS) (hS : rRun S0 Sb HT cs ms os X mo t A S) => hqo_r hx hk hr hw ho hS
  have hh := tyt_h hx hk hr
  rw [ho] at hh
  replace hh : 2 ≤ (a_K A t).1.length := by have z : (2 : Int) ≤ ((a_K A t).1.length : Int) := hh; omega
  rcases hw with ⟨rfl, rfl⟩ | ⟨rfl, rfl⟩
  · exact stO_K (ml := [217, 218]) hp (Or.inl ⟨rfl, rfl⟩) (by first | decide | omega) hA hE hB (fun S hS => z11_215 (hc S hS).1 (hc S hS).2 hh hx2 hy h0) (fun S hS => rn11 (hq S hS).1 (hq S hS).2.2 (hq S hS).2.1 hh hx2 hy h0) (tyt_P (m := 2) hx hk hr (by rw [ho]; decide) (by rw [ho]; rfl) (by omega) (fun z => absurd z (by first | decide | omega))) (fun v => kv_P v vG_n) (fLe_P)
  · exact stO_K (ml := [228, 229]) hp (Or.inr ⟨rfl, rfl⟩) (by first | decide | omega) hA hE hB (fun S hS => z11_226 (hc S hS).1 (hc S hS).2 hh hx2 hy h0) (fun S hS => rn11 (hq S hS).1 (hq S hS).2.2 (hq S hS).2.1 hh hx2 hy h0) (tyt_P (m := 2) hx hk hr (by rw [ho]; decide) (by rw [ho]; rfl) (by omega) (fun z => absurd z (by first | decide | omega))) (fun v => kv_P v vG_n) (fLe_P)

theorem so_11e (h : hyS S0 p X fa ms n WE B B2 w t A) (ho : opI S0 (a_K A t) = 11) (hx2 : ((a_K A t).1.getD ((a_K A t).1.length - 2) (0, 0, [])).1 = 2) (hy : ((a_K A t).1.getD ((a_K A t).1.length - 1) (0, 0, [])).1 = 2) (h0 : ((a_K A t).1.getD ((a_K A t).1.length - 1) (0, 0, [])).2.1 = 0) : stO xs d S0 p HT cs ms os X mo fa n WE B2 w t A := by
  obtain ⟨hp, hw, hx, hA, hE, hB, hr⟩ := h
  have hk := wT_of hA hw
  have hv := wV_of hA hw
  have hab := hab_x hx hk hr
  have hc := fun (S : wS) (hS : cRel S0 p HT cs ms os X mo A S) => hco_c hx hk hr hw ho hS
  have hq := fun {Sb : wS} (S : wS) (hS : rRun S0 Sb HT cs ms os X mo t A S) => hqo_r hx hk hr hw ho hS
  have hh := tyt_h hx hk hr
  rw [ho] at hh
  replace hh : 2 ≤ (a_K A t).1.length := by have z : (2 : Int) ≤ ((a_K A t).1.length : Int) := hh; omega
  rcases hw with ⟨rfl, rfl⟩ | ⟨rfl, rfl⟩
  · exact stO_K (ml := [217, 218]) hp (Or.inl ⟨rfl, rfl⟩) (by first | decide | omega) hA hE hB (fun S hS => z11e_215 (hc S hS).1 (hc S hS).2 hh hx2 hy h0) (fun S hS => rn11e (hq S hS).1 (hq S hS).2.2 (hq S hS).2.1 hh hx2 hy h0) (tyt_T hk hr) (fun v => kv_T v hr vG_n) (fLe_th)
  · exact stO_K (ml := [228, 229]) hp (Or.inr ⟨rfl, rfl⟩) (by first | decide | omega) hA hE hB (fun S hS => z11e_226 (hc S hS).1 (hc S hS).2 hh hx2 hy h0) (fun S hS => rn11e (hq S hS).1 (hq S hS).2.2 (hq S hS).2.1 hh hx2 hy h0) (tyt_T hk hr) (fun v => kv_T v hr vG_n) (fLe_th)

theorem so_16 (h : hyS S0 p X fa ms n WE B B2 w t A) (ho : opI S0 (a_K A t) = 16) (hx2 : ((a_K A t).1.getD ((a_K A t).1.length - 2) (0, 0, [])).1 = 2) (hy : ((a_K A t).1.getD ((a_K A t).1.length - 1) (0, 0, [])).1 = 2) : stO xs d S0 p HT cs ms os X mo fa n WE B2 w t A := by
  obtain ⟨hp, hw, hx, hA, hE, hB, hr⟩ := h
  have hk := wT_of hA hw
  have hv := wV_of hA hw
  have hab := hab_x hx hk hr
  have hc := fun (S : wS) (hS : cRel S0 p HT cs ms os X mo A S) => hco_c hx hk hr hw ho hS
  have hq := fun {Sb : wS} (S : wS) (hS : rRun S0 Sb HT cs ms os X mo t A S) => hqo_r hx hk hr hw ho hS
  have hh := tyt_h hx hk hr
  rw [ho] at hh
  replace hh : 2 ≤ (a_K A t).1.length := by have z : (2 : Int) ≤ ((a_K A t).1.length : Int) := hh; omega
  rcases hw with ⟨rfl, rfl⟩ | ⟨rfl, rfl⟩
  · exact stO_K (ml := [217, 218]) hp (Or.inl ⟨rfl, rfl⟩) (by first | decide | omega) hA hE hB (fun S hS => z16_215 (hc S hS).1 (hc S hS).2 hh hx2 hy) (fun S hS => rn16 (hq S hS).1 (hq S hS).2.2 (hq S hS).2.1 hh hx2 hy) (tyt_P (m := 2) hx hk hr (by rw [ho]; decide) (by rw [ho]; rfl) (by omega) (fun z => absurd z (by first | decide | omega))) (fun v => kv_P v vG_i) (fLe_P)
  · exact stO_K (ml := [228, 229]) hp (Or.inr ⟨rfl, rfl⟩) (by first | decide | omega) hA hE hB (fun S hS => z16_226 (hc S hS).1 (hc S hS).2 hh hx2 hy) (fun S hS => rn16 (hq S hS).1 (hq S hS).2.2 (hq S hS).2.1 hh hx2 hy) (tyt_P (m := 2) hx hk hr (by rw [ho]; decide) (by rw [ho]; rfl) (by omega) (fun z => absurd z (by first | decide | omega))) (fun v => kv_P v vG_i) (fLe_P)

theorem so_17 (h : hyS S0 p X fa ms n WE B B2 w t A) (ho : opI S0 (a_K A t) = 17) (hx2 : ((a_K A t).1.getD ((a_K A t).1.length - 2) (0, 0, [])).1 = 2) (hy : ((a_K A t).1.getD ((a_K A t).1.length - 1) (0, 0, [])).1 = 2) : stO xs d S0 p HT cs ms os X mo fa n WE B2 w t A := by
  obtain ⟨hp, hw, hx, hA, hE, hB, hr⟩ := h
  have hk := wT_of hA hw
  have hv := wV_of hA hw
  have hab := hab_x hx hk hr
  have hc := fun (S : wS) (hS : cRel S0 p HT cs ms os X mo A S) => hco_c hx hk hr hw ho hS
  have hq := fun {Sb : wS} (S : wS) (hS : rRun S0 Sb HT cs ms os X mo t A S) => hqo_r hx hk hr hw ho hS
  have hh := tyt_h hx hk hr
  rw [ho] at hh
  replace hh : 2 ≤ (a_K A t).1.length := by have z : (2 : Int) ≤ ((a_K A t).1.length : Int) := hh; omega
  rcases hw with ⟨rfl, rfl⟩ | ⟨rfl, rfl⟩
  · exact stO_K (ml := [217, 218]) hp (Or.inl ⟨rfl, rfl⟩) (by first | decide | omega) hA hE hB (fun S hS => z17_215 (hc S hS).1 (hc S hS).2 hh hx2 hy) (fun S hS => rn17 (hq S hS).1 (hq S hS).2.2 (hq S hS).2.1 hh hx2 hy) (tyt_P (m := 2) hx hk hr (by rw [ho]; decide) (by rw [ho]; rfl) (by omega) (fun z => absurd z (by first | decide | omega))) (fun v => kv_P v vG_i) (fLe_P)
  · exact stO_K (ml := [228, 229]) hp (Or.inr ⟨rfl, rfl⟩) (by first | decide | omega) hA hE hB (fun S hS => z17_226 (hc S hS).1 (hc S hS).2 hh hx2 hy) (fun S hS => rn17 (hq S hS).1 (hq S hS).2.2 (hq S hS).2.1 hh hx2 hy) (tyt_P (m := 2) hx hk hr (by rw [ho]; decide) (by rw [ho]; rfl) (by omega) (fun z => absurd z (by first | decide | omega))) (fun v => kv_P v vG_i) (fLe_P)

theorem so_18 (h : hyS S0 p X fa ms n WE B B2 w t A) (ho : opI S0 (a_K A t) = 18) (hx2 : ((a_K A t).1.getD ((a_K A t).1.length - 2) (0, 0, [])).1 = 2) (hy : ((a_K A t).1.getD ((a_K A t).1.length - 1) (0, 0, [])).1 = 2) : stO xs d S0 p HT cs ms os X mo fa n WE B2 w t A := by
  obtain ⟨hp, hw, hx, hA, hE, hB, hr⟩ := h
  have hk := wT_of hA hw
  have hv := wV_of hA hw
  have hab := hab_x hx hk hr
  have hc := fun (S : wS) (hS : cRel S0 p HT cs ms os X mo A S) => hco_c hx hk hr hw ho hS
  have hq := fun {Sb : wS} (S : wS) (hS : rRun S0 Sb HT cs ms os X mo t A S) => hqo_r hx hk hr hw ho hS
  have hh := tyt_h hx hk hr
  rw [ho] at hh
  replace hh : 2 ≤ (a_K A t).1.length := by have z : (2 : Int) ≤ ((a_K A t).1.length : Int) := hh; omega
  rcases hw with ⟨rfl, rfl⟩ | ⟨rfl, rfl⟩
  · exact stO_K (ml := [217, 218]) hp (Or.inl ⟨rfl, rfl⟩) (by first | decide | omega) hA hE hB (fun S hS => z18_215 (hc S hS).1 (hc S hS).2 hh hx2 hy) (fun S hS => rn18 (hq S hS).1 (hq S hS).2.2 (hq S hS).2.1 hh hx2 hy) (tyt_P (m := 2) hx hk hr (by rw [ho]; decide) (by rw [ho]; rfl) (by omega) (fun z => absurd z (by first | decide | omega))) (fun v => kv_P v vG_i) (fLe_P)
  · exact stO_K (ml := [228, 229]) hp (Or.inr ⟨rfl, rfl⟩) (by first | decide | omega) hA hE hB (fun S hS => z18_226 (hc S hS).1 (hc S hS).2 hh hx2 hy) (fun S hS => rn18 (hq S hS).1 (hq S hS).2.2 (hq S hS).2.1 hh hx2 hy) (tyt_P (m := 2) hx hk hr (by rw [ho]; decide) (by rw [ho]; rfl) (by omega) (fun z => absurd z (by first | decide | omega))) (fun v => kv_P v vG_i) (fLe_P)

theorem so_19 (h : hyS S0 p X fa ms n WE B B2 w t A) (ho : opI S0 (a_K A t) = 19) (hx2 : ((a_K A t).1.getD ((a_K A t).1.length - 2) (0, 0, [])).1 = 2) (hy : ((a_K A t).1.getD ((a_K A t).1.length - 1) (0, 0, [])).1 = 2) : stO xs d S0 p HT cs ms os X mo fa n WE B2 w t A := by
  obtain ⟨hp, hw, hx, hA, hE, hB, hr⟩ := h
  have hk := wT_of hA hw
  have hv := wV_of hA hw
  have hab := hab_x hx hk hr
  have hc := fun (S : wS) (hS : cRel S0 p HT cs ms os X mo A S) => hco_c hx hk hr hw ho hS
  have hq := fun {Sb : wS} (S : wS) (hS : rRun S0 Sb HT cs ms os X mo t A S) => hqo_r hx hk hr hw ho hS
  have hh := tyt_h hx hk hr
  rw [ho] at hh
  replace hh : 2 ≤ (a_K A t).1.length := by have z : (2 : Int) ≤ ((a_K A t).1.length : Int) := hh; omega
  rcases hw with ⟨rfl, rfl⟩ | ⟨rfl, rfl⟩
  · exact stO_K (ml := [217, 218]) hp (Or.inl ⟨rfl, rfl⟩) (by first | decide | omega) hA hE hB (fun S hS => z19_215 (hc S hS).1 (hc S hS).2 hh hx2 hy) (fun S hS => rn19 (hq S hS).1 (hq S hS).2.2 (hq S hS).2.1 hh hx2 hy) (tyt_P (m := 2) hx hk hr (by rw [ho]; decide) (by rw [ho]; rfl) (by omega) (fun z => absurd z (by first | decide | omega))) (fun v => kv_P v vG_i) (fLe_P)
  · exact stO_K (ml := [228, 229]) hp (Or.inr ⟨rfl, rfl⟩) (by first | decide | omega) hA hE hB (fun S hS => z19_226 (hc S hS).1 (hc S hS).2 hh hx2 hy) (fun S hS => rn19 (hq S hS).1 (hq S hS).2.2 (hq S hS).2.1 hh hx2 hy) (tyt_P (m := 2) hx hk hr (by rw [ho]; decide) (by rw [ho]; rfl) (by omega) (fun z => absurd z (by first | decide | omega))) (fun v => kv_P v vG_i) (fLe_P)

theorem so_14t (h : hyS S0 p X fa ms n WE B B2 w t A) (ho : opI S0 (a_K A t) = 14) (hx3 : ((a_K A t).1.getD ((a_K A t).1.length - 2) (0, 0, [])).1 = 3) (hy : ((a_K A t).1.getD ((a_K A t).1.length - 1) (0, 0, [])).1 = 3) : stO xs d S0 p HT cs ms os X mo fa n WE B2 w t A := by
  obtain ⟨hp, hw, hx, hA, hE, hB, hr⟩ := h
  have hk := wT_of hA hw
  have hv := wV_of hA hw
  have hab := hab_x hx hk hr
  have hc := fun (S : wS) (hS : cRel S0 p HT cs ms os X mo A S) => hco_c hx hk hr hw ho hS
  have hq := fun {Sb : wS} (S : wS) (hS : rRun S0 Sb HT cs ms os X mo t A S) => hqo_r hx hk hr hw ho hS
  have hh := tyt_h hx hk hr
  rw [ho] at hh
  replace hh : 2 ≤ (a_K A t).1.length := by have z : (2 : Int) ≤ ((a_K A t).1.length : Int) := hh; omega
  rcases hw with ⟨rfl, rfl⟩ | ⟨rfl, rfl⟩
  · exact stO_K (ml := [217, 218]) hp (Or.inl ⟨rfl, rfl⟩) (by first | decide | omega) hA hE hB (fun S hS => z14t_215 (hc S hS).1 (hc S hS).2 hh hx3 hy (cR_tt hS) (tx_cm (hv.1 _ (tq_m (by omega))) (hv.1 _ (tq_m (by omega))))) (fun S hS => rn14t (hq S hS).1 (hq S hS).2.2 (hq S hS).2.1 hh hx3 hy hS.1.2.2.2.1.2.2.1 (tx_cm (hv.1 _ (tq_m (by omega))) (hv.1 _ (tq_m (by omega))))) (tyt_P (m := 2) hx hk hr (by rw [ho]; decide) (by rw [ho]; rfl) (by omega) (fun z => absurd z (by first | decide | omega))) (fun v => kv_P v vG_i) (fLe_P)
  · exact stO_K (ml := [228, 229]) hp (Or.inr ⟨rfl, rfl⟩) (by first | decide | omega) hA hE hB (fun S hS => z14t_226 (hc S hS).1 (hc S hS).2 hh hx3 hy (cR_tt hS) (tx_cm (hv.1 _ (tq_m (by omega))) (hv.1 _ (tq_m (by omega))))) (fun S hS => rn14t (hq S hS).1 (hq S hS).2.2 (hq S hS).2.1 hh hx3 hy hS.1.2.2.2.1.2.2.1 (tx_cm (hv.1 _ (tq_m (by omega))) (hv.1 _ (tq_m (by omega))))) (tyt_P (m := 2) hx hk hr (by rw [ho]; decide) (by rw [ho]; rfl) (by omega) (fun z => absurd z (by first | decide | omega))) (fun v => kv_P v vG_i) (fLe_P)

theorem so_15t (h : hyS S0 p X fa ms n WE B B2 w t A) (ho : opI S0 (a_K A t) = 15) (hx3 : ((a_K A t).1.getD ((a_K A t).1.length - 2) (0, 0, [])).1 = 3) (hy : ((a_K A t).1.getD ((a_K A t).1.length - 1) (0, 0, [])).1 = 3) : stO xs d S0 p HT cs ms os X mo fa n WE B2 w t A := by
  obtain ⟨hp, hw, hx, hA, hE, hB, hr⟩ := h
  have hk := wT_of hA hw
  have hv := wV_of hA hw
  have hab := hab_x hx hk hr
  have hc := fun (S : wS) (hS : cRel S0 p HT cs ms os X mo A S) => hco_c hx hk hr hw ho hS
  have hq := fun {Sb : wS} (S : wS) (hS : rRun S0 Sb HT cs ms os X mo t A S) => hqo_r hx hk hr hw ho hS
  have hh := tyt_h hx hk hr
  rw [ho] at hh
  replace hh : 2 ≤ (a_K A t).1.length := by have z : (2 : Int) ≤ ((a_K A t).1.length : Int) := hh; omega
  rcases hw with ⟨rfl, rfl⟩ | ⟨rfl, rfl⟩
  · exact stO_K (ml := [217, 218]) hp (Or.inl ⟨rfl, rfl⟩) (by first | decide | omega) hA hE hB (fun S hS => z15t_215 (hc S hS).1 (hc S hS).2 hh hx3 hy (cR_tt hS) (tx_cm (hv.1 _ (tq_m (by omega))) (hv.1 _ (tq_m (by omega))))) (fun S hS => rn15t (hq S hS).1 (hq S hS).2.2 (hq S hS).2.1 hh hx3 hy hS.1.2.2.2.1.2.2.1 (tx_cm (hv.1 _ (tq_m (by omega))) (hv.1 _ (tq_m (by omega))))) (tyt_P (m := 2) hx hk hr (by rw [ho]; decide) (by rw [ho]; rfl) (by omega) (fun z => absurd z (by first | decide | omega))) (fun v => kv_P v vG_j) (fLe_P)
  · exact stO_K (ml := [228, 229]) hp (Or.inr ⟨rfl, rfl⟩) (by first | decide | omega) hA hE hB (fun S hS => z15t_226 (hc S hS).1 (hc S hS).2 hh hx3 hy (cR_tt hS) (tx_cm (hv.1 _ (tq_m (by omega))) (hv.1 _ (tq_m (by omega))))) (fun S hS => rn15t (hq S hS).1 (hq S hS).2.2 (hq S hS).2.1 hh hx3 hy hS.1.2.2.2.1.2.2.1 (tx_cm (hv.1 _ (tq_m (by omega))) (hv.1 _ (tq_m (by omega))))) (tyt_P (m := 2) hx hk hr (by rw [ho]; decide) (by rw [ho]; rfl) (by omega) (fun z => absurd z (by first | decide | omega))) (fun v => kv_P v vG_j) (fLe_P)

theorem so_16t (h : hyS S0 p X fa ms n WE B B2 w t A) (ho : opI S0 (a_K A t) = 16) (hx3 : ((a_K A t).1.getD ((a_K A t).1.length - 2) (0, 0, [])).1 = 3) (hy : ((a_K A t).1.getD ((a_K A t).1.length - 1) (0, 0, [])).1 = 3) : stO xs d S0 p HT cs ms os X mo fa n WE B2 w t A := by
  obtain ⟨hp, hw, hx, hA, hE, hB, hr⟩ := h
  have hk := wT_of hA hw
  have hv := wV_of hA hw
  have hab := hab_x hx hk hr
  have hc := fun (S : wS) (hS : cRel S0 p HT cs ms os X mo A S) => hco_c hx hk hr hw ho hS
  have hq := fun {Sb : wS} (S : wS) (hS : rRun S0 Sb HT cs ms os X mo t A S) => hqo_r hx hk hr hw ho hS
  have hh := tyt_h hx hk hr
  rw [ho] at hh
  replace hh : 2 ≤ (a_K A t).1.length := by have z : (2 : Int) ≤ ((a_K A t).1.length : Int) := hh; omega
  rcases hw with ⟨rfl, rfl⟩ | ⟨rfl, rfl⟩
  · exact stO_K (ml := [217, 218]) hp (Or.inl ⟨rfl, rfl⟩) (by first | decide | omega) hA hE hB (fun S hS => z16t_215 (hc S hS).1 (hc S hS).2 hh hx3 hy (cR_tt hS) (tx_cm (hv.1 _ (tq_m (by omega))) (hv.1 _ (tq_m (by omega))))) (fun S hS => rn16t (hq S hS).1 (hq S hS).2.2 (hq S hS).2.1 hh hx3 hy hS.1.2.2.2.1.2.2.1 (tx_cm (hv.1 _ (tq_m (by omega))) (hv.1 _ (tq_m (by omega))))) (tyt_P (m := 2) hx hk hr (by rw [ho]; decide) (by rw [ho]; rfl) (by omega) (fun z => absurd z (by first | decide | omega))) (fun v => kv_P v vG_i) (fLe_P)
  · exact stO_K (ml := [228, 229]) hp (Or.inr ⟨rfl, rfl⟩) (by first | decide | omega) hA hE hB (fun S hS => z16t_226 (hc S hS).1 (hc S hS).2 hh hx3 hy (cR_tt hS) (tx_cm (hv.1 _ (tq_m (by omega))) (hv.1 _ (tq_m (by omega))))) (fun S hS => rn16t (hq S hS).1 (hq S hS).2.2 (hq S hS).2.1 hh hx3 hy hS.1.2.2.2.1.2.2.1 (tx_cm (hv.1 _ (tq_m (by omega))) (hv.1 _ (tq_m (by omega))))) (tyt_P (m := 2) hx hk hr (by rw [ho]; decide) (by rw [ho]; rfl) (by omega) (fun z => absurd z (by first | decide | omega))) (fun v => kv_P v vG_i) (fLe_P)

theorem so_17t (h : hyS S0 p X fa ms n WE B B2 w t A) (ho : opI S0 (a_K A t) = 17) (hx3 : ((a_K A t).1.getD ((a_K A t).1.length - 2) (0, 0, [])).1 = 3) (hy : ((a_K A t).1.getD ((a_K A t).1.length - 1) (0, 0, [])).1 = 3) : stO xs d S0 p HT cs ms os X mo fa n WE B2 w t A := by
  obtain ⟨hp, hw, hx, hA, hE, hB, hr⟩ := h
  have hk := wT_of hA hw
  have hv := wV_of hA hw
  have hab := hab_x hx hk hr
  have hc := fun (S : wS) (hS : cRel S0 p HT cs ms os X mo A S) => hco_c hx hk hr hw ho hS
  have hq := fun {Sb : wS} (S : wS) (hS : rRun S0 Sb HT cs ms os X mo t A S) => hqo_r hx hk hr hw ho hS
  have hh := tyt_h hx hk hr
  rw [ho] at hh
  replace hh : 2 ≤ (a_K A t).1.length := by have z : (2 : Int) ≤ ((a_K A t).1.length : Int) := hh; omega
  rcases hw with ⟨rfl, rfl⟩ | ⟨rfl, rfl⟩
  · exact stO_K (ml := [217, 218]) hp (Or.inl ⟨rfl, rfl⟩) (by first | decide | omega) hA hE hB (fun S hS => z17t_215 (hc S hS).1 (hc S hS).2 hh hx3 hy (cR_tt hS) (tx_cm (hv.1 _ (tq_m (by omega))) (hv.1 _ (tq_m (by omega))))) (fun S hS => rn17t (hq S hS).1 (hq S hS).2.2 (hq S hS).2.1 hh hx3 hy hS.1.2.2.2.1.2.2.1 (tx_cm (hv.1 _ (tq_m (by omega))) (hv.1 _ (tq_m (by omega))))) (tyt_P (m := 2) hx hk hr (by rw [ho]; decide) (by rw [ho]; rfl) (by omega) (fun z => absurd z (by first | decide | omega))) (fun v => kv_P v vG_i) (fLe_P)
  · exact stO_K (ml := [228, 229]) hp (Or.inr ⟨rfl, rfl⟩) (by first | decide | omega) hA hE hB (fun S hS => z17t_226 (hc S hS).1 (hc S hS).2 hh hx3 hy (cR_tt hS) (tx_cm (hv.1 _ (tq_m (by omega))) (hv.1 _ (tq_m (by omega))))) (fun S hS => rn17t (hq S hS).1 (hq S hS).2.2 (hq S hS).2.1 hh hx3 hy hS.1.2.2.2.1.2.2.1 (tx_cm (hv.1 _ (tq_m (by omega))) (hv.1 _ (tq_m (by omega))))) (tyt_P (m := 2) hx hk hr (by rw [ho]; decide) (by rw [ho]; rfl) (by omega) (fun z => absurd z (by first | decide | omega))) (fun v => kv_P v vG_i) (fLe_P)

theorem so_18t (h : hyS S0 p X fa ms n WE B B2 w t A) (ho : opI S0 (a_K A t) = 18) (hx3 : ((a_K A t).1.getD ((a_K A t).1.length - 2) (0, 0, [])).1 = 3) (hy : ((a_K A t).1.getD ((a_K A t).1.length - 1) (0, 0, [])).1 = 3) : stO xs d S0 p HT cs ms os X mo fa n WE B2 w t A := by
  obtain ⟨hp, hw, hx, hA, hE, hB, hr⟩ := h
  have hk := wT_of hA hw
  have hv := wV_of hA hw
  have hab := hab_x hx hk hr
  have hc := fun (S : wS) (hS : cRel S0 p HT cs ms os X mo A S) => hco_c hx hk hr hw ho hS
  have hq := fun {Sb : wS} (S : wS) (hS : rRun S0 Sb HT cs ms os X mo t A S) => hqo_r hx hk hr hw ho hS
  have hh := tyt_h hx hk hr
  rw [ho] at hh
  replace hh : 2 ≤ (a_K A t).1.length := by have z : (2 : Int) ≤ ((a_K A t).1.length : Int) := hh; omega
  rcases hw with ⟨rfl, rfl⟩ | ⟨rfl, rfl⟩
  · exact stO_K (ml := [217, 218]) hp (Or.inl ⟨rfl, rfl⟩) (by first | decide | omega) hA hE hB (fun S hS => z18t_215 (hc S hS).1 (hc S hS).2 hh hx3 hy (cR_tt hS) (tx_cm (hv.1 _ (tq_m (by omega))) (hv.1 _ (tq_m (by omega))))) (fun S hS => rn18t (hq S hS).1 (hq S hS).2.2 (hq S hS).2.1 hh hx3 hy hS.1.2.2.2.1.2.2.1 (tx_cm (hv.1 _ (tq_m (by omega))) (hv.1 _ (tq_m (by omega))))) (tyt_P (m := 2) hx hk hr (by rw [ho]; decide) (by rw [ho]; rfl) (by omega) (fun z => absurd z (by first | decide | omega))) (fun v => kv_P v vG_i) (fLe_P)
  · exact stO_K (ml := [228, 229]) hp (Or.inr ⟨rfl, rfl⟩) (by first | decide | omega) hA hE hB (fun S hS => z18t_226 (hc S hS).1 (hc S hS).2 hh hx3 hy (cR_tt hS) (tx_cm (hv.1 _ (tq_m (by omega))) (hv.1 _ (tq_m (by omega))))) (fun S hS => rn18t (hq S hS).1 (hq S hS).2.2 (hq S hS).2.1 hh hx3 hy hS.1.2.2.2.1.2.2.1 (tx_cm (hv.1 _ (tq_m (by omega))) (hv.1 _ (tq_m (by omega))))) (tyt_P (m := 2) hx hk hr (by rw [ho]; decide) (by rw [ho]; rfl) (by omega) (fun z => absurd z (by first | decide | omega))) (fun v => kv_P v vG_i) (fLe_P)

theorem so_19t (h : hyS S0 p X fa ms n WE B B2 w t A) (ho : opI S0 (a_K A t) = 19) (hx3 : ((a_K A t).1.getD ((a_K A t).1.length - 2) (0, 0, [])).1 = 3) (hy : ((a_K A t).1.getD ((a_K A t).1.length - 1) (0, 0, [])).1 = 3) : stO xs d S0 p HT cs ms os X mo fa n WE B2 w t A := by
  obtain ⟨hp, hw, hx, hA, hE, hB, hr⟩ := h
  have hk := wT_of hA hw
  have hv := wV_of hA hw
  have hab := hab_x hx hk hr
  have hc := fun (S : wS) (hS : cRel S0 p HT cs ms os X mo A S) => hco_c hx hk hr hw ho hS
  have hq := fun {Sb : wS} (S : wS) (hS : rRun S0 Sb HT cs ms os X mo t A S) => hqo_r hx hk hr hw ho hS
  have hh := tyt_h hx hk hr
  rw [ho] at hh
  replace hh : 2 ≤ (a_K A t).1.length := by have z : (2 : Int) ≤ ((a_K A t).1.length : Int) := hh; omega
  rcases hw with ⟨rfl, rfl⟩ | ⟨rfl, rfl⟩
  · exact stO_K (ml := [217, 218]) hp (Or.inl ⟨rfl, rfl⟩) (by first | decide | omega) hA hE hB (fun S hS => z19t_215 (hc S hS).1 (hc S hS).2 hh hx3 hy (cR_tt hS) (tx_cm (hv.1 _ (tq_m (by omega))) (hv.1 _ (tq_m (by omega))))) (fun S hS => rn19t (hq S hS).1 (hq S hS).2.2 (hq S hS).2.1 hh hx3 hy hS.1.2.2.2.1.2.2.1 (tx_cm (hv.1 _ (tq_m (by omega))) (hv.1 _ (tq_m (by omega))))) (tyt_P (m := 2) hx hk hr (by rw [ho]; decide) (by rw [ho]; rfl) (by omega) (fun z => absurd z (by first | decide | omega))) (fun v => kv_P v vG_i) (fLe_P)
  · exact stO_K (ml := [228, 229]) hp (Or.inr ⟨rfl, rfl⟩) (by first | decide | omega) hA hE hB (fun S hS => z19t_226 (hc S hS).1 (hc S hS).2 hh hx3 hy (cR_tt hS) (tx_cm (hv.1 _ (tq_m (by omega))) (hv.1 _ (tq_m (by omega))))) (fun S hS => rn19t (hq S hS).1 (hq S hS).2.2 (hq S hS).2.1 hh hx3 hy hS.1.2.2.2.1.2.2.1 (tx_cm (hv.1 _ (tq_m (by omega))) (hv.1 _ (tq_m (by omega))))) (tyt_P (m := 2) hx hk hr (by rw [ho]; decide) (by rw [ho]; rfl) (by omega) (fun z => absurd z (by first | decide | omega))) (fun v => kv_P v vG_i) (fLe_P)

theorem so_14 (h : hyS S0 p X fa ms n WE B B2 w t A) (ho : opI S0 (a_K A t) = 14) (hy : ¬ (((a_K A t).1.getD ((a_K A t).1.length - 2) (0, 0, [])).1 = 3 ∧ ((a_K A t).1.getD ((a_K A t).1.length - 1) (0, 0, [])).1 = 3)) : stO xs d S0 p HT cs ms os X mo fa n WE B2 w t A := by
  obtain ⟨hp, hw, hx, hA, hE, hB, hr⟩ := h
  have hk := wT_of hA hw
  have hv := wV_of hA hw
  have hab := hab_x hx hk hr
  have hc := fun (S : wS) (hS : cRel S0 p HT cs ms os X mo A S) => hco_c hx hk hr hw ho hS
  have hq := fun {Sb : wS} (S : wS) (hS : rRun S0 Sb HT cs ms os X mo t A S) => hqo_r hx hk hr hw ho hS
  have hh := tyt_h hx hk hr
  rw [ho] at hh
  replace hh : 2 ≤ (a_K A t).1.length := by have z : (2 : Int) ≤ ((a_K A t).1.length : Int) := hh; omega
  rcases hw with ⟨rfl, rfl⟩ | ⟨rfl, rfl⟩
  · exact stO_K (ml := [217, 218]) hp (Or.inl ⟨rfl, rfl⟩) (by first | decide | omega) hA hE hB (fun S hS => z14n_215 (hc S hS).1 (hc S hS).2 hh hy) (fun S hS => rn14n (hq S hS).1 (hq S hS).2.2 (hq S hS).2.1 hh hy) (tyt_P (m := 2) hx hk hr (by rw [ho]; decide) (by rw [ho]; rfl) (by omega) (fun z => absurd z (by first | decide | omega))) (fun v => kv_P v vG_i) (fLe_P)
  · exact stO_K (ml := [228, 229]) hp (Or.inr ⟨rfl, rfl⟩) (by first | decide | omega) hA hE hB (fun S hS => z14n_226 (hc S hS).1 (hc S hS).2 hh hy) (fun S hS => rn14n (hq S hS).1 (hq S hS).2.2 (hq S hS).2.1 hh hy) (tyt_P (m := 2) hx hk hr (by rw [ho]; decide) (by rw [ho]; rfl) (by omega) (fun z => absurd z (by first | decide | omega))) (fun v => kv_P v vG_i) (fLe_P)

theorem so_15 (h : hyS S0 p X fa ms n WE B B2 w t A) (ho : opI S0 (a_K A t) = 15) (hy : ¬ (((a_K A t).1.getD ((a_K A t).1.length - 2) (0, 0, [])).1 = 3 ∧ ((a_K A t).1.getD ((a_K A t).1.length - 1) (0, 0, [])).1 = 3)) : stO xs d S0 p HT cs ms os X mo fa n WE B2 w t A := by
  obtain ⟨hp, hw, hx, hA, hE, hB, hr⟩ := h
  have hk := wT_of hA hw
  have hv := wV_of hA hw
  have hab := hab_x hx hk hr
  have hc := fun (S : wS) (hS : cRel S0 p HT cs ms os X mo A S) => hco_c hx hk hr hw ho hS
  have hq := fun {Sb : wS} (S : wS) (hS : rRun S0 Sb HT cs ms os X mo t A S) => hqo_r hx hk hr hw ho hS
  have hh := tyt_h hx hk hr
  rw [ho] at hh
  replace hh : 2 ≤ (a_K A t).1.length := by have z : (2 : Int) ≤ ((a_K A t).1.length : Int) := hh; omega
  rcases hw with ⟨rfl, rfl⟩ | ⟨rfl, rfl⟩
  · exact stO_K (ml := [217, 218]) hp (Or.inl ⟨rfl, rfl⟩) (by first | decide | omega) hA hE hB (fun S hS => z15n_215 (hc S hS).1 (hc S hS).2 hh hy) (fun S hS => rn15n (hq S hS).1 (hq S hS).2.2 (hq S hS).2.1 hh hy) (tyt_P (m := 2) hx hk hr (by rw [ho]; decide) (by rw [ho]; rfl) (by omega) (fun z => absurd z (by first | decide | omega))) (fun v => kv_P v vG_j) (fLe_P)
  · exact stO_K (ml := [228, 229]) hp (Or.inr ⟨rfl, rfl⟩) (by first | decide | omega) hA hE hB (fun S hS => z15n_226 (hc S hS).1 (hc S hS).2 hh hy) (fun S hS => rn15n (hq S hS).1 (hq S hS).2.2 (hq S hS).2.1 hh hy) (tyt_P (m := 2) hx hk hr (by rw [ho]; decide) (by rw [ho]; rfl) (by omega) (fun z => absurd z (by first | decide | omega))) (fun v => kv_P v vG_j) (fLe_P)

theorem so_8e (h : hyS S0 p X fa ms n WE B B2 w t A) (ho : opI S0 (a_K A t) = oq) (hoq : 8 ≤ oq ∧ oq ≤ 11) (hn : ¬ (((a_K A t).1.getD ((a_K A t).1.length - 2) (0, 0, [])).1 = 2 ∧ ((a_K A t).1.getD ((a_K A t).1.length - 1) (0, 0, [])).1 = 2)) : stO xs d S0 p HT cs ms os X mo fa n WE B2 w t A := by
  obtain ⟨hp, hw, hx, hA, hE, hB, hr⟩ := h
  have hk := wT_of hA hw
  have hv := wV_of hA hw
  have hab := hab_x hx hk hr
  have hc := fun (S : wS) (hS : cRel S0 p HT cs ms os X mo A S) => hco_c hx hk hr hw ho hS
  have hq := fun {Sb : wS} (S : wS) (hS : rRun S0 Sb HT cs ms os X mo t A S) => hqo_r hx hk hr hw ho hS
  have hh := tyt_h hx hk hr
  rw [ho] at hh
  rw [mne_2 (by omega)] at hh
  replace hh : 2 ≤ (a_K A t).1.length := by omega
  rcases hw with ⟨rfl, rfl⟩ | ⟨rfl, rfl⟩
  · exact stO_K (ml := [217, 218]) hp (Or.inl ⟨rfl, rfl⟩) (by first | decide | omega) hA hE hB (fun S hS => z8e_215 (hc S hS).1 (hc S hS).2 hoq hh hn) (fun S hS => rn8e (hq S hS).1 (hq S hS).2.2 (hq S hS).2.1 hoq hh hn) (tyt_T hk hr) (fun v => kv_T v hr vG_n) (fLe_th)
  · exact stO_K (ml := [228, 229]) hp (Or.inr ⟨rfl, rfl⟩) (by first | decide | omega) hA hE hB (fun S hS => z8e_226 (hc S hS).1 (hc S hS).2 hoq hh hn) (fun S hS => rn8e (hq S hS).1 (hq S hS).2.2 (hq S hS).2.1 hoq hh hn) (tyt_T hk hr) (fun v => kv_T v hr vG_n) (fLe_th)

theorem so_16e (h : hyS S0 p X fa ms n WE B B2 w t A) (ho : opI S0 (a_K A t) = oq) (hoq : 16 ≤ oq ∧ oq ≤ 19) (hn : ¬ (((a_K A t).1.getD ((a_K A t).1.length - 2) (0, 0, [])).1 = 2 ∧ ((a_K A t).1.getD ((a_K A t).1.length - 1) (0, 0, [])).1 = 2)) (hn3 : ¬ (((a_K A t).1.getD ((a_K A t).1.length - 2) (0, 0, [])).1 = 3 ∧ ((a_K A t).1.getD ((a_K A t).1.length - 1) (0, 0, [])).1 = 3)) : stO xs d S0 p HT cs ms os X mo fa n WE B2 w t A := by
  obtain ⟨hp, hw, hx, hA, hE, hB, hr⟩ := h
  have hk := wT_of hA hw
  have hv := wV_of hA hw
  have hab := hab_x hx hk hr
  have hc := fun (S : wS) (hS : cRel S0 p HT cs ms os X mo A S) => hco_c hx hk hr hw ho hS
  have hq := fun {Sb : wS} (S : wS) (hS : rRun S0 Sb HT cs ms os X mo t A S) => hqo_r hx hk hr hw ho hS
  have hh := tyt_h hx hk hr
  rw [ho] at hh
  rw [mne_2 (by omega)] at hh
  replace hh : 2 ≤ (a_K A t).1.length := by omega
  rcases hw with ⟨rfl, rfl⟩ | ⟨rfl, rfl⟩
  · exact stO_K (ml := [217, 218]) hp (Or.inl ⟨rfl, rfl⟩) (by first | decide | omega) hA hE hB (fun S hS => z16e_215 (hc S hS).1 (hc S hS).2 hoq hh hn hn3) (fun S hS => rn16e (hq S hS).1 (hq S hS).2.2 (hq S hS).2.1 hoq hh hn hn3) (tyt_T hk hr) (fun v => kv_T v hr vG_n) (fLe_th)
  · exact stO_K (ml := [228, 229]) hp (Or.inr ⟨rfl, rfl⟩) (by first | decide | omega) hA hE hB (fun S hS => z16e_226 (hc S hS).1 (hc S hS).2 hoq hh hn hn3) (fun S hS => rn16e (hq S hS).1 (hq S hS).2.2 (hq S hS).2.1 hoq hh hn hn3) (tyt_T hk hr) (fun v => kv_T v hr vG_n) (fLe_th)

theorem so_12 (h : hyS S0 p X fa ms n WE B B2 w t A) (ho : opI S0 (a_K A t) = 12) (hy : ((a_K A t).1.getD ((a_K A t).1.length - 1) (0, 0, [])).1 = 2) : stO xs d S0 p HT cs ms os X mo fa n WE B2 w t A := by
  obtain ⟨hp, hw, hx, hA, hE, hB, hr⟩ := h
  have hk := wT_of hA hw
  have hv := wV_of hA hw
  have hab := hab_x hx hk hr
  have hc := fun (S : wS) (hS : cRel S0 p HT cs ms os X mo A S) => hco_c hx hk hr hw ho hS
  have hq := fun {Sb : wS} (S : wS) (hS : rRun S0 Sb HT cs ms os X mo t A S) => hqo_r hx hk hr hw ho hS
  have hh := tyt_h hx hk hr
  rw [ho] at hh
  replace hh : 1 ≤ (a_K A t).1.length := by have z : (1 : Int) ≤ ((a_K A t).1.length : Int) := hh; omega
  rcases hw with ⟨rfl, rfl⟩ | ⟨rfl, rfl⟩
  · exact stO_K (ml := [217, 218]) hp (Or.inl ⟨rfl, rfl⟩) (by first | decide | omega) hA hE hB (fun S hS => z12_215 (hc S hS).1 (hc S hS).2 hh hy) (fun S hS => rn12 (hq S hS).1 (hq S hS).2.2 (hq S hS).2.1 hh hy) (tyt_P (m := 1) hx hk hr (by rw [ho]; decide) (by rw [ho]; rfl) (by omega) (fun z => absurd z (by first | decide | omega))) (fun v => kv_P v vG_n) (fLe_P)
  · exact stO_K (ml := [228, 229]) hp (Or.inr ⟨rfl, rfl⟩) (by first | decide | omega) hA hE hB (fun S hS => z12_226 (hc S hS).1 (hc S hS).2 hh hy) (fun S hS => rn12 (hq S hS).1 (hq S hS).2.2 (hq S hS).2.1 hh hy) (tyt_P (m := 1) hx hk hr (by rw [ho]; decide) (by rw [ho]; rfl) (by omega) (fun z => absurd z (by first | decide | omega))) (fun v => kv_P v vG_n) (fLe_P)

theorem so_12e (h : hyS S0 p X fa ms n WE B B2 w t A) (ho : opI S0 (a_K A t) = 12) (hy : ((a_K A t).1.getD ((a_K A t).1.length - 1) (0, 0, [])).1 ≠ 2) : stO xs d S0 p HT cs ms os X mo fa n WE B2 w t A := by
  obtain ⟨hp, hw, hx, hA, hE, hB, hr⟩ := h
  have hk := wT_of hA hw
  have hv := wV_of hA hw
  have hab := hab_x hx hk hr
  have hc := fun (S : wS) (hS : cRel S0 p HT cs ms os X mo A S) => hco_c hx hk hr hw ho hS
  have hq := fun {Sb : wS} (S : wS) (hS : rRun S0 Sb HT cs ms os X mo t A S) => hqo_r hx hk hr hw ho hS
  have hh := tyt_h hx hk hr
  rw [ho] at hh
  replace hh : 1 ≤ (a_K A t).1.length := by have z : (1 : Int) ≤ ((a_K A t).1.length : Int) := hh; omega
  rcases hw with ⟨rfl, rfl⟩ | ⟨rfl, rfl⟩
  · exact stO_K (ml := [217, 218]) hp (Or.inl ⟨rfl, rfl⟩) (by first | decide | omega) hA hE hB (fun S hS => z12e_215 (hc S hS).1 (hc S hS).2 hh hy) (fun S hS => rn12e (hq S hS).1 (hq S hS).2.2 (hq S hS).2.1 hh hy) (tyt_T hk hr) (fun v => kv_T v hr vG_n) (fLe_th)
  · exact stO_K (ml := [228, 229]) hp (Or.inr ⟨rfl, rfl⟩) (by first | decide | omega) hA hE hB (fun S hS => z12e_226 (hc S hS).1 (hc S hS).2 hh hy) (fun S hS => rn12e (hq S hS).1 (hq S hS).2.2 (hq S hS).2.1 hh hy) (tyt_T hk hr) (fun v => kv_T v hr vG_n) (fLe_th)

theorem so_13 (h : hyS S0 p X fa ms n WE B B2 w t A) (ho : opI S0 (a_K A t) = 13)  : stO xs d S0 p HT cs ms os X mo fa n WE B2 w t A := by
  obtain ⟨hp, hw, hx, hA, hE, hB, hr⟩ := h
  have hk := wT_of hA hw
  have hv := wV_of hA hw
  have hab := hab_x hx hk hr
  have hc := fun (S : wS) (hS : cRel S0 p HT cs ms os X mo A S) => hco_c hx hk hr hw ho hS
  have hq := fun {Sb : wS} (S : wS) (hS : rRun S0 Sb HT cs ms os X mo t A S) => hqo_r hx hk hr hw ho hS
  have hh := tyt_h hx hk hr
  rw [ho] at hh
  replace hh : 1 ≤ (a_K A t).1.length := by have z : (1 : Int) ≤ ((a_K A t).1.length : Int) := hh; omega
  rcases hw with ⟨rfl, rfl⟩ | ⟨rfl, rfl⟩
  · exact stO_K (ml := [217, 218]) hp (Or.inl ⟨rfl, rfl⟩) (by first | decide | omega) hA hE hB (fun S hS => z13_215 (hc S hS).1 (hc S hS).2 hh) (fun S hS => rn13 (hq S hS).1 (hq S hS).2.2 (hq S hS).2.1 hh) (tyt_P (m := 1) hx hk hr (by rw [ho]; decide) (by rw [ho]; rfl) (by omega) (fun z => absurd z (by first | decide | omega))) (fun v => kv_P v vG_i) (fLe_P)
  · exact stO_K (ml := [228, 229]) hp (Or.inr ⟨rfl, rfl⟩) (by first | decide | omega) hA hE hB (fun S hS => z13_226 (hc S hS).1 (hc S hS).2 hh) (fun S hS => rn13 (hq S hS).1 (hq S hS).2.2 (hq S hS).2.1 hh) (tyt_P (m := 1) hx hk hr (by rw [ho]; decide) (by rw [ho]; rfl) (by omega) (fun z => absurd z (by first | decide | omega))) (fun v => kv_P v vG_i) (fLe_P)

end Wkb
