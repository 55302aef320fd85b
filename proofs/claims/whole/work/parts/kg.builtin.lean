/-! PART kg: a step of a task, on both sides: built-in functions. -/
section Wkg
variable {Sb : wS} {xs : List (Nat × List Int32)} {d : Nat} {S0 S Z : wS} {p w m : Nat} {HT : Int → Int} {cs : List hCR} {ms : List hMR} {os : Int → List Int} {X : List (List Int)} {mo t n B B2 oq : Int} {fa : Int → Int} {WE : aA → Prop} {A A2 : aA} {K2 : aK} {ml : List Nat} {T2 : List aO} {L2 : List aC} {G2 : Int → aV} {H2 : List aH} {c2 : Int → Int} {mk rk : Nat → Int → Prop} {k : Int} {o : aO} {T : List aO} {L : List aC} {H : List aH} {cf : Int → Int} {c : Int → Int} {q : Int}
theorem hcb_c (hx : stX S0 fa X) (hk : wTk fa S0 (a_K A t)) (hr : (a_K A t).2.2.2.1 = 1) (hw : isWt w t) (ho : opI S0 (a_K A t) = 28) (ha : (opA S0 (a_K A t)) = q) (h : cRel S0 p HT cs ms os X mo A S) : stC w S (a_K A t) ∧ cIn S (a_K A t) 28 q (opB S0 (a_K A t)) := by
  have z := hco_c hx hk hr hw ho h
  rw [ha] at z
  exact z
theorem hqb_r (hx : stX S0 fa X) (hk : wTk fa S0 (a_K A t)) (hr : (a_K A t).2.2.2.1 = 1) (hw : isWt w t) (ho : opI S0 (a_K A t) = 28) (ha : (opA S0 (a_K A t)) = q) (h : rRun S0 Sb HT cs ms os X mo t A S) : stR t S (a_K A t) ∧ rIn S (a_K A t) 28 q (opB S0 (a_K A t)) ∧ S 357 t = 1 := by
  have z := hqo_r hx hk hr hw ho h
  rw [ha] at z
  exact z
theorem vG_o {v : aV} (h : vG T n v) (hv : v.1 = 4 ∨ v.1 = 5) : isO T v.2.1 := by
  have z := h.1.2.1 (by omega) (by omega)
  exact ⟨z.1, by rw [z.2]; exact hv⟩
theorem vG_p (h : wSh T H) (hq : isO T q) : vG T n (if aPr T H q = -1 then (0, 0, []) else ((tO T (aPr T H q)).1, aPr T H q, [])) := by
  by_cases c : aPr T H q = -1
  · rw [if_pos c]
    exact vG_0
  · rw [if_neg c]
    rcases wSh_pr h hq with z | z
    · exact absurd z c
    · exact vG_t z.1 (z.2.imp id Or.inl)
/-- limits as the built-in functions want them -/
theorem wN_b (hA : wfA S0 fa ms n WE B A) : (∀ s : Int, 0 ≤ s → s < ((a_H A).length : Int) → qNm (a_H A) s ≤ 100000) ∧ (0 ≤ a_c A 11 ∧ a_c A 11 ≤ 9000000) ∧ (∀ k : Int, isO (a_T A) k → (tO (a_T A) k).2.2.2.2.1 ≤ a_c A 11) ∧ (0 ≤ a_c A 4 ∧ a_c A 4 ≤ 4000 ∧ ((a_H A).length : Int) ≤ a_c A 4 + 1) := by
  obtain ⟨n1, n2, n3⟩ := hA.2.2.2.2.2.1
  obtain ⟨-, -, -, -, b5, b6, -, b8, b9⟩ := hA.2.2.2.2.1
  refine ⟨fun s s0 s1 => ?_, ⟨b6.1.1, by have := b6.1.2; omega⟩, fun k hk => (b8 k hk.1.1 hk.1.2).1.2, b5⟩
  have := n2 s s0 s1
  omega
theorem rR_82 (h : rRun S0 Sb HT cs ms os X mo t A S) (hu : a_c A 1 ≤ 60000) : S 237 82 ≤ 60000 := by
  have := rR_u h
  omega
theorem cR_56 (h : cRel S0 p HT cs ms os X mo A S) (h0 : S0 156 (-1) = 65) : S 156 (-1) = 65 := (h.2.2.2.2.2.2.2.2 156 (-1) (by unfold cSta; omega)).trans h0

theorem sb_1e (h : hyS S0 p X fa ms n WE B B2 w t A) (ho : opI S0 (a_K A t) = 28) (ha : (opA S0 (a_K A t)) = 1) (hy : ((a_K A t).1.getD ((a_K A t).1.length - 1) (0, 0, [])).1 ≠ 0 ∧ ((a_K A t).1.getD ((a_K A t).1.length - 1) (0, 0, [])).1 ≠ 4 ∧ ((a_K A t).1.getD ((a_K A t).1.length - 1) (0, 0, [])).1 ≠ 5) : stO xs d S0 p HT cs ms os X mo fa n WE B2 w t A := by
  obtain ⟨hp, hw, hx, hA, hE, hB, hr⟩ := h
  have hk := wT_of hA hw
  have hv := wV_of hA hw
  have hc := fun (S : wS) (hS : cRel S0 p HT cs ms os X mo A S) => hcb_c hx hk hr hw ho ha hS
  have hq := fun {Sb : wS} (S : wS) (hS : rRun S0 Sb HT cs ms os X mo t A S) => hqb_r hx hk hr hw ho ha hS
  have hh := tyt_h hx hk hr
  rw [ho, ha] at hh
  replace hh : 1 ≤ (a_K A t).1.length := by have z : (1 : Int) ≤ ((a_K A t).1.length : Int) := hh; omega
  have hu := hA.2.2.2.2.1
  have hT8 : ((a_T A).length : Int) ≤ 8000 := by have := hu.1; omega
  have hTu : ((a_T A).length : Int) ≤ a_c A 0 := by have := hu.1; omega
  have hw0 := hw
  rcases hw with ⟨rfl, rfl⟩ | ⟨rfl, rfl⟩
  · refine stO_K (K2 := kTh (a_K A 0) (2, 12, [])) (ml := [217, 218]) hp hw0 (by first | decide | omega) hA hE hB (fun S hS => ?_) (fun S hS => ?_) (tyt_T hk hr) (fun v => kv_T v hr vG_n) (fLe_th)
    · have u := cR_u hS
      exact zb1e_215 (hc S hS).1 (hc S hS).2 hh hy
    · obtain ⟨sl, hW⟩ := hS.1.2.2.1.1
      have u := rR_u hS
      exact rnb1e (hq S hS).1 (hq S hS).2.2 (hq S hS).2.1 hh hy
  · refine stO_K (K2 := kTh (a_K A 1) (2, 12, [])) (ml := [228, 229]) hp hw0 (by first | decide | omega) hA hE hB (fun S hS => ?_) (fun S hS => ?_) (tyt_T hk hr) (fun v => kv_T v hr vG_n) (fLe_th)
    · have u := cR_u hS
      exact zb1e_226 (hc S hS).1 (hc S hS).2 hh hy
    · obtain ⟨sl, hW⟩ := hS.1.2.2.1.1
      have u := rR_u hS
      exact rnb1e (hq S hS).1 (hq S hS).2.2 (hq S hS).2.1 hh hy

theorem sb_2e (h : hyS S0 p X fa ms n WE B B2 w t A) (ho : opI S0 (a_K A t) = 28) (ha : (opA S0 (a_K A t)) = 2) (hy : ((a_K A t).1.getD ((a_K A t).1.length - 1) (0, 0, [])).1 ≠ 4 ∧ ((a_K A t).1.getD ((a_K A t).1.length - 1) (0, 0, [])).1 ≠ 5) : stO xs d S0 p HT cs ms os X mo fa n WE B2 w t A := by
  obtain ⟨hp, hw, hx, hA, hE, hB, hr⟩ := h
  have hk := wT_of hA hw
  have hv := wV_of hA hw
  have hc := fun (S : wS) (hS : cRel S0 p HT cs ms os X mo A S) => hcb_c hx hk hr hw ho ha hS
  have hq := fun {Sb : wS} (S : wS) (hS : rRun S0 Sb HT cs ms os X mo t A S) => hqb_r hx hk hr hw ho ha hS
  have hh := tyt_h hx hk hr
  rw [ho, ha] at hh
  replace hh : 1 ≤ (a_K A t).1.length := by have z : (1 : Int) ≤ ((a_K A t).1.length : Int) := hh; omega
  have hu := hA.2.2.2.2.1
  have hT8 : ((a_T A).length : Int) ≤ 8000 := by have := hu.1; omega
  have hTu : ((a_T A).length : Int) ≤ a_c A 0 := by have := hu.1; omega
  have hw0 := hw
  rcases hw with ⟨rfl, rfl⟩ | ⟨rfl, rfl⟩
  · refine stO_K (K2 := kTh (a_K A 0) (2, 12, [])) (ml := [217, 218]) hp hw0 (by first | decide | omega) hA hE hB (fun S hS => ?_) (fun S hS => ?_) (tyt_T hk hr) (fun v => kv_T v hr vG_n) (fLe_th)
    · have u := cR_u hS
      exact zb2e_215 (hc S hS).1 (hc S hS).2 hh hy
    · obtain ⟨sl, hW⟩ := hS.1.2.2.1.1
      have u := rR_u hS
      exact rnb2e (hq S hS).1 (hq S hS).2.2 (hq S hS).2.1 hh hy
  · refine stO_K (K2 := kTh (a_K A 1) (2, 12, [])) (ml := [228, 229]) hp hw0 (by first | decide | omega) hA hE hB (fun S hS => ?_) (fun S hS => ?_) (tyt_T hk hr) (fun v => kv_T v hr vG_n) (fLe_th)
    · have u := cR_u hS
      exact zb2e_226 (hc S hS).1 (hc S hS).2 hh hy
    · obtain ⟨sl, hW⟩ := hS.1.2.2.1.1
      have u := rR_u hS
      exact rnb2e (hq S hS).1 (hq S hS).2.2 (hq S hS).2.1 hh hy

theorem sb_2 (h : hyS S0 p X fa ms n WE B B2 w t A) (ho : opI S0 (a_K A t) = 28) (ha : (opA S0 (a_K A t)) = 2) (hy : ((a_K A t).1.getD ((a_K A t).1.length - 1) (0, 0, [])).1 = 4 ∨ ((a_K A t).1.getD ((a_K A t).1.length - 1) (0, 0, [])).1 = 5) : stO xs d S0 p HT cs ms os X mo fa n WE B2 w t A := by
  obtain ⟨hp, hw, hx, hA, hE, hB, hr⟩ := h
  have hk := wT_of hA hw
  have hv := wV_of hA hw
  have hc := fun (S : wS) (hS : cRel S0 p HT cs ms os X mo A S) => hcb_c hx hk hr hw ho ha hS
  have hq := fun {Sb : wS} (S : wS) (hS : rRun S0 Sb HT cs ms os X mo t A S) => hqb_r hx hk hr hw ho ha hS
  have hh := tyt_h hx hk hr
  rw [ho, ha] at hh
  replace hh : 1 ≤ (a_K A t).1.length := by have z : (1 : Int) ≤ ((a_K A t).1.length : Int) := hh; omega
  have hu := hA.2.2.2.2.1
  have hT8 : ((a_T A).length : Int) ≤ 8000 := by have := hu.1; omega
  have hTu : ((a_T A).length : Int) ≤ a_c A 0 := by have := hu.1; omega
  have hqo := vG_o (hv.1 _ (tp_m (by omega))) hy
  have hw0 := hw
  rcases hw with ⟨rfl, rfl⟩ | ⟨rfl, rfl⟩
  · refine stO_K (ml := [217, 218]) hp hw0 (by first | decide | omega) hA hE hB (fun S hS => ?_) (fun S hS => ?_) (tyt_P (m := 1) hx hk hr (by rw [ho]; decide) (by rw [ho, ha]; rfl) (by omega) (fun z => absurd z (by first | decide | omega))) (fun v => kv_P v (vG_p hA.2.1 hqo)) (fLe_P)
    · have u := cR_u hS
      exact zb2_215 (hc S hS).1 (hc S hS).2 hS.2.2.1.1 hS.2.2.1.2.1 hA.2.1 hh hy hqo
    · obtain ⟨sl, hW⟩ := hS.1.2.2.1.1
      have u := rR_u hS
      exact rnb2 (hq S hS).1 (hq S hS).2.2 (hq S hS).2.1 hW hS.1.2.2.1.2 hA.2.1 hT8 hh hy hqo
  · refine stO_K (ml := [228, 229]) hp hw0 (by first | decide | omega) hA hE hB (fun S hS => ?_) (fun S hS => ?_) (tyt_P (m := 1) hx hk hr (by rw [ho]; decide) (by rw [ho, ha]; rfl) (by omega) (fun z => absurd z (by first | decide | omega))) (fun v => kv_P v (vG_p hA.2.1 hqo)) (fLe_P)
    · have u := cR_u hS
      exact zb2_226 (hc S hS).1 (hc S hS).2 hS.2.2.1.1 hS.2.2.1.2.1 hA.2.1 hh hy hqo
    · obtain ⟨sl, hW⟩ := hS.1.2.2.1.1
      have u := rR_u hS
      exact rnb2 (hq S hS).1 (hq S hS).2.2 (hq S hS).2.1 hW hS.1.2.2.1.2 hA.2.1 hT8 hh hy hqo

theorem sb_3e (h : hyS S0 p X fa ms n WE B B2 w t A) (ho : opI S0 (a_K A t) = 28) (ha : (opA S0 (a_K A t)) = 3) (hy : ¬ ((((a_K A t).1.getD ((a_K A t).1.length - 2) (0, 0, [])).1 = 4 ∨ ((a_K A t).1.getD ((a_K A t).1.length - 2) (0, 0, [])).1 = 5) ∧ (((a_K A t).1.getD ((a_K A t).1.length - 1) (0, 0, [])).1 = 0 ∨ ((a_K A t).1.getD ((a_K A t).1.length - 1) (0, 0, [])).1 = 4 ∨ ((a_K A t).1.getD ((a_K A t).1.length - 1) (0, 0, [])).1 = 5))) : stO xs d S0 p HT cs ms os X mo fa n WE B2 w t A := by
  obtain ⟨hp, hw, hx, hA, hE, hB, hr⟩ := h
  have hk := wT_of hA hw
  have hv := wV_of hA hw
  have hc := fun (S : wS) (hS : cRel S0 p HT cs ms os X mo A S) => hcb_c hx hk hr hw ho ha hS
  have hq := fun {Sb : wS} (S : wS) (hS : rRun S0 Sb HT cs ms os X mo t A S) => hqb_r hx hk hr hw ho ha hS
  have hh := tyt_h hx hk hr
  rw [ho, ha] at hh
  replace hh : 2 ≤ (a_K A t).1.length := by have z : (2 : Int) ≤ ((a_K A t).1.length : Int) := hh; omega
  have hu := hA.2.2.2.2.1
  have hT8 : ((a_T A).length : Int) ≤ 8000 := by have := hu.1; omega
  have hTu : ((a_T A).length : Int) ≤ a_c A 0 := by have := hu.1; omega
  have hw0 := hw
  rcases hw with ⟨rfl, rfl⟩ | ⟨rfl, rfl⟩
  · refine stO_K (K2 := kTh (a_K A 0) (2, 12, [])) (ml := [217, 218]) hp hw0 (by first | decide | omega) hA hE hB (fun S hS => ?_) (fun S hS => ?_) (tyt_T hk hr) (fun v => kv_T v hr vG_n) (fLe_th)
    · have u := cR_u hS
      exact zb3e_215 (hc S hS).1 (hc S hS).2 hh hy
    · obtain ⟨sl, hW⟩ := hS.1.2.2.1.1
      have u := rR_u hS
      exact rnb3e (hq S hS).1 (hq S hS).2.2 (hq S hS).2.1 hh hy
  · refine stO_K (K2 := kTh (a_K A 1) (2, 12, [])) (ml := [228, 229]) hp hw0 (by first | decide | omega) hA hE hB (fun S hS => ?_) (fun S hS => ?_) (tyt_T hk hr) (fun v => kv_T v hr vG_n) (fLe_th)
    · have u := cR_u hS
      exact zb3e_226 (hc S hS).1 (hc S hS).2 hh hy
    · obtain ⟨sl, hW⟩ := hS.1.2.2.1.1
      have u := rR_u hS
      exact rnb3e (hq S hS).1 (hq S hS).2.2 (hq S hS).2.1 hh hy

theorem sb_4e (h : hyS S0 p X fa ms n WE B B2 w t A) (ho : opI S0 (a_K A t) = 28) (ha : (opA S0 (a_K A t)) = 4) (hy : ¬ ((((a_K A t).1.getD ((a_K A t).1.length - 2) (0, 0, [])).1 = 4 ∨ ((a_K A t).1.getD ((a_K A t).1.length - 2) (0, 0, [])).1 = 5) ∧ ((a_K A t).1.getD ((a_K A t).1.length - 1) (0, 0, [])).1 = 3)) : stO xs d S0 p HT cs ms os X mo fa n WE B2 w t A := by
  obtain ⟨hp, hw, hx, hA, hE, hB, hr⟩ := h
  have hk := wT_of hA hw
  have hv := wV_of hA hw
  have hc := fun (S : wS) (hS : cRel S0 p HT cs ms os X mo A S) => hcb_c hx hk hr hw ho ha hS
  have hq := fun {Sb : wS} (S : wS) (hS : rRun S0 Sb HT cs ms os X mo t A S) => hqb_r hx hk hr hw ho ha hS
  have hh := tyt_h hx hk hr
  rw [ho, ha] at hh
  replace hh : 2 ≤ (a_K A t).1.length := by have z : (2 : Int) ≤ ((a_K A t).1.length : Int) := hh; omega
  have hu := hA.2.2.2.2.1
  have hT8 : ((a_T A).length : Int) ≤ 8000 := by have := hu.1; omega
  have hTu : ((a_T A).length : Int) ≤ a_c A 0 := by have := hu.1; omega
  have hw0 := hw
  rcases hw with ⟨rfl, rfl⟩ | ⟨rfl, rfl⟩
  · refine stO_K (K2 := kTh (a_K A 0) (2, 12, [])) (ml := [217, 218]) hp hw0 (by first | decide | omega) hA hE hB (fun S hS => ?_) (fun S hS => ?_) (tyt_T hk hr) (fun v => kv_T v hr vG_n) (fLe_th)
    · have u := cR_u hS
      exact zb4e_215 (hc S hS).1 (hc S hS).2 hh hy
    · obtain ⟨sl, hW⟩ := hS.1.2.2.1.1
      have u := rR_u hS
      exact rnb4e (hq S hS).1 (hq S hS).2.2 (hq S hS).2.1 hh hy
  · refine stO_K (K2 := kTh (a_K A 1) (2, 12, [])) (ml := [228, 229]) hp hw0 (by first | decide | omega) hA hE hB (fun S hS => ?_) (fun S hS => ?_) (tyt_T hk hr) (fun v => kv_T v hr vG_n) (fLe_th)
    · have u := cR_u hS
      exact zb4e_226 (hc S hS).1 (hc S hS).2 hh hy
    · obtain ⟨sl, hW⟩ := hS.1.2.2.1.1
      have u := rR_u hS
      exact rnb4e (hq S hS).1 (hq S hS).2.2 (hq S hS).2.1 hh hy

theorem sb_5e (h : hyS S0 p X fa ms n WE B B2 w t A) (ho : opI S0 (a_K A t) = 28) (ha : (opA S0 (a_K A t)) = 5) (hy : ¬ ((((a_K A t).1.getD ((a_K A t).1.length - 2) (0, 0, [])).1 = 4 ∨ ((a_K A t).1.getD ((a_K A t).1.length - 2) (0, 0, [])).1 = 5) ∧ ((a_K A t).1.getD ((a_K A t).1.length - 1) (0, 0, [])).1 = 3)) : stO xs d S0 p HT cs ms os X mo fa n WE B2 w t A := by
  obtain ⟨hp, hw, hx, hA, hE, hB, hr⟩ := h
  have hk := wT_of hA hw
  have hv := wV_of hA hw
  have hc := fun (S : wS) (hS : cRel S0 p HT cs ms os X mo A S) => hcb_c hx hk hr hw ho ha hS
  have hq := fun {Sb : wS} (S : wS) (hS : rRun S0 Sb HT cs ms os X mo t A S) => hqb_r hx hk hr hw ho ha hS
  have hh := tyt_h hx hk hr
  rw [ho, ha] at hh
  replace hh : 2 ≤ (a_K A t).1.length := by have z : (2 : Int) ≤ ((a_K A t).1.length : Int) := hh; omega
  have hu := hA.2.2.2.2.1
  have hT8 : ((a_T A).length : Int) ≤ 8000 := by have := hu.1; omega
  have hTu : ((a_T A).length : Int) ≤ a_c A 0 := by have := hu.1; omega
  have hw0 := hw
  rcases hw with ⟨rfl, rfl⟩ | ⟨rfl, rfl⟩
  · refine stO_K (K2 := kTh (a_K A 0) (2, 12, [])) (ml := [217, 218]) hp hw0 (by first | decide | omega) hA hE hB (fun S hS => ?_) (fun S hS => ?_) (tyt_T hk hr) (fun v => kv_T v hr vG_n) (fLe_th)
    · have u := cR_u hS
      exact zb5e_215 (hc S hS).1 (hc S hS).2 hh hy
    · obtain ⟨sl, hW⟩ := hS.1.2.2.1.1
      have u := rR_u hS
      exact rnb5e (hq S hS).1 (hq S hS).2.2 (hq S hS).2.1 hh hy
  · refine stO_K (K2 := kTh (a_K A 1) (2, 12, [])) (ml := [228, 229]) hp hw0 (by first | decide | omega) hA hE hB (fun S hS => ?_) (fun S hS => ?_) (tyt_T hk hr) (fun v => kv_T v hr vG_n) (fLe_th)
    · have u := cR_u hS
      exact zb5e_226 (hc S hS).1 (hc S hS).2 hh hy
    · obtain ⟨sl, hW⟩ := hS.1.2.2.1.1
      have u := rR_u hS
      exact rnb5e (hq S hS).1 (hq S hS).2.2 (hq S hS).2.1 hh hy

theorem sb_5 (h : hyS S0 p X fa ms n WE B B2 w t A) (ho : opI S0 (a_K A t) = 28) (ha : (opA S0 (a_K A t)) = 5) (hx2 : ((a_K A t).1.getD ((a_K A t).1.length - 2) (0, 0, [])).1 = 4 ∨ ((a_K A t).1.getD ((a_K A t).1.length - 2) (0, 0, [])).1 = 5) (hy : ((a_K A t).1.getD ((a_K A t).1.length - 1) (0, 0, [])).1 = 3) : stO xs d S0 p HT cs ms os X mo fa n WE B2 w t A := by
  obtain ⟨hp, hw, hx, hA, hE, hB, hr⟩ := h
  have hk := wT_of hA hw
  have hv := wV_of hA hw
  have hc := fun (S : wS) (hS : cRel S0 p HT cs ms os X mo A S) => hcb_c hx hk hr hw ho ha hS
  have hq := fun {Sb : wS} (S : wS) (hS : rRun S0 Sb HT cs ms os X mo t A S) => hqb_r hx hk hr hw ho ha hS
  have hh := tyt_h hx hk hr
  rw [ho, ha] at hh
  replace hh : 2 ≤ (a_K A t).1.length := by have z : (2 : Int) ≤ ((a_K A t).1.length : Int) := hh; omega
  have hu := hA.2.2.2.2.1
  have hT8 : ((a_T A).length : Int) ≤ 8000 := by have := hu.1; omega
  have hTu : ((a_T A).length : Int) ≤ a_c A 0 := by have := hu.1; omega
  have hxo := vG_o (hv.1 _ (tq_m (by omega))) hx2
  have hw0 := hw
  rcases hw with ⟨rfl, rfl⟩ | ⟨rfl, rfl⟩
  · refine stO_K (K2 := kP (a_K A 0) 2 (1, (if ixL (a_N A) ((a_K A 0).1.getD ((a_K A 0).1.length - 1) (0, 0, [])).2.2 = -1 ∨ aUp (a_T A) (a_H A) (ixL (a_N A) ((a_K A 0).1.getD ((a_K A 0).1.length - 1) (0, 0, [])).2.2) ((a_K A 0).1.getD ((a_K A 0).1.length - 2) (0, 0, [])).2.1 = -1 then 0 else 1), [])) (ml := [217, 218]) hp hw0 (by first | decide | omega) hA hE hB (fun S hS => ?_) (fun S hS => ?_) (tyt_P (m := 2) hx hk hr (by rw [ho]; decide) (by rw [ho, ha]; rfl) (by omega) (fun z => absurd z (by first | decide | omega))) (fun v => kv_P v vG_j) (fLe_P)
    · have u := cR_u hS
      exact zb5_215 (hc S hS).1 (hc S hS).2 (cR_n hS).1.1 (cR_n hS).1.2.1 (cR_n hS).1.2.2 (cR_n hS).2.1 (cR_tt hS) hS.2.2.1.1 hS.2.2.1.2.1 hA.2.1 hT8 hh hx2 hxo hy
    · obtain ⟨sl, hW⟩ := hS.1.2.2.1.1
      have u := rR_u hS
      exact rnb5 (hq S hS).1 (hq S hS).2.2 (hq S hS).2.1 hS.1.2.2.2.1.1 hS.1.2.2.2.1.2.2.1 hW hS.1.2.2.1.2 hA.2.1 hT8 (rR_82 hS hu.2.1.2.1) hh hx2 hxo hy
  · refine stO_K (K2 := kP (a_K A 1) 2 (1, (if ixL (a_N A) ((a_K A 1).1.getD ((a_K A 1).1.length - 1) (0, 0, [])).2.2 = -1 ∨ aUp (a_T A) (a_H A) (ixL (a_N A) ((a_K A 1).1.getD ((a_K A 1).1.length - 1) (0, 0, [])).2.2) ((a_K A 1).1.getD ((a_K A 1).1.length - 2) (0, 0, [])).2.1 = -1 then 0 else 1), [])) (ml := [228, 229]) hp hw0 (by first | decide | omega) hA hE hB (fun S hS => ?_) (fun S hS => ?_) (tyt_P (m := 2) hx hk hr (by rw [ho]; decide) (by rw [ho, ha]; rfl) (by omega) (fun z => absurd z (by first | decide | omega))) (fun v => kv_P v vG_j) (fLe_P)
    · have u := cR_u hS
      exact zb5_226 (hc S hS).1 (hc S hS).2 (cR_n hS).1.1 (cR_n hS).1.2.1 (cR_n hS).1.2.2 (cR_n hS).2.1 (cR_tt hS) hS.2.2.1.1 hS.2.2.1.2.1 hA.2.1 hT8 hh hx2 hxo hy
    · obtain ⟨sl, hW⟩ := hS.1.2.2.1.1
      have u := rR_u hS
      exact rnb5 (hq S hS).1 (hq S hS).2.2 (hq S hS).2.1 hS.1.2.2.2.1.1 hS.1.2.2.2.1.2.2.1 hW hS.1.2.2.1.2 hA.2.1 hT8 (rR_82 hS hu.2.1.2.1) hh hx2 hxo hy

theorem sb_30r (h : hyS S0 p X fa ms n WE B B2 w t A) (hx1 : pe_at (pe_GA xs).xs 1 = some (1, tx_1)) (h56 : S0 156 (-1) = 65) (ho : opI S0 (a_K A t) = 28) (ha : (opA S0 (a_K A t)) = 3) (hx2 : ((a_K A t).1.getD ((a_K A t).1.length - 2) (0, 0, [])).1 = 4 ∨ ((a_K A t).1.getD ((a_K A t).1.length - 2) (0, 0, [])).1 = 5) (hy : ((a_K A t).1.getD ((a_K A t).1.length - 1) (0, 0, [])).1 = 0) (hm0 : hMe (aPr (a_T A) (a_H A)) ((a_K A t).1.getD ((a_K A t).1.length - 2) (0, 0, [])).2.1 ((a_T A).length + 1) (-1) = 1) : stO xs d S0 p HT cs ms os X mo fa n WE B2 w t A := by
  obtain ⟨hp, hw, hx, hA, hE, hB, hr⟩ := h
  have hk := wT_of hA hw
  have hv := wV_of hA hw
  have hc := fun (S : wS) (hS : cRel S0 p HT cs ms os X mo A S) => hcb_c hx hk hr hw ho ha hS
  have hq := fun {Sb : wS} (S : wS) (hS : rRun S0 Sb HT cs ms os X mo t A S) => hqb_r hx hk hr hw ho ha hS
  have hh := tyt_h hx hk hr
  rw [ho, ha] at hh
  replace hh : 2 ≤ (a_K A t).1.length := by have z : (2 : Int) ≤ ((a_K A t).1.length : Int) := hh; omega
  have hu := hA.2.2.2.2.1
  have hT8 : ((a_T A).length : Int) ≤ 8000 := by have := hu.1; omega
  have hTu : ((a_T A).length : Int) ≤ a_c A 0 := by have := hu.1; omega
  have hxo := vG_o (hv.1 _ (tq_m (by omega))) hx2
  obtain ⟨n1, n2, n3, n4⟩ := wN_b hA
  have hw0 := hw
  rcases hw with ⟨rfl, rfl⟩ | ⟨rfl, rfl⟩
  · refine stO_K (K2 := kTh (a_K A 0) (2, 12, [])) (ml := [217, 218, 144, 145, 146, 147, 148]) hp hw0 (by first | decide | omega) hA hE hB (fun S hS => ?_) (fun S hS => ?_) (tyt_T hk hr) (fun v => kv_T v hr vG_n) (fLe_th)
    · have u := cR_u hS
      exact zb30r_215 (hc S hS).1 (hc S hS).2 hx1 hS.2.2.1.1 hS.2.2.1.2.1 hA.2.1 hT8 (by rw [u.2.2.2.2.1]; exact n4) n1 (by rw [u.2.2.2.2.2]; exact n2) (by rw [u.2.2.2.2.2]; exact n3) (cR_56 hS h56) hh hx2 hxo hy hm0
    · obtain ⟨sl, hW⟩ := hS.1.2.2.1.1
      have u := rR_u hS
      exact rnb30r (hq S hS).1 (hq S hS).2.2 (hq S hS).2.1 hW hS.1.2.2.1.2 hA.2.1 hT8 (rR_82 hS hu.2.1.2.1) (by rw [u.2.2.2.2.1]; exact n4) n1 (by rw [u.2.2.2.2.2.1]; exact n2) (by rw [u.2.2.2.2.2.1]; exact n3) hh hx2 hxo hy hm0
  · refine stO_K (K2 := kTh (a_K A 1) (2, 12, [])) (ml := [228, 229, 144, 145, 146, 147, 148]) hp hw0 (by first | decide | omega) hA hE hB (fun S hS => ?_) (fun S hS => ?_) (tyt_T hk hr) (fun v => kv_T v hr vG_n) (fLe_th)
    · have u := cR_u hS
      exact zb30r_226 (hc S hS).1 (hc S hS).2 hx1 hS.2.2.1.1 hS.2.2.1.2.1 hA.2.1 hT8 (by rw [u.2.2.2.2.1]; exact n4) n1 (by rw [u.2.2.2.2.2]; exact n2) (by rw [u.2.2.2.2.2]; exact n3) (cR_56 hS h56) hh hx2 hxo hy hm0
    · obtain ⟨sl, hW⟩ := hS.1.2.2.1.1
      have u := rR_u hS
      exact rnb30r (hq S hS).1 (hq S hS).2.2 (hq S hS).2.1 hW hS.1.2.2.1.2 hA.2.1 hT8 (rR_82 hS hu.2.1.2.1) (by rw [u.2.2.2.2.1]; exact n4) n1 (by rw [u.2.2.2.2.2.1]; exact n2) (by rw [u.2.2.2.2.2.1]; exact n3) hh hx2 hxo hy hm0

theorem sb_31r (h : hyS S0 p X fa ms n WE B B2 w t A) (hx1 : pe_at (pe_GA xs).xs 1 = some (1, tx_1)) (h56 : S0 156 (-1) = 65) (ho : opI S0 (a_K A t) = 28) (ha : (opA S0 (a_K A t)) = 3) (hx2 : ((a_K A t).1.getD ((a_K A t).1.length - 2) (0, 0, [])).1 = 4 ∨ ((a_K A t).1.getD ((a_K A t).1.length - 2) (0, 0, [])).1 = 5) (hy : ((a_K A t).1.getD ((a_K A t).1.length - 1) (0, 0, [])).1 = 4 ∨ ((a_K A t).1.getD ((a_K A t).1.length - 1) (0, 0, [])).1 = 5) (hm0 : hMe (aPr (a_T A) (a_H A)) ((a_K A t).1.getD ((a_K A t).1.length - 2) (0, 0, [])).2.1 ((a_T A).length + 1) ((a_K A t).1.getD ((a_K A t).1.length - 1) (0, 0, [])).2.1 = 1) : stO xs d S0 p HT cs ms os X mo fa n WE B2 w t A := by
  obtain ⟨hp, hw, hx, hA, hE, hB, hr⟩ := h
  have hk := wT_of hA hw
  have hv := wV_of hA hw
  have hc := fun (S : wS) (hS : cRel S0 p HT cs ms os X mo A S) => hcb_c hx hk hr hw ho ha hS
  have hq := fun {Sb : wS} (S : wS) (hS : rRun S0 Sb HT cs ms os X mo t A S) => hqb_r hx hk hr hw ho ha hS
  have hh := tyt_h hx hk hr
  rw [ho, ha] at hh
  replace hh : 2 ≤ (a_K A t).1.length := by have z : (2 : Int) ≤ ((a_K A t).1.length : Int) := hh; omega
  have hu := hA.2.2.2.2.1
  have hT8 : ((a_T A).length : Int) ≤ 8000 := by have := hu.1; omega
  have hTu : ((a_T A).length : Int) ≤ a_c A 0 := by have := hu.1; omega
  have hxo := vG_o (hv.1 _ (tq_m (by omega))) hx2
  have hqo := vG_o (hv.1 _ (tp_m (by omega))) hy
  obtain ⟨n1, n2, n3, n4⟩ := wN_b hA
  have hw0 := hw
  rcases hw with ⟨rfl, rfl⟩ | ⟨rfl, rfl⟩
  · refine stO_K (K2 := kTh (a_K A 0) (2, 12, [])) (ml := [217, 218, 144, 145, 146, 147, 148]) hp hw0 (by first | decide | omega) hA hE hB (fun S hS => ?_) (fun S hS => ?_) (tyt_T hk hr) (fun v => kv_T v hr vG_n) (fLe_th)
    · have u := cR_u hS
      exact zb31r_215 (hc S hS).1 (hc S hS).2 hx1 hS.2.2.1.1 hS.2.2.1.2.1 hA.2.1 hT8 (by rw [u.2.2.2.2.1]; exact n4) n1 (by rw [u.2.2.2.2.2]; exact n2) (by rw [u.2.2.2.2.2]; exact n3) (cR_56 hS h56) hh hx2 hxo hy hqo hm0
    · obtain ⟨sl, hW⟩ := hS.1.2.2.1.1
      have u := rR_u hS
      exact rnb31r (hq S hS).1 (hq S hS).2.2 (hq S hS).2.1 hW hS.1.2.2.1.2 hA.2.1 hT8 (rR_82 hS hu.2.1.2.1) (by rw [u.2.2.2.2.1]; exact n4) n1 (by rw [u.2.2.2.2.2.1]; exact n2) (by rw [u.2.2.2.2.2.1]; exact n3) hh hx2 hxo hy hqo hm0
  · refine stO_K (K2 := kTh (a_K A 1) (2, 12, [])) (ml := [228, 229, 144, 145, 146, 147, 148]) hp hw0 (by first | decide | omega) hA hE hB (fun S hS => ?_) (fun S hS => ?_) (tyt_T hk hr) (fun v => kv_T v hr vG_n) (fLe_th)
    · have u := cR_u hS
      exact zb31r_226 (hc S hS).1 (hc S hS).2 hx1 hS.2.2.1.1 hS.2.2.1.2.1 hA.2.1 hT8 (by rw [u.2.2.2.2.1]; exact n4) n1 (by rw [u.2.2.2.2.2]; exact n2) (by rw [u.2.2.2.2.2]; exact n3) (cR_56 hS h56) hh hx2 hxo hy hqo hm0
    · obtain ⟨sl, hW⟩ := hS.1.2.2.1.1
      have u := rR_u hS
      exact rnb31r (hq S hS).1 (hq S hS).2.2 (hq S hS).2.1 hW hS.1.2.2.1.2 hA.2.1 hT8 (rR_82 hS hu.2.1.2.1) (by rw [u.2.2.2.2.1]; exact n4) n1 (by rw [u.2.2.2.2.2.1]; exact n2) (by rw [u.2.2.2.2.2.1]; exact n3) hh hx2 hxo hy hqo hm0

theorem sb_4n (h : hyS S0 p X fa ms n WE B B2 w t A) (hx1 : pe_at (pe_GA xs).xs 1 = some (1, tx_1)) (h56 : S0 156 (-1) = 65) (ho : opI S0 (a_K A t) = 28) (ha : (opA S0 (a_K A t)) = 4) (hx2 : ((a_K A t).1.getD ((a_K A t).1.length - 2) (0, 0, [])).1 = 4 ∨ ((a_K A t).1.getD ((a_K A t).1.length - 2) (0, 0, [])).1 = 5) (hy : ((a_K A t).1.getD ((a_K A t).1.length - 1) (0, 0, [])).1 = 3) (hm0 : (ixL (a_N A) ((a_K A t).1.getD ((a_K A t).1.length - 1) (0, 0, [])).2.2) = -1 ∨ aIx (a_T A) (ixL (a_N A) ((a_K A t).1.getD ((a_K A t).1.length - 1) (0, 0, [])).2.2) ((a_K A t).1.getD ((a_K A t).1.length - 2) (0, 0, [])).2.1 = -1) : stO xs d S0 p HT cs ms os X mo fa n WE B2 w t A := by
  obtain ⟨hp, hw, hx, hA, hE, hB, hr⟩ := h
  have hk := wT_of hA hw
  have hv := wV_of hA hw
  have hc := fun (S : wS) (hS : cRel S0 p HT cs ms os X mo A S) => hcb_c hx hk hr hw ho ha hS
  have hq := fun {Sb : wS} (S : wS) (hS : rRun S0 Sb HT cs ms os X mo t A S) => hqb_r hx hk hr hw ho ha hS
  have hh := tyt_h hx hk hr
  rw [ho, ha] at hh
  replace hh : 2 ≤ (a_K A t).1.length := by have z : (2 : Int) ≤ ((a_K A t).1.length : Int) := hh; omega
  have hu := hA.2.2.2.2.1
  have hT8 : ((a_T A).length : Int) ≤ 8000 := by have := hu.1; omega
  have hTu : ((a_T A).length : Int) ≤ a_c A 0 := by have := hu.1; omega
  have hxo := vG_o (hv.1 _ (tq_m (by omega))) hx2
  obtain ⟨n1, n2, n3, n4⟩ := wN_b hA
  have hw0 := hw
  rcases hw with ⟨rfl, rfl⟩ | ⟨rfl, rfl⟩
  · refine stO_K (ml := [217, 218, 144, 145, 146, 147, 148]) hp hw0 (by first | decide | omega) hA hE hB (fun S hS => ?_) (fun S hS => ?_) (tyt_P (m := 2) hx hk hr (by rw [ho]; decide) (by rw [ho, ha]; rfl) (by omega) (fun z => absurd z (by first | decide | omega))) (fun v => kv_P v (vG_b (Or.inl rfl))) (fLe_P)
    · have u := cR_u hS
      exact zb4n_215 (hc S hS).1 (hc S hS).2 hx1 (cR_n hS).1.1 (cR_n hS).1.2.1 (cR_n hS).1.2.2 (cR_n hS).2.1 (cR_tt hS) hS.2.2.1.1 hS.2.2.1.2.1 hA.2.1 hT8 (by rw [u.2.2.2.2.1]; exact n4) n1 (by rw [u.2.2.2.2.2]; exact n2) (by rw [u.2.2.2.2.2]; exact n3) (cR_56 hS h56) hh hx2 hxo hy rfl hm0
    · obtain ⟨sl, hW⟩ := hS.1.2.2.1.1
      have u := rR_u hS
      exact rnb4n (hq S hS).1 (hq S hS).2.2 (hq S hS).2.1 hS.1.2.2.2.1.1 hS.1.2.2.2.1.2.2.1 hW hS.1.2.2.1.2 hA.2.1 hT8 (rR_82 hS hu.2.1.2.1) (by rw [u.2.2.2.2.1]; exact n4) n1 (by rw [u.2.2.2.2.2.1]; exact n2) (by rw [u.2.2.2.2.2.1]; exact n3) hh hx2 hxo hy rfl hm0
  · refine stO_K (ml := [228, 229, 144, 145, 146, 147, 148]) hp hw0 (by first | decide | omega) hA hE hB (fun S hS => ?_) (fun S hS => ?_) (tyt_P (m := 2) hx hk hr (by rw [ho]; decide) (by rw [ho, ha]; rfl) (by omega) (fun z => absurd z (by first | decide | omega))) (fun v => kv_P v (vG_b (Or.inl rfl))) (fLe_P)
    · have u := cR_u hS
      exact zb4n_226 (hc S hS).1 (hc S hS).2 hx1 (cR_n hS).1.1 (cR_n hS).1.2.1 (cR_n hS).1.2.2 (cR_n hS).2.1 (cR_tt hS) hS.2.2.1.1 hS.2.2.1.2.1 hA.2.1 hT8 (by rw [u.2.2.2.2.1]; exact n4) n1 (by rw [u.2.2.2.2.2]; exact n2) (by rw [u.2.2.2.2.2]; exact n3) (cR_56 hS h56) hh hx2 hxo hy rfl hm0
    · obtain ⟨sl, hW⟩ := hS.1.2.2.1.1
      have u := rR_u hS
      exact rnb4n (hq S hS).1 (hq S hS).2.2 (hq S hS).2.1 hS.1.2.2.2.1.1 hS.1.2.2.2.1.2.2.1 hW hS.1.2.2.1.2 hA.2.1 hT8 (rR_82 hS hu.2.1.2.1) (by rw [u.2.2.2.2.1]; exact n4) n1 (by rw [u.2.2.2.2.2.1]; exact n2) (by rw [u.2.2.2.2.2.1]; exact n3) hh hx2 hxo hy rfl hm0

end Wkg
