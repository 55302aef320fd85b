/-! PART kp: a step of a task, on both sides: hosts' classes by name, hosts' values printed. -/
section Wkp
variable {Sb : wS} {xs : List (Nat × List Int32)} {d : Nat} {S0 S Z : wS} {p w m : Nat} {HT : Int → Int} {cs : List hCR} {ms : List hMR} {os : Int → List Int} {X : List (List Int)} {mo t n B B2 oq : Int} {fa : Int → Int} {WE : aA → Prop} {A A2 : aA} {K2 : aK} {ml : List Nat} {T2 : List aO} {L2 : List aC} {G2 : Int → aV} {H2 : List aH} {c2 : Int → Int} {mk rk : Nat → Int → Prop} {k : Int} {b : Nat} {nt : Int} {T : List aO}
/-- the host that is told, as both sides keep it -/
def stHo (S0 : wS) (p b : Nat) (HT : Int → Int) (nt : Int) (cs : List hCR) (ms : List hMR) (os : Int → List Int) (n : Int) : Prop := ((p = 73 ∧ b = 241) ∨ (p = 162 ∧ b = 261)) ∧ S0 72 1 = (p : Int) ∧ cnW (p + 19) (p + 1) HT cs S0 ∧ (S0 p 2 = (cs.length : Int) ∧ cs.length ≤ 60 ∧ n = (cs.length : Int)) ∧ (wd_at S0 (p + 1) 64 ∧ wd_L S0 (p + 1) 64) ∧ ((∀ k : Int, 0 ≤ k → k < (cs.length : Int) → S0 (p + 19) k < S0 (p + 1) 7) ∧ S0 (p + 1) 7 ≤ 1000000) ∧ KR b HT nt cs ms S0 ∧ wHo cs ms os ∧ ∀ q : Int, 0 ≤ q → q < (cs.length : Int) → (cNa HT cs q).length ≤ 30
theorem ho_f (hb : (p = 73 ∧ b = 241) ∨ (p = 162 ∧ b = 261)) (h : cRel S0 p HT cs ms os X mo A S) (j : Nat) (x : Int) (h0 : p < j) (h1 : j ≤ p + 43) : S j x = S0 j x := h.2.2.2.2.2.2.2.2 j x (by unfold cSta; omega)
theorem ho_c (hH : stHo S0 p b HT nt cs ms os n) (h : cRel S0 p HT cs ms os X mo A S) : S 72 1 = (p : Int) ∧ cnW (p + 19) (p + 1) HT cs S ∧ S p 2 = (cs.length : Int) ∧ wd_at S (p + 1) 64 ∧ wd_L S (p + 1) 64 ∧ (∀ k : Int, 0 ≤ k → k < (cs.length : Int) → S (p + 19) k < S (p + 1) 7) ∧ S (p + 1) 7 ≤ 1000000 := by
  obtain ⟨hb, h72, hcw, h2, ⟨hw1, hw2⟩, ⟨h7a, h7b⟩, -⟩ := hH
  have f := fun (j : Nat) (x : Int) (h0 : p < j) (h1 : j ≤ p + 43) => ho_f hb h j x h0 h1
  refine ⟨?_, cnW_ag hcw (fun j x hj => f j x (by omega) (by omega)), ?_, wd_at_ag hw1 (fun x hx => funext fun i => f _ i (by omega) (by omega)), ?_, fun k k0 k1 => ?_, ?_⟩
  · exact (h.2.2.2.2.2.2.2.2 72 1 (by unfold cSta; omega)).trans h72
  · exact (h.2.2.2.2.2.2.2.2 p 2 (by unfold cSta; omega)).trans h2.1
  · unfold wd_L at hw2 ⊢
    rw [f (p + 1 + 10) _ (by omega) (by omega), f (p + 1 + 3) _ (by omega) (by omega), f (p + 1 + 2) _ (by omega) (by omega), f (p + 1 + 4) _ (by omega) (by omega), f (p + 1 + 5) _ (by omega) (by omega), f (p + 1 + 6) _ (by omega) (by omega), f (p + 1 + 1) _ (by omega) (by omega)]
    exact hw2
  · rw [f (p + 19) _ (by omega) (by omega), f (p + 1) _ (by omega) (by omega)]
    exact h7a k k0 k1
  · rw [f (p + 1) _ (by omega) (by omega)]
    exact h7b
theorem ho_r (hH : stHo S0 p b HT nt cs ms os n) (h : rRun S0 Sb HT cs ms os X mo t A S) : KR b HT nt cs ms S := by
  obtain ⟨hb, -, -, -, -, -, hK, -⟩ := hH
  exact KR_ag hK (fun j x hj => (h.1.2.2.2.2.2.2.2.2 j x (by unfold rSta; omega)).trans (rBs_i (by omega)))
theorem vG_8 {k : Int} (h0 : 0 ≤ k) (h1 : k < n) (hn : n ≤ 60) : vG T n (8, k, []) := by
  refine ⟨⟨?_, fun _ h => ?_, fun _ => ⟨h0, ?_⟩, fun h => ?_, fun h => ?_, fun h => ?_⟩, fun h => ?_, fun _ => h1, l0_v⟩
  · show (0 : Int) ≤ 8 ∧ (8 : Int) ≤ 8; omega
  · replace h : (8 : Int) ≤ 7 := h; omega
  · show k < 60; omega
  · replace h : (8 : Int) = 7 := h; omega
  · replace h : (8 : Int) = 0 := h; omega
  · replace h : (8 : Int) = 1 := h; omega
  · replace h : (8 : Int) = 7 := h; omega

theorem sb_7 (h : hyS S0 p X fa ms n WE B B2 w t A) (hH : stHo S0 p b HT nt cs ms os n) (ho : opI S0 (a_K A t) = 28) (ha : (opA S0 (a_K A t)) = 7) (hk3 : ((a_K A t).1.getD ((a_K A t).1.length - 1) (0, 0, [])).1 = 3) (hc0 : 0 ≤ (cIx HT cs ((a_K A t).1.getD ((a_K A t).1.length - 1) (0, 0, [])).2.2)) : stO xs d S0 p HT cs ms os X mo fa n WE B2 w t A := by
  obtain ⟨hp, hw, hx, hA, hE, hB, hr⟩ := h
  have hk := wT_of hA hw
  have hv := wV_of hA hw
  have hc := fun (S : wS) (hS : cRel S0 p HT cs ms os X mo A S) => hcb_c hx hk hr hw ho ha hS
  have hq := fun {Sb : wS} (S : wS) (hS : rRun S0 Sb HT cs ms os X mo t A S) => hqb_r hx hk hr hw ho ha hS
  have hh := tyt_h hx hk hr
  rw [ho, ha] at hh
  replace hh : 1 ≤ (a_K A t).1.length := by have z : (1 : Int) ≤ ((a_K A t).1.length : Int) := hh; omega
  have hu := hA.2.2.2.2.1
  have hT8 : ((a_T A).length : Int) ≤ 8000 := by have := hu.1; omega
  have hTu : ((a_T A).length : Int) ≤ a_c A 0 := by have := hu.1; omega
  have hn6 := hH.2.2.2.1
  have hcx : (cIx HT cs ((a_K A t).1.getD ((a_K A t).1.length - 1) (0, 0, [])).2.2) < n := by have z := ctA_rg (m := cs.length) (pr := fun k => decide (cNa HT cs (k : Int) = ((a_K A t).1.getD ((a_K A t).1.length - 1) (0, 0, [])).2.2)); have z2 : (cIx HT cs ((a_K A t).1.getD ((a_K A t).1.length - 1) (0, 0, [])).2.2) = ctA cs.length (fun k => decide (cNa HT cs (k : Int) = ((a_K A t).1.getD ((a_K A t).1.length - 1) (0, 0, [])).2.2)) := rfl; omega
  have hw0 := hw
  rcases hw with ⟨rfl, rfl⟩ | ⟨rfl, rfl⟩
  · rcases hH.1 with ⟨rfl, rfl⟩ | ⟨rfl, rfl⟩
    · exact stO_K (ml := [217, 218]) (K2 := kP (a_K A 0) 1 (8, (cIx HT cs ((a_K A 0).1.getD ((a_K A 0).1.length - 1) (0, 0, [])).2.2), [])) hp hw0 (by first | decide | omega) hA hE hB (fun S hS => zb7_73_215 (hc S hS).1 (hc S hS).2 (ho_c hH hS).1 hh (ho_c hH hS).2.2.1 hH.2.2.2.1.2.1 hk3 (cR_tt hS) (ho_c hH hS).2.2.2.1 (ho_c hH hS).2.2.2.2.1 (ho_c hH hS).2.1 (ho_c hH hS).2.2.2.2.2.1 (ho_c hH hS).2.2.2.2.2.2 hc0) (fun S hS => rnb7_241 (hq S hS).1 (hq S hS).2.2 (hq S hS).2.1 (ho_r hH hS) hH.2.2.2.2.2.2.2.1 hS.1.2.2.2.1.2.2.1 hh hk3 hc0) (tyt_P (m := 1) hx hk hr (by rw [ho]; decide) (by rw [ho, ha]; rfl) (by omega) (fun z => absurd z (by first | decide | omega))) (fun v => kv_P v (vG_8 hc0 hcx (by omega))) fLe_P
    · exact stO_K (ml := [217, 218]) (K2 := kP (a_K A 0) 1 (8, (cIx HT cs ((a_K A 0).1.getD ((a_K A 0).1.length - 1) (0, 0, [])).2.2), [])) hp hw0 (by first | decide | omega) hA hE hB (fun S hS => zb7_162_215 (hc S hS).1 (hc S hS).2 (ho_c hH hS).1 hh (ho_c hH hS).2.2.1 hH.2.2.2.1.2.1 hk3 (cR_tt hS) (ho_c hH hS).2.2.2.1 (ho_c hH hS).2.2.2.2.1 (ho_c hH hS).2.1 (ho_c hH hS).2.2.2.2.2.1 (ho_c hH hS).2.2.2.2.2.2 hc0) (fun S hS => rnb7_261 (hq S hS).1 (hq S hS).2.2 (hq S hS).2.1 (ho_r hH hS) hH.2.2.2.2.2.2.2.1 hS.1.2.2.2.1.2.2.1 hh hk3 hc0) (tyt_P (m := 1) hx hk hr (by rw [ho]; decide) (by rw [ho, ha]; rfl) (by omega) (fun z => absurd z (by first | decide | omega))) (fun v => kv_P v (vG_8 hc0 hcx (by omega))) fLe_P
  · rcases hH.1 with ⟨rfl, rfl⟩ | ⟨rfl, rfl⟩
    · exact stO_K (ml := [228, 229]) (K2 := kP (a_K A 1) 1 (8, (cIx HT cs ((a_K A 1).1.getD ((a_K A 1).1.length - 1) (0, 0, [])).2.2), [])) hp hw0 (by first | decide | omega) hA hE hB (fun S hS => zb7_73_226 (hc S hS).1 (hc S hS).2 (ho_c hH hS).1 hh (ho_c hH hS).2.2.1 hH.2.2.2.1.2.1 hk3 (cR_tt hS) (ho_c hH hS).2.2.2.1 (ho_c hH hS).2.2.2.2.1 (ho_c hH hS).2.1 (ho_c hH hS).2.2.2.2.2.1 (ho_c hH hS).2.2.2.2.2.2 hc0) (fun S hS => rnb7_241 (hq S hS).1 (hq S hS).2.2 (hq S hS).2.1 (ho_r hH hS) hH.2.2.2.2.2.2.2.1 hS.1.2.2.2.1.2.2.1 hh hk3 hc0) (tyt_P (m := 1) hx hk hr (by rw [ho]; decide) (by rw [ho, ha]; rfl) (by omega) (fun z => absurd z (by first | decide | omega))) (fun v => kv_P v (vG_8 hc0 hcx (by omega))) fLe_P
    · exact stO_K (ml := [228, 229]) (K2 := kP (a_K A 1) 1 (8, (cIx HT cs ((a_K A 1).1.getD ((a_K A 1).1.length - 1) (0, 0, [])).2.2), [])) hp hw0 (by first | decide | omega) hA hE hB (fun S hS => zb7_162_226 (hc S hS).1 (hc S hS).2 (ho_c hH hS).1 hh (ho_c hH hS).2.2.1 hH.2.2.2.1.2.1 hk3 (cR_tt hS) (ho_c hH hS).2.2.2.1 (ho_c hH hS).2.2.2.2.1 (ho_c hH hS).2.1 (ho_c hH hS).2.2.2.2.2.1 (ho_c hH hS).2.2.2.2.2.2 hc0) (fun S hS => rnb7_261 (hq S hS).1 (hq S hS).2.2 (hq S hS).2.1 (ho_r hH hS) hH.2.2.2.2.2.2.2.1 hS.1.2.2.2.1.2.2.1 hh hk3 hc0) (tyt_P (m := 1) hx hk hr (by rw [ho]; decide) (by rw [ho, ha]; rfl) (by omega) (fun z => absurd z (by first | decide | omega))) (fun v => kv_P v (vG_8 hc0 hcx (by omega))) fLe_P

theorem sb_7m (h : hyS S0 p X fa ms n WE B B2 w t A) (hH : stHo S0 p b HT nt cs ms os n) (ho : opI S0 (a_K A t) = 28) (ha : (opA S0 (a_K A t)) = 7) (hk3 : ((a_K A t).1.getD ((a_K A t).1.length - 1) (0, 0, [])).1 = 3) (hc0 : (cIx HT cs ((a_K A t).1.getD ((a_K A t).1.length - 1) (0, 0, [])).2.2) = -1) : stO xs d S0 p HT cs ms os X mo fa n WE B2 w t A := by
  obtain ⟨hp, hw, hx, hA, hE, hB, hr⟩ := h
  have hk := wT_of hA hw
  have hv := wV_of hA hw
  have hc := fun (S : wS) (hS : cRel S0 p HT cs ms os X mo A S) => hcb_c hx hk hr hw ho ha hS
  have hq := fun {Sb : wS} (S : wS) (hS : rRun S0 Sb HT cs ms os X mo t A S) => hqb_r hx hk hr hw ho ha hS
  have hh := tyt_h hx hk hr
  rw [ho, ha] at hh
  replace hh : 1 ≤ (a_K A t).1.length := by have z : (1 : Int) ≤ ((a_K A t).1.length : Int) := hh; omega
  have hu := hA.2.2.2.2.1
  have hT8 : ((a_T A).length : Int) ≤ 8000 := by have := hu.1; omega
  have hTu : ((a_T A).length : Int) ≤ a_c A 0 := by have := hu.1; omega
  have hw0 := hw
  rcases hw with ⟨rfl, rfl⟩ | ⟨rfl, rfl⟩
  · rcases hH.1 with ⟨rfl, rfl⟩ | ⟨rfl, rfl⟩
    · exact stO_K (ml := [217, 218]) (K2 := kTh (a_K A 0) (2, 12, [])) hp hw0 (by first | decide | omega) hA hE hB (fun S hS => zb7m_73_215 (hc S hS).1 (hc S hS).2 (ho_c hH hS).1 hh (ho_c hH hS).2.2.1 hH.2.2.2.1.2.1 hk3 (cR_tt hS) (ho_c hH hS).2.2.2.1 (ho_c hH hS).2.2.2.2.1 (ho_c hH hS).2.1 (ho_c hH hS).2.2.2.2.2.1 (ho_c hH hS).2.2.2.2.2.2 hc0) (fun S hS => rnb7m_241 (hq S hS).1 (hq S hS).2.2 (hq S hS).2.1 (ho_r hH hS) hH.2.2.2.2.2.2.2.1 hS.1.2.2.2.1.2.2.1 hh hk3 hc0) (tyt_T hk hr) (fun v => kv_T v hr vG_n) fLe_th
    · exact stO_K (ml := [217, 218]) (K2 := kTh (a_K A 0) (2, 12, [])) hp hw0 (by first | decide | omega) hA hE hB (fun S hS => zb7m_162_215 (hc S hS).1 (hc S hS).2 (ho_c hH hS).1 hh (ho_c hH hS).2.2.1 hH.2.2.2.1.2.1 hk3 (cR_tt hS) (ho_c hH hS).2.2.2.1 (ho_c hH hS).2.2.2.2.1 (ho_c hH hS).2.1 (ho_c hH hS).2.2.2.2.2.1 (ho_c hH hS).2.2.2.2.2.2 hc0) (fun S hS => rnb7m_261 (hq S hS).1 (hq S hS).2.2 (hq S hS).2.1 (ho_r hH hS) hH.2.2.2.2.2.2.2.1 hS.1.2.2.2.1.2.2.1 hh hk3 hc0) (tyt_T hk hr) (fun v => kv_T v hr vG_n) fLe_th
  · rcases hH.1 with ⟨rfl, rfl⟩ | ⟨rfl, rfl⟩
    · exact stO_K (ml := [228, 229]) (K2 := kTh (a_K A 1) (2, 12, [])) hp hw0 (by first | decide | omega) hA hE hB (fun S hS => zb7m_73_226 (hc S hS).1 (hc S hS).2 (ho_c hH hS).1 hh (ho_c hH hS).2.2.1 hH.2.2.2.1.2.1 hk3 (cR_tt hS) (ho_c hH hS).2.2.2.1 (ho_c hH hS).2.2.2.2.1 (ho_c hH hS).2.1 (ho_c hH hS).2.2.2.2.2.1 (ho_c hH hS).2.2.2.2.2.2 hc0) (fun S hS => rnb7m_241 (hq S hS).1 (hq S hS).2.2 (hq S hS).2.1 (ho_r hH hS) hH.2.2.2.2.2.2.2.1 hS.1.2.2.2.1.2.2.1 hh hk3 hc0) (tyt_T hk hr) (fun v => kv_T v hr vG_n) fLe_th
    · exact stO_K (ml := [228, 229]) (K2 := kTh (a_K A 1) (2, 12, [])) hp hw0 (by first | decide | omega) hA hE hB (fun S hS => zb7m_162_226 (hc S hS).1 (hc S hS).2 (ho_c hH hS).1 hh (ho_c hH hS).2.2.1 hH.2.2.2.1.2.1 hk3 (cR_tt hS) (ho_c hH hS).2.2.2.1 (ho_c hH hS).2.2.2.2.1 (ho_c hH hS).2.1 (ho_c hH hS).2.2.2.2.2.1 (ho_c hH hS).2.2.2.2.2.2 hc0) (fun S hS => rnb7m_261 (hq S hS).1 (hq S hS).2.2 (hq S hS).2.1 (ho_r hH hS) hH.2.2.2.2.2.2.2.1 hS.1.2.2.2.1.2.2.1 hh hk3 hc0) (tyt_T hk hr) (fun v => kv_T v hr vG_n) fLe_th

theorem sb_7e (h : hyS S0 p X fa ms n WE B B2 w t A) (hH : stHo S0 p b HT nt cs ms os n) (ho : opI S0 (a_K A t) = 28) (ha : (opA S0 (a_K A t)) = 7) (hk3 : ((a_K A t).1.getD ((a_K A t).1.length - 1) (0, 0, [])).1 ≠ 3) : stO xs d S0 p HT cs ms os X mo fa n WE B2 w t A := by
  obtain ⟨hp, hw, hx, hA, hE, hB, hr⟩ := h
  have hk := wT_of hA hw
  have hv := wV_of hA hw
  have hc := fun (S : wS) (hS : cRel S0 p HT cs ms os X mo A S) => hcb_c hx hk hr hw ho ha hS
  have hq := fun {Sb : wS} (S : wS) (hS : rRun S0 Sb HT cs ms os X mo t A S) => hqb_r hx hk hr hw ho ha hS
  have hh := tyt_h hx hk hr
  rw [ho, ha] at hh
  replace hh : 1 ≤ (a_K A t).1.length := by have z : (1 : Int) ≤ ((a_K A t).1.length : Int) := hh; omega
  have hu := hA.2.2.2.2.1
  have hT8 : ((a_T A).length : Int) ≤ 8000 := by have := hu.1; omega
  have hTu : ((a_T A).length : Int) ≤ a_c A 0 := by have := hu.1; omega
  have hk8 : 0 ≤ ((a_K A t).1.getD ((a_K A t).1.length - 1) (0, 0, [])).1 ∧ ((a_K A t).1.getD ((a_K A t).1.length - 1) (0, 0, [])).1 ≤ 8 := (hv.1 _ (tp_m (by omega))).1.1
  have hw0 := hw
  rcases hw with ⟨rfl, rfl⟩ | ⟨rfl, rfl⟩
  · rcases hH.1 with ⟨rfl, rfl⟩ | ⟨rfl, rfl⟩
    · exact stO_K (ml := [217, 218]) (K2 := kTh (a_K A 0) (2, 12, [])) hp hw0 (by first | decide | omega) hA hE hB (fun S hS => zb7e_73_215 (hc S hS).1 (hc S hS).2 (ho_c hH hS).1 hh hk3) (fun S hS => rnb7e (hq S hS).1 (hq S hS).2.2 (hq S hS).2.1 hh hk3 hk8) (tyt_T hk hr) (fun v => kv_T v hr vG_n) fLe_th
    · exact stO_K (ml := [217, 218]) (K2 := kTh (a_K A 0) (2, 12, [])) hp hw0 (by first | decide | omega) hA hE hB (fun S hS => zb7e_162_215 (hc S hS).1 (hc S hS).2 (ho_c hH hS).1 hh hk3) (fun S hS => rnb7e (hq S hS).1 (hq S hS).2.2 (hq S hS).2.1 hh hk3 hk8) (tyt_T hk hr) (fun v => kv_T v hr vG_n) fLe_th
  · rcases hH.1 with ⟨rfl, rfl⟩ | ⟨rfl, rfl⟩
    · exact stO_K (ml := [228, 229]) (K2 := kTh (a_K A 1) (2, 12, [])) hp hw0 (by first | decide | omega) hA hE hB (fun S hS => zb7e_73_226 (hc S hS).1 (hc S hS).2 (ho_c hH hS).1 hh hk3) (fun S hS => rnb7e (hq S hS).1 (hq S hS).2.2 (hq S hS).2.1 hh hk3 hk8) (tyt_T hk hr) (fun v => kv_T v hr vG_n) fLe_th
    · exact stO_K (ml := [228, 229]) (K2 := kTh (a_K A 1) (2, 12, [])) hp hw0 (by first | decide | omega) hA hE hB (fun S hS => zb7e_162_226 (hc S hS).1 (hc S hS).2 (ho_c hH hS).1 hh hk3) (fun S hS => rnb7e (hq S hS).1 (hq S hS).2.2 (hq S hS).2.1 hh hk3 hk8) (tyt_T hk hr) (fun v => kv_T v hr vG_n) fLe_th

theorem sb_hm (h : hyS S0 p X fa ms n WE B B2 w t A) (hH : stHo S0 p b HT nt cs ms os n) (hX : w_X xs) (h57 : S0 157 (-1) = 64) (ho : opI S0 (a_K A t) = 28) (ha : (opA S0 (a_K A t)) = 0) (hk78 : ((a_K A t).1.getD ((a_K A t).1.length - 1) (0, 0, [])).1 = 7 ∨ ((a_K A t).1.getD ((a_K A t).1.length - 1) (0, 0, [])).1 = 8) (hm : 65536 < ((a_O A).length : Int) + ((pH HT cs (a_T A) ((a_K A t).1.getD ((a_K A t).1.length - 1) (0, 0, []))).length : Int) + 1) : stO xs d S0 p HT cs ms os X mo fa n WE B2 w t A := by
  obtain ⟨hp, hw, hx, hA, hE, hB, hr⟩ := h
  have hk := wT_of hA hw
  have hv := wV_of hA hw
  have hc := fun (S : wS) (hS : cRel S0 p HT cs ms os X mo A S) => hcb_c hx hk hr hw ho ha hS
  have hq := fun {Sb : wS} (S : wS) (hS : rRun S0 Sb HT cs ms os X mo t A S) => hqb_r hx hk hr hw ho ha hS
  have hh := tyt_h hx hk hr
  rw [ho, ha] at hh
  replace hh : 1 ≤ (a_K A t).1.length := by have z : (1 : Int) ≤ ((a_K A t).1.length : Int) := hh; omega
  have hu := hA.2.2.2.2.1
  have hT8 : ((a_T A).length : Int) ≤ 8000 := by have := hu.1; omega
  have hTu : ((a_T A).length : Int) ≤ a_c A 0 := by have := hu.1; omega
  have hvt := hv.1 ((a_K A t).1.getD ((a_K A t).1.length - 1) (0, 0, [])) (tp_m (by omega))
  have hn6 := hH.2.2.2.1
  have h7 : ((a_K A t).1.getD ((a_K A t).1.length - 1) (0, 0, [])).1 = 7 → (0 ≤ ((a_K A t).1.getD ((a_K A t).1.length - 1) (0, 0, [])).2.1 ∧ ((a_K A t).1.getD ((a_K A t).1.length - 1) (0, 0, [])).2.1 < ((a_T A).length : Int)) ∧ 0 ≤ (tO (a_T A) ((a_K A t).1.getD ((a_K A t).1.length - 1) (0, 0, [])).2.1).2.2.1 ∧ (tO (a_T A) ((a_K A t).1.getD ((a_K A t).1.length - 1) (0, 0, [])).2.1).2.2.1 < (cs.length : Int) := fun e => ⟨(hvt.1.2.1 (by omega) (by omega)).1, (hvt.1.2.2.2.1 e).1, by have := hvt.2.1 e; omega⟩
  have h8 : ((a_K A t).1.getD ((a_K A t).1.length - 1) (0, 0, [])).1 = 8 → 0 ≤ ((a_K A t).1.getD ((a_K A t).1.length - 1) (0, 0, [])).2.1 ∧ ((a_K A t).1.getD ((a_K A t).1.length - 1) (0, 0, [])).2.1 < (cs.length : Int) := fun e => ⟨(hvt.1.2.2.1 e).1, by have := hvt.2.2.1 e; omega⟩
  have hy7 : ((a_K A t).1.getD ((a_K A t).1.length - 1) (0, 0, [])).1 = 7 → ((0 ≤ ((a_K A t).1.getD ((a_K A t).1.length - 1) (0, 0, [])).2.1 ∧ ((a_K A t).1.getD ((a_K A t).1.length - 1) (0, 0, [])).2.1 < ((a_T A).length : Int)) ∧ (tO (a_T A) ((a_K A t).1.getD ((a_K A t).1.length - 1) (0, 0, [])).2.1).1 = 7) ∧ 0 ≤ (tO (a_T A) ((a_K A t).1.getD ((a_K A t).1.length - 1) (0, 0, [])).2.1).2.2.1 ∧ (tO (a_T A) ((a_K A t).1.getD ((a_K A t).1.length - 1) (0, 0, [])).2.1).2.2.1 < (cs.length : Int) := fun e => ⟨⟨(h7 e).1, (hvt.1.2.1 (by omega) (by omega)).2.trans e⟩, (h7 e).2⟩
  have hw0 := hw
  rcases hw with ⟨rfl, rfl⟩ | ⟨rfl, rfl⟩
  · rcases hH.1 with ⟨rfl, rfl⟩ | ⟨rfl, rfl⟩
    · refine stO_So (ml := [217, 218, 151]) (mk := cMq) hp hw0 (by first | decide | omega) hA hE hB (fun j x hm => by unfold cMq at hm; omega) (fun S hS => zbhm_73_215 (hc S hS).1 (hc S hS).2 hX (cR_57 hS h57) hS.2.2.2.2.2.1.1 (ho_c hH hS).1 (ho_c hH hS).2.1 (by omega) hS.2.2.1.1.1 hS.2.2.1.1.2.2.2.2.1 hT8 hh hk78 h7 h8 hm) (fun S hS => ?_)
      obtain ⟨sl, hW⟩ := hS.1.2.2.1.1
      exact rnbhm_241 (hq S hS).1 (hq S hS).2.2 (hq S hS).2.1 hX hS.1.2.2.2.2.2.1.1 (ho_r hH hS) hH.2.2.2.2.2.2.2.1 hW.1 hT8 hH.2.2.2.2.2.2.2.2 hh hk78 hy7 h8 hm
    · refine stO_So (ml := [217, 218, 151]) (mk := cMq) hp hw0 (by first | decide | omega) hA hE hB (fun j x hm => by unfold cMq at hm; omega) (fun S hS => zbhm_162_215 (hc S hS).1 (hc S hS).2 hX (cR_57 hS h57) hS.2.2.2.2.2.1.1 (ho_c hH hS).1 (ho_c hH hS).2.1 (by omega) hS.2.2.1.1.1 hS.2.2.1.1.2.2.2.2.1 hT8 hh hk78 h7 h8 hm) (fun S hS => ?_)
      obtain ⟨sl, hW⟩ := hS.1.2.2.1.1
      exact rnbhm_261 (hq S hS).1 (hq S hS).2.2 (hq S hS).2.1 hX hS.1.2.2.2.2.2.1.1 (ho_r hH hS) hH.2.2.2.2.2.2.2.1 hW.1 hT8 hH.2.2.2.2.2.2.2.2 hh hk78 hy7 h8 hm
  · rcases hH.1 with ⟨rfl, rfl⟩ | ⟨rfl, rfl⟩
    · refine stO_So (ml := [228, 229, 151]) (mk := cMq) hp hw0 (by first | decide | omega) hA hE hB (fun j x hm => by unfold cMq at hm; omega) (fun S hS => zbhm_73_226 (hc S hS).1 (hc S hS).2 hX (cR_57 hS h57) hS.2.2.2.2.2.1.1 (ho_c hH hS).1 (ho_c hH hS).2.1 (by omega) hS.2.2.1.1.1 hS.2.2.1.1.2.2.2.2.1 hT8 hh hk78 h7 h8 hm) (fun S hS => ?_)
      obtain ⟨sl, hW⟩ := hS.1.2.2.1.1
      exact rnbhm_241 (hq S hS).1 (hq S hS).2.2 (hq S hS).2.1 hX hS.1.2.2.2.2.2.1.1 (ho_r hH hS) hH.2.2.2.2.2.2.2.1 hW.1 hT8 hH.2.2.2.2.2.2.2.2 hh hk78 hy7 h8 hm
    · refine stO_So (ml := [228, 229, 151]) (mk := cMq) hp hw0 (by first | decide | omega) hA hE hB (fun j x hm => by unfold cMq at hm; omega) (fun S hS => zbhm_162_226 (hc S hS).1 (hc S hS).2 hX (cR_57 hS h57) hS.2.2.2.2.2.1.1 (ho_c hH hS).1 (ho_c hH hS).2.1 (by omega) hS.2.2.1.1.1 hS.2.2.1.1.2.2.2.2.1 hT8 hh hk78 h7 h8 hm) (fun S hS => ?_)
      obtain ⟨sl, hW⟩ := hS.1.2.2.1.1
      exact rnbhm_261 (hq S hS).1 (hq S hS).2.2 (hq S hS).2.1 hX hS.1.2.2.2.2.2.1.1 (ho_r hH hS) hH.2.2.2.2.2.2.2.1 hW.1 hT8 hH.2.2.2.2.2.2.2.2 hh hk78 hy7 h8 hm

theorem sb_hp (h : hyS S0 p X fa ms n WE B B2 w t A) (hWo : WEo WE) (hH : stHo S0 p b HT nt cs ms os n) (hX : w_X xs) (h57 : S0 157 (-1) = 64) (ho : opI S0 (a_K A t) = 28) (ha : (opA S0 (a_K A t)) = 0) (hk78 : ((a_K A t).1.getD ((a_K A t).1.length - 1) (0, 0, [])).1 = 7 ∨ ((a_K A t).1.getD ((a_K A t).1.length - 1) (0, 0, [])).1 = 8) (hm : ((a_O A).length : Int) + ((pH HT cs (a_T A) ((a_K A t).1.getD ((a_K A t).1.length - 1) (0, 0, []))).length : Int) + 1 ≤ 65536) : stO xs d S0 p HT cs ms os X mo fa n WE B2 w t A := by
  obtain ⟨hp, hw, hx, hA, hE, hB, hr⟩ := h
  have hk := wT_of hA hw
  have hv := wV_of hA hw
  have hc := fun (S : wS) (hS : cRel S0 p HT cs ms os X mo A S) => hcb_c hx hk hr hw ho ha hS
  have hq := fun {Sb : wS} (S : wS) (hS : rRun S0 Sb HT cs ms os X mo t A S) => hqb_r hx hk hr hw ho ha hS
  have hh := tyt_h hx hk hr
  rw [ho, ha] at hh
  replace hh : 1 ≤ (a_K A t).1.length := by have z : (1 : Int) ≤ ((a_K A t).1.length : Int) := hh; omega
  have hu := hA.2.2.2.2.1
  have hT8 : ((a_T A).length : Int) ≤ 8000 := by have := hu.1; omega
  have hTu : ((a_T A).length : Int) ≤ a_c A 0 := by have := hu.1; omega
  have hvt := hv.1 ((a_K A t).1.getD ((a_K A t).1.length - 1) (0, 0, [])) (tp_m (by omega))
  have hn6 := hH.2.2.2.1
  have h7 : ((a_K A t).1.getD ((a_K A t).1.length - 1) (0, 0, [])).1 = 7 → (0 ≤ ((a_K A t).1.getD ((a_K A t).1.length - 1) (0, 0, [])).2.1 ∧ ((a_K A t).1.getD ((a_K A t).1.length - 1) (0, 0, [])).2.1 < ((a_T A).length : Int)) ∧ 0 ≤ (tO (a_T A) ((a_K A t).1.getD ((a_K A t).1.length - 1) (0, 0, [])).2.1).2.2.1 ∧ (tO (a_T A) ((a_K A t).1.getD ((a_K A t).1.length - 1) (0, 0, [])).2.1).2.2.1 < (cs.length : Int) := fun e => ⟨(hvt.1.2.1 (by omega) (by omega)).1, (hvt.1.2.2.2.1 e).1, by have := hvt.2.1 e; omega⟩
  have h8 : ((a_K A t).1.getD ((a_K A t).1.length - 1) (0, 0, [])).1 = 8 → 0 ≤ ((a_K A t).1.getD ((a_K A t).1.length - 1) (0, 0, [])).2.1 ∧ ((a_K A t).1.getD ((a_K A t).1.length - 1) (0, 0, [])).2.1 < (cs.length : Int) := fun e => ⟨(hvt.1.2.2.1 e).1, by have := hvt.2.2.1 e; omega⟩
  have hy7 : ((a_K A t).1.getD ((a_K A t).1.length - 1) (0, 0, [])).1 = 7 → ((0 ≤ ((a_K A t).1.getD ((a_K A t).1.length - 1) (0, 0, [])).2.1 ∧ ((a_K A t).1.getD ((a_K A t).1.length - 1) (0, 0, [])).2.1 < ((a_T A).length : Int)) ∧ (tO (a_T A) ((a_K A t).1.getD ((a_K A t).1.length - 1) (0, 0, [])).2.1).1 = 7) ∧ 0 ≤ (tO (a_T A) ((a_K A t).1.getD ((a_K A t).1.length - 1) (0, 0, [])).2.1).2.2.1 ∧ (tO (a_T A) ((a_K A t).1.getD ((a_K A t).1.length - 1) (0, 0, [])).2.1).2.2.1 < (cs.length : Int) := fun e => ⟨⟨(h7 e).1, (hvt.1.2.1 (by omega) (by omega)).2.trans e⟩, (h7 e).2⟩
  have hw0 := hw
  rcases hw with ⟨rfl, rfl⟩ | ⟨rfl, rfl⟩
  · rcases hH.1 with ⟨rfl, rfl⟩ | ⟨rfl, rfl⟩
    · refine stO_O (ml := [217, 218, 151]) (mk := cMp) (rk := rMp) (K2 := kP (a_K A 0) 1 (0, 0, [])) (O2 := a_O A ++ (pH HT cs (a_T A) ((a_K A 0).1.getD ((a_K A 0).1.length - 1) (0, 0, []))) ++ [10]) hp hw0 (by first | decide | omega) hA (wf_O hA hWo (by omega) (tyt_P (m := 1) hx hk hr (by rw [ho]; decide) (by rw [ho, ha]; rfl) (by omega) (fun z => absurd z (by first | decide | omega))) (kv_P hv vG_0) fLe_P hB (by simp only [List.length_append, List.length_cons, List.length_nil]; omega)) (fun j x hm => by unfold cMp at hm; unfold mOu; omega) (fun j x hm => by unfold rMp at hm; unfold rOo; omega) (fun S hS => zbh_73_215 (hc S hS).1 (hc S hS).2 hX (cR_57 hS h57) hS.2.2.2.2.2.1.1 (ho_c hH hS).1 (ho_c hH hS).2.1 (by omega) hS.2.2.1.1.1 hS.2.2.1.1.2.2.2.2.1 hT8 hh hk78 h7 h8 hm) (fun S hS => ?_)
      obtain ⟨sl, hW⟩ := hS.1.2.2.1.1
      exact rnbh_241 (hq S hS).1 (hq S hS).2.2 (hq S hS).2.1 hX hS.1.2.2.2.2.2.1.1 (ho_r hH hS) hH.2.2.2.2.2.2.2.1 hW.1 hT8 hH.2.2.2.2.2.2.2.2 hh hk78 hy7 h8 hm
    · refine stO_O (ml := [217, 218, 151]) (mk := cMp) (rk := rMp) (K2 := kP (a_K A 0) 1 (0, 0, [])) (O2 := a_O A ++ (pH HT cs (a_T A) ((a_K A 0).1.getD ((a_K A 0).1.length - 1) (0, 0, []))) ++ [10]) hp hw0 (by first | decide | omega) hA (wf_O hA hWo (by omega) (tyt_P (m := 1) hx hk hr (by rw [ho]; decide) (by rw [ho, ha]; rfl) (by omega) (fun z => absurd z (by first | decide | omega))) (kv_P hv vG_0) fLe_P hB (by simp only [List.length_append, List.length_cons, List.length_nil]; omega)) (fun j x hm => by unfold cMp at hm; unfold mOu; omega) (fun j x hm => by unfold rMp at hm; unfold rOo; omega) (fun S hS => zbh_162_215 (hc S hS).1 (hc S hS).2 hX (cR_57 hS h57) hS.2.2.2.2.2.1.1 (ho_c hH hS).1 (ho_c hH hS).2.1 (by omega) hS.2.2.1.1.1 hS.2.2.1.1.2.2.2.2.1 hT8 hh hk78 h7 h8 hm) (fun S hS => ?_)
      obtain ⟨sl, hW⟩ := hS.1.2.2.1.1
      exact rnbh_261 (hq S hS).1 (hq S hS).2.2 (hq S hS).2.1 hX hS.1.2.2.2.2.2.1.1 (ho_r hH hS) hH.2.2.2.2.2.2.2.1 hW.1 hT8 hH.2.2.2.2.2.2.2.2 hh hk78 hy7 h8 hm
  · rcases hH.1 with ⟨rfl, rfl⟩ | ⟨rfl, rfl⟩
    · refine stO_O (ml := [228, 229, 151]) (mk := cMp) (rk := rMp) (K2 := kP (a_K A 1) 1 (0, 0, [])) (O2 := a_O A ++ (pH HT cs (a_T A) ((a_K A 1).1.getD ((a_K A 1).1.length - 1) (0, 0, []))) ++ [10]) hp hw0 (by first | decide | omega) hA (wf_O hA hWo (by omega) (tyt_P (m := 1) hx hk hr (by rw [ho]; decide) (by rw [ho, ha]; rfl) (by omega) (fun z => absurd z (by first | decide | omega))) (kv_P hv vG_0) fLe_P hB (by simp only [List.length_append, List.length_cons, List.length_nil]; omega)) (fun j x hm => by unfold cMp at hm; unfold mOu; omega) (fun j x hm => by unfold rMp at hm; unfold rOo; omega) (fun S hS => zbh_73_226 (hc S hS).1 (hc S hS).2 hX (cR_57 hS h57) hS.2.2.2.2.2.1.1 (ho_c hH hS).1 (ho_c hH hS).2.1 (by omega) hS.2.2.1.1.1 hS.2.2.1.1.2.2.2.2.1 hT8 hh hk78 h7 h8 hm) (fun S hS => ?_)
      obtain ⟨sl, hW⟩ := hS.1.2.2.1.1
      exact rnbh_241 (hq S hS).1 (hq S hS).2.2 (hq S hS).2.1 hX hS.1.2.2.2.2.2.1.1 (ho_r hH hS) hH.2.2.2.2.2.2.2.1 hW.1 hT8 hH.2.2.2.2.2.2.2.2 hh hk78 hy7 h8 hm
    · refine stO_O (ml := [228, 229, 151]) (mk := cMp) (rk := rMp) (K2 := kP (a_K A 1) 1 (0, 0, [])) (O2 := a_O A ++ (pH HT cs (a_T A) ((a_K A 1).1.getD ((a_K A 1).1.length - 1) (0, 0, []))) ++ [10]) hp hw0 (by first | decide | omega) hA (wf_O hA hWo (by omega) (tyt_P (m := 1) hx hk hr (by rw [ho]; decide) (by rw [ho, ha]; rfl) (by omega) (fun z => absurd z (by first | decide | omega))) (kv_P hv vG_0) fLe_P hB (by simp only [List.length_append, List.length_cons, List.length_nil]; omega)) (fun j x hm => by unfold cMp at hm; unfold mOu; omega) (fun j x hm => by unfold rMp at hm; unfold rOo; omega) (fun S hS => zbh_162_226 (hc S hS).1 (hc S hS).2 hX (cR_57 hS h57) hS.2.2.2.2.2.1.1 (ho_c hH hS).1 (ho_c hH hS).2.1 (by omega) hS.2.2.1.1.1 hS.2.2.1.1.2.2.2.2.1 hT8 hh hk78 h7 h8 hm) (fun S hS => ?_)
      obtain ⟨sl, hW⟩ := hS.1.2.2.1.1
      exact rnbh_261 (hq S hS).1 (hq S hS).2.2 (hq S hS).2.1 hX hS.1.2.2.2.2.2.1.1 (ho_r hH hS) hH.2.2.2.2.2.2.2.1 hW.1 hT8 hH.2.2.2.2.2.2.2.2 hh hk78 hy7 h8 hm

end Wkp
