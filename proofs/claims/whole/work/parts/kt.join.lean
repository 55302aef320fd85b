/-! PART kt: a step of a task, on both sides: values joined to a text (h21: the pool is not too long; still to be carried along). -/
section Wkt
variable {Sb : wS} {xs : List (Nat × List Int32)} {d : Nat} {S0 S Z : wS} {p w m : Nat} {HT : Int → Int} {cs : List hCR} {ms : List hMR} {os : Int → List Int} {X : List (List Int)} {mo t n B B2 oq : Int} {fa : Int → Int} {WE : aA → Prop} {A A2 : aA} {K2 : aK} {ml : List Nat} {T2 : List aO} {L2 : List aC} {G2 : Int → aV} {H2 : List aH} {c2 : Int → Int} {mk rk : Nat → Int → Prop} {k : Int} {T : List aO} {u v : aV}
theorem dgF_g : ∀ (f m : Nat), ∀ y ∈ dgF f m, 0 ≤ y ∧ y ≤ 255
  | 0, _, y, h => absurd h (List.not_mem_nil)
  | f + 1, m, y, h => by
    by_cases e : m < 10
    · rw [dgF_1 e] at h
      rw [List.mem_singleton.mp h]
      omega
    · rw [dgF_n e] at h
      rcases List.mem_append.mp h with z | z
      · exact dgF_g f _ y z
      · rw [List.mem_singleton.mp z]
        omega
theorem shN_g {q : Int} : ∀ y ∈ shN q, 0 ≤ y ∧ y ≤ 255 := fun y h => by
  unfold shN at h
  rcases List.mem_append.mp h with z | z
  · by_cases e : q < 0
    · rw [if_pos e] at z
      rw [List.mem_singleton.mp z]
      omega
    · rw [if_neg e] at z
      exact absurd z (List.not_mem_nil)
  · exact dgF_g _ _ y z
theorem vT_0 : (∀ y ∈ vL 0 0, 0 ≤ y ∧ y ≤ 255) ∧ (vL 0 0).length ≤ 200000 := by decide
theorem vT_1 : (∀ y ∈ vL 1 0, 0 ≤ y ∧ y ≤ 255) ∧ (vL 1 0).length ≤ 200000 := by decide
theorem vT_2 : (∀ y ∈ vL 1 1, 0 ≤ y ∧ y ≤ 255) ∧ (vL 1 1).length ≤ 200000 := by decide
theorem pL_g (h : vG T n u) (hk : u.1 ≤ 3) : (∀ y ∈ pL u, 0 ≤ y ∧ y ≤ 255) ∧ (pL u).length ≤ 200000 := by
  unfold pL
  have h0 := h.1.1.1
  have z0 := h.1.2.2.2.2.1
  have z1 := h.1.2.2.2.2.2
  by_cases e3 : u.1 = 3
  · rw [if_pos e3]
    exact h.2.2.2
  · rw [if_neg e3]
    by_cases e2 : u.1 = 2
    · unfold vL
      rw [if_pos e2]
      exact ⟨shN_g, Nat.le_trans shN_len (by first | decide | omega)⟩
    · by_cases e0 : u.1 = 0
      · rw [e0, z0 e0]
        exact vT_0
      · have e1 : u.1 = 1 := by omega
        rw [e1]
        rcases z1 e1 with z | z
        · rw [z]
          exact vT_1
        · rw [z]
          exact vT_2

theorem sj_7 (h : hyS S0 p X fa ms n WE B B2 w t A) (hWw : WEw WE) (hX : w_X xs) (hx1 : pe_at (pe_GA xs).xs 1 = some (1, tx_1)) (h57 : S0 157 (-1) = 64) (h21 : ∀ S : wS, cRel S0 p HT cs ms os X mo A S → S 2 1 ≤ 4000000 ∧ S 3 (-1) ≤ 8000000) (ho : opI S0 (a_K A t) = 7) (hk1 : ((a_K A t).1.getD ((a_K A t).1.length - 2) (0, 0, [])).1 ≤ 3) (hk2 : ((a_K A t).1.getD ((a_K A t).1.length - 1) (0, 0, [])).1 ≤ 3) (h3 : ((a_K A t).1.getD ((a_K A t).1.length - 2) (0, 0, [])).1 = 3 ∨ ((a_K A t).1.getD ((a_K A t).1.length - 1) (0, 0, [])).1 = 3) (hm : a_c A 2 < 12000 ∧ a_c A 3 + (((pL ((a_K A t).1.getD ((a_K A t).1.length - 2) (0, 0, []))).length : Int) + ((pL ((a_K A t).1.getD ((a_K A t).1.length - 1) (0, 0, []))).length : Int)) ≤ 200000) : stO xs d S0 p HT cs ms os X mo fa n WE B2 w t A := by
  obtain ⟨hp, hw, hx, hA, hE, hB, hr⟩ := h
  have hk := wT_of hA hw
  have hv := wV_of hA hw
  have hc := fun (S : wS) (hS : cRel S0 p HT cs ms os X mo A S) => hco_c hx hk hr hw ho hS
  have hq := fun {Sb : wS} (S : wS) (hS : rRun S0 Sb HT cs ms os X mo t A S) => hqo_r hx hk hr hw ho hS
  have hh := tyt_h hx hk hr
  rw [ho] at hh
  replace hh : 2 ≤ (a_K A t).1.length := by have z : (2 : Int) ≤ ((a_K A t).1.length : Int) := hh; omega
  have hu := hA.2.2.2.2.1
  have hl1 := hk.1.1
  have hvx := hv.1 _ (tq_m (K := (a_K A t)) (i := (a_K A t).1.length - 2) (by omega))
  have hvy := hv.1 _ (tp_m (K := (a_K A t)) (by omega))
  have gx := pL_g hvx hk1
  have gy := pL_g hvy hk2
  have kx : 0 ≤ ((a_K A t).1.getD ((a_K A t).1.length - 2) (0, 0, [])).1 ∧ ((a_K A t).1.getD ((a_K A t).1.length - 2) (0, 0, [])).1 ≤ 3 := ⟨hvx.1.1.1, hk1⟩
  have ky : 0 ≤ ((a_K A t).1.getD ((a_K A t).1.length - 1) (0, 0, [])).1 ∧ ((a_K A t).1.getD ((a_K A t).1.length - 1) (0, 0, [])).1 ≤ 3 := ⟨hvy.1.1.1, hk2⟩
  have hw0 := hw
  rcases hw with ⟨rfl, rfl⟩ | ⟨rfl, rfl⟩
  · refine stO_T (ml := [217, 218, 3]) (mk := cMj) (rk := rMj) (K2 := kP (a_K A 0) 2 (3, 0, (pL ((a_K A 0).1.getD ((a_K A 0).1.length - 2) (0, 0, []))) ++ (pL ((a_K A 0).1.getD ((a_K A 0).1.length - 1) (0, 0, []))))) (c2 := (fUp (fUp (a_c A) 2 (a_c A 2 + 1)) 3 (a_c A 3 + (((pL ((a_K A 0).1.getD ((a_K A 0).1.length - 2) (0, 0, []))).length : Int) + ((pL ((a_K A 0).1.getD ((a_K A 0).1.length - 1) (0, 0, []))).length : Int))))) hp hw0 (by first | decide | omega) hA (wf_T hA hWw hw0 hB (tyt_P (m := 2) hx hk hr (by rw [ho]; decide) (by rw [ho]; rfl) (by omega) (fun z => absurd z (by first | decide | omega))) (kv_P hv (vG_x ⟨fun z hz => (List.mem_append.mp hz).elim (gx.1 z) (gy.1 z), by rw [List.length_append]; have := hu.2.2.2.1; omega⟩)) fLe_P ⟨by rw [fUp_n (by first | decide | omega), fUp_s]; have := hu.2.2.1; omega, by rw [fUp_s]; have := hu.2.2.2.1; omega, fun i i0 i1 => by rw [fUp_n i1, fUp_n i0]⟩) (fun j x hm => by unfold cMj cMq at hm; unfold mTx; omega) (fun j x hm => by unfold rMj at hm; unfold rTx9; omega) (fun i i0 => by rw [fUp_n (by omega), fUp_n (by omega)]) (fun S hS => ?_) (fun S hS => ?_)
    · have u := cR_u hS
      have g := h21 S hS
      refine wJ_E (fun hE9 => ?_)
      refine wJ_mono (zj7_215 (hc S hS).1 (hc S hS).2 hX hx1 (cR_57 hS h57) ⟨(cR_tt hS).1, (cR_tt hS).2.1, (cR_n hS).1.2.1.2.2.2.2.2.2.1, (h21 S hS).2⟩ (h21 S hS).1 hh kx ky h3 (pv_215 hE9 (hc S hS).1 ⟨by omega, by omega⟩) (pv_215 hE9 (hc S hS).1 ⟨by omega, by omega⟩) gx.2 gy.2 (by rw [u.2.2.1]; exact hu.2.2.1) (by rw [u.2.2.2.1]; exact hu.2.2.2.1) ⟨by omega, by omega⟩) (fun o Z z => ?_)
      obtain ⟨z1, z2, z3, ⟨z4, z5⟩, z6, z7, z8, z9, z10⟩ := z
      have u3 := hu.2.2.2.1
      refine ⟨z1, z2, z3, ⟨by omega, z7⟩, ?_, ?_, ?_, ?_⟩
      · exact cNt_g hS.2.2.2.1 (fun j x hj h3 h2 => fmG z3 hw0 j x (by omega) (fun hm => by unfold cMj cMq at hm; omega)) ⟨by omega, z9⟩ z8 z7 ⟨by omega, by omega⟩
      · exact cR_Po (A := A) hS z3 hw0 (fun j x hj hm => by unfold cMj cMq at hm; unfold poD at hj; omega)
      · exact cCw_t hS hw0 z3 z4 z5 (fun j x hj hm => by unfold cMj cMq at hm; omega)
      · have qn := hA.2.2.2.2.2.1.1.1
        have q := hS.2.2.2.2.2.2.2.1.2.1.2
        have e7 := fmG z3 hw0 2 7 (by first | decide | omega) (fun hm => by unfold cMj cMq at hm; omega)
        have e4 := fmG z3 hw0 4 (-1) (by first | decide | omega) (fun hm => by unfold cMj cMq at hm; omega)
        unfold cPl at q ⊢
        rw [fUp_s]
        omega
    · have u := rR_u hS
      refine rTu_E (fun hE9 => ?_)
      refine rtu_mo (rnj7 (hq S hS).1 (hq S hS).2.2 (hq S hS).2.1 hX hS.1.2.2.2.1.2.2.1 hS.1.2.2.2.1.2.2.2 (by rw [u.2.2.1]; exact hu.2.2.1.2) (by rw [u.2.2.2.1]; exact hu.2.2.2.1.2) hh kx ky h3 (by have z := pv_r (K := (a_K A 0)) (t := 0) hE9 hS.1.1 (by omega) (i := ((a_K A 0).1.length : Int) - 2) ⟨by omega, by omega⟩; rw [show (2100 * (0 : Int) + (((a_K A 0).1.length : Int) - 2)) = 2100 * (0 : Int) + ((a_K A 0).1.length : Int) - 1 - 1 by omega] at z; exact z) (by have z := pv_r (K := (a_K A 0)) (t := 0) hE9 hS.1.1 (by omega) (i := ((a_K A 0).1.length : Int) - 1) ⟨by omega, by omega⟩; rw [show (2100 * (0 : Int) + (((a_K A 0).1.length : Int) - 1)) = 2100 * (0 : Int) + ((a_K A 0).1.length : Int) - 1 by omega] at z; exact z) gx.2 gy.2 ⟨by omega, by omega⟩) (fun Z dn z => ⟨z.1, z.2.1, z.2.2.1, z.2.2.2.1, z.2.2.2.2.1, ?_⟩)
      exact rCw_t hS z.2.2.1 z.2.2.2.2.2.1.2.2.1 z.2.2.2.2.2.1.2.2.2 (fun x hj hm => by unfold rMj at hm; omega)
  · refine stO_T (ml := [228, 229, 3]) (mk := cMj) (rk := rMj) (K2 := kP (a_K A 1) 2 (3, 0, (pL ((a_K A 1).1.getD ((a_K A 1).1.length - 2) (0, 0, []))) ++ (pL ((a_K A 1).1.getD ((a_K A 1).1.length - 1) (0, 0, []))))) (c2 := (fUp (fUp (a_c A) 2 (a_c A 2 + 1)) 3 (a_c A 3 + (((pL ((a_K A 1).1.getD ((a_K A 1).1.length - 2) (0, 0, []))).length : Int) + ((pL ((a_K A 1).1.getD ((a_K A 1).1.length - 1) (0, 0, []))).length : Int))))) hp hw0 (by first | decide | omega) hA (wf_T hA hWw hw0 hB (tyt_P (m := 2) hx hk hr (by rw [ho]; decide) (by rw [ho]; rfl) (by omega) (fun z => absurd z (by first | decide | omega))) (kv_P hv (vG_x ⟨fun z hz => (List.mem_append.mp hz).elim (gx.1 z) (gy.1 z), by rw [List.length_append]; have := hu.2.2.2.1; omega⟩)) fLe_P ⟨by rw [fUp_n (by first | decide | omega), fUp_s]; have := hu.2.2.1; omega, by rw [fUp_s]; have := hu.2.2.2.1; omega, fun i i0 i1 => by rw [fUp_n i1, fUp_n i0]⟩) (fun j x hm => by unfold cMj cMq at hm; unfold mTx; omega) (fun j x hm => by unfold rMj at hm; unfold rTx9; omega) (fun i i0 => by rw [fUp_n (by omega), fUp_n (by omega)]) (fun S hS => ?_) (fun S hS => ?_)
    · have u := cR_u hS
      have g := h21 S hS
      refine wJ_E (fun hE9 => ?_)
      refine wJ_mono (zj7_226 (hc S hS).1 (hc S hS).2 hX hx1 (cR_57 hS h57) ⟨(cR_tt hS).1, (cR_tt hS).2.1, (cR_n hS).1.2.1.2.2.2.2.2.2.1, (h21 S hS).2⟩ (h21 S hS).1 hh kx ky h3 (pv_226 hE9 (hc S hS).1 ⟨by omega, by omega⟩) (pv_226 hE9 (hc S hS).1 ⟨by omega, by omega⟩) gx.2 gy.2 (by rw [u.2.2.1]; exact hu.2.2.1) (by rw [u.2.2.2.1]; exact hu.2.2.2.1) ⟨by omega, by omega⟩) (fun o Z z => ?_)
      obtain ⟨z1, z2, z3, ⟨z4, z5⟩, z6, z7, z8, z9, z10⟩ := z
      have u3 := hu.2.2.2.1
      refine ⟨z1, z2, z3, ⟨by omega, z7⟩, ?_, ?_, ?_, ?_⟩
      · exact cNt_g hS.2.2.2.1 (fun j x hj h3 h2 => fmG z3 hw0 j x (by omega) (fun hm => by unfold cMj cMq at hm; omega)) ⟨by omega, z9⟩ z8 z7 ⟨by omega, by omega⟩
      · exact cR_Po (A := A) hS z3 hw0 (fun j x hj hm => by unfold cMj cMq at hm; unfold poD at hj; omega)
      · exact cCw_t hS hw0 z3 z4 z5 (fun j x hj hm => by unfold cMj cMq at hm; omega)
      · have qn := hA.2.2.2.2.2.1.1.1
        have q := hS.2.2.2.2.2.2.2.1.2.1.2
        have e7 := fmG z3 hw0 2 7 (by first | decide | omega) (fun hm => by unfold cMj cMq at hm; omega)
        have e4 := fmG z3 hw0 4 (-1) (by first | decide | omega) (fun hm => by unfold cMj cMq at hm; omega)
        unfold cPl at q ⊢
        rw [fUp_s]
        omega
    · have u := rR_u hS
      refine rTu_E (fun hE9 => ?_)
      refine rtu_mo (rnj7 (hq S hS).1 (hq S hS).2.2 (hq S hS).2.1 hX hS.1.2.2.2.1.2.2.1 hS.1.2.2.2.1.2.2.2 (by rw [u.2.2.1]; exact hu.2.2.1.2) (by rw [u.2.2.2.1]; exact hu.2.2.2.1.2) hh kx ky h3 (by have z := pv_r (K := (a_K A 1)) (t := 1) hE9 hS.1.1 (by omega) (i := ((a_K A 1).1.length : Int) - 2) ⟨by omega, by omega⟩; rw [show (2100 * (1 : Int) + (((a_K A 1).1.length : Int) - 2)) = 2100 * (1 : Int) + ((a_K A 1).1.length : Int) - 1 - 1 by omega] at z; exact z) (by have z := pv_r (K := (a_K A 1)) (t := 1) hE9 hS.1.1 (by omega) (i := ((a_K A 1).1.length : Int) - 1) ⟨by omega, by omega⟩; rw [show (2100 * (1 : Int) + (((a_K A 1).1.length : Int) - 1)) = 2100 * (1 : Int) + ((a_K A 1).1.length : Int) - 1 by omega] at z; exact z) gx.2 gy.2 ⟨by omega, by omega⟩) (fun Z dn z => ⟨z.1, z.2.1, z.2.2.1, z.2.2.2.1, z.2.2.2.2.1, ?_⟩)
      exact rCw_t hS z.2.2.1 z.2.2.2.2.2.1.2.2.1 z.2.2.2.2.2.1.2.2.2 (fun x hj hm => by unfold rMj at hm; omega)

theorem sj_7m (h : hyS S0 p X fa ms n WE B B2 w t A) (hX : w_X xs) (hx1 : pe_at (pe_GA xs).xs 1 = some (1, tx_1)) (h57 : S0 157 (-1) = 64) (h21 : ∀ S : wS, cRel S0 p HT cs ms os X mo A S → S 2 1 ≤ 4000000 ∧ S 3 (-1) ≤ 8000000) (ho : opI S0 (a_K A t) = 7) (hk1 : ((a_K A t).1.getD ((a_K A t).1.length - 2) (0, 0, [])).1 ≤ 3) (hk2 : ((a_K A t).1.getD ((a_K A t).1.length - 1) (0, 0, [])).1 ≤ 3) (h3 : ((a_K A t).1.getD ((a_K A t).1.length - 2) (0, 0, [])).1 = 3 ∨ ((a_K A t).1.getD ((a_K A t).1.length - 1) (0, 0, [])).1 = 3) (hm : ¬ (a_c A 2 < 12000 ∧ a_c A 3 + (((pL ((a_K A t).1.getD ((a_K A t).1.length - 2) (0, 0, []))).length : Int) + ((pL ((a_K A t).1.getD ((a_K A t).1.length - 1) (0, 0, []))).length : Int)) ≤ 200000)) : stO xs d S0 p HT cs ms os X mo fa n WE B2 w t A := by
  obtain ⟨hp, hw, hx, hA, hE, hB, hr⟩ := h
  have hk := wT_of hA hw
  have hv := wV_of hA hw
  have hc := fun (S : wS) (hS : cRel S0 p HT cs ms os X mo A S) => hco_c hx hk hr hw ho hS
  have hq := fun {Sb : wS} (S : wS) (hS : rRun S0 Sb HT cs ms os X mo t A S) => hqo_r hx hk hr hw ho hS
  have hh := tyt_h hx hk hr
  rw [ho] at hh
  replace hh : 2 ≤ (a_K A t).1.length := by have z : (2 : Int) ≤ ((a_K A t).1.length : Int) := hh; omega
  have hu := hA.2.2.2.2.1
  have hl1 := hk.1.1
  have hvx := hv.1 _ (tq_m (K := (a_K A t)) (i := (a_K A t).1.length - 2) (by omega))
  have hvy := hv.1 _ (tp_m (K := (a_K A t)) (by omega))
  have gx := pL_g hvx hk1
  have gy := pL_g hvy hk2
  have kx : 0 ≤ ((a_K A t).1.getD ((a_K A t).1.length - 2) (0, 0, [])).1 ∧ ((a_K A t).1.getD ((a_K A t).1.length - 2) (0, 0, [])).1 ≤ 3 := ⟨hvx.1.1.1, hk1⟩
  have ky : 0 ≤ ((a_K A t).1.getD ((a_K A t).1.length - 1) (0, 0, [])).1 ∧ ((a_K A t).1.getD ((a_K A t).1.length - 1) (0, 0, [])).1 ≤ 3 := ⟨hvy.1.1.1, hk2⟩
  have hw0 := hw
  rcases hw with ⟨rfl, rfl⟩ | ⟨rfl, rfl⟩
  · refine stO_So (ml := [217, 218, 3]) (mk := cMq) hp hw0 (by first | decide | omega) hA hE hB (fun j x hm => by unfold cMq at hm; omega) (fun S hS => ?_) (fun S hS => ?_)
    · have u := cR_u hS
      refine wJ_E (fun hE9 => ?_)
      exact zj7m_215 (hc S hS).1 (hc S hS).2 hX hx1 (cR_57 hS h57) ⟨(cR_tt hS).1, (cR_tt hS).2.1, (cR_n hS).1.2.1.2.2.2.2.2.2.1, (h21 S hS).2⟩ (h21 S hS).1 hh kx ky h3 (pv_215 hE9 (hc S hS).1 ⟨by omega, by omega⟩) (pv_215 hE9 (hc S hS).1 ⟨by omega, by omega⟩) gx.2 gy.2 (by rw [u.2.2.1]; exact hu.2.2.1) (by rw [u.2.2.2.1]; exact hu.2.2.2.1) (by omega)
    · have u := rR_u hS
      refine rTu_E (fun hE9 => ?_)
      exact rnj7m (hq S hS).1 (hq S hS).2.2 (hq S hS).2.1 hX hS.1.2.2.2.1.2.2.1 hS.1.2.2.2.1.2.2.2 (by rw [u.2.2.1]; exact hu.2.2.1.2) (by rw [u.2.2.2.1]; exact hu.2.2.2.1.2) hh kx ky h3 (by have z := pv_r (K := (a_K A 0)) (t := 0) hE9 hS.1.1 (by omega) (i := ((a_K A 0).1.length : Int) - 2) ⟨by omega, by omega⟩; rw [show (2100 * (0 : Int) + (((a_K A 0).1.length : Int) - 2)) = 2100 * (0 : Int) + ((a_K A 0).1.length : Int) - 1 - 1 by omega] at z; exact z) (by have z := pv_r (K := (a_K A 0)) (t := 0) hE9 hS.1.1 (by omega) (i := ((a_K A 0).1.length : Int) - 1) ⟨by omega, by omega⟩; rw [show (2100 * (0 : Int) + (((a_K A 0).1.length : Int) - 1)) = 2100 * (0 : Int) + ((a_K A 0).1.length : Int) - 1 by omega] at z; exact z) gx.2 gy.2 (by omega)
  · refine stO_So (ml := [228, 229, 3]) (mk := cMq) hp hw0 (by first | decide | omega) hA hE hB (fun j x hm => by unfold cMq at hm; omega) (fun S hS => ?_) (fun S hS => ?_)
    · have u := cR_u hS
      refine wJ_E (fun hE9 => ?_)
      exact zj7m_226 (hc S hS).1 (hc S hS).2 hX hx1 (cR_57 hS h57) ⟨(cR_tt hS).1, (cR_tt hS).2.1, (cR_n hS).1.2.1.2.2.2.2.2.2.1, (h21 S hS).2⟩ (h21 S hS).1 hh kx ky h3 (pv_226 hE9 (hc S hS).1 ⟨by omega, by omega⟩) (pv_226 hE9 (hc S hS).1 ⟨by omega, by omega⟩) gx.2 gy.2 (by rw [u.2.2.1]; exact hu.2.2.1) (by rw [u.2.2.2.1]; exact hu.2.2.2.1) (by omega)
    · have u := rR_u hS
      refine rTu_E (fun hE9 => ?_)
      exact rnj7m (hq S hS).1 (hq S hS).2.2 (hq S hS).2.1 hX hS.1.2.2.2.1.2.2.1 hS.1.2.2.2.1.2.2.2 (by rw [u.2.2.1]; exact hu.2.2.1.2) (by rw [u.2.2.2.1]; exact hu.2.2.2.1.2) hh kx ky h3 (by have z := pv_r (K := (a_K A 1)) (t := 1) hE9 hS.1.1 (by omega) (i := ((a_K A 1).1.length : Int) - 2) ⟨by omega, by omega⟩; rw [show (2100 * (1 : Int) + (((a_K A 1).1.length : Int) - 2)) = 2100 * (1 : Int) + ((a_K A 1).1.length : Int) - 1 - 1 by omega] at z; exact z) (by have z := pv_r (K := (a_K A 1)) (t := 1) hE9 hS.1.1 (by omega) (i := ((a_K A 1).1.length : Int) - 1) ⟨by omega, by omega⟩; rw [show (2100 * (1 : Int) + (((a_K A 1).1.length : Int) - 1)) = 2100 * (1 : Int) + ((a_K A 1).1.length : Int) - 1 by omega] at z; exact z) gx.2 gy.2 (by omega)

end Wkt
