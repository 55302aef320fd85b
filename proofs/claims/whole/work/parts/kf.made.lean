/-! PART kf: a step of a task, on both sides: funs, objects and lists made. -/
section Wkf
variable {Sb : wS} {xs : List (Nat × List Int32)} {d : Nat} {S0 S Z : wS} {p w m : Nat} {HT : Int → Int} {cs : List hCR} {ms : List hMR} {os : Int → List Int} {X : List (List Int)} {mo t n B B2 oq : Int} {fa : Int → Int} {WE : aA → Prop} {A A2 : aA} {K2 : aK} {ml : List Nat} {T2 : List aO} {L2 : List aC} {G2 : Int → aV} {H2 : List aH} {c2 : Int → Int} {mk rk : Nat → Int → Prop} {k : Int} {o : aO} {T : List aO} {L : List aC} {H : List aH} {cf : Int → Int} {c : Int → Int}
theorem H_pos {q : Int} (h : wHs H q) : 0 < H.length := by
  cases H with
  | nil => exact absurd h.1 (by first | decide | omega)
  | cons x l => simp
theorem sh_o {x y z : Int} (h : wSh T H) (hx : x = 4 ∨ x = 5) : wSh (T ++ [((x, 0, y, z, -1, 0, []) : aO)]) H := by
  have p := H_pos h.1
  refine wSh_a h ⟨⟨?_, ?_⟩, fun _ => ⟨?_, ?_⟩, fun q => ?_, Or.inl rfl⟩ rfl (fun _ => ⟨?_, Nat.zero_le _⟩) (fun _ y hy => absurd hy (List.not_mem_nil))
  · show 4 ≤ x
    omega
  · show x ≤ 7
    omega
  · show (0 : Int) ≤ 0
    omega
  · show (0 : Int) < (H.length : Int)
    omega
  · replace q : x = 6 ∨ x = 7 := q
    omega
  · exact (aNs_0 (wHs_z h.1).2.2.2).symm
theorem vG_a {x : Int} (hx : x = 4 ∨ x = 5 ∨ x = 6) (ho : o.1 = x) : vG (T ++ [o]) n (x, (T.length : Int), []) := by
  have z := vG_t (T := T ++ [o]) (n := n) (k := (T.length : Int)) ⟨by omega, by rw [List.length_append]; simp only [List.length_cons, List.length_nil]; omega⟩ (by rw [tO_r, ho]; exact hx)
  rw [tO_r, ho] at z
  exact z
theorem cCw_n (h : cRel S0 p HT cs ms os X mo A S) (hw : isWt w t) (hF : cFm w mk S Z) (z0 : Z 150 0 = S 150 0 + 1) (hd : ∀ (j : Nat) (x : Int), (j = 150 ∧ x ≠ 0) ∨ (j = 72 ∧ x = 11) → ¬ mk j x) : cCw (fUp (a_c A) 0 (a_c A 0 + 1)) Z := by
  obtain ⟨u0, u1, u2, u3, u4, u5⟩ := cR_u h
  have f := fun (j : Nat) (x : Int) (hj : (j = 150 ∧ x ≠ 0) ∨ (j = 72 ∧ x = 11)) => fmG hF hw j x (by omega) (hd j x hj)
  refine cCw_of ?_ ?_ ?_ ?_ ?_ ?_
  · rw [fUp_s, z0, u0]
  · rw [fUp_n (by first | decide | omega)]; exact (f _ _ (by omega)).trans u1
  · rw [fUp_n (by first | decide | omega)]; exact (f _ _ (by omega)).trans u2
  · rw [fUp_n (by first | decide | omega)]; exact (f _ _ (by omega)).trans u3
  · rw [fUp_n (by first | decide | omega)]; exact (f _ _ (by omega)).trans u4
  · rw [fUp_n (by first | decide | omega)]; exact (f _ _ (by omega)).trans u5
theorem rCw_n (h : rRun S0 Sb HT cs ms os X mo t A S) (hF : rTm t rk S Z) (z0 : Z 237 62 = S 237 62 + 1) (hd : ∀ x : Int, x = 63 ∨ x = 64 ∨ x = 65 ∨ x = 66 ∨ x = 81 ∨ x = 82 ∨ x = 94 → ¬ rk 237 x) : rCw (fUp (a_c A) 0 (a_c A 0 + 1)) Z := by
  obtain ⟨u0, u1, u2, u3, u4, u5, u6⟩ := rR_u h
  have f := fun (x : Int) (hx : x = 63 ∨ x = 64 ∨ x = 65 ∨ x = 66 ∨ x = 81 ∨ x = 82 ∨ x = 94) => tmG hF 237 x (by unfold rKp; omega) (hd x hx)
  refine rCw_of ?_ ?_ ?_ ?_ ?_ ?_ ?_
  · rw [fUp_s, z0, u0]
  · rw [fUp_n (by first | decide | omega)]; exact (f _ (by omega)).trans u1
  · rw [fUp_n (by first | decide | omega)]; exact (f _ (by omega)).trans u2
  · rw [fUp_n (by first | decide | omega)]; exact (f _ (by omega)).trans u3
  · rw [fUp_n (by first | decide | omega)]; exact (f _ (by omega)).trans u4
  · rw [fUp_n (by first | decide | omega)]; exact (f _ (by omega)).trans u5
  · rw [f 82 (by omega), f 94 (by omega), f 63 (by omega)]
    exact u6
theorem c5_b (h : cRel S0 p HT cs ms os X mo A S) (hu : a_c A 1 ≤ 60000) : S 140 2 ≤ 240000 := by
  have := cPo_b h.2.2.1.2.2
  have := (cR_u h).2.1
  omega

theorem sq_24 (h : hyS S0 p X fa ms n WE B B2 w t A) (hWw : WEw WE) (hx1 : pe_at (pe_GA xs).xs 1 = some (1, tx_1)) (ho : opI S0 (a_K A t) = 24) (hm : a_c A 0 < 8000) (hl : (a_K A t).1.length < 2000) : stO xs d S0 p HT cs ms os X mo fa n WE B2 w t A := by
  obtain ⟨hp, hw, hx, hA, hE, hB, hr⟩ := h
  have hk := wT_of hA hw
  have hv := wV_of hA hw
  have hab := hab_x hx hk hr
  have hc := fun (S : wS) (hS : cRel S0 p HT cs ms os X mo A S) => hco_c hx hk hr hw ho hS
  have hq := fun {Sb : wS} (S : wS) (hS : rRun S0 Sb HT cs ms os X mo t A S) => hqo_r hx hk hr hw ho hS
  have hh := tyt_h hx hk hr
  rw [ho] at hh
  have hz := opS hx hk hr
  rw [ho] at hz
  have hu := hA.2.2.2.2.1
  have hT8 : ((a_T A).length : Int) ≤ 8000 := by have := hu.1; omega
  have hTu : ((a_T A).length : Int) ≤ a_c A 0 := by have := hu.1; omega
  have ha := hz.2.2.2.2.1 rfl
  have hg := topC hx hk hr
  have hw0 := hw
  rcases hw with ⟨rfl, rfl⟩ | ⟨rfl, rfl⟩
  · refine stO_W (ml := [217, 218, 127, 128, 129, 130, 131, 132, 133, 134, 135, 136, 141, 142]) (mk := cMk) (rk := rMk) (T2 := (a_T A ++ [((5, 0, (opA S0 (a_K A 0)), ((a_K A 0).2.1.getD ((a_K A 0).2.1.length - 1) (0, 0, 0, (0, 0, []), 0, 0, 0)).2.2.1, -1, 0, []) : aO)])) (L2 := a_L A) (G2 := a_G A) (H2 := a_H A) (c2 := (fUp (a_c A) 0 (a_c A 0 + 1))) hp hw0 (by first | decide | omega) hA (wf_W (k := -1) hA hWw hw0 (tyt_P (m := 0) hx hk hr (by rw [ho]; decide) (by rw [ho]; rfl) (by omega) (fun _ => hl)) tKp_n (sh_o hA.2.1 (by omega)) (kv_P (kv_mo hv tKp_n) (vG_a (by omega) rfl)) (ob_n hA.2.2.1.2.1 (fun y hy => absurd hy (List.not_mem_nil))) (fun c hc v hv => vG_mo (hA.2.2.1.2.2.1 c hc v hv) tKp_n) (fun q hq => vG_mo (hA.2.2.1.2.2.2.1 q hq) tKp_n) (fun cf c1 c2 => ⟨cf, wCl_n c1 (fun _ => ⟨⟨ha.1, ha.2.1⟩, Or.inr ⟨(c2 _ (fr_m (hk.2.1 hr).2)).1, (c2 _ (fr_m (hk.2.1 hr).2)).2.1.trans ha.2.2.symm⟩⟩), kc_le (fun f hf => by have z := c2 f hf; exact ⟨z.1, z.2.1, z.2.2.imp id (fun y => ⟨⟨y.1.1, by rw [List.length_append]; have := y.1.2; omega⟩, by rw [tO_l y.1.1 y.1.2]; exact y.2⟩)⟩) fLe_P, Nat.le_refl _, fun _ _ => rfl⟩) (wCt_n hu hB ⟨fUp_s, by rw [fUp_s]; omega, by rw [fUp_n (by first | decide | omega)]; exact Int.le_refl _, by rw [fUp_n (by first | decide | omega)]; exact hu.2.1.2.1, fun i i0 _ => fUp_n i0⟩ ⟨by rw [fUp_n (by first | decide | omega)]; exact hu.2.1.1, rfl, rfl⟩) hA.2.2.2.2.2.1.2.1 (eCh_new hA.2.1) (by rw [fUp_n (by first | decide | omega)]; exact Int.le_refl _)) (fun j x hm => mw_k hm) (fun j x hm => by unfold rMk at hm; unfold rWd9; omega) (fun i i0 _ => fUp_n (by omega)) (fun S hS => ?_) (fun S hS => ?_)
    · have u := cR_u hS
      refine wJ_mono (z24_215 (hc S hS).1 (hc S hS).2 hab hx1 hS.2.2.1.1 ⟨by omega, by omega⟩ (by omega) hT8 (by have := c5_b hS hu.2.1.2.1; omega) hl) (fun o Z z => ⟨z.1, z.2.1, z.2.2.1, z.2.2.2.1, ?_, z.2.2.2.2.2.1 hS.2.2.1.2.2, ?_⟩)
      · exact cSw_nw hS.2.2.1.2.1 hA.2.1 (fun j x hj => fmG z.2.2.1 hw0 j x (by omega) (fun hm => by unfold cMk at hm; omega)) z.2.2.2.2.2.2.1 z.2.2.2.2.2.2.2
      · exact cCw_n hS hw0 z.2.2.1 z.2.2.2.2.1 (fun j x hj hm => by unfold cMk at hm; omega)
    · obtain ⟨sl, hW⟩ := hS.1.2.2.1.1
      have u := rR_u hS
      refine rtu_mo (rn24 (hq S hS).1 (hq S hS).2.2 (hq S hS).2.1 hab hW ⟨by omega, by omega⟩ hl) (fun Z dn z => ⟨z.1, z.2.1, z.2.2.1, ⟨_, z.2.2.2.1⟩, ?_, ?_⟩)
      · exact rR_H (A := A) hS.1 z.2.2.1 (fun j x hj hm => by unfold rMk at hm; omega)
      · exact rCw_n hS z.2.2.1 z.2.2.2.2 (fun x hj hm => by unfold rMk at hm; omega)
  · refine stO_W (ml := [228, 229, 127, 128, 129, 130, 131, 132, 133, 134, 135, 136, 141, 142]) (mk := cMk) (rk := rMk) (T2 := (a_T A ++ [((5, 0, (opA S0 (a_K A 1)), ((a_K A 1).2.1.getD ((a_K A 1).2.1.length - 1) (0, 0, 0, (0, 0, []), 0, 0, 0)).2.2.1, -1, 0, []) : aO)])) (L2 := a_L A) (G2 := a_G A) (H2 := a_H A) (c2 := (fUp (a_c A) 0 (a_c A 0 + 1))) hp hw0 (by first | decide | omega) hA (wf_W (k := -1) hA hWw hw0 (tyt_P (m := 0) hx hk hr (by rw [ho]; decide) (by rw [ho]; rfl) (by omega) (fun _ => hl)) tKp_n (sh_o hA.2.1 (by omega)) (kv_P (kv_mo hv tKp_n) (vG_a (by omega) rfl)) (ob_n hA.2.2.1.2.1 (fun y hy => absurd hy (List.not_mem_nil))) (fun c hc v hv => vG_mo (hA.2.2.1.2.2.1 c hc v hv) tKp_n) (fun q hq => vG_mo (hA.2.2.1.2.2.2.1 q hq) tKp_n) (fun cf c1 c2 => ⟨cf, wCl_n c1 (fun _ => ⟨⟨ha.1, ha.2.1⟩, Or.inr ⟨(c2 _ (fr_m (hk.2.1 hr).2)).1, (c2 _ (fr_m (hk.2.1 hr).2)).2.1.trans ha.2.2.symm⟩⟩), kc_le (fun f hf => by have z := c2 f hf; exact ⟨z.1, z.2.1, z.2.2.imp id (fun y => ⟨⟨y.1.1, by rw [List.length_append]; have := y.1.2; omega⟩, by rw [tO_l y.1.1 y.1.2]; exact y.2⟩)⟩) fLe_P, Nat.le_refl _, fun _ _ => rfl⟩) (wCt_n hu hB ⟨fUp_s, by rw [fUp_s]; omega, by rw [fUp_n (by first | decide | omega)]; exact Int.le_refl _, by rw [fUp_n (by first | decide | omega)]; exact hu.2.1.2.1, fun i i0 _ => fUp_n i0⟩ ⟨by rw [fUp_n (by first | decide | omega)]; exact hu.2.1.1, rfl, rfl⟩) hA.2.2.2.2.2.1.2.1 (eCh_new hA.2.1) (by rw [fUp_n (by first | decide | omega)]; exact Int.le_refl _)) (fun j x hm => mw_k hm) (fun j x hm => by unfold rMk at hm; unfold rWd9; omega) (fun i i0 _ => fUp_n (by omega)) (fun S hS => ?_) (fun S hS => ?_)
    · have u := cR_u hS
      refine wJ_mono (z24_226 (hc S hS).1 (hc S hS).2 hab hx1 hS.2.2.1.1 ⟨by omega, by omega⟩ (by omega) hT8 (by have := c5_b hS hu.2.1.2.1; omega) hl) (fun o Z z => ⟨z.1, z.2.1, z.2.2.1, z.2.2.2.1, ?_, z.2.2.2.2.2.1 hS.2.2.1.2.2, ?_⟩)
      · exact cSw_nw hS.2.2.1.2.1 hA.2.1 (fun j x hj => fmG z.2.2.1 hw0 j x (by omega) (fun hm => by unfold cMk at hm; omega)) z.2.2.2.2.2.2.1 z.2.2.2.2.2.2.2
      · exact cCw_n hS hw0 z.2.2.1 z.2.2.2.2.1 (fun j x hj hm => by unfold cMk at hm; omega)
    · obtain ⟨sl, hW⟩ := hS.1.2.2.1.1
      have u := rR_u hS
      refine rtu_mo (rn24 (hq S hS).1 (hq S hS).2.2 (hq S hS).2.1 hab hW ⟨by omega, by omega⟩ hl) (fun Z dn z => ⟨z.1, z.2.1, z.2.2.1, ⟨_, z.2.2.2.1⟩, ?_, ?_⟩)
      · exact rR_H (A := A) hS.1 z.2.2.1 (fun j x hj hm => by unfold rMk at hm; omega)
      · exact rCw_n hS z.2.2.1 z.2.2.2.2 (fun x hj hm => by unfold rMk at hm; omega)

theorem sq_24m (h : hyS S0 p X fa ms n WE B B2 w t A) (hWw : WEw WE) (hx1 : pe_at (pe_GA xs).xs 1 = some (1, tx_1)) (ho : opI S0 (a_K A t) = 24) (hm : a_c A 0 = 8000) (hl : (a_K A t).1.length < 2000) : stO xs d S0 p HT cs ms os X mo fa n WE B2 w t A := by
  obtain ⟨hp, hw, hx, hA, hE, hB, hr⟩ := h
  have hk := wT_of hA hw
  have hv := wV_of hA hw
  have hab := hab_x hx hk hr
  have hc := fun (S : wS) (hS : cRel S0 p HT cs ms os X mo A S) => hco_c hx hk hr hw ho hS
  have hq := fun {Sb : wS} (S : wS) (hS : rRun S0 Sb HT cs ms os X mo t A S) => hqo_r hx hk hr hw ho hS
  have hh := tyt_h hx hk hr
  rw [ho] at hh
  have hz := opS hx hk hr
  rw [ho] at hz
  have hu := hA.2.2.2.2.1
  have hT8 : ((a_T A).length : Int) ≤ 8000 := by have := hu.1; omega
  have hTu : ((a_T A).length : Int) ≤ a_c A 0 := by have := hu.1; omega
  have hw0 := hw
  rcases hw with ⟨rfl, rfl⟩ | ⟨rfl, rfl⟩
  · refine stO_S (ml := [217, 218, 127, 128, 129, 130, 131, 132, 133, 134, 135, 136, 141, 142]) hp hw0 (by first | decide | omega) hA hE hB (fun S hS => ?_) (fun S hS => ?_)
    · have u := cR_u hS
      exact z24m_215 (hc S hS).1 (hc S hS).2 hab hx1 hS.2.2.1.1 ⟨by omega, by omega⟩ (by omega) hT8 hl
    · obtain ⟨sl, hW⟩ := hS.1.2.2.1.1
      have u := rR_u hS
      exact rn24m (hq S hS).1 (hq S hS).2.2 (hq S hS).2.1 hab hW ⟨by omega, by omega⟩ hl
  · refine stO_S (ml := [228, 229, 127, 128, 129, 130, 131, 132, 133, 134, 135, 136, 141, 142]) hp hw0 (by first | decide | omega) hA hE hB (fun S hS => ?_) (fun S hS => ?_)
    · have u := cR_u hS
      exact z24m_226 (hc S hS).1 (hc S hS).2 hab hx1 hS.2.2.1.1 ⟨by omega, by omega⟩ (by omega) hT8 hl
    · obtain ⟨sl, hW⟩ := hS.1.2.2.1.1
      have u := rR_u hS
      exact rn24m (hq S hS).1 (hq S hS).2.2 (hq S hS).2.1 hab hW ⟨by omega, by omega⟩ hl

theorem sq_24v (h : hyS S0 p X fa ms n WE B B2 w t A) (ho : opI S0 (a_K A t) = 24) (hl : 2000 ≤ (a_K A t).1.length) : stO xs d S0 p HT cs ms os X mo fa n WE B2 w t A := by
  obtain ⟨hp, hw, hx, hA, hE, hB, hr⟩ := h
  have hk := wT_of hA hw
  have hv := wV_of hA hw
  have hab := hab_x hx hk hr
  have hc := fun (S : wS) (hS : cRel S0 p HT cs ms os X mo A S) => hco_c hx hk hr hw ho hS
  have hq := fun {Sb : wS} (S : wS) (hS : rRun S0 Sb HT cs ms os X mo t A S) => hqo_r hx hk hr hw ho hS
  have hh := tyt_h hx hk hr
  rw [ho] at hh
  have hz := opS hx hk hr
  rw [ho] at hz
  have hu := hA.2.2.2.2.1
  have hT8 : ((a_T A).length : Int) ≤ 8000 := by have := hu.1; omega
  have hTu : ((a_T A).length : Int) ≤ a_c A 0 := by have := hu.1; omega
  have h8 := hu.1.2
  have hw0 := hw
  rcases hw with ⟨rfl, rfl⟩ | ⟨rfl, rfl⟩
  · refine stO_K (ml := [217, 218]) hp hw0 (by first | decide | omega) hA hE hB (fun S hS => zov_215 (hc S hS).1 (hc S hS).2 (by omega) hl) (fun S hS => ?_) (tyt_T hk hr) (fun v => kv_T v hr vG_n) fLe_th
    obtain ⟨sl, hW⟩ := hS.1.2.2.1.1
    have u := rR_u hS
    exact rn24v (hq S hS).1 (hq S hS).2.2 (hq S hS).2.1 hab hW ⟨by omega, by omega⟩ hl
  · refine stO_K (ml := [228, 229]) hp hw0 (by first | decide | omega) hA hE hB (fun S hS => zov_226 (hc S hS).1 (hc S hS).2 (by omega) hl) (fun S hS => ?_) (tyt_T hk hr) (fun v => kv_T v hr vG_n) fLe_th
    obtain ⟨sl, hW⟩ := hS.1.2.2.1.1
    have u := rR_u hS
    exact rn24v (hq S hS).1 (hq S hS).2.2 (hq S hS).2.1 hab hW ⟨by omega, by omega⟩ hl

theorem sq_26 (h : hyS S0 p X fa ms n WE B B2 w t A) (hWw : WEw WE) (hx1 : pe_at (pe_GA xs).xs 1 = some (1, tx_1)) (ho : opI S0 (a_K A t) = 26) (hm : a_c A 0 < 8000) (hl : (a_K A t).1.length < 2000) : stO xs d S0 p HT cs ms os X mo fa n WE B2 w t A := by
  obtain ⟨hp, hw, hx, hA, hE, hB, hr⟩ := h
  have hk := wT_of hA hw
  have hv := wV_of hA hw
  have hab := hab_x hx hk hr
  have hc := fun (S : wS) (hS : cRel S0 p HT cs ms os X mo A S) => hco_c hx hk hr hw ho hS
  have hq := fun {Sb : wS} (S : wS) (hS : rRun S0 Sb HT cs ms os X mo t A S) => hqo_r hx hk hr hw ho hS
  have hh := tyt_h hx hk hr
  rw [ho] at hh
  have hz := opS hx hk hr
  rw [ho] at hz
  have hu := hA.2.2.2.2.1
  have hT8 : ((a_T A).length : Int) ≤ 8000 := by have := hu.1; omega
  have hTu : ((a_T A).length : Int) ≤ a_c A 0 := by have := hu.1; omega
  have hw0 := hw
  rcases hw with ⟨rfl, rfl⟩ | ⟨rfl, rfl⟩
  · refine stO_W (ml := [217, 218, 127, 128, 129, 130, 131, 132, 133, 134, 135, 136, 141, 142]) (mk := cMk) (rk := rMk) (T2 := (a_T A ++ [((4, 0, (-1), (-1), -1, 0, []) : aO)])) (L2 := a_L A) (G2 := a_G A) (H2 := a_H A) (c2 := (fUp (a_c A) 0 (a_c A 0 + 1))) hp hw0 (by first | decide | omega) hA (wf_W (k := -1) hA hWw hw0 (tyt_P (m := 0) hx hk hr (by rw [ho]; decide) (by rw [ho]; rfl) (by omega) (fun _ => hl)) tKp_n (sh_o hA.2.1 (by omega)) (kv_P (kv_mo hv tKp_n) (vG_a (by omega) rfl)) (ob_n hA.2.2.1.2.1 (fun y hy => absurd hy (List.not_mem_nil))) (fun c hc v hv => vG_mo (hA.2.2.1.2.2.1 c hc v hv) tKp_n) (fun q hq => vG_mo (hA.2.2.1.2.2.2.1 q hq) tKp_n) (fun cf c1 c2 => ⟨cf, wCl_n c1 (fun q => absurd q (by show ¬ ((4 : Int) = 5); decide)), kc_le (fun f hf => by have z := c2 f hf; exact ⟨z.1, z.2.1, z.2.2.imp id (fun y => ⟨⟨y.1.1, by rw [List.length_append]; have := y.1.2; omega⟩, by rw [tO_l y.1.1 y.1.2]; exact y.2⟩)⟩) fLe_P, Nat.le_refl _, fun _ _ => rfl⟩) (wCt_n hu hB ⟨fUp_s, by rw [fUp_s]; omega, by rw [fUp_n (by first | decide | omega)]; exact Int.le_refl _, by rw [fUp_n (by first | decide | omega)]; exact hu.2.1.2.1, fun i i0 _ => fUp_n i0⟩ ⟨by rw [fUp_n (by first | decide | omega)]; exact hu.2.1.1, rfl, rfl⟩) hA.2.2.2.2.2.1.2.1 (eCh_new hA.2.1) (by rw [fUp_n (by first | decide | omega)]; exact Int.le_refl _)) (fun j x hm => mw_k hm) (fun j x hm => by unfold rMk at hm; unfold rWd9; omega) (fun i i0 _ => fUp_n (by omega)) (fun S hS => ?_) (fun S hS => ?_)
    · have u := cR_u hS
      refine wJ_mono (z26_215 (hc S hS).1 (hc S hS).2 hab hx1 hS.2.2.1.1 ⟨by omega, by omega⟩ (by omega) hT8 (by have := c5_b hS hu.2.1.2.1; omega) hl) (fun o Z z => ⟨z.1, z.2.1, z.2.2.1, z.2.2.2.1, ?_, z.2.2.2.2.2.1 hS.2.2.1.2.2, ?_⟩)
      · exact cSw_nw hS.2.2.1.2.1 hA.2.1 (fun j x hj => fmG z.2.2.1 hw0 j x (by omega) (fun hm => by unfold cMk at hm; omega)) z.2.2.2.2.2.2.1 z.2.2.2.2.2.2.2
      · exact cCw_n hS hw0 z.2.2.1 z.2.2.2.2.1 (fun j x hj hm => by unfold cMk at hm; omega)
    · obtain ⟨sl, hW⟩ := hS.1.2.2.1.1
      have u := rR_u hS
      refine rtu_mo (rn26 (hq S hS).1 (hq S hS).2.2 (hq S hS).2.1 hab hW ⟨by omega, by omega⟩ hl) (fun Z dn z => ⟨z.1, z.2.1, z.2.2.1, ⟨_, z.2.2.2.1⟩, ?_, ?_⟩)
      · exact rR_H (A := A) hS.1 z.2.2.1 (fun j x hj hm => by unfold rMk at hm; omega)
      · exact rCw_n hS z.2.2.1 z.2.2.2.2 (fun x hj hm => by unfold rMk at hm; omega)
  · refine stO_W (ml := [228, 229, 127, 128, 129, 130, 131, 132, 133, 134, 135, 136, 141, 142]) (mk := cMk) (rk := rMk) (T2 := (a_T A ++ [((4, 0, (-1), (-1), -1, 0, []) : aO)])) (L2 := a_L A) (G2 := a_G A) (H2 := a_H A) (c2 := (fUp (a_c A) 0 (a_c A 0 + 1))) hp hw0 (by first | decide | omega) hA (wf_W (k := -1) hA hWw hw0 (tyt_P (m := 0) hx hk hr (by rw [ho]; decide) (by rw [ho]; rfl) (by omega) (fun _ => hl)) tKp_n (sh_o hA.2.1 (by omega)) (kv_P (kv_mo hv tKp_n) (vG_a (by omega) rfl)) (ob_n hA.2.2.1.2.1 (fun y hy => absurd hy (List.not_mem_nil))) (fun c hc v hv => vG_mo (hA.2.2.1.2.2.1 c hc v hv) tKp_n) (fun q hq => vG_mo (hA.2.2.1.2.2.2.1 q hq) tKp_n) (fun cf c1 c2 => ⟨cf, wCl_n c1 (fun q => absurd q (by show ¬ ((4 : Int) = 5); decide)), kc_le (fun f hf => by have z := c2 f hf; exact ⟨z.1, z.2.1, z.2.2.imp id (fun y => ⟨⟨y.1.1, by rw [List.length_append]; have := y.1.2; omega⟩, by rw [tO_l y.1.1 y.1.2]; exact y.2⟩)⟩) fLe_P, Nat.le_refl _, fun _ _ => rfl⟩) (wCt_n hu hB ⟨fUp_s, by rw [fUp_s]; omega, by rw [fUp_n (by first | decide | omega)]; exact Int.le_refl _, by rw [fUp_n (by first | decide | omega)]; exact hu.2.1.2.1, fun i i0 _ => fUp_n i0⟩ ⟨by rw [fUp_n (by first | decide | omega)]; exact hu.2.1.1, rfl, rfl⟩) hA.2.2.2.2.2.1.2.1 (eCh_new hA.2.1) (by rw [fUp_n (by first | decide | omega)]; exact Int.le_refl _)) (fun j x hm => mw_k hm) (fun j x hm => by unfold rMk at hm; unfold rWd9; omega) (fun i i0 _ => fUp_n (by omega)) (fun S hS => ?_) (fun S hS => ?_)
    · have u := cR_u hS
      refine wJ_mono (z26_226 (hc S hS).1 (hc S hS).2 hab hx1 hS.2.2.1.1 ⟨by omega, by omega⟩ (by omega) hT8 (by have := c5_b hS hu.2.1.2.1; omega) hl) (fun o Z z => ⟨z.1, z.2.1, z.2.2.1, z.2.2.2.1, ?_, z.2.2.2.2.2.1 hS.2.2.1.2.2, ?_⟩)
      · exact cSw_nw hS.2.2.1.2.1 hA.2.1 (fun j x hj => fmG z.2.2.1 hw0 j x (by omega) (fun hm => by unfold cMk at hm; omega)) z.2.2.2.2.2.2.1 z.2.2.2.2.2.2.2
      · exact cCw_n hS hw0 z.2.2.1 z.2.2.2.2.1 (fun j x hj hm => by unfold cMk at hm; omega)
    · obtain ⟨sl, hW⟩ := hS.1.2.2.1.1
      have u := rR_u hS
      refine rtu_mo (rn26 (hq S hS).1 (hq S hS).2.2 (hq S hS).2.1 hab hW ⟨by omega, by omega⟩ hl) (fun Z dn z => ⟨z.1, z.2.1, z.2.2.1, ⟨_, z.2.2.2.1⟩, ?_, ?_⟩)
      · exact rR_H (A := A) hS.1 z.2.2.1 (fun j x hj hm => by unfold rMk at hm; omega)
      · exact rCw_n hS z.2.2.1 z.2.2.2.2 (fun x hj hm => by unfold rMk at hm; omega)

theorem sq_26m (h : hyS S0 p X fa ms n WE B B2 w t A) (hWw : WEw WE) (hx1 : pe_at (pe_GA xs).xs 1 = some (1, tx_1)) (ho : opI S0 (a_K A t) = 26) (hm : a_c A 0 = 8000) (hl : (a_K A t).1.length < 2000) : stO xs d S0 p HT cs ms os X mo fa n WE B2 w t A := by
  obtain ⟨hp, hw, hx, hA, hE, hB, hr⟩ := h
  have hk := wT_of hA hw
  have hv := wV_of hA hw
  have hab := hab_x hx hk hr
  have hc := fun (S : wS) (hS : cRel S0 p HT cs ms os X mo A S) => hco_c hx hk hr hw ho hS
  have hq := fun {Sb : wS} (S : wS) (hS : rRun S0 Sb HT cs ms os X mo t A S) => hqo_r hx hk hr hw ho hS
  have hh := tyt_h hx hk hr
  rw [ho] at hh
  have hz := opS hx hk hr
  rw [ho] at hz
  have hu := hA.2.2.2.2.1
  have hT8 : ((a_T A).length : Int) ≤ 8000 := by have := hu.1; omega
  have hTu : ((a_T A).length : Int) ≤ a_c A 0 := by have := hu.1; omega
  have hw0 := hw
  rcases hw with ⟨rfl, rfl⟩ | ⟨rfl, rfl⟩
  · refine stO_S (ml := [217, 218, 127, 128, 129, 130, 131, 132, 133, 134, 135, 136, 141, 142]) hp hw0 (by first | decide | omega) hA hE hB (fun S hS => ?_) (fun S hS => ?_)
    · have u := cR_u hS
      exact z26m_215 (hc S hS).1 (hc S hS).2 hab hx1 hS.2.2.1.1 ⟨by omega, by omega⟩ (by omega) hT8 hl
    · obtain ⟨sl, hW⟩ := hS.1.2.2.1.1
      have u := rR_u hS
      exact rn26m (hq S hS).1 (hq S hS).2.2 (hq S hS).2.1 hab hW ⟨by omega, by omega⟩ hl
  · refine stO_S (ml := [228, 229, 127, 128, 129, 130, 131, 132, 133, 134, 135, 136, 141, 142]) hp hw0 (by first | decide | omega) hA hE hB (fun S hS => ?_) (fun S hS => ?_)
    · have u := cR_u hS
      exact z26m_226 (hc S hS).1 (hc S hS).2 hab hx1 hS.2.2.1.1 ⟨by omega, by omega⟩ (by omega) hT8 hl
    · obtain ⟨sl, hW⟩ := hS.1.2.2.1.1
      have u := rR_u hS
      exact rn26m (hq S hS).1 (hq S hS).2.2 (hq S hS).2.1 hab hW ⟨by omega, by omega⟩ hl

theorem sq_26v (h : hyS S0 p X fa ms n WE B B2 w t A) (ho : opI S0 (a_K A t) = 26) (hl : 2000 ≤ (a_K A t).1.length) : stO xs d S0 p HT cs ms os X mo fa n WE B2 w t A := by
  obtain ⟨hp, hw, hx, hA, hE, hB, hr⟩ := h
  have hk := wT_of hA hw
  have hv := wV_of hA hw
  have hab := hab_x hx hk hr
  have hc := fun (S : wS) (hS : cRel S0 p HT cs ms os X mo A S) => hco_c hx hk hr hw ho hS
  have hq := fun {Sb : wS} (S : wS) (hS : rRun S0 Sb HT cs ms os X mo t A S) => hqo_r hx hk hr hw ho hS
  have hh := tyt_h hx hk hr
  rw [ho] at hh
  have hz := opS hx hk hr
  rw [ho] at hz
  have hu := hA.2.2.2.2.1
  have hT8 : ((a_T A).length : Int) ≤ 8000 := by have := hu.1; omega
  have hTu : ((a_T A).length : Int) ≤ a_c A 0 := by have := hu.1; omega
  have h8 := hu.1.2
  have hw0 := hw
  rcases hw with ⟨rfl, rfl⟩ | ⟨rfl, rfl⟩
  · refine stO_K (ml := [217, 218]) hp hw0 (by first | decide | omega) hA hE hB (fun S hS => zov_215 (hc S hS).1 (hc S hS).2 (by omega) hl) (fun S hS => ?_) (tyt_T hk hr) (fun v => kv_T v hr vG_n) fLe_th
    obtain ⟨sl, hW⟩ := hS.1.2.2.1.1
    have u := rR_u hS
    exact rn26v (hq S hS).1 (hq S hS).2.2 (hq S hS).2.1 hab hW ⟨by omega, by omega⟩ hl
  · refine stO_K (ml := [228, 229]) hp hw0 (by first | decide | omega) hA hE hB (fun S hS => zov_226 (hc S hS).1 (hc S hS).2 (by omega) hl) (fun S hS => ?_) (tyt_T hk hr) (fun v => kv_T v hr vG_n) fLe_th
    obtain ⟨sl, hW⟩ := hS.1.2.2.1.1
    have u := rR_u hS
    exact rn26v (hq S hS).1 (hq S hS).2.2 (hq S hS).2.1 hab hW ⟨by omega, by omega⟩ hl

theorem sq_25 (h : hyS S0 p X fa ms n WE B B2 w t A) (hWw : WEw WE) (hx1 : pe_at (pe_GA xs).xs 1 = some (1, tx_1)) (ho : opI S0 (a_K A t) = 25) (hm : a_c A 0 < 8000 ∧ a_c A 1 + (opA S0 (a_K A t)) ≤ 60000) (hl : (opA S0 (a_K A t)) = 0 → (a_K A t).1.length < 2000) : stO xs d S0 p HT cs ms os X mo fa n WE B2 w t A := by
  obtain ⟨hp, hw, hx, hA, hE, hB, hr⟩ := h
  have hk := wT_of hA hw
  have hv := wV_of hA hw
  have hab := hab_x hx hk hr
  have hc := fun (S : wS) (hS : cRel S0 p HT cs ms os X mo A S) => hco_c hx hk hr hw ho hS
  have hq := fun {Sb : wS} (S : wS) (hS : rRun S0 Sb HT cs ms os X mo t A S) => hqo_r hx hk hr hw ho hS
  have hh := tyt_h hx hk hr
  rw [ho] at hh
  have hz := opS hx hk hr
  rw [ho] at hz
  have hu := hA.2.2.2.2.1
  have hT8 : ((a_T A).length : Int) ≤ 8000 := by have := hu.1; omega
  have hTu : ((a_T A).length : Int) ≤ a_c A 0 := by have := hu.1; omega
  have ha : 0 ≤ (opA S0 (a_K A t)) ∧ (opA S0 (a_K A t)) ≤ ((a_K A t).1.length : Int) := ⟨hz.2.2.2.2.2.1 rfl, hh⟩
  have hl1 := hk.1.1
  have lm : ((((a_K A t).1.drop ((a_K A t).1.length - (opA S0 (a_K A t)).toNat)).map (fun u => ((-1 : Int), u))).length : Int) = (opA S0 (a_K A t)) := by
    rw [List.length_map, List.length_drop]
    omega
  have hw0 := hw
  rcases hw with ⟨rfl, rfl⟩ | ⟨rfl, rfl⟩
  · refine stO_W (ml := [217, 218, 127, 128, 129, 130, 131, 132, 133, 134, 135, 136, 141, 142]) (mk := cMl) (rk := rMl) (T2 := (a_T A ++ [((6, -1, -1, -1, -1, 0, ((a_K A 0).1.drop ((a_K A 0).1.length - (opA S0 (a_K A 0)).toNat)).map (fun u => ((-1 : Int), u))) : aO)])) (L2 := a_L A) (G2 := a_G A) (H2 := a_H A) (c2 := (fUp (fUp (a_c A) 0 (a_c A 0 + 1)) 1 (a_c A 1 + (opA S0 (a_K A 0))))) hp hw0 (by first | decide | omega) hA (wf_W (k := -1) hA hWw hw0 (tyt_P (m := (opA S0 (a_K A 0)).toNat) hx hk hr (by rw [ho]; decide) (by rw [ho]; show 1 - (opA S0 (a_K A 0)) = 1 - (((opA S0 (a_K A 0)).toNat : Nat) : Int); omega) (by omega) (fun z => hl (by omega))) tKp_n (wSh_a hA.2.1 ⟨⟨by show (4 : Int) ≤ 6; decide, by show (6 : Int) ≤ 7; decide⟩, fun q => absurd q (by show ¬ ((6 : Int) = 4 ∨ (6 : Int) = 5); decide), fun _ => rfl, Or.inl rfl⟩ rfl (fun q => absurd q (by show ¬ ((6 : Int) = 4 ∨ (6 : Int) = 5); decide)) (fun _ y hy => by obtain ⟨u, -, u2⟩ := List.mem_map.mp hy; rw [← u2])) (kv_P (kv_mo hv tKp_n) (vG_a (by omega) rfl)) (ob_n hA.2.2.1.2.1 (fun y hy => by obtain ⟨u, u1, u2⟩ := List.mem_map.mp hy; rw [← u2]; exact vG_mo (hv.1 u (List.mem_of_mem_drop u1)) tKp_n)) (fun c hc v hv => vG_mo (hA.2.2.1.2.2.1 c hc v hv) tKp_n) (fun q hq => vG_mo (hA.2.2.1.2.2.2.1 q hq) tKp_n) (fun cf c1 c2 => ⟨cf, wCl_n c1 (fun q => absurd q (by show ¬ ((6 : Int) = 5); decide)), kc_le (fun f hf => by have z := c2 f hf; exact ⟨z.1, z.2.1, z.2.2.imp id (fun y => ⟨⟨y.1.1, by rw [List.length_append]; have := y.1.2; omega⟩, by rw [tO_l y.1.1 y.1.2]; exact y.2⟩)⟩) fLe_P, Nat.le_refl _, fun _ _ => rfl⟩) (wCt_n hu hB ⟨by rw [fUp_n (by first | decide | omega), fUp_s], by rw [fUp_n (by first | decide | omega), fUp_s]; omega, by rw [fUp_s]; omega, by rw [fUp_s]; omega, fun i i0 i1 => by rw [fUp_n i1, fUp_n i0]⟩ ⟨by rw [fUp_s]; show ((((a_K A 0).1.drop ((a_K A 0).1.length - (opA S0 (a_K A 0)).toNat)).map (fun u => ((-1 : Int), u))).length : Int) ≤ _; rw [lm]; have := hu.2.1.1; omega, rfl, rfl⟩) hA.2.2.2.2.2.1.2.1 (eCh_new hA.2.1) (by rw [fUp_n (by first | decide | omega), fUp_n (by first | decide | omega)]; exact Int.le_refl _)) (fun j x hm => mw_l hm) (fun j x hm => by unfold rMl at hm; unfold rWd9; omega) (fun i i0 _ => by rw [fUp_n (by omega), fUp_n (by omega)]) (fun S hS => ?_) (fun S hS => ?_)
    · have u := cR_u hS
      refine wJ_mono (z25_215 (hc S hS).1 (hc S hS).2 hab hx1 hS.2.2.1.1 ⟨by omega, by omega⟩ ⟨by have := hu.2.1.1; omega, by omega⟩ hT8 (cPo_b hS.2.2.1.2.2) ha hl ⟨by omega, by omega⟩) (fun o Z z => ⟨z.1, z.2.1, z.2.2.1, z.2.2.2.1, ?_, z.2.2.2.2.2.1 hS.2.2.1.2.2, ?_⟩)
      · exact cSw_nw hS.2.2.1.2.1 hA.2.1 (fun j x hj => fmG z.2.2.1 hw0 j x (by omega) (fun hm => by unfold cMl cMk at hm; omega)) z.2.2.2.2.2.2.1 z.2.2.2.2.2.2.2
      · have f := fun (j : Nat) (x : Int) (hj : (j = 150 ∧ x ≠ 0 ∧ x ≠ 1) ∨ (j = 72 ∧ x = 11)) => fmG z.2.2.1 hw0 j x (by omega) (fun hm => by unfold cMl cMk at hm; omega)
        refine cCw_of ?_ ?_ ?_ ?_ ?_ ?_
        · rw [fUp_n (by first | decide | omega), fUp_s, z.2.2.2.2.1.1, u.1]
        · rw [fUp_s, z.2.2.2.2.1.2, u.2.1]
        · rw [fUp_n (by first | decide | omega), fUp_n (by first | decide | omega)]; exact (f _ _ (by omega)).trans u.2.2.1
        · rw [fUp_n (by first | decide | omega), fUp_n (by first | decide | omega)]; exact (f _ _ (by omega)).trans u.2.2.2.1
        · rw [fUp_n (by first | decide | omega), fUp_n (by first | decide | omega)]; exact (f _ _ (by omega)).trans u.2.2.2.2.1
        · rw [fUp_n (by first | decide | omega), fUp_n (by first | decide | omega)]; exact (f _ _ (by omega)).trans u.2.2.2.2.2
    · obtain ⟨sl, hW⟩ := hS.1.2.2.1.1
      have u := rR_u hS
      refine rtu_mo (rn25 (hq S hS).1 (hq S hS).2.2 (hq S hS).2.1 hab hW ⟨by omega, by omega⟩ ⟨by omega, by omega, by have := hu.2.1.2.1; omega⟩ ha (by omega) ⟨by omega, by omega⟩) (fun Z dn z => ⟨z.1, z.2.1, z.2.2.1, z.2.2.2.1, ?_, ?_⟩)
      · exact rR_H (A := A) hS.1 z.2.2.1 (fun j x hj hm => by unfold rMl at hm; omega)
      · have f := fun (x : Int) (hx : x = 64 ∨ x = 65 ∨ x = 66 ∨ x = 81 ∨ x = 94) => tmG z.2.2.1 237 x (by unfold rKp; omega) (fun hm => by unfold rMl at hm; omega)
        refine rCw_of ?_ ?_ ?_ ?_ ?_ ?_ ?_
        · rw [fUp_n (by first | decide | omega), fUp_s, z.2.2.2.2.1, u.1]
        · rw [fUp_s, z.2.2.2.2.2.1, u.2.1]
        · rw [fUp_n (by first | decide | omega), fUp_n (by first | decide | omega)]; exact (f _ (by omega)).trans u.2.2.1
        · rw [fUp_n (by first | decide | omega), fUp_n (by first | decide | omega)]; exact (f _ (by omega)).trans u.2.2.2.1
        · rw [fUp_n (by first | decide | omega), fUp_n (by first | decide | omega)]; exact (f _ (by omega)).trans u.2.2.2.2.1
        · rw [fUp_n (by first | decide | omega), fUp_n (by first | decide | omega)]; exact (f _ (by omega)).trans u.2.2.2.2.2.1
        · have z63 := z.2.2.2.2.2.1
          have z82 := z.2.2.2.2.2.2
          have z94 := f 94 (by omega)
          omega
  · refine stO_W (ml := [228, 229, 127, 128, 129, 130, 131, 132, 133, 134, 135, 136, 141, 142]) (mk := cMl) (rk := rMl) (T2 := (a_T A ++ [((6, -1, -1, -1, -1, 0, ((a_K A 1).1.drop ((a_K A 1).1.length - (opA S0 (a_K A 1)).toNat)).map (fun u => ((-1 : Int), u))) : aO)])) (L2 := a_L A) (G2 := a_G A) (H2 := a_H A) (c2 := (fUp (fUp (a_c A) 0 (a_c A 0 + 1)) 1 (a_c A 1 + (opA S0 (a_K A 1))))) hp hw0 (by first | decide | omega) hA (wf_W (k := -1) hA hWw hw0 (tyt_P (m := (opA S0 (a_K A 1)).toNat) hx hk hr (by rw [ho]; decide) (by rw [ho]; show 1 - (opA S0 (a_K A 1)) = 1 - (((opA S0 (a_K A 1)).toNat : Nat) : Int); omega) (by omega) (fun z => hl (by omega))) tKp_n (wSh_a hA.2.1 ⟨⟨by show (4 : Int) ≤ 6; decide, by show (6 : Int) ≤ 7; decide⟩, fun q => absurd q (by show ¬ ((6 : Int) = 4 ∨ (6 : Int) = 5); decide), fun _ => rfl, Or.inl rfl⟩ rfl (fun q => absurd q (by show ¬ ((6 : Int) = 4 ∨ (6 : Int) = 5); decide)) (fun _ y hy => by obtain ⟨u, -, u2⟩ := List.mem_map.mp hy; rw [← u2])) (kv_P (kv_mo hv tKp_n) (vG_a (by omega) rfl)) (ob_n hA.2.2.1.2.1 (fun y hy => by obtain ⟨u, u1, u2⟩ := List.mem_map.mp hy; rw [← u2]; exact vG_mo (hv.1 u (List.mem_of_mem_drop u1)) tKp_n)) (fun c hc v hv => vG_mo (hA.2.2.1.2.2.1 c hc v hv) tKp_n) (fun q hq => vG_mo (hA.2.2.1.2.2.2.1 q hq) tKp_n) (fun cf c1 c2 => ⟨cf, wCl_n c1 (fun q => absurd q (by show ¬ ((6 : Int) = 5); decide)), kc_le (fun f hf => by have z := c2 f hf; exact ⟨z.1, z.2.1, z.2.2.imp id (fun y => ⟨⟨y.1.1, by rw [List.length_append]; have := y.1.2; omega⟩, by rw [tO_l y.1.1 y.1.2]; exact y.2⟩)⟩) fLe_P, Nat.le_refl _, fun _ _ => rfl⟩) (wCt_n hu hB ⟨by rw [fUp_n (by first | decide | omega), fUp_s], by rw [fUp_n (by first | decide | omega), fUp_s]; omega, by rw [fUp_s]; omega, by rw [fUp_s]; omega, fun i i0 i1 => by rw [fUp_n i1, fUp_n i0]⟩ ⟨by rw [fUp_s]; show ((((a_K A 1).1.drop ((a_K A 1).1.length - (opA S0 (a_K A 1)).toNat)).map (fun u => ((-1 : Int), u))).length : Int) ≤ _; rw [lm]; have := hu.2.1.1; omega, rfl, rfl⟩) hA.2.2.2.2.2.1.2.1 (eCh_new hA.2.1) (by rw [fUp_n (by first | decide | omega), fUp_n (by first | decide | omega)]; exact Int.le_refl _)) (fun j x hm => mw_l hm) (fun j x hm => by unfold rMl at hm; unfold rWd9; omega) (fun i i0 _ => by rw [fUp_n (by omega), fUp_n (by omega)]) (fun S hS => ?_) (fun S hS => ?_)
    · have u := cR_u hS
      refine wJ_mono (z25_226 (hc S hS).1 (hc S hS).2 hab hx1 hS.2.2.1.1 ⟨by omega, by omega⟩ ⟨by have := hu.2.1.1; omega, by omega⟩ hT8 (cPo_b hS.2.2.1.2.2) ha hl ⟨by omega, by omega⟩) (fun o Z z => ⟨z.1, z.2.1, z.2.2.1, z.2.2.2.1, ?_, z.2.2.2.2.2.1 hS.2.2.1.2.2, ?_⟩)
      · exact cSw_nw hS.2.2.1.2.1 hA.2.1 (fun j x hj => fmG z.2.2.1 hw0 j x (by omega) (fun hm => by unfold cMl cMk at hm; omega)) z.2.2.2.2.2.2.1 z.2.2.2.2.2.2.2
      · have f := fun (j : Nat) (x : Int) (hj : (j = 150 ∧ x ≠ 0 ∧ x ≠ 1) ∨ (j = 72 ∧ x = 11)) => fmG z.2.2.1 hw0 j x (by omega) (fun hm => by unfold cMl cMk at hm; omega)
        refine cCw_of ?_ ?_ ?_ ?_ ?_ ?_
        · rw [fUp_n (by first | decide | omega), fUp_s, z.2.2.2.2.1.1, u.1]
        · rw [fUp_s, z.2.2.2.2.1.2, u.2.1]
        · rw [fUp_n (by first | decide | omega), fUp_n (by first | decide | omega)]; exact (f _ _ (by omega)).trans u.2.2.1
        · rw [fUp_n (by first | decide | omega), fUp_n (by first | decide | omega)]; exact (f _ _ (by omega)).trans u.2.2.2.1
        · rw [fUp_n (by first | decide | omega), fUp_n (by first | decide | omega)]; exact (f _ _ (by omega)).trans u.2.2.2.2.1
        · rw [fUp_n (by first | decide | omega), fUp_n (by first | decide | omega)]; exact (f _ _ (by omega)).trans u.2.2.2.2.2
    · obtain ⟨sl, hW⟩ := hS.1.2.2.1.1
      have u := rR_u hS
      refine rtu_mo (rn25 (hq S hS).1 (hq S hS).2.2 (hq S hS).2.1 hab hW ⟨by omega, by omega⟩ ⟨by omega, by omega, by have := hu.2.1.2.1; omega⟩ ha (by omega) ⟨by omega, by omega⟩) (fun Z dn z => ⟨z.1, z.2.1, z.2.2.1, z.2.2.2.1, ?_, ?_⟩)
      · exact rR_H (A := A) hS.1 z.2.2.1 (fun j x hj hm => by unfold rMl at hm; omega)
      · have f := fun (x : Int) (hx : x = 64 ∨ x = 65 ∨ x = 66 ∨ x = 81 ∨ x = 94) => tmG z.2.2.1 237 x (by unfold rKp; omega) (fun hm => by unfold rMl at hm; omega)
        refine rCw_of ?_ ?_ ?_ ?_ ?_ ?_ ?_
        · rw [fUp_n (by first | decide | omega), fUp_s, z.2.2.2.2.1, u.1]
        · rw [fUp_s, z.2.2.2.2.2.1, u.2.1]
        · rw [fUp_n (by first | decide | omega), fUp_n (by first | decide | omega)]; exact (f _ (by omega)).trans u.2.2.1
        · rw [fUp_n (by first | decide | omega), fUp_n (by first | decide | omega)]; exact (f _ (by omega)).trans u.2.2.2.1
        · rw [fUp_n (by first | decide | omega), fUp_n (by first | decide | omega)]; exact (f _ (by omega)).trans u.2.2.2.2.1
        · rw [fUp_n (by first | decide | omega), fUp_n (by first | decide | omega)]; exact (f _ (by omega)).trans u.2.2.2.2.2.1
        · have z63 := z.2.2.2.2.2.1
          have z82 := z.2.2.2.2.2.2
          have z94 := f 94 (by omega)
          omega

theorem sq_25m (h : hyS S0 p X fa ms n WE B B2 w t A) (hWw : WEw WE) (hx1 : pe_at (pe_GA xs).xs 1 = some (1, tx_1)) (ho : opI S0 (a_K A t) = 25) (hm : ¬ (a_c A 0 < 8000 ∧ a_c A 1 + (opA S0 (a_K A t)) ≤ 60000)) (hl : (opA S0 (a_K A t)) = 0 → (a_K A t).1.length < 2000) : stO xs d S0 p HT cs ms os X mo fa n WE B2 w t A := by
  obtain ⟨hp, hw, hx, hA, hE, hB, hr⟩ := h
  have hk := wT_of hA hw
  have hv := wV_of hA hw
  have hab := hab_x hx hk hr
  have hc := fun (S : wS) (hS : cRel S0 p HT cs ms os X mo A S) => hco_c hx hk hr hw ho hS
  have hq := fun {Sb : wS} (S : wS) (hS : rRun S0 Sb HT cs ms os X mo t A S) => hqo_r hx hk hr hw ho hS
  have hh := tyt_h hx hk hr
  rw [ho] at hh
  have hz := opS hx hk hr
  rw [ho] at hz
  have hu := hA.2.2.2.2.1
  have hT8 : ((a_T A).length : Int) ≤ 8000 := by have := hu.1; omega
  have hTu : ((a_T A).length : Int) ≤ a_c A 0 := by have := hu.1; omega
  have ha : 0 ≤ (opA S0 (a_K A t)) ∧ (opA S0 (a_K A t)) ≤ ((a_K A t).1.length : Int) := ⟨hz.2.2.2.2.2.1 rfl, hh⟩
  have hl1 := hk.1.1
  have lm : ((((a_K A t).1.drop ((a_K A t).1.length - (opA S0 (a_K A t)).toNat)).map (fun u => ((-1 : Int), u))).length : Int) = (opA S0 (a_K A t)) := by
    rw [List.length_map, List.length_drop]
    omega
  have h8 := hu.1.2
  have hw0 := hw
  rcases hw with ⟨rfl, rfl⟩ | ⟨rfl, rfl⟩
  · refine stO_S (ml := [217, 218, 127, 128, 129, 130, 131, 132, 133, 134, 135, 136, 141, 142]) hp hw0 (by first | decide | omega) hA hE hB (fun S hS => ?_) (fun S hS => ?_)
    · have u := cR_u hS
      exact z25m_215 (hc S hS).1 (hc S hS).2 hab hx1 hS.2.2.1.1 ⟨by omega, by omega⟩ ⟨by have := hu.2.1.1; omega, by have := hu.2.1.2.1; omega⟩ hT8 (cPo_b hS.2.2.1.2.2) ha hl (by omega)
    · obtain ⟨sl, hW⟩ := hS.1.2.2.1.1
      have u := rR_u hS
      exact rn25m (hq S hS).1 (hq S hS).2.2 (hq S hS).2.1 hab hW ⟨by omega, by omega⟩ ⟨by omega, by omega, by have := hu.2.1.2.1; omega⟩ ha (by omega) (by omega)
  · refine stO_S (ml := [228, 229, 127, 128, 129, 130, 131, 132, 133, 134, 135, 136, 141, 142]) hp hw0 (by first | decide | omega) hA hE hB (fun S hS => ?_) (fun S hS => ?_)
    · have u := cR_u hS
      exact z25m_226 (hc S hS).1 (hc S hS).2 hab hx1 hS.2.2.1.1 ⟨by omega, by omega⟩ ⟨by have := hu.2.1.1; omega, by have := hu.2.1.2.1; omega⟩ hT8 (cPo_b hS.2.2.1.2.2) ha hl (by omega)
    · obtain ⟨sl, hW⟩ := hS.1.2.2.1.1
      have u := rR_u hS
      exact rn25m (hq S hS).1 (hq S hS).2.2 (hq S hS).2.1 hab hW ⟨by omega, by omega⟩ ⟨by omega, by omega, by have := hu.2.1.2.1; omega⟩ ha (by omega) (by omega)

theorem sq_25v (h : hyS S0 p X fa ms n WE B B2 w t A) (ho : opI S0 (a_K A t) = 25) (hl : (opA S0 (a_K A t)) = 0 ∧ 2000 ≤ (a_K A t).1.length) : stO xs d S0 p HT cs ms os X mo fa n WE B2 w t A := by
  obtain ⟨hp, hw, hx, hA, hE, hB, hr⟩ := h
  have hk := wT_of hA hw
  have hv := wV_of hA hw
  have hab := hab_x hx hk hr
  have hc := fun (S : wS) (hS : cRel S0 p HT cs ms os X mo A S) => hco_c hx hk hr hw ho hS
  have hq := fun {Sb : wS} (S : wS) (hS : rRun S0 Sb HT cs ms os X mo t A S) => hqo_r hx hk hr hw ho hS
  have hh := tyt_h hx hk hr
  rw [ho] at hh
  have hz := opS hx hk hr
  rw [ho] at hz
  have hu := hA.2.2.2.2.1
  have hT8 : ((a_T A).length : Int) ≤ 8000 := by have := hu.1; omega
  have hTu : ((a_T A).length : Int) ≤ a_c A 0 := by have := hu.1; omega
  have ha : 0 ≤ (opA S0 (a_K A t)) ∧ (opA S0 (a_K A t)) ≤ ((a_K A t).1.length : Int) := ⟨hz.2.2.2.2.2.1 rfl, hh⟩
  have hl1 := hk.1.1
  have lm : ((((a_K A t).1.drop ((a_K A t).1.length - (opA S0 (a_K A t)).toNat)).map (fun u => ((-1 : Int), u))).length : Int) = (opA S0 (a_K A t)) := by
    rw [List.length_map, List.length_drop]
    omega
  have h8 := hu.1.2
  have hw0 := hw
  rcases hw with ⟨rfl, rfl⟩ | ⟨rfl, rfl⟩
  · refine stO_K (ml := [217, 218]) hp hw0 (by first | decide | omega) hA hE hB (fun S hS => zov_215 (hc S hS).1 (hc S hS).2 (by omega) hl.2) (fun S hS => ?_) (tyt_T hk hr) (fun v => kv_T v hr vG_n) fLe_th
    obtain ⟨sl, hW⟩ := hS.1.2.2.1.1
    have u := rR_u hS
    exact rn25v (hq S hS).1 (hq S hS).2.2 (hq S hS).2.1 hab hW ⟨by omega, by omega⟩ ⟨by omega, by omega, by have := hu.2.1.2.1; omega⟩ ha hl
  · refine stO_K (ml := [228, 229]) hp hw0 (by first | decide | omega) hA hE hB (fun S hS => zov_226 (hc S hS).1 (hc S hS).2 (by omega) hl.2) (fun S hS => ?_) (tyt_T hk hr) (fun v => kv_T v hr vG_n) fLe_th
    obtain ⟨sl, hW⟩ := hS.1.2.2.1.1
    have u := rR_u hS
    exact rn25v (hq S hS).1 (hq S hS).2.2 (hq S hS).2.1 hab hW ⟨by omega, by omega⟩ ⟨by omega, by omega, by have := hu.2.1.2.1; omega⟩ ha hl

end Wkf
