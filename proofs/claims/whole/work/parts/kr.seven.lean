/-! PART kr: a step of a task, on both sides: instruction 7 where nothing is joined. -/
section Wkr
variable {Sb : wS} {xs : List (Nat × List Int32)} {d : Nat} {S0 S Z : wS} {p w m : Nat} {HT : Int → Int} {cs : List hCR} {ms : List hMR} {os : Int → List Int} {X : List (List Int)} {mo t n B B2 oq : Int} {fa : Int → Int} {WE : aA → Prop} {A A2 : aA} {K2 : aK} {ml : List Nat} {T2 : List aO} {L2 : List aC} {G2 : Int → aV} {H2 : List aH} {c2 : Int → Int} {mk rk : Nat → Int → Prop} {k : Int}

theorem so_7e (h : hyS S0 p X fa ms n WE B B2 w t A) (ho : opI S0 (a_K A t) = 7) (hn2 : ¬ (((a_K A t).1.getD ((a_K A t).1.length - 2) (0, 0, [])).1 = 2 ∧ ((a_K A t).1.getD ((a_K A t).1.length - 1) (0, 0, [])).1 = 2)) (hn : 3 < ((a_K A t).1.getD ((a_K A t).1.length - 2) (0, 0, [])).1 ∨ 3 < ((a_K A t).1.getD ((a_K A t).1.length - 1) (0, 0, [])).1 ∨ (((a_K A t).1.getD ((a_K A t).1.length - 2) (0, 0, [])).1 ≠ 3 ∧ ((a_K A t).1.getD ((a_K A t).1.length - 1) (0, 0, [])).1 ≠ 3)) : stO xs d S0 p HT cs ms os X mo fa n WE B2 w t A := by
  obtain ⟨hp, hw, hx, hA, hE, hB, hr⟩ := h
  have hk := wT_of hA hw
  have hv := wV_of hA hw
  have hab := hab_x hx hk hr
  have hc := fun (S : wS) (hS : cRel S0 p HT cs ms os X mo A S) => hco_c hx hk hr hw ho hS
  have hq := fun {Sb : wS} (S : wS) (hS : rRun S0 Sb HT cs ms os X mo t A S) => hqo_r hx hk hr hw ho hS
  have hh := tyt_h hx hk hr
  rw [ho] at hh
  replace hh : 2 ≤ (a_K A t).1.length := by have z : (2 : Int) ≤ ((a_K A t).1.length : Int) := hh; omega
  have hk1 : 0 ≤ ((a_K A t).1.getD ((a_K A t).1.length - 2) (0, 0, [])).1 ∧ ((a_K A t).1.getD ((a_K A t).1.length - 2) (0, 0, [])).1 ≤ 8 := (hv.1 _ (tq_m (by omega))).1.1
  have hk2 : 0 ≤ ((a_K A t).1.getD ((a_K A t).1.length - 1) (0, 0, [])).1 ∧ ((a_K A t).1.getD ((a_K A t).1.length - 1) (0, 0, [])).1 ≤ 8 := (hv.1 _ (tp_m (by omega))).1.1
  rcases hw with ⟨rfl, rfl⟩ | ⟨rfl, rfl⟩
  · exact stO_K (ml := [217, 218, 3]) hp (Or.inl ⟨rfl, rfl⟩) (by first | decide | omega) hA hE hB (fun S hS => zj7e_215 (hc S hS).1 (hc S hS).2 hh hn2 hk1 hk2 hn) (fun S hS => rnj7e (hq S hS).1 (hq S hS).2.2 (hq S hS).2.1 hh hn2 hk1 hk2 hn) (tyt_T hk hr) (fun v => kv_T v hr vG_n) (fLe_th)
  · exact stO_K (ml := [228, 229, 3]) hp (Or.inr ⟨rfl, rfl⟩) (by first | decide | omega) hA hE hB (fun S hS => zj7e_226 (hc S hS).1 (hc S hS).2 hh hn2 hk1 hk2 hn) (fun S hS => rnj7e (hq S hS).1 (hq S hS).2.2 (hq S hS).2.1 hh hn2 hk1 hk2 hn) (tyt_T hk hr) (fun v => kv_T v hr vG_n) (fLe_th)

end Wkr
