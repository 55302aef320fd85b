/-! PART kk: a step of a task, on both sides: an object turns to another prototype. -/
section Wkk
variable {Sb : wS} {xs : List (Nat × List Int32)} {d : Nat} {S0 S Z : wS} {p w m : Nat} {HT : Int → Int} {cs : List hCR} {ms : List hMR} {os : Int → List Int} {X : List (List Int)} {mo t n B B2 oq : Int} {fa : Int → Int} {WE : aA → Prop} {A A2 : aA} {K2 : aK} {ml : List Nat} {T2 : List aO} {L2 : List aC} {G2 : Int → aV} {H2 : List aH} {c2 : Int → Int} {mk rk : Nat → Int → Prop} {k : Int} {T T1 : List aO} {H : List aH} {q sh z4 z11 : Int}
theorem rb_ex {p9 : Int} : ∀ (l : List Int) (H : List aH) (s : Int), ∃ m : List aH, (aRb p9 l H s).1 = H ++ m
  | [], H, s => ⟨[], (List.append_nil H).symm⟩
  | nm :: l, H, s => by
    by_cases e : aFs s p9 nm H 0 = -1
    · rw [aRb_n l e]
      obtain ⟨m, hm⟩ := rb_ex (p9 := p9) l (H ++ [(p9, s, nm, qSz H s + 1)]) (H.length : Int)
      exact ⟨(p9, s, nm, qSz H s + 1) :: m, by rw [hm, List.append_assoc]; rfl⟩
    · rw [aRb_f l e]
      exact rb_ex l _ _
theorem rs_ex {l : List Int} (hw : wSh T H) (hq : q = -1 ∨ isO T q) : ∃ m : List aH, rsH T H q l = H ++ m := by
  obtain ⟨m1, e1, -⟩ := (brK_br hw hq).2.1
  obtain ⟨m2, e2⟩ := rb_ex (p9 := q) l (aBr T H q).2.1 (aBr T H q).2.2
  exact ⟨m1 ++ m2, by show (aRb q l (aBr T H q).2.1 (aBr T H q).2.2).1 = _; rw [e2, e1, List.append_assoc]⟩
theorem rs_len {wo : Int} (hw : wSh T H) (hq : q = -1 ∨ isO T q) (k0 : 0 ≤ k) (k1 : k < (H.length : Int)) (hm : (H.length : Int) + aMb H q (fS wo (aNs H k) 0) ≤ 4001) : ((rsH T H q (fS wo (aNs H k) 0)).length : Int) = (H.length : Int) + aMb H q (fS wo (aNs H k) 0) := by
  have hds := nDs_H hw.1 hw.2.1 _ _ k0 k1 rfl
  exact (rsh_ok hw hq (nDs_f _ _ hds.1) (fun y hy => hds.2 y (fS_m _ _ y hy)) hm).2.2.2.2.1
theorem cCw_5 (h : cRel S0 p HT cs ms os X mo A S) (e4 : Z 150 4 = S 150 4 + z4) (e : ∀ x : Int, x ≠ 4 → Z 150 x = S 150 x) (e11 : Z 72 11 = S 72 11 + z11) : cCw (fUp (fUp (a_c A) 4 (a_c A 4 + z4)) 11 (a_c A 11 + z11)) Z := by
  obtain ⟨u0, u1, u2, u3, u4, u5⟩ := cR_u h
  refine cCw_of ?_ ?_ ?_ ?_ ?_ ?_
  · rw [fUp_n (by first | decide | omega), fUp_n (by first | decide | omega)]; exact (e 0 (by first | decide | omega)).trans u0
  · rw [fUp_n (by first | decide | omega), fUp_n (by first | decide | omega)]; exact (e 1 (by first | decide | omega)).trans u1
  · rw [fUp_n (by first | decide | omega), fUp_n (by first | decide | omega)]; exact (e 2 (by first | decide | omega)).trans u2
  · rw [fUp_n (by first | decide | omega), fUp_n (by first | decide | omega)]; exact (e 3 (by first | decide | omega)).trans u3
  · rw [fUp_n (by first | decide | omega), fUp_s, e4, u4]
  · rw [fUp_s, e11, u5]
theorem rCw_5 (h : rRun S0 Sb HT cs ms os X mo t A S) (e4 : Z 237 66 = S 237 66 + z4) (e11 : Z 237 81 = S 237 81 + z11) (e : ∀ x : Int, x ≠ 66 → x ≠ 87 → x ≠ 81 → x ≠ 154 → x ≠ 155 → Z 237 x = S 237 x) : rCw (fUp (fUp (a_c A) 4 (a_c A 4 + z4)) 11 (a_c A 11 + z11)) Z := by
  obtain ⟨u0, u1, u2, u3, u4, u5, u6⟩ := rR_u h
  have f := fun (x : Int) (hx : x = 62 ∨ x = 63 ∨ x = 64 ∨ x = 65 ∨ x = 82 ∨ x = 94) => e x (by omega) (by omega) (by omega) (by omega) (by omega)
  refine rCw_of ?_ ?_ ?_ ?_ ?_ ?_ ?_
  · rw [fUp_n (by first | decide | omega), fUp_n (by first | decide | omega)]; exact (f _ (by omega)).trans u0
  · rw [fUp_n (by first | decide | omega), fUp_n (by first | decide | omega)]; exact (f _ (by omega)).trans u1
  · rw [fUp_n (by first | decide | omega), fUp_n (by first | decide | omega)]; exact (f _ (by omega)).trans u2
  · rw [fUp_n (by first | decide | omega), fUp_n (by first | decide | omega)]; exact (f _ (by omega)).trans u3
  · rw [fUp_n (by first | decide | omega), fUp_s, e4, u4]
  · rw [fUp_s, e11, u5]
  · rw [f 82 (by omega), f 94 (by omega), f 63 (by omega)]
    exact u6

theorem sb_30 (h : hyS S0 p X fa ms n WE B B2 w t A) (hWw : WEw WE) (hB1 : B + 1 ≤ B2) (hx1 : pe_at (pe_GA xs).xs 1 = some (1, tx_1)) (h56 : S0 156 (-1) = 65) (ho : opI S0 (a_K A t) = 28) (ha : (opA S0 (a_K A t)) = 3) (hx2 : ((a_K A t).1.getD ((a_K A t).1.length - 2) (0, 0, [])).1 = 4 ∨ ((a_K A t).1.getD ((a_K A t).1.length - 2) (0, 0, [])).1 = 5) (hy : ((a_K A t).1.getD ((a_K A t).1.length - 1) (0, 0, [])).1 = 0) (hm0 : hMe (aPr (a_T A) (a_H A)) ((a_K A t).1.getD ((a_K A t).1.length - 2) (0, 0, [])).2.1 ((a_T A).length + 1) (-1) = 0) (hm : a_c A 4 + (aMb (a_H A) (-1) (fS (-1) (aNs (a_H A) (tO (a_T A) ((a_K A t).1.getD ((a_K A t).1.length - 2) (0, 0, [])).2.1).2.1) 0)) ≤ 4000) : stO xs d S0 p HT cs ms os X mo fa n WE B2 w t A := by
  obtain ⟨hp, hw, hx, hA, hE, hB, hr⟩ := h
  have hk := wT_of hA hw
  have hv := wV_of hA hw
  have hc := fun (S : wS) (hS : cRel S0 p HT cs ms os X mo A S) => hcb_c hx hk hr hw ho ha hS
  have hq := fun {Sb : wS} (S : wS) (hS : rRun S0 Sb HT cs ms os X mo t A S) => hqb_r hx hk hr hw ho ha hS
  have hh := tyt_h hx hk hr
  rw [ho, ha] at hh
  replace hh : 2 ≤ (a_K A t).1.length := by have z : (2 : Int) ≤ ((a_K A t).1.length : Int) := hh; omega
  have hu := hA.2.2.2.2.1
  have hT8 : ((a_T A).length : Int) ≤ 8000 := by have := hu.1; omega
  have hTu : ((a_T A).length : Int) ≤ a_c A 0 := by have := hu.1; omega
  have hxo := vG_o (hv.1 _ (tq_m (by omega))) hx2
  obtain ⟨n1, n2, n3, n4⟩ := wN_b hA
  have hsr := wSh_sh hA.2.1 hxo
  have hm4 : ((a_H A).length : Int) + (aMb (a_H A) (-1) (fS (-1) (aNs (a_H A) (tO (a_T A) ((a_K A t).1.getD ((a_K A t).1.length - 2) (0, 0, [])).2.1).2.1) 0)) ≤ 4001 := by have := n4.2.2; omega
  have hw0 := hw
  rcases hw with ⟨rfl, rfl⟩ | ⟨rfl, rfl⟩
  · refine stO_W (ml := [217, 218, 144, 145, 146, 147, 148]) (mk := cMt) (rk := rMt) (K2 := kP (a_K A 0) 2 ((a_K A 0).1.getD ((a_K A 0).1.length - 2) (0, 0, []))) (T2 := (tNc (rsT (a_T A) (a_H A) (-1)) ((a_K A 0).1.getD ((a_K A 0).1.length - 2) (0, 0, [])).2.1 (rsS (a_T A) (a_H A) (-1) (fS (-1) (aNs (a_H A) (tO (a_T A) ((a_K A 0).1.getD ((a_K A 0).1.length - 2) (0, 0, [])).2.1).2.1) 0)) (a_c A 11))) (L2 := a_L A) (G2 := a_G A) (H2 := (rsH (a_T A) (a_H A) (-1) (fS (-1) (aNs (a_H A) (tO (a_T A) ((a_K A 0).1.getD ((a_K A 0).1.length - 2) (0, 0, [])).2.1).2.1) 0))) (c2 := (fUp (fUp (a_c A) 4 (a_c A 4 + (aMb (a_H A) (-1) (fS (-1) (aNs (a_H A) (tO (a_T A) ((a_K A 0).1.getD ((a_K A 0).1.length - 2) (0, 0, [])).2.1).2.1) 0)))) 11 (a_c A 11 + (if (tO (rsT (a_T A) (a_H A) (-1)) ((a_K A 0).1.getD ((a_K A 0).1.length - 2) (0, 0, [])).2.1).2.2.2.2.1 = -1 then 0 else 1)))) hp hw0 (by first | decide | omega) hA (wf_nc hA hWw hw0 ⟨hB1, hB.2⟩ (tyt_P (m := 2) hx hk hr (by rw [ho]; decide) (by rw [ho, ha]; rfl) (by omega) (fun z => absurd z (by first | decide | omega))) (kv_P hv (hv.1 _ (tq_m (by omega)))) fLe_P hxo (ncK_b (brK_br hA.2.1 (Or.inl rfl))) (rs_ex hA.2.1 (Or.inl rfl)) (wSh_tu hA.2.1 hxo (Or.inl rfl) hm4 (by omega)) (rs_nm hA.2.1 (Or.inl rfl) hA.2.2.2.2.2.1.2.1 hsr.1 hsr.2 (by omega)) ⟨by rw [fUp_n (by first | decide | omega), fUp_s, rs_len hA.2.1 (Or.inl rfl) hsr.1 hsr.2 hm4]; omega, by rw [fUp_n (by first | decide | omega), fUp_s]; exact hm, by rw [fUp_s], fun i i0 i1 => by rw [fUp_n i1, fUp_n i0]⟩) (fun j x hm => mw_t hm) (fun j x hm => by unfold rMt at hm; unfold rWd9; omega) (fun i i0 i1 => by rw [fUp_n i1, fUp_n (by omega)]) (fun S hS => ?_) (fun S hS => ?_)
    · have u := cR_u hS
      refine wJ_mono (zb30_215 (hc S hS).1 (hc S hS).2 hx1 hS.2.2.1.1 hS.2.2.1.2.1 hA.2.1 hT8 (by rw [u.2.2.2.2.1]; exact n4) n1 (by rw [u.2.2.2.2.2]; exact n2) (by rw [u.2.2.2.2.2]; exact n3) (cR_56 hS h56) hh hx2 hxo hy hm0 (by rw [u.2.2.2.2.1]; exact hm)) (fun o Z z => ?_)
      obtain ⟨z1, z2, z3, z4, z5, z6, z7, z8⟩ := z
      rw [u.2.2.2.2.2] at z4 z5
      exact ⟨z1, z2, z3, z4, z5, z8 hS.2.2.1.2.2, cCw_5 hS z6.1 z6.2 z7⟩
    · obtain ⟨sl, hW⟩ := hS.1.2.2.1.1
      have u := rR_u hS
      refine rtu_mo (rnb30 (hq S hS).1 (hq S hS).2.2 (hq S hS).2.1 hW hS.1.2.2.1.2 hA.2.1 hT8 (rR_82 hS hu.2.1.2.1) (by rw [u.2.2.2.2.1]; exact n4) n1 (by rw [u.2.2.2.2.2.1]; exact n2) (by rw [u.2.2.2.2.2.1]; exact n3) hh hx2 hxo hy hm0 (by rw [u.2.2.2.2.1]; exact hm)) (fun Z dn z => ?_)
      obtain ⟨z1, z2, z3, z4, z5, z6, z7⟩ := z
      rw [u.2.2.2.2.2.1] at z4
      exact ⟨z1, z2, z3, ⟨_, z4⟩, z5, rCw_5 hS z6.1 z6.2 z7⟩
  · refine stO_W (ml := [228, 229, 144, 145, 146, 147, 148]) (mk := cMt) (rk := rMt) (K2 := kP (a_K A 1) 2 ((a_K A 1).1.getD ((a_K A 1).1.length - 2) (0, 0, []))) (T2 := (tNc (rsT (a_T A) (a_H A) (-1)) ((a_K A 1).1.getD ((a_K A 1).1.length - 2) (0, 0, [])).2.1 (rsS (a_T A) (a_H A) (-1) (fS (-1) (aNs (a_H A) (tO (a_T A) ((a_K A 1).1.getD ((a_K A 1).1.length - 2) (0, 0, [])).2.1).2.1) 0)) (a_c A 11))) (L2 := a_L A) (G2 := a_G A) (H2 := (rsH (a_T A) (a_H A) (-1) (fS (-1) (aNs (a_H A) (tO (a_T A) ((a_K A 1).1.getD ((a_K A 1).1.length - 2) (0, 0, [])).2.1).2.1) 0))) (c2 := (fUp (fUp (a_c A) 4 (a_c A 4 + (aMb (a_H A) (-1) (fS (-1) (aNs (a_H A) (tO (a_T A) ((a_K A 1).1.getD ((a_K A 1).1.length - 2) (0, 0, [])).2.1).2.1) 0)))) 11 (a_c A 11 + (if (tO (rsT (a_T A) (a_H A) (-1)) ((a_K A 1).1.getD ((a_K A 1).1.length - 2) (0, 0, [])).2.1).2.2.2.2.1 = -1 then 0 else 1)))) hp hw0 (by first | decide | omega) hA (wf_nc hA hWw hw0 ⟨hB1, hB.2⟩ (tyt_P (m := 2) hx hk hr (by rw [ho]; decide) (by rw [ho, ha]; rfl) (by omega) (fun z => absurd z (by first | decide | omega))) (kv_P hv (hv.1 _ (tq_m (by omega)))) fLe_P hxo (ncK_b (brK_br hA.2.1 (Or.inl rfl))) (rs_ex hA.2.1 (Or.inl rfl)) (wSh_tu hA.2.1 hxo (Or.inl rfl) hm4 (by omega)) (rs_nm hA.2.1 (Or.inl rfl) hA.2.2.2.2.2.1.2.1 hsr.1 hsr.2 (by omega)) ⟨by rw [fUp_n (by first | decide | omega), fUp_s, rs_len hA.2.1 (Or.inl rfl) hsr.1 hsr.2 hm4]; omega, by rw [fUp_n (by first | decide | omega), fUp_s]; exact hm, by rw [fUp_s], fun i i0 i1 => by rw [fUp_n i1, fUp_n i0]⟩) (fun j x hm => mw_t hm) (fun j x hm => by unfold rMt at hm; unfold rWd9; omega) (fun i i0 i1 => by rw [fUp_n i1, fUp_n (by omega)]) (fun S hS => ?_) (fun S hS => ?_)
    · have u := cR_u hS
      refine wJ_mono (zb30_226 (hc S hS).1 (hc S hS).2 hx1 hS.2.2.1.1 hS.2.2.1.2.1 hA.2.1 hT8 (by rw [u.2.2.2.2.1]; exact n4) n1 (by rw [u.2.2.2.2.2]; exact n2) (by rw [u.2.2.2.2.2]; exact n3) (cR_56 hS h56) hh hx2 hxo hy hm0 (by rw [u.2.2.2.2.1]; exact hm)) (fun o Z z => ?_)
      obtain ⟨z1, z2, z3, z4, z5, z6, z7, z8⟩ := z
      rw [u.2.2.2.2.2] at z4 z5
      exact ⟨z1, z2, z3, z4, z5, z8 hS.2.2.1.2.2, cCw_5 hS z6.1 z6.2 z7⟩
    · obtain ⟨sl, hW⟩ := hS.1.2.2.1.1
      have u := rR_u hS
      refine rtu_mo (rnb30 (hq S hS).1 (hq S hS).2.2 (hq S hS).2.1 hW hS.1.2.2.1.2 hA.2.1 hT8 (rR_82 hS hu.2.1.2.1) (by rw [u.2.2.2.2.1]; exact n4) n1 (by rw [u.2.2.2.2.2.1]; exact n2) (by rw [u.2.2.2.2.2.1]; exact n3) hh hx2 hxo hy hm0 (by rw [u.2.2.2.2.1]; exact hm)) (fun Z dn z => ?_)
      obtain ⟨z1, z2, z3, z4, z5, z6, z7⟩ := z
      rw [u.2.2.2.2.2.1] at z4
      exact ⟨z1, z2, z3, ⟨_, z4⟩, z5, rCw_5 hS z6.1 z6.2 z7⟩

theorem sb_31 (h : hyS S0 p X fa ms n WE B B2 w t A) (hWw : WEw WE) (hB1 : B + 1 ≤ B2) (hx1 : pe_at (pe_GA xs).xs 1 = some (1, tx_1)) (h56 : S0 156 (-1) = 65) (ho : opI S0 (a_K A t) = 28) (ha : (opA S0 (a_K A t)) = 3) (hx2 : ((a_K A t).1.getD ((a_K A t).1.length - 2) (0, 0, [])).1 = 4 ∨ ((a_K A t).1.getD ((a_K A t).1.length - 2) (0, 0, [])).1 = 5) (hy : ((a_K A t).1.getD ((a_K A t).1.length - 1) (0, 0, [])).1 = 4 ∨ ((a_K A t).1.getD ((a_K A t).1.length - 1) (0, 0, [])).1 = 5) (hm0 : hMe (aPr (a_T A) (a_H A)) ((a_K A t).1.getD ((a_K A t).1.length - 2) (0, 0, [])).2.1 ((a_T A).length + 1) ((a_K A t).1.getD ((a_K A t).1.length - 1) (0, 0, [])).2.1 = 0) (hm : a_c A 4 + (aMb (a_H A) ((a_K A t).1.getD ((a_K A t).1.length - 1) (0, 0, [])).2.1 (fS (-1) (aNs (a_H A) (tO (a_T A) ((a_K A t).1.getD ((a_K A t).1.length - 2) (0, 0, [])).2.1).2.1) 0)) ≤ 4000) : stO xs d S0 p HT cs ms os X mo fa n WE B2 w t A := by
  obtain ⟨hp, hw, hx, hA, hE, hB, hr⟩ := h
  have hk := wT_of hA hw
  have hv := wV_of hA hw
  have hc := fun (S : wS) (hS : cRel S0 p HT cs ms os X mo A S) => hcb_c hx hk hr hw ho ha hS
  have hq := fun {Sb : wS} (S : wS) (hS : rRun S0 Sb HT cs ms os X mo t A S) => hqb_r hx hk hr hw ho ha hS
  have hh := tyt_h hx hk hr
  rw [ho, ha] at hh
  replace hh : 2 ≤ (a_K A t).1.length := by have z : (2 : Int) ≤ ((a_K A t).1.length : Int) := hh; omega
  have hu := hA.2.2.2.2.1
  have hT8 : ((a_T A).length : Int) ≤ 8000 := by have := hu.1; omega
  have hTu : ((a_T A).length : Int) ≤ a_c A 0 := by have := hu.1; omega
  have hxo := vG_o (hv.1 _ (tq_m (by omega))) hx2
  have hqo := vG_o (hv.1 _ (tp_m (by omega))) hy
  obtain ⟨n1, n2, n3, n4⟩ := wN_b hA
  have hsr := wSh_sh hA.2.1 hxo
  have hm4 : ((a_H A).length : Int) + (aMb (a_H A) ((a_K A t).1.getD ((a_K A t).1.length - 1) (0, 0, [])).2.1 (fS (-1) (aNs (a_H A) (tO (a_T A) ((a_K A t).1.getD ((a_K A t).1.length - 2) (0, 0, [])).2.1).2.1) 0)) ≤ 4001 := by have := n4.2.2; omega
  have hw0 := hw
  rcases hw with ⟨rfl, rfl⟩ | ⟨rfl, rfl⟩
  · refine stO_W (ml := [217, 218, 144, 145, 146, 147, 148]) (mk := cMt) (rk := rMt) (K2 := kP (a_K A 0) 2 ((a_K A 0).1.getD ((a_K A 0).1.length - 2) (0, 0, []))) (T2 := (tNc (rsT (a_T A) (a_H A) ((a_K A 0).1.getD ((a_K A 0).1.length - 1) (0, 0, [])).2.1) ((a_K A 0).1.getD ((a_K A 0).1.length - 2) (0, 0, [])).2.1 (rsS (a_T A) (a_H A) ((a_K A 0).1.getD ((a_K A 0).1.length - 1) (0, 0, [])).2.1 (fS (-1) (aNs (a_H A) (tO (a_T A) ((a_K A 0).1.getD ((a_K A 0).1.length - 2) (0, 0, [])).2.1).2.1) 0)) (a_c A 11))) (L2 := a_L A) (G2 := a_G A) (H2 := (rsH (a_T A) (a_H A) ((a_K A 0).1.getD ((a_K A 0).1.length - 1) (0, 0, [])).2.1 (fS (-1) (aNs (a_H A) (tO (a_T A) ((a_K A 0).1.getD ((a_K A 0).1.length - 2) (0, 0, [])).2.1).2.1) 0))) (c2 := (fUp (fUp (a_c A) 4 (a_c A 4 + (aMb (a_H A) ((a_K A 0).1.getD ((a_K A 0).1.length - 1) (0, 0, [])).2.1 (fS (-1) (aNs (a_H A) (tO (a_T A) ((a_K A 0).1.getD ((a_K A 0).1.length - 2) (0, 0, [])).2.1).2.1) 0)))) 11 (a_c A 11 + (if (tO (rsT (a_T A) (a_H A) ((a_K A 0).1.getD ((a_K A 0).1.length - 1) (0, 0, [])).2.1) ((a_K A 0).1.getD ((a_K A 0).1.length - 2) (0, 0, [])).2.1).2.2.2.2.1 = -1 then 0 else 1)))) hp hw0 (by first | decide | omega) hA (wf_nc hA hWw hw0 ⟨hB1, hB.2⟩ (tyt_P (m := 2) hx hk hr (by rw [ho]; decide) (by rw [ho, ha]; rfl) (by omega) (fun z => absurd z (by first | decide | omega))) (kv_P hv (hv.1 _ (tq_m (by omega)))) fLe_P hxo (ncK_b (brK_br hA.2.1 (Or.inr hqo))) (rs_ex hA.2.1 (Or.inr hqo)) (wSh_tu hA.2.1 hxo (Or.inr hqo) hm4 (by omega)) (rs_nm hA.2.1 (Or.inr hqo) hA.2.2.2.2.2.1.2.1 hsr.1 hsr.2 (by omega)) ⟨by rw [fUp_n (by first | decide | omega), fUp_s, rs_len hA.2.1 (Or.inr hqo) hsr.1 hsr.2 hm4]; omega, by rw [fUp_n (by first | decide | omega), fUp_s]; exact hm, by rw [fUp_s], fun i i0 i1 => by rw [fUp_n i1, fUp_n i0]⟩) (fun j x hm => mw_t hm) (fun j x hm => by unfold rMt at hm; unfold rWd9; omega) (fun i i0 i1 => by rw [fUp_n i1, fUp_n (by omega)]) (fun S hS => ?_) (fun S hS => ?_)
    · have u := cR_u hS
      refine wJ_mono (zb31_215 (hc S hS).1 (hc S hS).2 hx1 hS.2.2.1.1 hS.2.2.1.2.1 hA.2.1 hT8 (by rw [u.2.2.2.2.1]; exact n4) n1 (by rw [u.2.2.2.2.2]; exact n2) (by rw [u.2.2.2.2.2]; exact n3) (cR_56 hS h56) hh hx2 hxo hy hqo hm0 (by rw [u.2.2.2.2.1]; exact hm)) (fun o Z z => ?_)
      obtain ⟨z1, z2, z3, z4, z5, z6, z7, z8⟩ := z
      rw [u.2.2.2.2.2] at z4 z5
      exact ⟨z1, z2, z3, z4, z5, z8 hS.2.2.1.2.2, cCw_5 hS z6.1 z6.2 z7⟩
    · obtain ⟨sl, hW⟩ := hS.1.2.2.1.1
      have u := rR_u hS
      refine rtu_mo (rnb31 (hq S hS).1 (hq S hS).2.2 (hq S hS).2.1 hW hS.1.2.2.1.2 hA.2.1 hT8 (rR_82 hS hu.2.1.2.1) (by rw [u.2.2.2.2.1]; exact n4) n1 (by rw [u.2.2.2.2.2.1]; exact n2) (by rw [u.2.2.2.2.2.1]; exact n3) hh hx2 hxo hy hqo hm0 (by rw [u.2.2.2.2.1]; exact hm)) (fun Z dn z => ?_)
      obtain ⟨z1, z2, z3, z4, z5, z6, z7⟩ := z
      rw [u.2.2.2.2.2.1] at z4
      exact ⟨z1, z2, z3, ⟨_, z4⟩, z5, rCw_5 hS z6.1 z6.2 z7⟩
  · refine stO_W (ml := [228, 229, 144, 145, 146, 147, 148]) (mk := cMt) (rk := rMt) (K2 := kP (a_K A 1) 2 ((a_K A 1).1.getD ((a_K A 1).1.length - 2) (0, 0, []))) (T2 := (tNc (rsT (a_T A) (a_H A) ((a_K A 1).1.getD ((a_K A 1).1.length - 1) (0, 0, [])).2.1) ((a_K A 1).1.getD ((a_K A 1).1.length - 2) (0, 0, [])).2.1 (rsS (a_T A) (a_H A) ((a_K A 1).1.getD ((a_K A 1).1.length - 1) (0, 0, [])).2.1 (fS (-1) (aNs (a_H A) (tO (a_T A) ((a_K A 1).1.getD ((a_K A 1).1.length - 2) (0, 0, [])).2.1).2.1) 0)) (a_c A 11))) (L2 := a_L A) (G2 := a_G A) (H2 := (rsH (a_T A) (a_H A) ((a_K A 1).1.getD ((a_K A 1).1.length - 1) (0, 0, [])).2.1 (fS (-1) (aNs (a_H A) (tO (a_T A) ((a_K A 1).1.getD ((a_K A 1).1.length - 2) (0, 0, [])).2.1).2.1) 0))) (c2 := (fUp (fUp (a_c A) 4 (a_c A 4 + (aMb (a_H A) ((a_K A 1).1.getD ((a_K A 1).1.length - 1) (0, 0, [])).2.1 (fS (-1) (aNs (a_H A) (tO (a_T A) ((a_K A 1).1.getD ((a_K A 1).1.length - 2) (0, 0, [])).2.1).2.1) 0)))) 11 (a_c A 11 + (if (tO (rsT (a_T A) (a_H A) ((a_K A 1).1.getD ((a_K A 1).1.length - 1) (0, 0, [])).2.1) ((a_K A 1).1.getD ((a_K A 1).1.length - 2) (0, 0, [])).2.1).2.2.2.2.1 = -1 then 0 else 1)))) hp hw0 (by first | decide | omega) hA (wf_nc hA hWw hw0 ⟨hB1, hB.2⟩ (tyt_P (m := 2) hx hk hr (by rw [ho]; decide) (by rw [ho, ha]; rfl) (by omega) (fun z => absurd z (by first | decide | omega))) (kv_P hv (hv.1 _ (tq_m (by omega)))) fLe_P hxo (ncK_b (brK_br hA.2.1 (Or.inr hqo))) (rs_ex hA.2.1 (Or.inr hqo)) (wSh_tu hA.2.1 hxo (Or.inr hqo) hm4 (by omega)) (rs_nm hA.2.1 (Or.inr hqo) hA.2.2.2.2.2.1.2.1 hsr.1 hsr.2 (by omega)) ⟨by rw [fUp_n (by first | decide | omega), fUp_s, rs_len hA.2.1 (Or.inr hqo) hsr.1 hsr.2 hm4]; omega, by rw [fUp_n (by first | decide | omega), fUp_s]; exact hm, by rw [fUp_s], fun i i0 i1 => by rw [fUp_n i1, fUp_n i0]⟩) (fun j x hm => mw_t hm) (fun j x hm => by unfold rMt at hm; unfold rWd9; omega) (fun i i0 i1 => by rw [fUp_n i1, fUp_n (by omega)]) (fun S hS => ?_) (fun S hS => ?_)
    · have u := cR_u hS
      refine wJ_mono (zb31_226 (hc S hS).1 (hc S hS).2 hx1 hS.2.2.1.1 hS.2.2.1.2.1 hA.2.1 hT8 (by rw [u.2.2.2.2.1]; exact n4) n1 (by rw [u.2.2.2.2.2]; exact n2) (by rw [u.2.2.2.2.2]; exact n3) (cR_56 hS h56) hh hx2 hxo hy hqo hm0 (by rw [u.2.2.2.2.1]; exact hm)) (fun o Z z => ?_)
      obtain ⟨z1, z2, z3, z4, z5, z6, z7, z8⟩ := z
      rw [u.2.2.2.2.2] at z4 z5
      exact ⟨z1, z2, z3, z4, z5, z8 hS.2.2.1.2.2, cCw_5 hS z6.1 z6.2 z7⟩
    · obtain ⟨sl, hW⟩ := hS.1.2.2.1.1
      have u := rR_u hS
      refine rtu_mo (rnb31 (hq S hS).1 (hq S hS).2.2 (hq S hS).2.1 hW hS.1.2.2.1.2 hA.2.1 hT8 (rR_82 hS hu.2.1.2.1) (by rw [u.2.2.2.2.1]; exact n4) n1 (by rw [u.2.2.2.2.2.1]; exact n2) (by rw [u.2.2.2.2.2.1]; exact n3) hh hx2 hxo hy hqo hm0 (by rw [u.2.2.2.2.1]; exact hm)) (fun Z dn z => ?_)
      obtain ⟨z1, z2, z3, z4, z5, z6, z7⟩ := z
      rw [u.2.2.2.2.2.1] at z4
      exact ⟨z1, z2, z3, ⟨_, z4⟩, z5, rCw_5 hS z6.1 z6.2 z7⟩

end Wkk
