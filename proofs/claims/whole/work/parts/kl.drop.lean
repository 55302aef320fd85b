/-! PART kl: a step of a task, on both sides: a property is dropped. -/
section Wkl
variable {Sb : wS} {xs : List (Nat × List Int32)} {d : Nat} {S0 S Z : wS} {p w m : Nat} {HT : Int → Int} {cs : List hCR} {ms : List hMR} {os : Int → List Int} {X : List (List Int)} {mo t n B B2 oq : Int} {fa : Int → Int} {WE : aA → Prop} {A A2 : aA} {K2 : aK} {ml : List Nat} {T2 : List aO} {L2 : List aC} {G2 : Int → aV} {H2 : List aH} {c2 : Int → Int} {mk rk : Nat → Int → Prop} {k : Int} {T T1 : List aO} {H : List aH} {q sh ix ch : Int}
theorem ncK_d (h : brK T H T1 H2) (hk : 0 ≤ k ∧ k < (T.length : Int)) : ncK T (tDp T1 k ix) k := by
  refine ⟨by rw [tDp_l, h.1], fun x x0 x1 => ?_⟩
  obtain ⟨z1, z2, z3⟩ := h.2.2 x x0 x1
  rw [tDp_o hk.1 (by rw [h.1]; exact hk.2) x0]
  by_cases e : x = k
  · subst e
    rw [if_pos rfl]
    refine ⟨z1, z2, by rw [z3], fun y hy => ?_, ?_, fun q => absurd rfl q⟩
    · have w := lDr_m _ _ hy
      rw [z3] at w
      exact w
    · show (lDr ix.toNat (tO T1 x).2.2.2.2.2.2).length ≤ _
      rw [z3]
      exact lDr_le _ _
  · rw [if_neg e]
    exact ⟨z1, z2, by rw [z3], fun y hy => by rw [z3] at hy; exact hy, by rw [z3]; exact Nat.le_refl _, fun _ => by rw [z3]⟩
theorem wSh_d9 (hw : wSh T H) (hk : isO T k) (hx : 0 ≤ ix) (hm : (H.length : Int) + aMb H (aPr T H k) (fS ix (aNs H (tO T k).2.1) 0) ≤ 4001) : wSh (tNc (tDp (rsT T H (aPr T H k)) k ix) k (rsS T H (aPr T H k) (fS ix (aNs H (tO T k).2.1) 0)) ch) (rsH T H (aPr T H k) (fS ix (aNs H (tO T k).2.1) 0)) := by
  have hsh := wSh_sh hw hk
  have hds := nDs_H hw.1 hw.2.1 _ _ hsh.1 hsh.2 rfl
  obtain ⟨r1, r2, r3, r4, r5, r6, r7, r8⟩ := rsh_ok hw (wSh_pr hw hk) (nDs_f (wo := ix) _ _ hds.1) (fun y hy => hds.2 y (fS_m _ _ y hy)) hm
  have bk := (brK_br hw (wSh_pr hw hk)).2.2 k hk.1.1 hk.1.2
  refine wSh_dn r1 ((r8 k).mpr hk) r2 ?_ ?_
  · rw [r3]
    have e1 : pNs (tO (rsT T H (aPr T H k)) k) = aNs H (tO T k).2.1 := by
      rw [← (hw.2.2.2.1 k hk).1]
      unfold pNs
      rw [bk.2.2]
    rw [e1]
    have e2 := fS_lDr (aNs H (tO T k).2.1) ix.toNat 0
    rw [show (0 : Int) + ((ix.toNat : Nat) : Int) = ix by omega] at e2
    exact e2.symm
  · rw [r4, r7 k hk]

theorem sb_4 (h : hyS S0 p X fa ms n WE B B2 w t A) (hWw : WEw WE) (hB1 : B + 1 ≤ B2) (hx1 : pe_at (pe_GA xs).xs 1 = some (1, tx_1)) (h56 : S0 156 (-1) = 65) (ho : opI S0 (a_K A t) = 28) (ha : (opA S0 (a_K A t)) = 4) (hx2 : ((a_K A t).1.getD ((a_K A t).1.length - 2) (0, 0, [])).1 = 4 ∨ ((a_K A t).1.getD ((a_K A t).1.length - 2) (0, 0, [])).1 = 5) (hy : ((a_K A t).1.getD ((a_K A t).1.length - 1) (0, 0, [])).1 = 3) (hm0 : (ixL (a_N A) ((a_K A t).1.getD ((a_K A t).1.length - 1) (0, 0, [])).2.2) ≠ -1 ∧ (aIx (a_T A) (ixL (a_N A) ((a_K A t).1.getD ((a_K A t).1.length - 1) (0, 0, [])).2.2) ((a_K A t).1.getD ((a_K A t).1.length - 2) (0, 0, [])).2.1) ≠ -1) (hm : a_c A 4 + (aMb (a_H A) (aPr (a_T A) (a_H A) ((a_K A t).1.getD ((a_K A t).1.length - 2) (0, 0, [])).2.1) (fS (aIx (a_T A) (ixL (a_N A) ((a_K A t).1.getD ((a_K A t).1.length - 1) (0, 0, [])).2.2) ((a_K A t).1.getD ((a_K A t).1.length - 2) (0, 0, [])).2.1) (aNs (a_H A) (tO (a_T A) ((a_K A t).1.getD ((a_K A t).1.length - 2) (0, 0, [])).2.1).2.1) 0)) ≤ 4000) : stO xs d S0 p HT cs ms os X mo fa n WE B2 w t A := by
  obtain ⟨hp, hw, hx, hA, hE, hB, hr⟩ := h
  have hk := wT_of hA hw
  have hv := wV_of hA hw
  have hc := fun (S : wS) (hS : cRel S0 p HT cs ms os X mo A S) => hcb_c hx hk hr hw ho ha hS
  have hq := fun {Sb : wS} (S : wS) (hS : rRun S0 Sb HT cs ms os X mo t A S) => hqb_r hx hk hr hw ho ha hS
  have hh := tyt_h hx hk hr
  rw [ho, ha] at hh
  replace hh : 2 ≤ (a_K A t).1.length := by have z : (2 : Int) ≤ ((a_K A t).1.length : Int) := hh; omega
  have hu := hA.2.2.2.2.1
  have hT8 : ((a_T A).length : Int) ≤ 8000 := by have := hu.1; omega
  have hTu : ((a_T A).length : Int) ≤ a_c A 0 := by have := hu.1; omega
  have hxo := vG_o (hv.1 _ (tq_m (by omega))) hx2
  obtain ⟨n1, n2, n3, n4⟩ := wN_b hA
  have hsr := wSh_sh hA.2.1 hxo
  have hm4 : ((a_H A).length : Int) + (aMb (a_H A) (aPr (a_T A) (a_H A) ((a_K A t).1.getD ((a_K A t).1.length - 2) (0, 0, [])).2.1) (fS (aIx (a_T A) (ixL (a_N A) ((a_K A t).1.getD ((a_K A t).1.length - 1) (0, 0, [])).2.2) ((a_K A t).1.getD ((a_K A t).1.length - 2) (0, 0, [])).2.1) (aNs (a_H A) (tO (a_T A) ((a_K A t).1.getD ((a_K A t).1.length - 2) (0, 0, [])).2.1).2.1) 0)) ≤ 4001 := by have := n4.2.2; omega
  have hix : 0 ≤ (aIx (a_T A) (ixL (a_N A) ((a_K A t).1.getD ((a_K A t).1.length - 1) (0, 0, [])).2.2) ((a_K A t).1.getD ((a_K A t).1.length - 2) (0, 0, [])).2.1) := by have z : -1 ≤ (aIx (a_T A) (ixL (a_N A) ((a_K A t).1.getD ((a_K A t).1.length - 1) (0, 0, [])).2.2) ((a_K A t).1.getD ((a_K A t).1.length - 2) (0, 0, [])).2.1) := (lIx_rg _).1; omega
  have he : (tO (tDp (rsT (a_T A) (a_H A) (aPr (a_T A) (a_H A) ((a_K A t).1.getD ((a_K A t).1.length - 2) (0, 0, [])).2.1)) ((a_K A t).1.getD ((a_K A t).1.length - 2) (0, 0, [])).2.1 (aIx (a_T A) (ixL (a_N A) ((a_K A t).1.getD ((a_K A t).1.length - 1) (0, 0, [])).2.2) ((a_K A t).1.getD ((a_K A t).1.length - 2) (0, 0, [])).2.1)) ((a_K A t).1.getD ((a_K A t).1.length - 2) (0, 0, [])).2.1).2.2.2.2.1 = (tO (rsT (a_T A) (a_H A) (aPr (a_T A) (a_H A) ((a_K A t).1.getD ((a_K A t).1.length - 2) (0, 0, [])).2.1)) ((a_K A t).1.getD ((a_K A t).1.length - 2) (0, 0, [])).2.1).2.2.2.2.1 := by
    have z1 := (brK_br hA.2.1 (wSh_pr hA.2.1 hxo)).1
    rw [tDp_o hxo.1.1 (by rw [z1]; exact hxo.1.2) hxo.1.1, if_pos rfl]
  have hw0 := hw
  rcases hw with ⟨rfl, rfl⟩ | ⟨rfl, rfl⟩
  · refine stO_W (ml := [217, 218, 144, 145, 146, 147, 148]) (mk := cMd) (rk := rMd) (K2 := kP (a_K A 0) 2 (1, 1, [])) (T2 := (tNc (tDp (rsT (a_T A) (a_H A) (aPr (a_T A) (a_H A) ((a_K A 0).1.getD ((a_K A 0).1.length - 2) (0, 0, [])).2.1)) ((a_K A 0).1.getD ((a_K A 0).1.length - 2) (0, 0, [])).2.1 (aIx (a_T A) (ixL (a_N A) ((a_K A 0).1.getD ((a_K A 0).1.length - 1) (0, 0, [])).2.2) ((a_K A 0).1.getD ((a_K A 0).1.length - 2) (0, 0, [])).2.1)) ((a_K A 0).1.getD ((a_K A 0).1.length - 2) (0, 0, [])).2.1 (rsS (a_T A) (a_H A) (aPr (a_T A) (a_H A) ((a_K A 0).1.getD ((a_K A 0).1.length - 2) (0, 0, [])).2.1) (fS (aIx (a_T A) (ixL (a_N A) ((a_K A 0).1.getD ((a_K A 0).1.length - 1) (0, 0, [])).2.2) ((a_K A 0).1.getD ((a_K A 0).1.length - 2) (0, 0, [])).2.1) (aNs (a_H A) (tO (a_T A) ((a_K A 0).1.getD ((a_K A 0).1.length - 2) (0, 0, [])).2.1).2.1) 0)) (a_c A 11))) (L2 := a_L A) (G2 := a_G A) (H2 := (rsH (a_T A) (a_H A) (aPr (a_T A) (a_H A) ((a_K A 0).1.getD ((a_K A 0).1.length - 2) (0, 0, [])).2.1) (fS (aIx (a_T A) (ixL (a_N A) ((a_K A 0).1.getD ((a_K A 0).1.length - 1) (0, 0, [])).2.2) ((a_K A 0).1.getD ((a_K A 0).1.length - 2) (0, 0, [])).2.1) (aNs (a_H A) (tO (a_T A) ((a_K A 0).1.getD ((a_K A 0).1.length - 2) (0, 0, [])).2.1).2.1) 0))) (c2 := (fUp (fUp (a_c A) 4 (a_c A 4 + (aMb (a_H A) (aPr (a_T A) (a_H A) ((a_K A 0).1.getD ((a_K A 0).1.length - 2) (0, 0, [])).2.1) (fS (aIx (a_T A) (ixL (a_N A) ((a_K A 0).1.getD ((a_K A 0).1.length - 1) (0, 0, [])).2.2) ((a_K A 0).1.getD ((a_K A 0).1.length - 2) (0, 0, [])).2.1) (aNs (a_H A) (tO (a_T A) ((a_K A 0).1.getD ((a_K A 0).1.length - 2) (0, 0, [])).2.1).2.1) 0)))) 11 (a_c A 11 + (if (tO (rsT (a_T A) (a_H A) (aPr (a_T A) (a_H A) ((a_K A 0).1.getD ((a_K A 0).1.length - 2) (0, 0, [])).2.1)) ((a_K A 0).1.getD ((a_K A 0).1.length - 2) (0, 0, [])).2.1).2.2.2.2.1 = -1 then 0 else 1)))) hp hw0 (by first | decide | omega) hA (wf_nc hA hWw hw0 ⟨hB1, hB.2⟩ (tyt_P (m := 2) hx hk hr (by rw [ho]; decide) (by rw [ho, ha]; rfl) (by omega) (fun z => absurd z (by first | decide | omega))) (kv_P hv (vG_b (Or.inr rfl))) fLe_P hxo (ncK_d (brK_br hA.2.1 (wSh_pr hA.2.1 hxo)) hxo.1) (rs_ex hA.2.1 (wSh_pr hA.2.1 hxo)) (wSh_d9 hA.2.1 hxo hix hm4) (rs_nm hA.2.1 (wSh_pr hA.2.1 hxo) hA.2.2.2.2.2.1.2.1 hsr.1 hsr.2 (by omega)) ⟨by rw [fUp_n (by first | decide | omega), fUp_s, rs_len hA.2.1 (wSh_pr hA.2.1 hxo) hsr.1 hsr.2 hm4]; omega, by rw [fUp_n (by first | decide | omega), fUp_s]; exact hm, by rw [fUp_s, he], fun i i0 i1 => by rw [fUp_n i1, fUp_n i0]⟩) (fun j x hm => mw_d hm) (fun j x hm => by unfold rMd rMt at hm; unfold rWd9; omega) (fun i i0 i1 => by rw [fUp_n i1, fUp_n (by omega)]) (fun S hS => ?_) (fun S hS => ?_)
    · have u := cR_u hS
      refine wJ_mono (zb4_215 (hc S hS).1 (hc S hS).2 hx1 (cR_n hS).1.1 (cR_n hS).1.2.1 (cR_n hS).1.2.2 (cR_n hS).2.1 (cR_tt hS) hS.2.2.1.1 hS.2.2.1.2.1 hA.2.1 hT8 (by rw [u.2.2.2.2.1]; exact n4) n1 (by rw [u.2.2.2.2.2]; exact n2) (by rw [u.2.2.2.2.2]; exact n3) (cR_56 hS h56) hh hx2 hxo hy rfl hm0 (by rw [u.2.2.2.2.1]; exact hm)) (fun o Z z => ?_)
      obtain ⟨z1, z2, z3, z4, z5, z6, z7, z8⟩ := z
      rw [u.2.2.2.2.2] at z4 z5
      exact ⟨z1, z2, z3, z4, z5, z8 hS.2.2.1.2.2, cCw_5 hS z6.1 z6.2 z7⟩
    · obtain ⟨sl, hW⟩ := hS.1.2.2.1.1
      have u := rR_u hS
      refine rtu_mo (rnb4 (hq S hS).1 (hq S hS).2.2 (hq S hS).2.1 hS.1.2.2.2.1.1 hS.1.2.2.2.1.2.2.1 hW hS.1.2.2.1.2 hA.2.1 hT8 (rR_82 hS hu.2.1.2.1) (by rw [u.2.2.2.2.1]; exact n4) n1 (by rw [u.2.2.2.2.2.1]; exact n2) (by rw [u.2.2.2.2.2.1]; exact n3) hh hx2 hxo hy rfl hm0 (by rw [u.2.2.2.2.1]; exact hm)) (fun Z dn z => ?_)
      obtain ⟨z1, z2, z3, z4, z5, z6, z7⟩ := z
      rw [u.2.2.2.2.2.1] at z4
      exact ⟨z1, z2, z3, ⟨_, z4⟩, z5, rCw_5 hS z6.1 z6.2 z7⟩
  · refine stO_W (ml := [228, 229, 144, 145, 146, 147, 148]) (mk := cMd) (rk := rMd) (K2 := kP (a_K A 1) 2 (1, 1, [])) (T2 := (tNc (tDp (rsT (a_T A) (a_H A) (aPr (a_T A) (a_H A) ((a_K A 1).1.getD ((a_K A 1).1.length - 2) (0, 0, [])).2.1)) ((a_K A 1).1.getD ((a_K A 1).1.length - 2) (0, 0, [])).2.1 (aIx (a_T A) (ixL (a_N A) ((a_K A 1).1.getD ((a_K A 1).1.length - 1) (0, 0, [])).2.2) ((a_K A 1).1.getD ((a_K A 1).1.length - 2) (0, 0, [])).2.1)) ((a_K A 1).1.getD ((a_K A 1).1.length - 2) (0, 0, [])).2.1 (rsS (a_T A) (a_H A) (aPr (a_T A) (a_H A) ((a_K A 1).1.getD ((a_K A 1).1.length - 2) (0, 0, [])).2.1) (fS (aIx (a_T A) (ixL (a_N A) ((a_K A 1).1.getD ((a_K A 1).1.length - 1) (0, 0, [])).2.2) ((a_K A 1).1.getD ((a_K A 1).1.length - 2) (0, 0, [])).2.1) (aNs (a_H A) (tO (a_T A) ((a_K A 1).1.getD ((a_K A 1).1.length - 2) (0, 0, [])).2.1).2.1) 0)) (a_c A 11))) (L2 := a_L A) (G2 := a_G A) (H2 := (rsH (a_T A) (a_H A) (aPr (a_T A) (a_H A) ((a_K A 1).1.getD ((a_K A 1).1.length - 2) (0, 0, [])).2.1) (fS (aIx (a_T A) (ixL (a_N A) ((a_K A 1).1.getD ((a_K A 1).1.length - 1) (0, 0, [])).2.2) ((a_K A 1).1.getD ((a_K A 1).1.length - 2) (0, 0, [])).2.1) (aNs (a_H A) (tO (a_T A) ((a_K A 1).1.getD ((a_K A 1).1.length - 2) (0, 0, [])).2.1).2.1) 0))) (c2 := (fUp (fUp (a_c A) 4 (a_c A 4 + (aMb (a_H A) (aPr (a_T A) (a_H A) ((a_K A 1).1.getD ((a_K A 1).1.length - 2) (0, 0, [])).2.1) (fS (aIx (a_T A) (ixL (a_N A) ((a_K A 1).1.getD ((a_K A 1).1.length - 1) (0, 0, [])).2.2) ((a_K A 1).1.getD ((a_K A 1).1.length - 2) (0, 0, [])).2.1) (aNs (a_H A) (tO (a_T A) ((a_K A 1).1.getD ((a_K A 1).1.length - 2) (0, 0, [])).2.1).2.1) 0)))) 11 (a_c A 11 + (if (tO (rsT (a_T A) (a_H A) (aPr (a_T A) (a_H A) ((a_K A 1).1.getD ((a_K A 1).1.length - 2) (0, 0, [])).2.1)) ((a_K A 1).1.getD ((a_K A 1).1.length - 2) (0, 0, [])).2.1).2.2.2.2.1 = -1 then 0 else 1)))) hp hw0 (by first | decide | omega) hA (wf_nc hA hWw hw0 ⟨hB1, hB.2⟩ (tyt_P (m := 2) hx hk hr (by rw [ho]; decide) (by rw [ho, ha]; rfl) (by omega) (fun z => absurd z (by first | decide | omega))) (kv_P hv (vG_b (Or.inr rfl))) fLe_P hxo (ncK_d (brK_br hA.2.1 (wSh_pr hA.2.1 hxo)) hxo.1) (rs_ex hA.2.1 (wSh_pr hA.2.1 hxo)) (wSh_d9 hA.2.1 hxo hix hm4) (rs_nm hA.2.1 (wSh_pr hA.2.1 hxo) hA.2.2.2.2.2.1.2.1 hsr.1 hsr.2 (by omega)) ⟨by rw [fUp_n (by first | decide | omega), fUp_s, rs_len hA.2.1 (wSh_pr hA.2.1 hxo) hsr.1 hsr.2 hm4]; omega, by rw [fUp_n (by first | decide | omega), fUp_s]; exact hm, by rw [fUp_s, he], fun i i0 i1 => by rw [fUp_n i1, fUp_n i0]⟩) (fun j x hm => mw_d hm) (fun j x hm => by unfold rMd rMt at hm; unfold rWd9; omega) (fun i i0 i1 => by rw [fUp_n i1, fUp_n (by omega)]) (fun S hS => ?_) (fun S hS => ?_)
    · have u := cR_u hS
      refine wJ_mono (zb4_226 (hc S hS).1 (hc S hS).2 hx1 (cR_n hS).1.1 (cR_n hS).1.2.1 (cR_n hS).1.2.2 (cR_n hS).2.1 (cR_tt hS) hS.2.2.1.1 hS.2.2.1.2.1 hA.2.1 hT8 (by rw [u.2.2.2.2.1]; exact n4) n1 (by rw [u.2.2.2.2.2]; exact n2) (by rw [u.2.2.2.2.2]; exact n3) (cR_56 hS h56) hh hx2 hxo hy rfl hm0 (by rw [u.2.2.2.2.1]; exact hm)) (fun o Z z => ?_)
      obtain ⟨z1, z2, z3, z4, z5, z6, z7, z8⟩ := z
      rw [u.2.2.2.2.2] at z4 z5
      exact ⟨z1, z2, z3, z4, z5, z8 hS.2.2.1.2.2, cCw_5 hS z6.1 z6.2 z7⟩
    · obtain ⟨sl, hW⟩ := hS.1.2.2.1.1
      have u := rR_u hS
      refine rtu_mo (rnb4 (hq S hS).1 (hq S hS).2.2 (hq S hS).2.1 hS.1.2.2.2.1.1 hS.1.2.2.2.1.2.2.1 hW hS.1.2.2.1.2 hA.2.1 hT8 (rR_82 hS hu.2.1.2.1) (by rw [u.2.2.2.2.1]; exact n4) n1 (by rw [u.2.2.2.2.2.1]; exact n2) (by rw [u.2.2.2.2.2.1]; exact n3) hh hx2 hxo hy rfl hm0 (by rw [u.2.2.2.2.1]; exact hm)) (fun Z dn z => ?_)
      obtain ⟨z1, z2, z3, z4, z5, z6, z7⟩ := z
      rw [u.2.2.2.2.2.1] at z4
      exact ⟨z1, z2, z3, ⟨_, z4⟩, z5, rCw_5 hS z6.1 z6.2 z7⟩

end Wkl
