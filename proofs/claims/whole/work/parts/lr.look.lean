/-! PART lr: looking at things, on both sides: what is written. -/
section Wlr
variable {Sb : wS} {xs : List (Nat × List Int32)} {d : Nat} {S0 S Z : wS} {p w m : Nat} {HT : Int → Int} {cs : List hCR} {ms : List hMR} {os : Int → List Int} {X : List (List Int)} {mo t n B B2 oq : Int} {fa : Int → Int} {WE : aA → Prop} {A A2 : aA} {K2 : aK} {ml : List Nat} {k c s kd nms ne ec bh nm en : Int} {b ba : Nat} {ar : List aV} {e : aE} {V Z2 Y : wS} {o : wO} {dn : Int} {H2 : List aH} {N2 : List (List Int)} {E2 : Int → List aE} {C2 : List aQ} {W2 : Int} {c2 : Int → Int} {k2 : Int → Int → Int} {mk rk : Nat → Int → Prop} {K : aK} {T : List aO} {H : List aH} {E : Int → List aE} {gk gb es lo hi a : Int} {r : List aE × Int × Option aE} {A1 : aA} {tl cl : List Int} {sl : Nat → List Int} {L : List aC} {G : Int → aV} {u : aV} {x : List Int} {T2 : List aO} {L2 : List aC} {G2 : Int → aV} {H2 : List aH} {c2 : Int → Int} {y : Int} {Q : wO → wS → Prop} {ps : List (Int × aV)} {k hd wh : Int} {f a9 pn fn md : Int} {vn m9 : Nat} {th : aV} {g : Int} {lp : List aV} {l ds fo g : Int} {mk : Nat → Int → Prop} {C2 : List aQ} {W2 : Int} {RZ : wS → Prop} {N3 : Nat} {SB : wS} {r r0 : Int}

theorem cks_215 (h : hyA S0 p HT cs ms os X fa n B2 215 0 A s kd nms ne ec bh ba ar) (hL9 : stL S0) (hx1 : pe_at (pe_GA xs).xs 1 = some (1, tx_1)) (hkd : kd = 1 ∨ kd = 3) (hgk : ((a_K A 0).1.getD ba (0, 0, [])).1 = 4 ∨ ((a_K A 0).1.getD ba (0, 0, [])).1 = 5) (hnm : 0 ≤ nm ∧ nm ≤ 100000) (hne : nmE kd nms nm) (hrr : (aIx (a_T A) nm ((a_K A 0).1.getD ba (0, 0, [])).2.1 ≠ -1 ∧ r = -1) ∨ (aIx (a_T A) nm ((a_K A 0).1.getD ba (0, 0, [])).2.1 = -1 ∧ 0 ≤ r ∧ r = aFs (tO (a_T A) ((a_K A 0).1.getD ba (0, 0, [])).2.1).2.1 (qPr (a_H A) (tO (a_T A) ((a_K A 0).1.getD ba (0, 0, [])).2.1).2.1) nm (a_H A) 0)) (hact : cAct xs d S0 p HT cs ms os X mo 215 (u_N (u_Q A (a_H A) (a_C A) (a_W A) 0 0) s (stE (a_T A) kd nm ((a_K A 0).1.getD ba (0, 0, [])).2.1 (a_c A 11) r)) s kd nms ec ba ((a_K A 0).1.getD ba (0, 0, [])).1 nm es (stE (a_T A) kd nm ((a_K A 0).1.getD ba (0, 0, [])).2.1 (a_c A 11) r) c A2) : cLook xs d S0 p HT cs ms os X mo 215 A s kd ec ba ((a_K A 0).1.getD ba (0, 0, [])).1 nm es c A2 := fun Y hY ha => by
  have hT8 := hA_T h
  obtain ⟨go1, go2, go3⟩ := gO h hgk
  obtain ⟨⟨b1, b2, b3, b4, b5⟩, ⟨l4, l7, l9, l10, l11, l13, l14⟩, hfo, b11, b15, b16⟩ := cB_0 h hY ha (by omega)
  obtain ⟨⟨hp, hw, hx⟩, hA, hB, ⟨hr, ho⟩, hsi, hme⟩ := id h
  have h11 := hA.2.2.2.2.1.2.2.2.2.2.1.1
  have h4 := hA.2.2.2.2.1.2.2.2.2.1
  refine cLk0_215 (mk := fun _ _ => False) (RZ := fun Z => cEc Z kd nms (stE (a_T A) kd nm ((a_K A 0).1.getD ba (0, 0, [])).2.1 (a_c A 11) r) (Y 158 14) ∧ ∀ (j : Nat) (x : Int), ¬ (48 ≤ j ∧ j ≤ 56 ∧ x = Y 158 14) → Z j x = (bkZ (Y 158 14) 0 (w_up Y 160 0 (Y 160 0 + 1))) j x) (A1 := (u_Q A (a_H A) (a_C A) (a_W A) 0 0)) (e := (stE (a_T A) kd nm ((a_K A 0).1.getD ba (0, 0, [])).2.1 (a_c A 11) r)) h hL9 hgk ⟨go1.1.1, by have := go1.1.2; omega⟩ (fun _ _ z => z.elim) hY ha (wJ_mono (wJ_M (lats_215 (d := d + 86) (L := a_L A) (G := a_G A) (r0 := aFs (tO (a_T A) ((a_K A 0).1.getD ba (0, 0, [])).2.1).2.1 (qPr (a_H A) (tO (a_T A) ((a_K A 0).1.getD ba (0, 0, [])).2.1).2.1) nm (a_H A) 0) b1 b3 b4 l4 l7 l9 l10 l11 l13 l14 hfo hT8 go1 b5 hA.2.1 hnm hne b11 (by omega) bkZ_b hkd b2 hx1 (by omega) rfl) (mS_sM (by first | decide | omega))) (fun o Z hz => ⟨hz.1, ?_⟩)) (fun Z hz => ?_) rfl rfl (fun _ => hact)
  · rcases hz.2 with ⟨a1, a2, a3⟩ | ⟨a1, a2, a3, a4⟩ | ⟨a1, a2, a3⟩ | ⟨a1, a2, a3⟩
    · rcases hrr with ⟨q1, rfl⟩ | q
      · exact ⟨a2, a3⟩
      · exact absurd q.1 a1
    · rcases hrr with q | ⟨q1, q2, rfl⟩
      · exact absurd a1 q.1
      · exact ⟨a3, a4⟩
    · exfalso
      rcases hrr with q | q
      · exact q.1 a1
      · omega
    · exfalso
      rcases hrr with q | q
      · exact q.1 a1
      · omega
  · obtain ⟨r1, r2, r3⟩ := lk_pl (l := 0) hp hw hY (by first | decide | omega) hfo.1 (fun j x a1 _ => hz.2 j x a1)
    exact ⟨r1, r2, Or.inl ⟨(hz.2 215 16 (by omega)).trans b16, hz.1, r3⟩⟩
theorem c99_215 (h : hyA S0 p HT cs ms os X fa n B2 215 0 A s kd nms ne ec bh ba ar) (hL9 : stL S0) (hx1 : pe_at (pe_GA xs).xs 1 = some (1, tx_1)) (hkd : kd = 1 ∨ kd = 3) (hgk : ((a_K A 0).1.getD ba (0, 0, [])).1 = 4 ∨ ((a_K A 0).1.getD ba (0, 0, [])).1 = 5) (hnm : 0 ≤ nm ∧ nm ≤ 100000) (hne : nmE kd nms nm) (hrr : aIx (a_T A) nm ((a_K A 0).1.getD ba (0, 0, [])).2.1 = -1 ∧ aFs (tO (a_T A) ((a_K A 0).1.getD ba (0, 0, [])).2.1).2.1 (qPr (a_H A) (tO (a_T A) ((a_K A 0).1.getD ba (0, 0, [])).2.1).2.1) nm (a_H A) 0 = -1 ∧ 4000 ≤ a_c A 4) : cLook xs d S0 p HT cs ms os X mo 215 A s kd ec ba ((a_K A 0).1.getD ba (0, 0, [])).1 nm es 99 (u_Q A (a_H A) (a_C A) (a_W A) 0 0) := by
  have hT8 := hA_T h
  obtain ⟨go1, go2, go3⟩ := gO h hgk
  refine cxe_215 h hL9 hgk (by first | decide | omega) (fun Y hY ha => ?_)
  obtain ⟨⟨b1, b2, b3, b4, b5⟩, ⟨l4, l7, l9, l10, l11, l13, l14⟩, hfo, b11, b15, b16⟩ := cB_0 h hY ha (by omega)
  obtain ⟨⟨hp, hw, hx⟩, hA, hB, ⟨hr, ho⟩, hsi, hme⟩ := id h
  have h11 := hA.2.2.2.2.1.2.2.2.2.2.1.1
  have h4 := hA.2.2.2.2.1.2.2.2.2.1
  refine wJ_mono (wJ_M (lats_215 (d := d + 86) (L := a_L A) (G := a_G A) (r0 := aFs (tO (a_T A) ((a_K A 0).1.getD ba (0, 0, [])).2.1).2.1 (qPr (a_H A) (tO (a_T A) ((a_K A 0).1.getD ba (0, 0, [])).2.1).2.1) nm (a_H A) 0) b1 b3 b4 l4 l7 l9 l10 l11 l13 l14 hfo hT8 go1 b5 hA.2.1 hnm hne b11 (by omega) bkZ_b hkd b2 hx1 (by omega) rfl) (mS_sM (by first | decide | omega))) (fun o Z hz => ⟨hz.1, ?_⟩)
  rcases hz.2 with ⟨a1, a2, a3⟩ | ⟨a1, a2, a3, a4⟩ | ⟨a1, a2, a3, a4⟩ | ⟨a1, a2, a3, a4, a5⟩
  · exact absurd hrr.1 a1
  · omega
  · omega
  · exact ⟨a4, fun j x q1 q2 => a5 j x (by unfold latM; omega)⟩
theorem ckn_215 (h : hyA S0 p HT cs ms os X fa n B2 215 0 A s kd nms ne ec bh ba ar) (hL9 : stL S0) (hx1 : pe_at (pe_GA xs).xs 1 = some (1, tx_1)) (hkd : kd = 1 ∨ kd = 3) (hgk : ((a_K A 0).1.getD ba (0, 0, [])).1 = 4 ∨ ((a_K A 0).1.getD ba (0, 0, [])).1 = 5) (hnm : 0 ≤ nm ∧ nm ≤ 100000) (hne : nmE kd nms nm) (hrr : aIx (a_T A) nm ((a_K A 0).1.getD ba (0, 0, [])).2.1 = -1 ∧ aFs (tO (a_T A) ((a_K A 0).1.getD ba (0, 0, [])).2.1).2.1 (qPr (a_H A) (tO (a_T A) ((a_K A 0).1.getD ba (0, 0, [])).2.1).2.1) nm (a_H A) 0 = -1 ∧ a_c A 4 < 4000) (hact : cAct xs d S0 p HT cs ms os X mo 215 (u_N (u_Q A (a_H A ++ [(qPr (a_H A) (tO (a_T A) ((a_K A 0).1.getD ba (0, 0, [])).2.1).2.1, (tO (a_T A) ((a_K A 0).1.getD ba (0, 0, [])).2.1).2.1, nm, qSz (a_H A) (tO (a_T A) ((a_K A 0).1.getD ba (0, 0, [])).2.1).2.1 + 1)]) (a_C A) (a_W A) 0 1) s (stE (a_T A) kd nm ((a_K A 0).1.getD ba (0, 0, [])).2.1 (a_c A 11) ((a_H A).length : Int))) s kd nms ec ba ((a_K A 0).1.getD ba (0, 0, [])).1 nm es (stE (a_T A) kd nm ((a_K A 0).1.getD ba (0, 0, [])).2.1 (a_c A 11) ((a_H A).length : Int)) c A2) : cLook xs d S0 p HT cs ms os X mo 215 A s kd ec ba ((a_K A 0).1.getD ba (0, 0, [])).1 nm es c A2 := fun Y hY ha => by
  have hT8 := hA_T h
  obtain ⟨go1, go2, go3⟩ := gO h hgk
  obtain ⟨⟨b1, b2, b3, b4, b5⟩, ⟨l4, l7, l9, l10, l11, l13, l14⟩, hfo, b11, b15, b16⟩ := cB_0 h hY ha (by omega)
  obtain ⟨⟨hp, hw, hx⟩, hA, hB, ⟨hr, ho⟩, hsi, hme⟩ := id h
  have h11 := hA.2.2.2.2.1.2.2.2.2.2.1.1
  have h4 := hA.2.2.2.2.1.2.2.2.2.1
  have hmk : mkL (fun (j : Nat) (x : Int) => (144 ≤ j ∧ j ≤ 149) ∨ (j = 72 ∧ x = 8) ∨ (j = 150 ∧ x = 4)) := fun j x hm => by omega
  refine cLk0_215 (mk := (fun (j : Nat) (x : Int) => (144 ≤ j ∧ j ≤ 149) ∨ (j = 72 ∧ x = 8) ∨ (j = 150 ∧ x = 4))) (RZ := fun Z => cEc Z kd nms (stE (a_T A) kd nm ((a_K A 0).1.getD ba (0, 0, [])).2.1 (a_c A 11) ((a_H A).length : Int)) (Y 158 14) ∧ ∃ P9 B9 : wS, (∀ (j : Nat) (x : Int), ¬ (48 ≤ j ∧ j ≤ 56 ∧ x = Y 158 14) → P9 j x = (bkZ (Y 158 14) 0 (w_up Y 160 0 (Y 160 0 + 1))) j x) ∧ gI P9 ∧ rmR (bkZ (Y 158 14) 0 (w_up Y 160 0 (Y 160 0 + 1))) P9 ∧ ns_ag ((a_H A).length : Int) (qPr (a_H A) (tO (a_T A) ((a_K A 0).1.getD ba (0, 0, [])).2.1).2.1) (tO (a_T A) ((a_K A 0).1.getD ba (0, 0, [])).2.1).2.1 nm P9 B9 ∧ ∀ (j : Nat) (x : Int), ¬ (j = 52 ∧ x = Y 158 14) → Z j x = B9 j x) (A1 := (u_Q A (a_H A ++ [(qPr (a_H A) (tO (a_T A) ((a_K A 0).1.getD ba (0, 0, [])).2.1).2.1, (tO (a_T A) ((a_K A 0).1.getD ba (0, 0, [])).2.1).2.1, nm, qSz (a_H A) (tO (a_T A) ((a_K A 0).1.getD ba (0, 0, [])).2.1).2.1 + 1)]) (a_C A) (a_W A) 0 1)) (e := (stE (a_T A) kd nm ((a_K A 0).1.getD ba (0, 0, [])).2.1 (a_c A 11) ((a_H A).length : Int))) h hL9 hgk ⟨go1.1.1, by have := go1.1.2; omega⟩ hmk hY ha (wJ_mono (wJ_M (lats_215 (d := d + 86) (L := a_L A) (G := a_G A) (r0 := aFs (tO (a_T A) ((a_K A 0).1.getD ba (0, 0, [])).2.1).2.1 (qPr (a_H A) (tO (a_T A) ((a_K A 0).1.getD ba (0, 0, [])).2.1).2.1) nm (a_H A) 0) b1 b3 b4 l4 l7 l9 l10 l11 l13 l14 hfo hT8 go1 b5 hA.2.1 hnm hne b11 (by omega) bkZ_b hkd b2 hx1 (by omega) rfl) (mS_sM (by first | decide | omega))) (fun o Z hz => ⟨hz.1, ?_⟩)) (fun Z hz => ?_) rfl rfl (fun _ => hact)
  · rcases hz.2 with ⟨a1, a2, a3⟩ | ⟨a1, a2, a3, a4⟩ | ⟨a1, a2, a3, a4, a5⟩ | ⟨a1, a2, a3⟩
    · exact absurd hrr.1 a1
    · omega
    · exact ⟨a4, a5⟩
    · omega
  · obtain ⟨z1, P9, B9, p1, p2, p3, p4, p5⟩ := hz
    have pm : ∀ k : Nat, P9 k (-1) = (bkZ (Y 158 14) 0 (w_up Y 160 0 (Y 160 0 + 1))) k (-1) := fun k => p1 k (-1) (by have := hfo.1; omega)
    have zm : ∀ k : Nat, Z k (-1) = B9 k (-1) := fun k => p5 k (-1) (by have := hfo.1; omega)
    have pCL : w_CL P9 := fun q hq => (pm q.1).trans (b1 q hq)
    have bCL := CL_ns pCL p4
    have pSw : cSw P9 (a_T A) (a_H A) := cSw_ag b5 (fun j x hj => p1 j x (by omega))
    have bSw := cSw_ns pSw hA.2.1 go3 hrr.2.1 (by omega) p4
    have zSw : cSw Z (a_T A) (a_H A ++ [(qPr (a_H A) (tO (a_T A) ((a_K A 0).1.getD ba (0, 0, [])).2.1).2.1, (tO (a_T A) ((a_K A 0).1.getD ba (0, 0, [])).2.1).2.1, nm, qSz (a_H A) (tO (a_T A) ((a_K A 0).1.getD ba (0, 0, [])).2.1).2.1 + 1)]) := cSw_ag bSw (fun j x hj => p5 j x (by omega))
    obtain ⟨n1, n2, n3, n4, n5, n6, n7⟩ := p4
    have zCL : w_CL Z := fun q hq => (zm q.1).trans (bCL q hq)
    have fr : ∀ (j : Nat) (x : Int), j < 4000000 → j ≠ wG → ¬ (48 ≤ j ∧ j ≤ 56 ∧ x = Y 158 14) → (j ≠ 215 ∨ x ≠ 16) → ¬ (fun (j : Nat) (x : Int) => (144 ≤ j ∧ j ≤ 149) ∨ (j = 72 ∧ x = 8) ∨ (j = 150 ∧ x = 4)) j x → Z j x = (bkZ (Y 158 14) 0 (w_up Y 160 0 (Y 160 0 + 1))) j x := fun j x j0 j1 q1 _ hm => by
      replace hm : ¬ ((144 ≤ j ∧ j ≤ 149) ∨ (j = 72 ∧ x = 8) ∨ (j = 150 ∧ x = 4)) := hm
      rw [p5 j x (by omega), n5 j x j0 j1 (by omega) (by omega) (by omega) (by omega)]
      exact p1 j x q1
    have hg : wG = 1000000 := rfl
    have hF : lkF 215 (Y 158 14) (fun (j : Nat) (x : Int) => (144 ≤ j ∧ j ≤ 149) ∨ (j = 72 ∧ x = 8) ∨ (j = 150 ∧ x = 4)) (bkZ (Y 158 14) 0 (w_up Y 160 0 (Y 160 0 + 1))) Z := ⟨fr, gI_eq n6 zm (fun x => p5 238 x (by omega)) (p5 14 5 (by omega)), rmR_tr p3 (rmR_ag n7 (fun k _ => zm k) (p5 wG 0 (by omega)) (p5 wG 1 (by omega)))⟩
    have g : ∀ (j : Nat) (x : Int), (j < 48 ∨ 57 < j) → (j < 144 ∨ 150 < j) → j ≠ 72 → j ≠ 160 → (j ≠ 215 ∨ x ≠ 16) → j < 1000 → Z j x = Y j x := fun j x q1 q2 q3 q4 q5 q6 => (fr j x (by omega) (by omega) (by omega) q5 (by omega)).trans (bk_f j x q1 (by omega))
    refine ⟨hF, zCL, Or.inl ⟨?_, z1, ?_⟩⟩
    · rw [p5 215 16 (by omega), n5 215 16 (by first | decide | omega) (by first | decide | omega) (by omega) (by omega) (by omega) (by omega), p1 215 16 (by omega)]
      exact b16
    · refine lk_R (l := 0) (ds := 1) (mk := (fun (j : Nat) (x : Int) => (144 ≤ j ∧ j ≤ 149) ∨ (j = 72 ∧ x = 8) ∨ (j = 150 ∧ x = 4))) hp hw hY rfl hfo.1 (by first | decide | omega) hmk (fun j x hm => hm.elim (fun z => Or.inr (Or.inr (Or.inr (Or.inr (Or.inr (Or.inl z)))))) (fun z => z.elim (fun z => Or.inr (Or.inr (Or.inr (Or.inr (Or.inl z))))) (fun z => Or.inr (Or.inr (Or.inr (Or.inr (Or.inr (Or.inr (Or.inl z))))))))) (fun x hx hm => by omega) hF zCL zSw (cCh_ag hY.2.2.2.2.2.2.1.1 (fun j x hj => g j x (by omega) (by omega) (by omega) (by omega) (by omega) (by omega))) ?_
      rw [p5 150 4 (by omega), n1.2, p1 150 4 (by omega), b15]

theorem cks_226 (h : hyA S0 p HT cs ms os X fa n B2 226 1 A s kd nms ne ec bh ba ar) (hL9 : stL S0) (hx1 : pe_at (pe_GA xs).xs 1 = some (1, tx_1)) (hkd : kd = 1 ∨ kd = 3) (hgk : ((a_K A 1).1.getD ba (0, 0, [])).1 = 4 ∨ ((a_K A 1).1.getD ba (0, 0, [])).1 = 5) (hnm : 0 ≤ nm ∧ nm ≤ 100000) (hne : nmE kd nms nm) (hrr : (aIx (a_T A) nm ((a_K A 1).1.getD ba (0, 0, [])).2.1 ≠ -1 ∧ r = -1) ∨ (aIx (a_T A) nm ((a_K A 1).1.getD ba (0, 0, [])).2.1 = -1 ∧ 0 ≤ r ∧ r = aFs (tO (a_T A) ((a_K A 1).1.getD ba (0, 0, [])).2.1).2.1 (qPr (a_H A) (tO (a_T A) ((a_K A 1).1.getD ba (0, 0, [])).2.1).2.1) nm (a_H A) 0)) (hact : cAct xs d S0 p HT cs ms os X mo 226 (u_N (u_Q A (a_H A) (a_C A) (a_W A) 0 0) s (stE (a_T A) kd nm ((a_K A 1).1.getD ba (0, 0, [])).2.1 (a_c A 11) r)) s kd nms ec ba ((a_K A 1).1.getD ba (0, 0, [])).1 nm es (stE (a_T A) kd nm ((a_K A 1).1.getD ba (0, 0, [])).2.1 (a_c A 11) r) c A2) : cLook xs d S0 p HT cs ms os X mo 226 A s kd ec ba ((a_K A 1).1.getD ba (0, 0, [])).1 nm es c A2 := fun Y hY ha => by
  have hT8 := hA_T h
  obtain ⟨go1, go2, go3⟩ := gO h hgk
  obtain ⟨⟨b1, b2, b3, b4, b5⟩, ⟨l4, l7, l9, l10, l11, l13, l14⟩, hfo, b11, b15, b16⟩ := cB_0 h hY ha (by omega)
  obtain ⟨⟨hp, hw, hx⟩, hA, hB, ⟨hr, ho⟩, hsi, hme⟩ := id h
  have h11 := hA.2.2.2.2.1.2.2.2.2.2.1.1
  have h4 := hA.2.2.2.2.1.2.2.2.2.1
  refine cLk0_226 (mk := fun _ _ => False) (RZ := fun Z => cEc Z kd nms (stE (a_T A) kd nm ((a_K A 1).1.getD ba (0, 0, [])).2.1 (a_c A 11) r) (Y 158 14) ∧ ∀ (j : Nat) (x : Int), ¬ (48 ≤ j ∧ j ≤ 56 ∧ x = Y 158 14) → Z j x = (bkZ (Y 158 14) 0 (w_up Y 160 0 (Y 160 0 + 1))) j x) (A1 := (u_Q A (a_H A) (a_C A) (a_W A) 0 0)) (e := (stE (a_T A) kd nm ((a_K A 1).1.getD ba (0, 0, [])).2.1 (a_c A 11) r)) h hL9 hgk ⟨go1.1.1, by have := go1.1.2; omega⟩ (fun _ _ z => z.elim) hY ha (wJ_mono (wJ_M (lats_226 (d := d + 86) (L := a_L A) (G := a_G A) (r0 := aFs (tO (a_T A) ((a_K A 1).1.getD ba (0, 0, [])).2.1).2.1 (qPr (a_H A) (tO (a_T A) ((a_K A 1).1.getD ba (0, 0, [])).2.1).2.1) nm (a_H A) 0) b1 b3 b4 l4 l7 l9 l10 l11 l13 l14 hfo hT8 go1 b5 hA.2.1 hnm hne b11 (by omega) bkZ_b hkd b2 hx1 (by omega) rfl) (mS_sM (by first | decide | omega))) (fun o Z hz => ⟨hz.1, ?_⟩)) (fun Z hz => ?_) rfl rfl (fun _ => hact)
  · rcases hz.2 with ⟨a1, a2, a3⟩ | ⟨a1, a2, a3, a4⟩ | ⟨a1, a2, a3⟩ | ⟨a1, a2, a3⟩
    · rcases hrr with ⟨q1, rfl⟩ | q
      · exact ⟨a2, a3⟩
      · exact absurd q.1 a1
    · rcases hrr with q | ⟨q1, q2, rfl⟩
      · exact absurd a1 q.1
      · exact ⟨a3, a4⟩
    · exfalso
      rcases hrr with q | q
      · exact q.1 a1
      · omega
    · exfalso
      rcases hrr with q | q
      · exact q.1 a1
      · omega
  · obtain ⟨r1, r2, r3⟩ := lk_pl (l := 0) hp hw hY (by first | decide | omega) hfo.1 (fun j x a1 _ => hz.2 j x a1)
    exact ⟨r1, r2, Or.inl ⟨(hz.2 226 16 (by omega)).trans b16, hz.1, r3⟩⟩
theorem c99_226 (h : hyA S0 p HT cs ms os X fa n B2 226 1 A s kd nms ne ec bh ba ar) (hL9 : stL S0) (hx1 : pe_at (pe_GA xs).xs 1 = some (1, tx_1)) (hkd : kd = 1 ∨ kd = 3) (hgk : ((a_K A 1).1.getD ba (0, 0, [])).1 = 4 ∨ ((a_K A 1).1.getD ba (0, 0, [])).1 = 5) (hnm : 0 ≤ nm ∧ nm ≤ 100000) (hne : nmE kd nms nm) (hrr : aIx (a_T A) nm ((a_K A 1).1.getD ba (0, 0, [])).2.1 = -1 ∧ aFs (tO (a_T A) ((a_K A 1).1.getD ba (0, 0, [])).2.1).2.1 (qPr (a_H A) (tO (a_T A) ((a_K A 1).1.getD ba (0, 0, [])).2.1).2.1) nm (a_H A) 0 = -1 ∧ 4000 ≤ a_c A 4) : cLook xs d S0 p HT cs ms os X mo 226 A s kd ec ba ((a_K A 1).1.getD ba (0, 0, [])).1 nm es 99 (u_Q A (a_H A) (a_C A) (a_W A) 0 0) := by
  have hT8 := hA_T h
  obtain ⟨go1, go2, go3⟩ := gO h hgk
  refine cxe_226 h hL9 hgk (by first | decide | omega) (fun Y hY ha => ?_)
  obtain ⟨⟨b1, b2, b3, b4, b5⟩, ⟨l4, l7, l9, l10, l11, l13, l14⟩, hfo, b11, b15, b16⟩ := cB_0 h hY ha (by omega)
  obtain ⟨⟨hp, hw, hx⟩, hA, hB, ⟨hr, ho⟩, hsi, hme⟩ := id h
  have h11 := hA.2.2.2.2.1.2.2.2.2.2.1.1
  have h4 := hA.2.2.2.2.1.2.2.2.2.1
  refine wJ_mono (wJ_M (lats_226 (d := d + 86) (L := a_L A) (G := a_G A) (r0 := aFs (tO (a_T A) ((a_K A 1).1.getD ba (0, 0, [])).2.1).2.1 (qPr (a_H A) (tO (a_T A) ((a_K A 1).1.getD ba (0, 0, [])).2.1).2.1) nm (a_H A) 0) b1 b3 b4 l4 l7 l9 l10 l11 l13 l14 hfo hT8 go1 b5 hA.2.1 hnm hne b11 (by omega) bkZ_b hkd b2 hx1 (by omega) rfl) (mS_sM (by first | decide | omega))) (fun o Z hz => ⟨hz.1, ?_⟩)
  rcases hz.2 with ⟨a1, a2, a3⟩ | ⟨a1, a2, a3, a4⟩ | ⟨a1, a2, a3, a4⟩ | ⟨a1, a2, a3, a4, a5⟩
  · exact absurd hrr.1 a1
  · omega
  · omega
  · exact ⟨a4, fun j x q1 q2 => a5 j x (by unfold latM; omega)⟩
theorem ckn_226 (h : hyA S0 p HT cs ms os X fa n B2 226 1 A s kd nms ne ec bh ba ar) (hL9 : stL S0) (hx1 : pe_at (pe_GA xs).xs 1 = some (1, tx_1)) (hkd : kd = 1 ∨ kd = 3) (hgk : ((a_K A 1).1.getD ba (0, 0, [])).1 = 4 ∨ ((a_K A 1).1.getD ba (0, 0, [])).1 = 5) (hnm : 0 ≤ nm ∧ nm ≤ 100000) (hne : nmE kd nms nm) (hrr : aIx (a_T A) nm ((a_K A 1).1.getD ba (0, 0, [])).2.1 = -1 ∧ aFs (tO (a_T A) ((a_K A 1).1.getD ba (0, 0, [])).2.1).2.1 (qPr (a_H A) (tO (a_T A) ((a_K A 1).1.getD ba (0, 0, [])).2.1).2.1) nm (a_H A) 0 = -1 ∧ a_c A 4 < 4000) (hact : cAct xs d S0 p HT cs ms os X mo 226 (u_N (u_Q A (a_H A ++ [(qPr (a_H A) (tO (a_T A) ((a_K A 1).1.getD ba (0, 0, [])).2.1).2.1, (tO (a_T A) ((a_K A 1).1.getD ba (0, 0, [])).2.1).2.1, nm, qSz (a_H A) (tO (a_T A) ((a_K A 1).1.getD ba (0, 0, [])).2.1).2.1 + 1)]) (a_C A) (a_W A) 0 1) s (stE (a_T A) kd nm ((a_K A 1).1.getD ba (0, 0, [])).2.1 (a_c A 11) ((a_H A).length : Int))) s kd nms ec ba ((a_K A 1).1.getD ba (0, 0, [])).1 nm es (stE (a_T A) kd nm ((a_K A 1).1.getD ba (0, 0, [])).2.1 (a_c A 11) ((a_H A).length : Int)) c A2) : cLook xs d S0 p HT cs ms os X mo 226 A s kd ec ba ((a_K A 1).1.getD ba (0, 0, [])).1 nm es c A2 := fun Y hY ha => by
  have hT8 := hA_T h
  obtain ⟨go1, go2, go3⟩ := gO h hgk
  obtain ⟨⟨b1, b2, b3, b4, b5⟩, ⟨l4, l7, l9, l10, l11, l13, l14⟩, hfo, b11, b15, b16⟩ := cB_0 h hY ha (by omega)
  obtain ⟨⟨hp, hw, hx⟩, hA, hB, ⟨hr, ho⟩, hsi, hme⟩ := id h
  have h11 := hA.2.2.2.2.1.2.2.2.2.2.1.1
  have h4 := hA.2.2.2.2.1.2.2.2.2.1
  have hmk : mkL (fun (j : Nat) (x : Int) => (144 ≤ j ∧ j ≤ 149) ∨ (j = 72 ∧ x = 8) ∨ (j = 150 ∧ x = 4)) := fun j x hm => by omega
  refine cLk0_226 (mk := (fun (j : Nat) (x : Int) => (144 ≤ j ∧ j ≤ 149) ∨ (j = 72 ∧ x = 8) ∨ (j = 150 ∧ x = 4))) (RZ := fun Z => cEc Z kd nms (stE (a_T A) kd nm ((a_K A 1).1.getD ba (0, 0, [])).2.1 (a_c A 11) ((a_H A).length : Int)) (Y 158 14) ∧ ∃ P9 B9 : wS, (∀ (j : Nat) (x : Int), ¬ (48 ≤ j ∧ j ≤ 56 ∧ x = Y 158 14) → P9 j x = (bkZ (Y 158 14) 0 (w_up Y 160 0 (Y 160 0 + 1))) j x) ∧ gI P9 ∧ rmR (bkZ (Y 158 14) 0 (w_up Y 160 0 (Y 160 0 + 1))) P9 ∧ ns_ag ((a_H A).length : Int) (qPr (a_H A) (tO (a_T A) ((a_K A 1).1.getD ba (0, 0, [])).2.1).2.1) (tO (a_T A) ((a_K A 1).1.getD ba (0, 0, [])).2.1).2.1 nm P9 B9 ∧ ∀ (j : Nat) (x : Int), ¬ (j = 52 ∧ x = Y 158 14) → Z j x = B9 j x) (A1 := (u_Q A (a_H A ++ [(qPr (a_H A) (tO (a_T A) ((a_K A 1).1.getD ba (0, 0, [])).2.1).2.1, (tO (a_T A) ((a_K A 1).1.getD ba (0, 0, [])).2.1).2.1, nm, qSz (a_H A) (tO (a_T A) ((a_K A 1).1.getD ba (0, 0, [])).2.1).2.1 + 1)]) (a_C A) (a_W A) 0 1)) (e := (stE (a_T A) kd nm ((a_K A 1).1.getD ba (0, 0, [])).2.1 (a_c A 11) ((a_H A).length : Int))) h hL9 hgk ⟨go1.1.1, by have := go1.1.2; omega⟩ hmk hY ha (wJ_mono (wJ_M (lats_226 (d := d + 86) (L := a_L A) (G := a_G A) (r0 := aFs (tO (a_T A) ((a_K A 1).1.getD ba (0, 0, [])).2.1).2.1 (qPr (a_H A) (tO (a_T A) ((a_K A 1).1.getD ba (0, 0, [])).2.1).2.1) nm (a_H A) 0) b1 b3 b4 l4 l7 l9 l10 l11 l13 l14 hfo hT8 go1 b5 hA.2.1 hnm hne b11 (by omega) bkZ_b hkd b2 hx1 (by omega) rfl) (mS_sM (by first | decide | omega))) (fun o Z hz => ⟨hz.1, ?_⟩)) (fun Z hz => ?_) rfl rfl (fun _ => hact)
  · rcases hz.2 with ⟨a1, a2, a3⟩ | ⟨a1, a2, a3, a4⟩ | ⟨a1, a2, a3, a4, a5⟩ | ⟨a1, a2, a3⟩
    · exact absurd hrr.1 a1
    · omega
    · exact ⟨a4, a5⟩
    · omega
  · obtain ⟨z1, P9, B9, p1, p2, p3, p4, p5⟩ := hz
    have pm : ∀ k : Nat, P9 k (-1) = (bkZ (Y 158 14) 0 (w_up Y 160 0 (Y 160 0 + 1))) k (-1) := fun k => p1 k (-1) (by have := hfo.1; omega)
    have zm : ∀ k : Nat, Z k (-1) = B9 k (-1) := fun k => p5 k (-1) (by have := hfo.1; omega)
    have pCL : w_CL P9 := fun q hq => (pm q.1).trans (b1 q hq)
    have bCL := CL_ns pCL p4
    have pSw : cSw P9 (a_T A) (a_H A) := cSw_ag b5 (fun j x hj => p1 j x (by omega))
    have bSw := cSw_ns pSw hA.2.1 go3 hrr.2.1 (by omega) p4
    have zSw : cSw Z (a_T A) (a_H A ++ [(qPr (a_H A) (tO (a_T A) ((a_K A 1).1.getD ba (0, 0, [])).2.1).2.1, (tO (a_T A) ((a_K A 1).1.getD ba (0, 0, [])).2.1).2.1, nm, qSz (a_H A) (tO (a_T A) ((a_K A 1).1.getD ba (0, 0, [])).2.1).2.1 + 1)]) := cSw_ag bSw (fun j x hj => p5 j x (by omega))
    obtain ⟨n1, n2, n3, n4, n5, n6, n7⟩ := p4
    have zCL : w_CL Z := fun q hq => (zm q.1).trans (bCL q hq)
    have fr : ∀ (j : Nat) (x : Int), j < 4000000 → j ≠ wG → ¬ (48 ≤ j ∧ j ≤ 56 ∧ x = Y 158 14) → (j ≠ 226 ∨ x ≠ 16) → ¬ (fun (j : Nat) (x : Int) => (144 ≤ j ∧ j ≤ 149) ∨ (j = 72 ∧ x = 8) ∨ (j = 150 ∧ x = 4)) j x → Z j x = (bkZ (Y 158 14) 0 (w_up Y 160 0 (Y 160 0 + 1))) j x := fun j x j0 j1 q1 _ hm => by
      replace hm : ¬ ((144 ≤ j ∧ j ≤ 149) ∨ (j = 72 ∧ x = 8) ∨ (j = 150 ∧ x = 4)) := hm
      rw [p5 j x (by omega), n5 j x j0 j1 (by omega) (by omega) (by omega) (by omega)]
      exact p1 j x q1
    have hg : wG = 1000000 := rfl
    have hF : lkF 226 (Y 158 14) (fun (j : Nat) (x : Int) => (144 ≤ j ∧ j ≤ 149) ∨ (j = 72 ∧ x = 8) ∨ (j = 150 ∧ x = 4)) (bkZ (Y 158 14) 0 (w_up Y 160 0 (Y 160 0 + 1))) Z := ⟨fr, gI_eq n6 zm (fun x => p5 238 x (by omega)) (p5 14 5 (by omega)), rmR_tr p3 (rmR_ag n7 (fun k _ => zm k) (p5 wG 0 (by omega)) (p5 wG 1 (by omega)))⟩
    have g : ∀ (j : Nat) (x : Int), (j < 48 ∨ 57 < j) → (j < 144 ∨ 150 < j) → j ≠ 72 → j ≠ 160 → (j ≠ 226 ∨ x ≠ 16) → j < 1000 → Z j x = Y j x := fun j x q1 q2 q3 q4 q5 q6 => (fr j x (by omega) (by omega) (by omega) q5 (by omega)).trans (bk_f j x q1 (by omega))
    refine ⟨hF, zCL, Or.inl ⟨?_, z1, ?_⟩⟩
    · rw [p5 226 16 (by omega), n5 226 16 (by first | decide | omega) (by first | decide | omega) (by omega) (by omega) (by omega) (by omega), p1 226 16 (by omega)]
      exact b16
    · refine lk_R (l := 0) (ds := 1) (mk := (fun (j : Nat) (x : Int) => (144 ≤ j ∧ j ≤ 149) ∨ (j = 72 ∧ x = 8) ∨ (j = 150 ∧ x = 4))) hp hw hY rfl hfo.1 (by first | decide | omega) hmk (fun j x hm => hm.elim (fun z => Or.inr (Or.inr (Or.inr (Or.inr (Or.inr (Or.inl z)))))) (fun z => z.elim (fun z => Or.inr (Or.inr (Or.inr (Or.inr (Or.inl z))))) (fun z => Or.inr (Or.inr (Or.inr (Or.inr (Or.inr (Or.inr (Or.inl z))))))))) (fun x hx hm => by omega) hF zCL zSw (cCh_ag hY.2.2.2.2.2.2.1.1 (fun j x hj => g j x (by omega) (by omega) (by omega) (by omega) (by omega) (by omega))) ?_
      rw [p5 150 4 (by omega), n1.2, p1 150 4 (by omega), b15]

theorem rks (h : hyA S0 p HT cs ms os X fa n B2 w t A s kd nms ne ec bh ba ar) (hkd : kd = 1 ∨ kd = 3) (hgk : ((a_K A t).1.getD ba (0, 0, [])).1 = 4 ∨ ((a_K A t).1.getD ba (0, 0, [])).1 = 5) (hnm : 0 ≤ nm ∧ nm ≤ 100000) (hne : nm = if kd = 2 ∨ kd = 3 then en else nms) (hen : en = enE kd nm) (hrr : (aIx (a_T A) nm ((a_K A t).1.getD ba (0, 0, [])).2.1 ≠ -1 ∧ r = -1) ∨ (aIx (a_T A) nm ((a_K A t).1.getD ba (0, 0, [])).2.1 = -1 ∧ 0 ≤ r ∧ r = aFs (tO (a_T A) ((a_K A t).1.getD ba (0, 0, [])).2.1).2.1 (qPr (a_H A) (tO (a_T A) ((a_K A t).1.getD ba (0, 0, [])).2.1).2.1) nm (a_H A) 0)) : ∀ {Sb : wS} (Y : wS), rRun S0 Sb HT cs ms os X mo t A Y → rAim t (a_K A t) ba bh en Y → wJ (pe_GA xs) wY0 (fun _ => False) (d + 90) t_M_looks ((pe_at t_M_looks.bl 0).getD (0, [])).2 [(0, (2, 237)), (1, (0, s)), (2, (0, 1))] [] Y (fun o Z => o = .inl none ∧ w_ML Z ∧ rRun S0 Sb HT cs ms os X mo t (u_Q A (a_H A) (a_C A) (a_W A) 0 0) Z ∧ rAim t (a_K A t) ba bh en Z ∧ (Z 237 166 = ((stE (a_T A) kd nm ((a_K A t).1.getD ba (0, 0, [])).2.1 (a_c A 11) r) : aE).1 ∧ Z 237 167 = ((stE (a_T A) kd nm ((a_K A t).1.getD ba (0, 0, [])).2.1 (a_c A 11) r) : aE).2.1 ∧ Z 237 177 = ((stE (a_T A) kd nm ((a_K A t).1.getD ba (0, 0, [])).2.1 (a_c A 11) r) : aE).2.2.1 ∧ Z 237 169 = ((stE (a_T A) kd nm ((a_K A t).1.getD ba (0, 0, [])).2.1 (a_c A 11) r) : aE).2.2.2.1 ∧ Z 237 170 = ((stE (a_T A) kd nm ((a_K A t).1.getD ba (0, 0, [])).2.1 (a_c A 11) r) : aE).2.2.2.2.1 ∧ Z 237 171 = ((stE (a_T A) kd nm ((a_K A t).1.getD ba (0, 0, [])).2.1 (a_c A 11) r) : aE).2.2.2.2.2.1 ∧ Z 237 81 = ((stE (a_T A) kd nm ((a_K A t).1.getD ba (0, 0, [])).2.1 (a_c A 11) r) : aE).2.2.2.2.2.2.1) ∧ Z 237 172 = ((0 : Nat) : Int)) := fun Y hY ha => by
  have hT8 := hA_T h
  have hl9 := hl_A h
  obtain ⟨go1, go2, go3⟩ := gO h hgk
  obtain ⟨⟨b1, b2, ⟨sl, b3⟩, b4⟩, ⟨b5, b6, b7, b8⟩, b9, b10, b11, b12, b13⟩ := rB_0 h hY ha (by omega)
  obtain ⟨y1, y2, y3, y4, y5, y6⟩ := lx_v (Y := Y) (l := 0)
  obtain ⟨k0, k4, k5, k6⟩ := s_4 h hY
  obtain ⟨⟨hp, hw, hx⟩, hA, hB, ⟨hr, ho⟩, hsi, hme⟩ := id h
  have ht := wt_t hw
  have h4 := hA.2.2.2.2.1.2.2.2.2.1
  refine rlk0 (d := d + 82) hY.1.1 k0 k4 ha.2.2.1 hgk (Or.inr rfl) (ak_0 h hY (by first | decide | omega)) (wJ_mono (rls_ok (d := d + 85) (r0 := aFs (tO (a_T A) ((a_K A t).1.getD ba (0, 0, [])).2.1).2.1 (qPr (a_H A) (tO (a_T A) ((a_K A t).1.getD ba (0, 0, [])).2.1).2.1) nm (a_H A) 0) (u4 := a_c A 4) b2 b3.1 b4 hA.2.1 hT8 b5 b6 b7 b8 y1 y2 y3 b9 b10 hne go1 hkd hnm (Or.inr rfl) b13 ⟨h4.1, h4.2.1⟩ h4.2.2 rfl) (fun o Z hz => ?_)) (fun o Z hz => Or.inl hz.1)
  have hz2 : o = .inl none ∧ ltQ (tO (a_T A) ((a_K A t).1.getD ba (0, 0, [])).2.1).2.1 (-1) (aIx (a_T A) nm ((a_K A t).1.getD ba (0, 0, [])).2.1) r (lkX 0 1 Y) Z := by
    rcases hz with ⟨a1, a2, a3⟩ | ⟨a1, a2, a3, a4⟩ | ⟨a1, a2, a3, a4⟩ | ⟨a1, a2, a3, a4⟩
    · rcases hrr with ⟨q1, rfl⟩ | q
      · exact ⟨a2, a3⟩
      · exact absurd q.1 a1
    · rcases hrr with q | ⟨q1, q2, rfl⟩
      · exact absurd a1 q.1
      · rw [q1]
        exact ⟨a3, a4⟩
    · exfalso
      rcases hrr with q | q
      · exact q.1 a1
      · omega
    · exfalso
      rcases hrr with q | q
      · exact q.1 a1
      · omega
  obtain ⟨z0, ⟨z1, z2, z3, z4⟩, z5, z6⟩ := hz2
  have g : ∀ (j : Nat) (x : Int), (j ≠ 237 ∨ (x < 167 ∨ 171 < x)) → Z j x = lkX 0 1 Y j x := fun j x hj => z5 j x (by omega)
  refine ⟨z0, z6, rRun_s (A := (u_Q A (a_H A) (a_C A) (a_W A) 0 0)) b1 ht hl9 (fun j x h1 _ _ _ _ => g j x (by omega)) z6, rA_k b11 (fun j x hj => g j x (by omega)), ⟨?_, z1, ?_, z2, z3, z4, ?_⟩, ?_⟩
  · exact (z5 237 166 (by omega)).trans y5
  · exact (g 237 177 (by omega)).trans (b8.trans hen)
  · exact (g 237 81 (by omega)).trans b12
  · exact (g 237 172 (by omega)).trans y4
theorem r99 (h : hyA S0 p HT cs ms os X fa n B2 w t A s kd nms ne ec bh ba ar) (hkd : kd = 1 ∨ kd = 3) (hgk : ((a_K A t).1.getD ba (0, 0, [])).1 = 4 ∨ ((a_K A t).1.getD ba (0, 0, [])).1 = 5) (hnm : 0 ≤ nm ∧ nm ≤ 100000) (hne : nm = if kd = 2 ∨ kd = 3 then en else nms) (hrr : aIx (a_T A) nm ((a_K A t).1.getD ba (0, 0, [])).2.1 = -1 ∧ aFs (tO (a_T A) ((a_K A t).1.getD ba (0, 0, [])).2.1).2.1 (qPr (a_H A) (tO (a_T A) ((a_K A t).1.getD ba (0, 0, [])).2.1).2.1) nm (a_H A) 0 = -1 ∧ 4000 ≤ a_c A 4) : ∀ {Sb : wS} (Y : wS), rRun S0 Sb HT cs ms os X mo t A Y → rAim t (a_K A t) ba bh en Y → wJ (pe_GA xs) wY0 (fun _ => False) (d + 90) t_M_looks ((pe_at t_M_looks.bl 0).getD (0, [])).2 [(0, (2, 237)), (1, (0, s)), (2, (0, 1))] [] Y (fun o Z => o = .inr 238 ∧ ((99 : Int) ≠ 0 ∧ Z 238 5 = 99 ∧ rRun S0 Sb HT cs ms os X mo t (u_Q A (a_H A) (a_C A) (a_W A) 0 0) Z)) := by
  intro Sb
  refine re_0 h hgk (by first | decide | omega) (fun Y hY ha => ?_)
  have hT8 := hA_T h
  have hl9 := hl_A h
  obtain ⟨go1, go2, go3⟩ := gO h hgk
  obtain ⟨⟨b1, b2, ⟨sl, b3⟩, b4⟩, ⟨b5, b6, b7, b8⟩, b9, b10, b11, b12, b13⟩ := rB_0 h hY ha (by omega)
  obtain ⟨y1, y2, y3, y4, y5, y6⟩ := lx_v (Y := Y) (l := 0)
  obtain ⟨k0, k4, k5, k6⟩ := s_4 h hY
  obtain ⟨⟨hp, hw, hx⟩, hA, hB, ⟨hr, ho⟩, hsi, hme⟩ := id h
  have ht := wt_t hw
  have h4 := hA.2.2.2.2.1.2.2.2.2.1
  refine wJ_mono (rls_ok (d := d + 85) (r0 := aFs (tO (a_T A) ((a_K A t).1.getD ba (0, 0, [])).2.1).2.1 (qPr (a_H A) (tO (a_T A) ((a_K A t).1.getD ba (0, 0, [])).2.1).2.1) nm (a_H A) 0) (u4 := a_c A 4) b2 b3.1 b4 hA.2.1 hT8 b5 b6 b7 b8 y1 y2 y3 b9 b10 hne go1 hkd hnm (Or.inr rfl) b13 ⟨h4.1, h4.2.1⟩ h4.2.2 rfl) (fun o Z hz => ?_)
  rcases hz with ⟨a1, a2, a3⟩ | ⟨a1, a2, a3, a4⟩ | ⟨a1, a2, a3, a4, a5, V, a6, a7⟩ | ⟨a1, a2, a3, a4, a5⟩
  · exact absurd hrr.1 a1
  · omega
  · exact ⟨a5, V, a6.2.2, fun j x h1 _ _ _ _ => a6.2.1 j x (by omega), a7⟩
  · omega
/-- the reference was asked: its counters, perhaps a shape, what it works with -/
theorem rq_W (ht : t = 0 ∨ t = 1) (hl9 : kLn (a_K A 0) ∧ kLn (a_K A 1)) (hY : rRun S0 Sb HT cs ms os X mo t A Y) (hl : 0 ≤ l ∧ l ≤ 3) (hM : w_ML V) (f : ∀ (j : Nat) (x : Int), ¬ (j = 344 ∧ x = l) → (j < 329 ∨ 332 < j) → ¬ (j = 237 ∧ (x = 66 ∨ x = 87 ∨ (166 ≤ x ∧ x ≤ 172))) → V j x = Y j x) (hH : rHs V H2) (hW : ∃ sl : Nat → List Int, rWd V sl (a_T A) (a_L A) (a_G A)) (h66 : V 237 66 = a_c A 4 + ds) (h344 : V 344 l = Y 344 l + 1) : rRun S0 Sb HT cs ms os X mo t (u_Q A H2 (a_C A) (a_W A) l ds) V := by
  have f2 : ∀ (j : Nat) (x : Int), ¬ (j = 237 ∧ (166 ≤ x ∧ x ≤ 172)) → (if j = 237 ∧ (166 ≤ x ∧ x ≤ 172) then Y j x else V j x) = V j x := fun j x h => if_neg h
  have hM2 : w_ML (fun j x => if j = 237 ∧ (166 ≤ x ∧ x ≤ 172) then Y j x else V j x) := fun q hq => by
    show (if q.1 = 237 ∧ (166 ≤ (-1 : Int) ∧ (-1 : Int) ≤ 172) then Y q.1 (-1) else V q.1 (-1)) = q.2
    rw [if_neg (by omega)]
    exact hM q hq
  have r1 := rq_V (V := fun j x => if j = 237 ∧ (166 ≤ x ∧ x ≤ 172) then Y j x else V j x) (H2 := H2) (ds := ds) ht hl9 hY hl hM2 (fun j x h1 h2 h3 => by
    show (if j = 237 ∧ (166 ≤ x ∧ x ≤ 172) then Y j x else V j x) = Y j x
    by_cases e : j = 237 ∧ (166 ≤ x ∧ x ≤ 172)
    · rw [if_pos e]
    · rw [if_neg e]
      exact f j x h1 h2 (by omega)) (rHs_ag hH (f2 237 87 (by omega)) (fun j x j0 j1 => f2 j x (by omega))) (by
    obtain ⟨sl, hw⟩ := hW
    exact ⟨sl, rWd_ag hw (rTx_of (f2 237 19 (by omega)) (f2 237 102 (by omega)) (fun j i j0 j1 => f2 j i (by omega))) (fun j x hj => f2 j x (by unfold rWo at hj; omega))⟩) ((f2 237 66 (by omega)).trans h66) ((f2 344 l (by omega)).trans h344)
  refine rRun_s r1 ht hl9 (fun j x h1 _ _ _ _ => ?_) hM
  exact (f2 j x (by omega)).symm
theorem rkn (h : hyA S0 p HT cs ms os X fa n B2 w t A s kd nms ne ec bh ba ar) (hkd : kd = 1 ∨ kd = 3) (hgk : ((a_K A t).1.getD ba (0, 0, [])).1 = 4 ∨ ((a_K A t).1.getD ba (0, 0, [])).1 = 5) (hnm : 0 ≤ nm ∧ nm ≤ 100000) (hne : nm = if kd = 2 ∨ kd = 3 then en else nms) (hen : en = enE kd nm) (hrr : aIx (a_T A) nm ((a_K A t).1.getD ba (0, 0, [])).2.1 = -1 ∧ aFs (tO (a_T A) ((a_K A t).1.getD ba (0, 0, [])).2.1).2.1 (qPr (a_H A) (tO (a_T A) ((a_K A t).1.getD ba (0, 0, [])).2.1).2.1) nm (a_H A) 0 = -1 ∧ a_c A 4 < 4000) : ∀ {Sb : wS} (Y : wS), rRun S0 Sb HT cs ms os X mo t A Y → rAim t (a_K A t) ba bh en Y → wJ (pe_GA xs) wY0 (fun _ => False) (d + 90) t_M_looks ((pe_at t_M_looks.bl 0).getD (0, [])).2 [(0, (2, 237)), (1, (0, s)), (2, (0, 1))] [] Y (fun o Z => o = .inl none ∧ w_ML Z ∧ rRun S0 Sb HT cs ms os X mo t (u_Q A (a_H A ++ [(qPr (a_H A) (tO (a_T A) ((a_K A t).1.getD ba (0, 0, [])).2.1).2.1, (tO (a_T A) ((a_K A t).1.getD ba (0, 0, [])).2.1).2.1, nm, qSz (a_H A) (tO (a_T A) ((a_K A t).1.getD ba (0, 0, [])).2.1).2.1 + 1)]) (a_C A) (a_W A) 0 1) Z ∧ rAim t (a_K A t) ba bh en Z ∧ (Z 237 166 = ((stE (a_T A) kd nm ((a_K A t).1.getD ba (0, 0, [])).2.1 (a_c A 11) ((a_H A).length : Int)) : aE).1 ∧ Z 237 167 = ((stE (a_T A) kd nm ((a_K A t).1.getD ba (0, 0, [])).2.1 (a_c A 11) ((a_H A).length : Int)) : aE).2.1 ∧ Z 237 177 = ((stE (a_T A) kd nm ((a_K A t).1.getD ba (0, 0, [])).2.1 (a_c A 11) ((a_H A).length : Int)) : aE).2.2.1 ∧ Z 237 169 = ((stE (a_T A) kd nm ((a_K A t).1.getD ba (0, 0, [])).2.1 (a_c A 11) ((a_H A).length : Int)) : aE).2.2.2.1 ∧ Z 237 170 = ((stE (a_T A) kd nm ((a_K A t).1.getD ba (0, 0, [])).2.1 (a_c A 11) ((a_H A).length : Int)) : aE).2.2.2.2.1 ∧ Z 237 171 = ((stE (a_T A) kd nm ((a_K A t).1.getD ba (0, 0, [])).2.1 (a_c A 11) ((a_H A).length : Int)) : aE).2.2.2.2.2.1 ∧ Z 237 81 = ((stE (a_T A) kd nm ((a_K A t).1.getD ba (0, 0, [])).2.1 (a_c A 11) ((a_H A).length : Int)) : aE).2.2.2.2.2.2.1) ∧ Z 237 172 = ((0 : Nat) : Int)) := fun Y hY ha => by
  have hT8 := hA_T h
  have hl9 := hl_A h
  obtain ⟨go1, go2, go3⟩ := gO h hgk
  obtain ⟨⟨b1, b2, ⟨sl, b3⟩, b4⟩, ⟨b5, b6, b7, b8⟩, b9, b10, b11, b12, b13⟩ := rB_0 h hY ha (by omega)
  obtain ⟨y1, y2, y3, y4, y5, y6⟩ := lx_v (Y := Y) (l := 0)
  obtain ⟨k0, k4, k5, k6⟩ := s_4 h hY
  obtain ⟨⟨hp, hw, hx⟩, hA, hB, ⟨hr, ho⟩, hsi, hme⟩ := id h
  have ht := wt_t hw
  have h4 := hA.2.2.2.2.1.2.2.2.2.1
  refine rlk0 (d := d + 82) hY.1.1 k0 k4 ha.2.2.1 hgk (Or.inr rfl) (ak_0 h hY (by first | decide | omega)) (wJ_mono (wJ_ml b2 (rls_ok (d := d + 85) (r0 := aFs (tO (a_T A) ((a_K A t).1.getD ba (0, 0, [])).2.1).2.1 (qPr (a_H A) (tO (a_T A) ((a_K A t).1.getD ba (0, 0, [])).2.1).2.1) nm (a_H A) 0) (u4 := a_c A 4) b2 b3.1 b4 hA.2.1 hT8 b5 b6 b7 b8 y1 y2 y3 b9 b10 hne go1 hkd hnm (Or.inr rfl) b13 ⟨h4.1, h4.2.1⟩ h4.2.2 rfl)) (fun o Z hz => ?_)) (fun o Z hz => Or.inl hz.1)
  obtain ⟨hz, hMZ⟩ := hz
  rcases hz with ⟨a1, a2, a3⟩ | ⟨a1, a2, a3, a4⟩ | ⟨a1, a2, a3, a4, a5⟩ | ⟨a1, a2, a3, a4, a5, V, ⟨⟨a6, a7, a8, a9⟩, a10, a11⟩, rfl⟩
  · exact absurd hrr.1 a1
  · omega
  · omega
  · have vH : rHs V (a_H A) := rHs_ag b4 (a10 237 87 (by omega)) (fun j x j0 j1 => a10 j x (by omega))
    have vW : rWd V sl (a_T A) (a_L A) (a_G A) := rWd_ag b3 (rTx_of (a10 237 19 (by omega)) (a10 237 102 (by omega)) (fun j i j0 j1 => a10 j i (by omega))) (fun j x hj => a10 j x (by unfold rWo at hj; omega))
    obtain ⟨m1, m2, m3, m4⟩ := r_msn (nm := nm) (u4 := a_c A 4) vH vW go3 hA.2.1
    generalize hM9 : msZ (tO (a_T A) ((a_K A t).1.getD ba (0, 0, [])).2.1).2.1 (qPr (a_H A) (tO (a_T A) ((a_K A t).1.getD ba (0, 0, [])).2.1).2.1) nm ((a_H A).length : Int) (a_c A 4) V = M9 at *
    have u : ∀ (j : Nat) (x : Int), (j ≠ 237 ∨ x ≠ 171) → w_up M9 237 171 ((a_H A).length : Int) j x = M9 j x := fun j x hj => w_up_no (by omega)
    have g : ∀ (j : Nat) (x : Int), (j ≠ 237 ∨ (x ≠ 87 ∧ x ≠ 66 ∧ (x < 166 ∨ 172 < x))) → (j < 329 ∨ 332 < j) → j ≠ 344 → w_up M9 237 171 ((a_H A).length : Int) j x = Y j x := fun j x h1 h2 h3 => by
      rw [u j x (by omega), m4 j x (by omega) h2, a10 j x (by omega)]
      exact lx_f j x (by omega) (by omega)
    have g2 : ∀ x : Int, w_up M9 237 171 ((a_H A).length : Int) 344 x = lkX 0 1 Y 344 x := fun x => by rw [u 344 x (by omega), m4 344 x (by omega) (by omega), a10 344 x (by omega)]
    have g3 : ∀ x : Int, x ≠ 87 → x ≠ 66 → x ≠ 171 → w_up M9 237 171 ((a_H A).length : Int) 237 x = V 237 x := fun x h1 h2 h3 => by rw [u 237 x (by omega), m4 237 x (by omega) (by omega)]
    have rz := rq_W (V := w_up M9 237 171 ((a_H A).length : Int)) (l := 0) (ds := 1) (H2 := (a_H A ++ [(qPr (a_H A) (tO (a_T A) ((a_K A t).1.getD ba (0, 0, [])).2.1).2.1, (tO (a_T A) ((a_K A t).1.getD ba (0, 0, [])).2.1).2.1, nm, qSz (a_H A) (tO (a_T A) ((a_K A t).1.getD ba (0, 0, [])).2.1).2.1 + 1)])) ht hl9 hY (by first | decide | omega) hMZ (fun j x h1 h2 h3 => by
      by_cases e : j = 344
      · rw [e, g2]
        exact lx_f 344 x (by omega) (by omega)
      · exact g j x (by omega) h2 e) (rHs_ag m1 (u 237 87 (by omega)) (fun j x j0 j1 => u j x (by omega))) ⟨sl, rWd_ag m2 (rTx_of (u 237 19 (by omega)) (u 237 102 (by omega)) (fun j i j0 j1 => u j i (by omega))) (fun j x hj => u j x (by unfold rWo at hj; omega))⟩ ((u 237 66 (by omega)).trans m3) ((g2 0).trans y6)
    refine ⟨a5, hMZ, rz, rA_k ha (fun j x hj => g j x (by omega) (by omega) (by omega)), ⟨?_, ?_, ?_, ?_, ?_, ?_, ?_⟩, ?_⟩
    · exact (g3 166 (by first | decide | omega) (by first | decide | omega) (by first | decide | omega)).trans ((a10 237 166 (by omega)).trans y5)
    · exact (g3 167 (by first | decide | omega) (by first | decide | omega) (by first | decide | omega)).trans a6
    · exact (g3 177 (by first | decide | omega) (by first | decide | omega) (by first | decide | omega)).trans ((a10 237 177 (by omega)).trans (b8.trans hen))
    · exact (g3 169 (by first | decide | omega) (by first | decide | omega) (by first | decide | omega)).trans a7
    · exact (g3 170 (by first | decide | omega) (by first | decide | omega) (by first | decide | omega)).trans (a8.trans hrr.1.symm)
    · exact w_up_same _ _ _ _
    · exact (g3 81 (by first | decide | omega) (by first | decide | omega) (by first | decide | omega)).trans ((a10 237 81 (by omega)).trans b12)
    · exact (g3 172 (by first | decide | omega) (by first | decide | omega) (by first | decide | omega)).trans ((a10 237 172 (by omega)).trans y4)
/-- what holds of an entry that was written -/
theorem ok_st (h : hyA S0 p HT cs ms os X fa n B2 w t A s kd nms ne ec bh ba ar) (hL9 : stL S0) (hkd : kd = 1 ∨ kd = 3) (hgk : ((a_K A t).1.getD ba (0, 0, [])).1 = 4 ∨ ((a_K A t).1.getD ba (0, 0, [])).1 = 5) (hnm : 0 ≤ nm ∧ nm < ((a_N A).length : Int)) (hne : nmE kd nms nm) (hrr : (aIx (a_T A) nm ((a_K A t).1.getD ba (0, 0, [])).2.1 ≠ -1 ∧ r = -1) ∨ (aIx (a_T A) nm ((a_K A t).1.getD ba (0, 0, [])).2.1 = -1 ∧ r ≠ -1 ∧ r = aFs (tO (a_T A) ((a_K A t).1.getD ba (0, 0, [])).2.1).2.1 (qPr (a_H A) (tO (a_T A) ((a_K A t).1.getD ba (0, 0, [])).2.1).2.1) nm (a_H A) 0)) : eOk S0 HT cs ms os A s (stE (a_T A) kd nm ((a_K A t).1.getD ba (0, 0, [])).2.1 (a_c A 11) r) ∧ aP0 (a_T A) (a_H A) ((a_N A).length : Int) kd nm ((a_K A t).1.getD ba (0, 0, [])).1 ((a_K A t).1.getD ba (0, 0, [])).2.1 (stE (a_T A) kd nm ((a_K A t).1.getD ba (0, 0, [])).2.1 (a_c A 11) r) := by
  obtain ⟨go1, go2, go3⟩ := gO h hgk
  obtain ⟨⟨hp, hw, hx⟩, hA, hB, ⟨hr, ho⟩, hsi, hme⟩ := id h
  have h11 := hA.2.2.2.2.1.2.2.2.2.2.1.1
  obtain ⟨⟨s1, s2, s3, s4⟩, s5, s6, s7, s8⟩ := hsi
  refine ⟨⟨⟨⟨Int.le_refl _, by show (0 : Int) ≤ 3; decide, ?_⟩, h11.1, Int.le_refl _⟩, fun _ => ⟨fun z => ?_, fun _ => ⟨go3, rfl, ?_, ?_⟩, fun z => ?_⟩, fun _ => ⟨⟨rfl, rfl⟩, Int.le_refl _, fun z => ?_, fun z => ?_⟩, fun z => absurd z (by show ¬ (0 : Int) = 3; decide), fun z => absurd z (by show ¬ ((0 : Int) = 1 ∨ (0 : Int) = 2); decide)⟩, ⟨rfl, hgk, go1, go2⟩, fun z => by omega, fun _ => ⟨rfl, hrr, hnm⟩, fun z => by omega⟩
  · refine ⟨?_, sKn_of h⟩
    rw [s3]
    have := hL9.2.2
    omega
  · rw [s2] at z
    omega
  · rw [s2, s3, cNm_e (e := (stE (a_T A) kd nm ((a_K A t).1.getD ba (0, 0, [])).2.1 (a_c A 11) r)) rfl ⟨by omega, by omega⟩ hne rfl]
    exact (aUp_sh hA.2.1 go1).1
  · rw [s2, s3, cNm_e (e := (stE (a_T A) kd nm ((a_K A t).1.getD ba (0, 0, [])).2.1 (a_c A 11) r)) rfl ⟨by omega, by omega⟩ hne rfl]
    exact hrr
  · rw [s2] at z
    omega
  · rw [s2] at z
    show 0 ≤ enE kd nm ∧ enE kd nm < ((a_N A).length : Int)
    unfold enE
    rw [if_pos z]
    exact hnm
  · rw [s2] at z
    show enE kd nm = -1
    unfold enE
    rw [if_neg z]
end Wlr
