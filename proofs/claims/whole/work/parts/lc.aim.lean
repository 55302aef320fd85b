/-! PART lc: a site: the class takes aim; a name may come. -/
section Wlc
variable {xs : List (Nat × List Int32)} {d : Nat} {S0 S Z : wS} {p w m : Nat} {HT : Int → Int} {cs : List hCR} {ms : List hMR} {os : Int → List Int} {X : List (List Int)} {mo t n B B2 oq : Int} {fa : Int → Int} {WE : aA → Prop} {A A2 : aA} {K2 : aK} {ml : List Nat} {k c s kd nms ne ec bh nm en : Int} {b ba : Nat} {ar : List aV} {e : aE} {V Z2 Y : wS} {o : wO} {dn : Int} {H2 : List aH} {N2 : List (List Int)} {E2 : Int → List aE} {C2 : List aQ} {W2 : Int} {c2 : Int → Int} {k2 : Int → Int → Int} {mk rk : Nat → Int → Prop} {K : aK} {T : List aO} {H : List aH} {E : Int → List aE} {gk gb es lo hi a : Int} {r : List aE × Int × Option aE} {A1 : aA} {tl cl : List Int} {sl : Nat → List Int} {L : List aC} {G : Int → aV} {u : aV} {x : List Int}
theorem u_L_id : u_L A (a_H A) (a_N A) (a_E A) (a_C A) (a_W A) (a_c A) (a_k A) = A := rfl
theorem cCn_ag (h : cCn S0 A S) (f : ∀ (j : Nat) (y : Int), cnD j y ∨ (j = 150 ∧ 0 ≤ y) → Z j y = S j y) : cCn S0 A Z := by
  obtain ⟨c1, ⟨c2, c3⟩, c4, c5, c6⟩ := h
  refine ⟨fun i hi => (f 150 i (by omega)).trans (c1 i hi), ⟨(f 72 11 (by unfold cnD; omega)).trans c2, cPl_ag c3 (f 2 1 (by unfold cnD; omega)) (f 3 (-1) (by unfold cnD; omega)) (f 2 7 (by unfold cnD; omega)) (f 4 (-1) (by unfold cnD; omega)) (Int.le_refl _) (Nat.le_refl _)⟩, (f 158 19 (by unfold cnD; omega)).trans c4, fun i hi => (f 160 i (by unfold cnD; omega)).trans (c5 i hi), fun q q0 q1 => ?_⟩
  rw [f 19 9 (by unfold cnD; omega)] at q1
  rw [f 41 q (by unfold cnD; omega), f 42 q (by unfold cnD; omega), f 43 q (by unfold cnD; omega), f 45 q (by unfold cnD; omega)]
  exact c6 q q0 q1
/-- the linker's own fields are no part of the state -/
theorem cRel_158 (h : cRel S0 p HT cs ms os X mo A S) (hp : p = 73 ∨ p = 162) (hw : isWt w t) (f : ∀ (j : Nat) (y : Int), ¬ (j = 158 ∧ 4 ≤ y ∧ y ≤ 13) → Z j y = S j y) : cRel S0 p HT cs ms os X mo A Z := by
  have ww := isWt_w hw
  have hF : cFm w (fun j y => j = 158 ∧ 4 ≤ y ∧ y ≤ 13) S Z := ⟨fun j y _ _ _ hm => f j y hm, fun j _ _ => f j (-1) (by omega), gI_eq h.1.2.1 (fun k => f k (-1) (by omega)) (fun y => f 238 y (by omega)) (f 14 5 (by omega)), rmR_ag (rmR_rfl S) (fun k _ => f k (-1) (by omega)) (f wG 0 (by unfold wG; omega)) (f wG 1 (by unfold wG; omega))⟩
  have eT : cTx S Z := cTx_of (f 2 1 (by omega)) (fun y => f 3 y (by omega))
  obtain ⟨ix, fl, ow, hE⟩ := h.2.2.2.2.1
  exact cRel_L h hp hw hF (fun j y hm => by unfold mLk; omega) eT (fun q hq => (f q.1 (-1) (by omega)).trans (h.1.1 q hq)) (cTk_ag (cT_of h hw) eT (fun j y hj => f j y (by omega))) (cSw_ag h.2.2.1.2.1 (fun j y hj => f j y (by omega))) (cNt_ag h.2.2.2.1 (fun j hj => funext fun y => f j y (by omega))) ⟨ix, fl, ow, cSe_ag hE (fun j y hj => f j y (by unfold cEo at hj; omega))⟩ (cCh_ag h.2.2.2.2.2.2.1.1 (fun j y hj => f j y (by omega))) (cCn_ag h.2.2.2.2.2.2.2.1 (fun j y hj => f j y (by unfold cnD at hj; omega)))
/-- how a name that comes is noted -/
theorem cRel_nm (h : cRel S0 p HT cs ms os X mo A S) (hA : wfA S0 fa ms n WE B A) (hp : p = 73 ∨ p = 162) (hw : isWt w t) (hq : nmQ (a_N A) X x S Z) (hx6 : x.length ≤ 60) (hl : (a_N A).length < 4000) (hCL : w_CL Z) : cRel S0 p HT cs ms os X mo (u_L A (a_H A) (a_N A ++ [x]) (a_E A) (a_C A) (a_W A) (a_c A) (a_k A)) Z := by
  have ww := isWt_w hw
  have eT := nmQ_r hq
  obtain ⟨q1, ⟨q2, q3, q4, q5⟩, ⟨q6, q7⟩, q8, q9, f, gi, rm⟩ := hq
  have hg : wG = 1000000 := rfl
  have fp : ∀ (j : Nat) (y : Int), 13 ≤ j → j < 1000000 → Z j y = S j y := fun j y j0 j1 => f j y (by omega) (by omega) (by omega)
  have hF : cFm w (fun j _ => 2 ≤ j ∧ j ≤ 12 ∧ j ≠ 11) S Z := ⟨fun j y j0 j1 _ hm => f j y j0 j1 (by omega), fun j j0 j1 => fp j (-1) (by omega) (by omega), gi, rm⟩
  obtain ⟨c1, ⟨c2, c3⟩, c4, c5, c6⟩ := h.2.2.2.2.2.2.2.1
  have hu := hA.2.2.2.2.1.2.2.2.1
  have hlen : (((a_N A ++ [x]).length : Nat) : Int) = ((a_N A).length : Int) + 1 := by rw [List.length_append]; rfl
  have hPl : cPl (pV S0) (a_c A 3) (a_N A ++ [x]) Z := by
    unfold cPl at c3 ⊢
    rw [hlen]
    omega
  have hb := h.2.2.2.1.2
  obtain ⟨ix, fl, ow, hE⟩ := h.2.2.2.2.1
  refine cRel_L h hp hw hF (fun j y hm => by unfold mLk; omega) eT hCL (cTk_ag (cT_of h hw) eT (fun j y hj => fp j y (by omega) (by omega))) (cSw_ag h.2.2.1.2.1 (fun j y hj => fp j y (by omega) (by omega))) ⟨q1, ?_⟩ ⟨ix, fl, ow, cSe_ag hE (fun j y hj => fp j y (by unfold cEo at hj; omega) (by unfold cEo at hj; omega))⟩ (cCh_ag h.2.2.2.2.2.2.1.1 (fun j y hj => fp j y (by omega) (by omega))) ⟨fun i hi => (fp 150 i (by omega) (by omega)).trans (c1 i hi), ⟨(fp 72 11 (by omega) (by omega)).trans c2, hPl⟩, (fp 158 19 (by omega) (by omega)).trans c4, fun i hi => (fp 160 i (by omega) (by omega)).trans (c5 i hi), fun q q0 q1 => ?_⟩
  · unfold cPl at hPl
    rw [hlen] at hPl
    omega
  · rw [fp 19 9 (by omega) (by omega)] at q1
    rw [fp 41 q (by omega) (by omega), fp 42 q (by omega) (by omega), fp 43 q (by omega) (by omega), fp 45 q (by omega) (by omega)]
    exact c6 q q0 q1
theorem nmT_ap {N : List (List Int)} {k : Int} (h : k < (N.length : Int)) : nmT (N ++ [x]) k = nmT N k := by
  unfold nmT
  by_cases e : k < 0
  · rw [if_pos e, if_pos e]
  · rw [if_neg e, if_neg e, List.getD_eq_getElem?_getD, List.getD_eq_getElem?_getD, List.getElem?_append_left (by omega)]
/-- all that holds, when a name has come -/
theorem wf_nm (h : wfA S0 fa ms n (WEs S0 HT cs ms os) B A) (hx : stX S0 fa X) (hl : (a_N A).length < 4000) (hxn : x ∉ a_N A) (hB : B ≤ B2 ∧ B2 ≤ 600000) : wfA S0 fa ms n (WEs S0 HT cs ms os) B2 (u_L A (a_H A) (a_N A ++ [x]) (a_E A) (a_C A) (a_W A) (a_c A) (a_k A)) := by
  obtain ⟨a1, a3, a4, a5, a6, ⟨⟨n1, n2, n3⟩, n4, n5⟩, a7, a8x⟩ := h
  have hlen : (((a_N A ++ [x]).length : Nat) : Int) = ((a_N A).length : Int) + 1 := by rw [List.length_append]; rfl
  refine ⟨a1, a3, a4, a5, wCt_B a6 hB, ⟨⟨?_, ?_, fun q hq => n3 q ?_⟩, fun q q0 q1 => ?_, n5⟩, ⟨fun q q0 q1 => ?_, ⟨⟨a8x.1.1, ?_⟩, a8x.2⟩⟩⟩
  · show (a_N A ++ [x]).length ≤ 4000
    omega
  · show S0 237 16 ≤ ((a_N A ++ [x]).length : Int)
    omega
  · replace hq : ((a_N A ++ [x]).length : Int) ≤ q := hq
    omega
  · show qNm (a_H A) q = -1 ∨ (0 ≤ qNm (a_H A) q ∧ qNm (a_H A) q < ((a_N A ++ [x]).length : Int))
    have := n4 q q0 q1
    omega
  · obtain ⟨b1, b2⟩ := a7 q q0 q1
    refine ⟨b1, fun e he => ?_⟩
    obtain ⟨c1, c2, c3, c4, c5⟩ := b2 e he
    have hn : S0 305 q < ((a_N A).length : Int) := by have := c1.1.2.2.1; omega
    refine ⟨c1, c2, fun e0 => ?_, ?_, ?_⟩
    · obtain ⟨d1, d2, d3, d4⟩ := c3 e0
      exact ⟨d1, d2, fun z => ⟨(d3 z).1, by have := (d3 z).2; show e.2.2.1 < ((a_N A ++ [x]).length : Int); omega⟩, d4⟩
    · show e.1 = 3 → eRw (S0 304 q) (S0 306 q) (nmT (a_N A ++ [x]) (S0 305 q)) e
      rw [nmT_ap hn]
      exact c4
    · show e.1 = 1 ∨ e.1 = 2 → eRh HT cs ms os (S0 304 q) (if S0 304 q = 1 then 1 else S0 306 q) (nmT (a_N A ++ [x]) (S0 305 q)) e
      rw [nmT_ap hn]
      exact c5
  · show (a_N A ++ [x]).Nodup
    refine List.nodup_append.mpr ⟨a8x.1.2, by simp, fun a ha b hb e => ?_⟩
    rw [List.mem_singleton.mp hb] at e
    rw [e] at ha
    exact hxn ha

theorem aC_215 (hp : p = 73 ∨ p = 162) (hx : stX S0 fa X) (hA : wfA S0 fa ms n WE B A) (hr : (a_K A 0).2.2.2.1 = 1) (ho : opI S0 (a_K A 0) = 27) (hsi : siH S0 (a_K A 0) s kd nms ne ec bh ba ar) (hc : ¬ ((kd = 2 ∨ kd = 3) ∧ (((a_K A 0).1.getD ba (0, 0, [])).1 = 4 ∨ ((a_K A 0).1.getD ba (0, 0, [])).1 = 5))) (hS : cRel S0 p HT cs ms os X mo A S) : wJ (pe_GA xs) wY0 (mS sML) (d + 91) t_XL_aim ((pe_at t_XL_aim.bl 0).getD (0, [])).2 [(0, (2, 158)), (1, (2, 215)), (2, (0, s))] [] (w_up S 215 16 0) (fun o Z => o = .inl none ∧ ∃ B : wS, (cRel S0 p HT cs ms os X mo A B ∧ B 215 16 = 0 ∧ B 218 (ba : Int) = S 218 (ba : Int)) ∧ amQ 215 s kd ec (ba : Int) ((a_K A 0).1.getD ba (0, 0, [])).1 (S 218 (ba : Int)) nms (esV (ar.map (clO (a_T A)))) B Z) := by
  have hw : isWt 215 0 := Or.inl ⟨rfl, rfl⟩
  have hk := wT_of hA hw
  have hst := hco_c hx hk hr hw ho hS
  have hv1 := vk_of hA hw
  have hct := hA.2.2.2.2.1
  obtain ⟨s0, s1, s2⟩ := hsi.2.2.1.1
  have hT8 : ((a_T A).length : Int) ≤ 8000 := by have := hct.1; omega
  obtain ⟨g1, g2, g3, g4⟩ := si_c hx hS hsi
  obtain ⟨ix, fl, ow, hE⟩ := hS.2.2.2.2.1
  have h16 := cRel_16 (c := 0) hS hp hw
  refine wJ_M (wJ_mono (aiC_215 (M := mS sML) (d := d + 87) hst.1 hS.2.2.1.1 hT8 hE.1 ⟨s0, by omega⟩ g2 g4 g3 hsi.2.1 hv1 hc) (fun o Z hz => ?_)) (fun j z => z)
  · skip
    obtain ⟨z1, z2⟩ := hz
    have f : ∀ (j : Nat) (y : Int), ¬ (j = 158 ∧ 4 ≤ y ∧ y ≤ 13) → Z j y = (w_up S 215 16 0) j y := fun j y hj => z2.2 j y (by omega)
    exact ⟨z1, Z, ⟨cRel_158 h16 hp hw f, (f 215 16 (by omega)).trans (w_up_same _ _ _ _), (f 218 _ (by omega)).trans (w_up_slot (by first | decide | omega))⟩, z2.1, fun _ _ _ => rfl⟩
theorem aE_215 (hp : p = 73 ∨ p = 162) (hx : stX S0 fa X) (hA : wfA S0 fa ms n WE B A) (hr : (a_K A 0).2.2.2.1 = 1) (ho : opI S0 (a_K A 0) = 27) (hsi : siH S0 (a_K A 0) s kd nms ne ec bh ba ar) (hc : ((kd = 2 ∨ kd = 3) ∧ (((a_K A 0).1.getD ba (0, 0, [])).1 = 4 ∨ ((a_K A 0).1.getD ba (0, 0, [])).1 = 5))) (hk3 : ((a_K A 0).1.getD (ba + 1) (0, 0, [])).1 ≠ 3) (hS : cRel S0 p HT cs ms os X mo A S) : wJ (pe_GA xs) wY0 (mS sML) (d + 91) t_XL_aim ((pe_at t_XL_aim.bl 0).getD (0, [])).2 [(0, (2, 158)), (1, (2, 215)), (2, (0, s))] [] (w_up S 215 16 0) (fun o Z => o = .inl none ∧ ∃ B : wS, (cRel S0 p HT cs ms os X mo A B ∧ B 215 16 = 0 ∧ B 218 (ba : Int) = S 218 (ba : Int)) ∧ amQ 215 s kd ec (ba : Int) ((a_K A 0).1.getD ba (0, 0, [])).1 (S 218 (ba : Int)) (-1) (esV (ar.map (clO (a_T A)))) B Z) := by
  have hw : isWt 215 0 := Or.inl ⟨rfl, rfl⟩
  have hk := wT_of hA hw
  have hst := hco_c hx hk hr hw ho hS
  have hv1 := vk_of hA hw
  have hct := hA.2.2.2.2.1
  obtain ⟨s0, s1, s2⟩ := hsi.2.2.1.1
  have hT8 : ((a_T A).length : Int) ≤ 8000 := by have := hct.1; omega
  obtain ⟨g1, g2, g3, g4⟩ := si_c hx hS hsi
  obtain ⟨ix, fl, ow, hE⟩ := hS.2.2.2.2.1
  have h16 := cRel_16 (c := 0) hS hp hw
  refine wJ_M (wJ_mono (aiE_215 (M := mS sML) (d := d + 84) hst.1 hS.2.2.1.1 hT8 hE.1 ⟨s0, by omega⟩ g2 g4 hsi.2.1 hv1 hc hk3) (fun o Z hz => ?_)) (fun j z => z)
  · skip
    obtain ⟨z1, z2⟩ := hz
    have f : ∀ (j : Nat) (y : Int), ¬ (j = 158 ∧ 4 ≤ y ∧ y ≤ 13) → Z j y = (w_up S 215 16 0) j y := fun j y hj => z2.2 j y (by omega)
    exact ⟨z1, Z, ⟨cRel_158 h16 hp hw f, (f 215 16 (by omega)).trans (w_up_same _ _ _ _), (f 218 _ (by omega)).trans (w_up_slot (by first | decide | omega))⟩, z2.1, fun _ _ _ => rfl⟩
theorem aT_215 (hp : p = 73 ∨ p = 162) (hx : stX S0 fa X) (hA : wfA S0 fa ms n WE B A) (hr : (a_K A 0).2.2.2.1 = 1) (ho : opI S0 (a_K A 0) = 27) (hsi : siH S0 (a_K A 0) s kd nms ne ec bh ba ar) (hc : ((kd = 2 ∨ kd = 3) ∧ (((a_K A 0).1.getD ba (0, 0, [])).1 = 4 ∨ ((a_K A 0).1.getD ba (0, 0, [])).1 = 5))) (hk3 : ((a_K A 0).1.getD (ba + 1) (0, 0, [])).1 = 3) {N9 : List (List Int)} (hx9 : ((a_K A 0).1.getD (ba + 1) (0, 0, [])).2.2 = x) (hR : (x.length < 1 ∨ 60 < x.length) ∧ A1 = A ∧ nm = -1 ∨ ((1 ≤ x.length ∧ x.length ≤ 60) ∧ ((x ∈ a_N A ∧ A1 = A ∧ nm = ixL (a_N A) x) ∨ (x ∉ a_N A ∧ (a_N A).length < 4000 ∧ A1 = (u_L A (a_H A) (a_N A ++ [x]) (a_E A) (a_C A) (a_W A) (a_c A) (a_k A)) ∧ nm = ((a_N A).length : Int))))) (hS : cRel S0 p HT cs ms os X mo A S) : wJ (pe_GA xs) wY0 (mS sML) (d + 91) t_XL_aim ((pe_at t_XL_aim.bl 0).getD (0, [])).2 [(0, (2, 158)), (1, (2, 215)), (2, (0, s))] [] (w_up S 215 16 0) (fun o Z => o = .inl none ∧ ∃ B : wS, (cRel S0 p HT cs ms os X mo A1 B ∧ B 215 16 = 0 ∧ B 218 (ba : Int) = S 218 (ba : Int)) ∧ amQ 215 s kd ec (ba : Int) ((a_K A 0).1.getD ba (0, 0, [])).1 (S 218 (ba : Int)) nm (esV (ar.map (clO (a_T A)))) B Z) := by
  have hw : isWt 215 0 := Or.inl ⟨rfl, rfl⟩
  have hk := wT_of hA hw
  have hst := hco_c hx hk hr hw ho hS
  have hv1 := vk_of hA hw
  have hct := hA.2.2.2.2.1
  obtain ⟨s0, s1, s2⟩ := hsi.2.2.1.1
  have hT8 : ((a_T A).length : Int) ≤ 8000 := by have := hct.1; omega
  obtain ⟨g1, g2, g3, g4⟩ := si_c hx hS hsi
  obtain ⟨ix, fl, ow, hE⟩ := hS.2.2.2.2.1
  have h16 := cRel_16 (c := 0) hS hp hw
  have hsub : ∀ k ∈ [3, 4, 5, 6, 7, 8, 9], k ∈ sML := by decide
  refine wJ_M (wJ_mono (wJ_len (aiT_215 (d := d + 84) hst.1 hS.2.2.1.1 hT8 hE.1 ⟨s0, by omega⟩ g2 g4 hsi.2.1 hv1 hc hk3 h16.2.2.2.1)) (fun o Z hz => ?_)) (mS_sM hsub)
  obtain ⟨⟨z1, S1, V, r, i1, i2, rfl⟩, hlen⟩ := hz
  rw [hx9] at i2
  refine ⟨z1, w_up V 158 11 r, ?_⟩
  have f1 : ∀ (j : Nat) (y : Int), ¬ (j = 158 ∧ 4 ≤ y ∧ y ≤ 13) → S1 j y = (w_up S 215 16 0) j y := fun j y hj => i1.2 j y (by omega)
  have hR1 : cRel S0 p HT cs ms os X mo A S1 := cRel_158 h16 hp hw f1
  have e16 : S1 215 16 = 0 := (f1 215 16 (by omega)).trans (w_up_same _ _ _ _)
  have eb : S1 218 (ba : Int) = S 218 (ba : Int) := (f1 218 _ (by omega)).trans (w_up_slot (by first | decide | omega))
  obtain ⟨⟨m4, m5, m6, m7, m8, m9, m10, m12, m13⟩, -⟩ := i1
  have hres : (V = S1 ∧ A1 = A ∧ r = nm) ∨ (nmQ (a_N A) X x S1 V ∧ A1 = (u_L A (a_H A) (a_N A ++ [x]) (a_E A) (a_C A) (a_W A) (a_c A) (a_k A)) ∧ r = nm ∧ x.length ≤ 60 ∧ (a_N A).length < 4000) := by
    rcases hR with ⟨y1, y2, y3⟩ | ⟨y1, ⟨y2, y3, y4⟩ | ⟨y2, y3, y4, y5⟩⟩
    · rcases i2 with ⟨w1, w2, w3⟩ | ⟨w1, -⟩
      · exact Or.inl ⟨w3.symm, y2, by omega⟩
      · omega
    · rcases i2 with ⟨w1, -⟩ | ⟨w1, ⟨v1, v2, v3⟩ | ⟨v1, -⟩ | ⟨v1, -⟩⟩
      · omega
      · exact Or.inl ⟨v3.symm, y3, by omega⟩
      · exact absurd y2 v1
      · exact absurd y2 v1
    · rcases i2 with ⟨w1, -⟩ | ⟨w1, ⟨v1, -⟩ | ⟨v1, v2, -⟩ | ⟨v1, v2, v3, v4⟩⟩
      · omega
      · exact absurd v1 y2
      · omega
      · exact Or.inr ⟨v4, y4, by omega, by omega, y3⟩
  rcases hres with ⟨rfl, rfl, rfl⟩ | ⟨hq, rfl, rfl, hx6, hl4⟩
  · have f2 : ∀ (j : Nat) (y : Int), ¬ (j = 158 ∧ 4 ≤ y ∧ y ≤ 13) → (w_up V 158 11 r) j y = V j y := fun j y hj => w_up_no (by omega)
    refine ⟨⟨cRel_158 hR1 hp hw f2, (w_up_slot (by first | decide | omega)).trans e16, (w_up_slot (by first | decide | omega)).trans eb⟩, ⟨?_, ?_, ?_, ?_, ?_, ?_, ?_, ?_, ?_, ?_⟩, fun _ _ _ => rfl⟩
    · exact (w_up_at (by first | decide | omega)).trans m4
    · exact (w_up_at (by first | decide | omega)).trans m5
    · exact (w_up_at (by first | decide | omega)).trans m6
    · exact (w_up_at (by first | decide | omega)).trans m7
    · exact (w_up_at (by first | decide | omega)).trans m8
    · exact (w_up_at (by first | decide | omega)).trans m9
    · exact (w_up_at (by first | decide | omega)).trans m10
    · exact w_up_same _ _ _ _
    · exact (w_up_at (by first | decide | omega)).trans m12
    · exact (w_up_at (by first | decide | omega)).trans m13
  · have f3 : ∀ (j : Nat) (y : Int), 13 ≤ j → j < 1000000 → V j y = S1 j y := fun j y j0 j1 => hq.2.2.2.2.2.1 j y (by omega) (by unfold wG; omega) (by omega)
    have f2 : ∀ (j : Nat) (y : Int), ¬ (j = 158 ∧ 4 ≤ y ∧ y ≤ 13) → (w_up V 158 11 r) j y = V j y := fun j y hj => w_up_no (by omega)
    have hCV : w_CL V := by
      have z : w_CL (w_up V 158 11 r) := CL_len h16.1.1 hsub hlen
      exact fun q hq => (w_up_at (by first | decide | omega)).symm.trans (z q hq)
    refine ⟨⟨cRel_158 (cRel_nm hR1 hA hp hw hq hx6 hl4 hCV) hp hw f2, (w_up_slot (by first | decide | omega)).trans ((f3 215 16 (by first | decide | omega) (by first | decide | omega)).trans e16), (w_up_slot (by first | decide | omega)).trans ((f3 218 _ (by first | decide | omega) (by first | decide | omega)).trans eb)⟩, ⟨?_, ?_, ?_, ?_, ?_, ?_, ?_, ?_, ?_, ?_⟩, fun _ _ _ => rfl⟩
    · exact (w_up_at (by first | decide | omega)).trans ((f3 _ _ (by first | decide | omega) (by first | decide | omega)).trans m4)
    · exact (w_up_at (by first | decide | omega)).trans ((f3 _ _ (by first | decide | omega) (by first | decide | omega)).trans m5)
    · exact (w_up_at (by first | decide | omega)).trans ((f3 _ _ (by first | decide | omega) (by first | decide | omega)).trans m6)
    · exact (w_up_at (by first | decide | omega)).trans ((f3 _ _ (by first | decide | omega) (by first | decide | omega)).trans m7)
    · exact (w_up_at (by first | decide | omega)).trans ((f3 _ _ (by first | decide | omega) (by first | decide | omega)).trans m8)
    · exact (w_up_at (by first | decide | omega)).trans ((f3 _ _ (by first | decide | omega) (by first | decide | omega)).trans m9)
    · exact (w_up_at (by first | decide | omega)).trans ((f3 _ _ (by first | decide | omega) (by first | decide | omega)).trans m10)
    · exact w_up_same _ _ _ _
    · exact (w_up_at (by first | decide | omega)).trans ((f3 _ _ (by first | decide | omega) (by first | decide | omega)).trans m12)
    · exact (w_up_at (by first | decide | omega)).trans ((f3 _ _ (by first | decide | omega) (by first | decide | omega)).trans m13)
/-- no room for a name -/
theorem aM_215 (hp : p = 73 ∨ p = 162) (hx : stX S0 fa X) (hA : wfA S0 fa ms n WE B A) (hr : (a_K A 0).2.2.2.1 = 1) (ho : opI S0 (a_K A 0) = 27) (hsi : siH S0 (a_K A 0) s kd nms ne ec bh ba ar) (hc : ((kd = 2 ∨ kd = 3) ∧ (((a_K A 0).1.getD ba (0, 0, [])).1 = 4 ∨ ((a_K A 0).1.getD ba (0, 0, [])).1 = 5))) (hk3 : ((a_K A 0).1.getD (ba + 1) (0, 0, [])).1 = 3) (hx9 : ((a_K A 0).1.getD (ba + 1) (0, 0, [])).2.2 = x) (hR : (1 ≤ x.length ∧ x.length ≤ 60) ∧ x ∉ a_N A ∧ 4000 ≤ (a_N A).length) (hS : cRel S0 p HT cs ms os X mo A S) : wJ (pe_GA xs) wY0 (mS sML) (d + 91) t_XL_aim ((pe_at t_XL_aim.bl 0).getD (0, [])).2 [(0, (2, 158)), (1, (2, 215)), (2, (0, s))] [] (w_up S 215 16 0) (fun o Z => o = .inl none ∧ Z 215 16 = 99 ∧ cRel S0 p HT cs ms os X mo A Z) := by
  have hw : isWt 215 0 := Or.inl ⟨rfl, rfl⟩
  have hk := wT_of hA hw
  have hst := hco_c hx hk hr hw ho hS
  have hv1 := vk_of hA hw
  have hct := hA.2.2.2.2.1
  obtain ⟨s0, s1, s2⟩ := hsi.2.2.1.1
  have hT8 : ((a_T A).length : Int) ≤ 8000 := by have := hct.1; omega
  obtain ⟨g1, g2, g3, g4⟩ := si_c hx hS hsi
  obtain ⟨ix, fl, ow, hE⟩ := hS.2.2.2.2.1
  have h16 := cRel_16 (c := 0) hS hp hw
  have hsub : ∀ k ∈ [3, 4, 5, 6, 7, 8, 9], k ∈ sML := by decide
  refine wJ_M (wJ_mono (aiT_215 (d := d + 84) hst.1 hS.2.2.1.1 hT8 hE.1 ⟨s0, by omega⟩ g2 g4 hsi.2.1 hv1 hc hk3 h16.2.2.2.1) (fun o Z hz => ?_)) (mS_sM hsub)
  obtain ⟨z1, S1, V, r, i1, i2, rfl⟩ := hz
  rw [hx9] at i2
  have f1 : ∀ (j : Nat) (y : Int), ¬ (j = 158 ∧ 4 ≤ y ∧ y ≤ 13) → S1 j y = (w_up S 215 16 0) j y := fun j y hj => i1.2 j y (by omega)
  have hR1 : cRel S0 p HT cs ms os X mo A S1 := cRel_158 h16 hp hw f1
  obtain ⟨y1, y2, y3⟩ := hR
  rcases i2 with ⟨w1, -⟩ | ⟨w1, ⟨v1, -⟩ | ⟨v1, v2, v3, rfl⟩ | ⟨v1, v2, -⟩⟩
  · omega
  · exact absurd v1 y2
  · exact ⟨z1, (w_up_slot (by first | decide | omega)).trans (w_up_same _ _ _ _), cRel_158 (cRel_16 hR1 hp hw) hp hw (fun j y hj => w_up_no (by omega))⟩
  · omega

theorem aC_226 (hp : p = 73 ∨ p = 162) (hx : stX S0 fa X) (hA : wfA S0 fa ms n WE B A) (hr : (a_K A 1).2.2.2.1 = 1) (ho : opI S0 (a_K A 1) = 27) (hsi : siH S0 (a_K A 1) s kd nms ne ec bh ba ar) (hc : ¬ ((kd = 2 ∨ kd = 3) ∧ (((a_K A 1).1.getD ba (0, 0, [])).1 = 4 ∨ ((a_K A 1).1.getD ba (0, 0, [])).1 = 5))) (hS : cRel S0 p HT cs ms os X mo A S) : wJ (pe_GA xs) wY0 (mS sML) (d + 91) t_XL_aim ((pe_at t_XL_aim.bl 0).getD (0, [])).2 [(0, (2, 158)), (1, (2, 226)), (2, (0, s))] [] (w_up S 226 16 0) (fun o Z => o = .inl none ∧ ∃ B : wS, (cRel S0 p HT cs ms os X mo A B ∧ B 226 16 = 0 ∧ B 229 (ba : Int) = S 229 (ba : Int)) ∧ amQ 226 s kd ec (ba : Int) ((a_K A 1).1.getD ba (0, 0, [])).1 (S 229 (ba : Int)) nms (esV (ar.map (clO (a_T A)))) B Z) := by
  have hw : isWt 226 1 := Or.inr ⟨rfl, rfl⟩
  have hk := wT_of hA hw
  have hst := hco_c hx hk hr hw ho hS
  have hv1 := vk_of hA hw
  have hct := hA.2.2.2.2.1
  obtain ⟨s0, s1, s2⟩ := hsi.2.2.1.1
  have hT8 : ((a_T A).length : Int) ≤ 8000 := by have := hct.1; omega
  obtain ⟨g1, g2, g3, g4⟩ := si_c hx hS hsi
  obtain ⟨ix, fl, ow, hE⟩ := hS.2.2.2.2.1
  have h16 := cRel_16 (c := 0) hS hp hw
  refine wJ_M (wJ_mono (aiC_226 (M := mS sML) (d := d + 87) hst.1 hS.2.2.1.1 hT8 hE.1 ⟨s0, by omega⟩ g2 g4 g3 hsi.2.1 hv1 hc) (fun o Z hz => ?_)) (fun j z => z)
  · skip
    obtain ⟨z1, z2⟩ := hz
    have f : ∀ (j : Nat) (y : Int), ¬ (j = 158 ∧ 4 ≤ y ∧ y ≤ 13) → Z j y = (w_up S 226 16 0) j y := fun j y hj => z2.2 j y (by omega)
    exact ⟨z1, Z, ⟨cRel_158 h16 hp hw f, (f 226 16 (by omega)).trans (w_up_same _ _ _ _), (f 229 _ (by omega)).trans (w_up_slot (by first | decide | omega))⟩, z2.1, fun _ _ _ => rfl⟩
theorem aE_226 (hp : p = 73 ∨ p = 162) (hx : stX S0 fa X) (hA : wfA S0 fa ms n WE B A) (hr : (a_K A 1).2.2.2.1 = 1) (ho : opI S0 (a_K A 1) = 27) (hsi : siH S0 (a_K A 1) s kd nms ne ec bh ba ar) (hc : ((kd = 2 ∨ kd = 3) ∧ (((a_K A 1).1.getD ba (0, 0, [])).1 = 4 ∨ ((a_K A 1).1.getD ba (0, 0, [])).1 = 5))) (hk3 : ((a_K A 1).1.getD (ba + 1) (0, 0, [])).1 ≠ 3) (hS : cRel S0 p HT cs ms os X mo A S) : wJ (pe_GA xs) wY0 (mS sML) (d + 91) t_XL_aim ((pe_at t_XL_aim.bl 0).getD (0, [])).2 [(0, (2, 158)), (1, (2, 226)), (2, (0, s))] [] (w_up S 226 16 0) (fun o Z => o = .inl none ∧ ∃ B : wS, (cRel S0 p HT cs ms os X mo A B ∧ B 226 16 = 0 ∧ B 229 (ba : Int) = S 229 (ba : Int)) ∧ amQ 226 s kd ec (ba : Int) ((a_K A 1).1.getD ba (0, 0, [])).1 (S 229 (ba : Int)) (-1) (esV (ar.map (clO (a_T A)))) B Z) := by
  have hw : isWt 226 1 := Or.inr ⟨rfl, rfl⟩
  have hk := wT_of hA hw
  have hst := hco_c hx hk hr hw ho hS
  have hv1 := vk_of hA hw
  have hct := hA.2.2.2.2.1
  obtain ⟨s0, s1, s2⟩ := hsi.2.2.1.1
  have hT8 : ((a_T A).length : Int) ≤ 8000 := by have := hct.1; omega
  obtain ⟨g1, g2, g3, g4⟩ := si_c hx hS hsi
  obtain ⟨ix, fl, ow, hE⟩ := hS.2.2.2.2.1
  have h16 := cRel_16 (c := 0) hS hp hw
  refine wJ_M (wJ_mono (aiE_226 (M := mS sML) (d := d + 84) hst.1 hS.2.2.1.1 hT8 hE.1 ⟨s0, by omega⟩ g2 g4 hsi.2.1 hv1 hc hk3) (fun o Z hz => ?_)) (fun j z => z)
  · skip
    obtain ⟨z1, z2⟩ := hz
    have f : ∀ (j : Nat) (y : Int), ¬ (j = 158 ∧ 4 ≤ y ∧ y ≤ 13) → Z j y = (w_up S 226 16 0) j y := fun j y hj => z2.2 j y (by omega)
    exact ⟨z1, Z, ⟨cRel_158 h16 hp hw f, (f 226 16 (by omega)).trans (w_up_same _ _ _ _), (f 229 _ (by omega)).trans (w_up_slot (by first | decide | omega))⟩, z2.1, fun _ _ _ => rfl⟩
theorem aT_226 (hp : p = 73 ∨ p = 162) (hx : stX S0 fa X) (hA : wfA S0 fa ms n WE B A) (hr : (a_K A 1).2.2.2.1 = 1) (ho : opI S0 (a_K A 1) = 27) (hsi : siH S0 (a_K A 1) s kd nms ne ec bh ba ar) (hc : ((kd = 2 ∨ kd = 3) ∧ (((a_K A 1).1.getD ba (0, 0, [])).1 = 4 ∨ ((a_K A 1).1.getD ba (0, 0, [])).1 = 5))) (hk3 : ((a_K A 1).1.getD (ba + 1) (0, 0, [])).1 = 3) {N9 : List (List Int)} (hx9 : ((a_K A 1).1.getD (ba + 1) (0, 0, [])).2.2 = x) (hR : (x.length < 1 ∨ 60 < x.length) ∧ A1 = A ∧ nm = -1 ∨ ((1 ≤ x.length ∧ x.length ≤ 60) ∧ ((x ∈ a_N A ∧ A1 = A ∧ nm = ixL (a_N A) x) ∨ (x ∉ a_N A ∧ (a_N A).length < 4000 ∧ A1 = (u_L A (a_H A) (a_N A ++ [x]) (a_E A) (a_C A) (a_W A) (a_c A) (a_k A)) ∧ nm = ((a_N A).length : Int))))) (hS : cRel S0 p HT cs ms os X mo A S) : wJ (pe_GA xs) wY0 (mS sML) (d + 91) t_XL_aim ((pe_at t_XL_aim.bl 0).getD (0, [])).2 [(0, (2, 158)), (1, (2, 226)), (2, (0, s))] [] (w_up S 226 16 0) (fun o Z => o = .inl none ∧ ∃ B : wS, (cRel S0 p HT cs ms os X mo A1 B ∧ B 226 16 = 0 ∧ B 229 (ba : Int) = S 229 (ba : Int)) ∧ amQ 226 s kd ec (ba : Int) ((a_K A 1).1.getD ba (0, 0, [])).1 (S 229 (ba : Int)) nm (esV (ar.map (clO (a_T A)))) B Z) := by
  have hw : isWt 226 1 := Or.inr ⟨rfl, rfl⟩
  have hk := wT_of hA hw
  have hst := hco_c hx hk hr hw ho hS
  have hv1 := vk_of hA hw
  have hct := hA.2.2.2.2.1
  obtain ⟨s0, s1, s2⟩ := hsi.2.2.1.1
  have hT8 : ((a_T A).length : Int) ≤ 8000 := by have := hct.1; omega
  obtain ⟨g1, g2, g3, g4⟩ := si_c hx hS hsi
  obtain ⟨ix, fl, ow, hE⟩ := hS.2.2.2.2.1
  have h16 := cRel_16 (c := 0) hS hp hw
  have hsub : ∀ k ∈ [3, 4, 5, 6, 7, 8, 9], k ∈ sML := by decide
  refine wJ_M (wJ_mono (wJ_len (aiT_226 (d := d + 84) hst.1 hS.2.2.1.1 hT8 hE.1 ⟨s0, by omega⟩ g2 g4 hsi.2.1 hv1 hc hk3 h16.2.2.2.1)) (fun o Z hz => ?_)) (mS_sM hsub)
  obtain ⟨⟨z1, S1, V, r, i1, i2, rfl⟩, hlen⟩ := hz
  rw [hx9] at i2
  refine ⟨z1, w_up V 158 11 r, ?_⟩
  have f1 : ∀ (j : Nat) (y : Int), ¬ (j = 158 ∧ 4 ≤ y ∧ y ≤ 13) → S1 j y = (w_up S 226 16 0) j y := fun j y hj => i1.2 j y (by omega)
  have hR1 : cRel S0 p HT cs ms os X mo A S1 := cRel_158 h16 hp hw f1
  have e16 : S1 226 16 = 0 := (f1 226 16 (by omega)).trans (w_up_same _ _ _ _)
  have eb : S1 229 (ba : Int) = S 229 (ba : Int) := (f1 229 _ (by omega)).trans (w_up_slot (by first | decide | omega))
  obtain ⟨⟨m4, m5, m6, m7, m8, m9, m10, m12, m13⟩, -⟩ := i1
  have hres : (V = S1 ∧ A1 = A ∧ r = nm) ∨ (nmQ (a_N A) X x S1 V ∧ A1 = (u_L A (a_H A) (a_N A ++ [x]) (a_E A) (a_C A) (a_W A) (a_c A) (a_k A)) ∧ r = nm ∧ x.length ≤ 60 ∧ (a_N A).length < 4000) := by
    rcases hR with ⟨y1, y2, y3⟩ | ⟨y1, ⟨y2, y3, y4⟩ | ⟨y2, y3, y4, y5⟩⟩
    · rcases i2 with ⟨w1, w2, w3⟩ | ⟨w1, -⟩
      · exact Or.inl ⟨w3.symm, y2, by omega⟩
      · omega
    · rcases i2 with ⟨w1, -⟩ | ⟨w1, ⟨v1, v2, v3⟩ | ⟨v1, -⟩ | ⟨v1, -⟩⟩
      · omega
      · exact Or.inl ⟨v3.symm, y3, by omega⟩
      · exact absurd y2 v1
      · exact absurd y2 v1
    · rcases i2 with ⟨w1, -⟩ | ⟨w1, ⟨v1, -⟩ | ⟨v1, v2, -⟩ | ⟨v1, v2, v3, v4⟩⟩
      · omega
      · exact absurd v1 y2
      · omega
      · exact Or.inr ⟨v4, y4, by omega, by omega, y3⟩
  rcases hres with ⟨rfl, rfl, rfl⟩ | ⟨hq, rfl, rfl, hx6, hl4⟩
  · have f2 : ∀ (j : Nat) (y : Int), ¬ (j = 158 ∧ 4 ≤ y ∧ y ≤ 13) → (w_up V 158 11 r) j y = V j y := fun j y hj => w_up_no (by omega)
    refine ⟨⟨cRel_158 hR1 hp hw f2, (w_up_slot (by first | decide | omega)).trans e16, (w_up_slot (by first | decide | omega)).trans eb⟩, ⟨?_, ?_, ?_, ?_, ?_, ?_, ?_, ?_, ?_, ?_⟩, fun _ _ _ => rfl⟩
    · exact (w_up_at (by first | decide | omega)).trans m4
    · exact (w_up_at (by first | decide | omega)).trans m5
    · exact (w_up_at (by first | decide | omega)).trans m6
    · exact (w_up_at (by first | decide | omega)).trans m7
    · exact (w_up_at (by first | decide | omega)).trans m8
    · exact (w_up_at (by first | decide | omega)).trans m9
    · exact (w_up_at (by first | decide | omega)).trans m10
    · exact w_up_same _ _ _ _
    · exact (w_up_at (by first | decide | omega)).trans m12
    · exact (w_up_at (by first | decide | omega)).trans m13
  · have f3 : ∀ (j : Nat) (y : Int), 13 ≤ j → j < 1000000 → V j y = S1 j y := fun j y j0 j1 => hq.2.2.2.2.2.1 j y (by omega) (by unfold wG; omega) (by omega)
    have f2 : ∀ (j : Nat) (y : Int), ¬ (j = 158 ∧ 4 ≤ y ∧ y ≤ 13) → (w_up V 158 11 r) j y = V j y := fun j y hj => w_up_no (by omega)
    have hCV : w_CL V := by
      have z : w_CL (w_up V 158 11 r) := CL_len h16.1.1 hsub hlen
      exact fun q hq => (w_up_at (by first | decide | omega)).symm.trans (z q hq)
    refine ⟨⟨cRel_158 (cRel_nm hR1 hA hp hw hq hx6 hl4 hCV) hp hw f2, (w_up_slot (by first | decide | omega)).trans ((f3 226 16 (by first | decide | omega) (by first | decide | omega)).trans e16), (w_up_slot (by first | decide | omega)).trans ((f3 229 _ (by first | decide | omega) (by first | decide | omega)).trans eb)⟩, ⟨?_, ?_, ?_, ?_, ?_, ?_, ?_, ?_, ?_, ?_⟩, fun _ _ _ => rfl⟩
    · exact (w_up_at (by first | decide | omega)).trans ((f3 _ _ (by first | decide | omega) (by first | decide | omega)).trans m4)
    · exact (w_up_at (by first | decide | omega)).trans ((f3 _ _ (by first | decide | omega) (by first | decide | omega)).trans m5)
    · exact (w_up_at (by first | decide | omega)).trans ((f3 _ _ (by first | decide | omega) (by first | decide | omega)).trans m6)
    · exact (w_up_at (by first | decide | omega)).trans ((f3 _ _ (by first | decide | omega) (by first | decide | omega)).trans m7)
    · exact (w_up_at (by first | decide | omega)).trans ((f3 _ _ (by first | decide | omega) (by first | decide | omega)).trans m8)
    · exact (w_up_at (by first | decide | omega)).trans ((f3 _ _ (by first | decide | omega) (by first | decide | omega)).trans m9)
    · exact (w_up_at (by first | decide | omega)).trans ((f3 _ _ (by first | decide | omega) (by first | decide | omega)).trans m10)
    · exact w_up_same _ _ _ _
    · exact (w_up_at (by first | decide | omega)).trans ((f3 _ _ (by first | decide | omega) (by first | decide | omega)).trans m12)
    · exact (w_up_at (by first | decide | omega)).trans ((f3 _ _ (by first | decide | omega) (by first | decide | omega)).trans m13)
/-- no room for a name -/
theorem aM_226 (hp : p = 73 ∨ p = 162) (hx : stX S0 fa X) (hA : wfA S0 fa ms n WE B A) (hr : (a_K A 1).2.2.2.1 = 1) (ho : opI S0 (a_K A 1) = 27) (hsi : siH S0 (a_K A 1) s kd nms ne ec bh ba ar) (hc : ((kd = 2 ∨ kd = 3) ∧ (((a_K A 1).1.getD ba (0, 0, [])).1 = 4 ∨ ((a_K A 1).1.getD ba (0, 0, [])).1 = 5))) (hk3 : ((a_K A 1).1.getD (ba + 1) (0, 0, [])).1 = 3) (hx9 : ((a_K A 1).1.getD (ba + 1) (0, 0, [])).2.2 = x) (hR : (1 ≤ x.length ∧ x.length ≤ 60) ∧ x ∉ a_N A ∧ 4000 ≤ (a_N A).length) (hS : cRel S0 p HT cs ms os X mo A S) : wJ (pe_GA xs) wY0 (mS sML) (d + 91) t_XL_aim ((pe_at t_XL_aim.bl 0).getD (0, [])).2 [(0, (2, 158)), (1, (2, 226)), (2, (0, s))] [] (w_up S 226 16 0) (fun o Z => o = .inl none ∧ Z 226 16 = 99 ∧ cRel S0 p HT cs ms os X mo A Z) := by
  have hw : isWt 226 1 := Or.inr ⟨rfl, rfl⟩
  have hk := wT_of hA hw
  have hst := hco_c hx hk hr hw ho hS
  have hv1 := vk_of hA hw
  have hct := hA.2.2.2.2.1
  obtain ⟨s0, s1, s2⟩ := hsi.2.2.1.1
  have hT8 : ((a_T A).length : Int) ≤ 8000 := by have := hct.1; omega
  obtain ⟨g1, g2, g3, g4⟩ := si_c hx hS hsi
  obtain ⟨ix, fl, ow, hE⟩ := hS.2.2.2.2.1
  have h16 := cRel_16 (c := 0) hS hp hw
  have hsub : ∀ k ∈ [3, 4, 5, 6, 7, 8, 9], k ∈ sML := by decide
  refine wJ_M (wJ_mono (aiT_226 (d := d + 84) hst.1 hS.2.2.1.1 hT8 hE.1 ⟨s0, by omega⟩ g2 g4 hsi.2.1 hv1 hc hk3 h16.2.2.2.1) (fun o Z hz => ?_)) (mS_sM hsub)
  obtain ⟨z1, S1, V, r, i1, i2, rfl⟩ := hz
  rw [hx9] at i2
  have f1 : ∀ (j : Nat) (y : Int), ¬ (j = 158 ∧ 4 ≤ y ∧ y ≤ 13) → S1 j y = (w_up S 226 16 0) j y := fun j y hj => i1.2 j y (by omega)
  have hR1 : cRel S0 p HT cs ms os X mo A S1 := cRel_158 h16 hp hw f1
  obtain ⟨y1, y2, y3⟩ := hR
  rcases i2 with ⟨w1, -⟩ | ⟨w1, ⟨v1, -⟩ | ⟨v1, v2, v3, rfl⟩ | ⟨v1, v2, -⟩⟩
  · omega
  · exact absurd v1 y2
  · exact ⟨z1, (w_up_slot (by first | decide | omega)).trans (w_up_same _ _ _ _), cRel_158 (cRel_16 hR1 hp hw) hp hw (fun j y hj => w_up_no (by omega))⟩
  · omega

end Wlc
