/-! PART ls: looking at things, on both sides, in one. -/
section Wls
variable {xs : List (Nat × List Int32)} {d : Nat} {S0 S Z : wS} {p w m : Nat} {HT : Int → Int} {cs : List hCR} {ms : List hMR} {os : Int → List Int} {X : List (List Int)} {mo t n B B2 oq : Int} {fa : Int → Int} {WE : aA → Prop} {A A2 : aA} {K2 : aK} {ml : List Nat} {k c s kd nms ne ec bh nm en : Int} {b ba : Nat} {ar : List aV} {e : aE} {V Z2 Y : wS} {o : wO} {dn : Int} {H2 : List aH} {N2 : List (List Int)} {E2 : Int → List aE} {C2 : List aQ} {W2 : Int} {c2 : Int → Int} {k2 : Int → Int → Int} {mk rk : Nat → Int → Prop} {K : aK} {T : List aO} {H : List aH} {E : Int → List aE} {gk gb es lo hi a : Int} {r : List aE × Int × Option aE} {A1 : aA} {tl cl : List Int} {sl : Nat → List Int} {L : List aC} {G : Int → aV} {u : aV} {x : List Int} {T2 : List aO} {L2 : List aC} {G2 : Int → aV} {H2 : List aH} {c2 : Int → Int} {y : Int} {Q : wO → wS → Prop} {ps : List (Int × aV)} {k hd wh : Int} {f a9 pn fn md : Int} {vn m9 : Nat} {th : aV} {g : Int} {lp : List aV} {l ds fo g : Int} {mk : Nat → Int → Prop} {C2 : List aQ} {W2 : Int} {RZ : wS → Prop} {N3 : Nat} {SB : wS} {r r0 : Int} {sh : Int}
/-- all that holds, when a shape has come -/
theorem wf_Q1 (h : wfA S0 fa ms n (WEs S0 HT cs ms os) B A) (hsh : 0 ≤ sh ∧ sh < ((a_H A).length : Int)) (hnm : 0 ≤ nm ∧ nm < ((a_N A).length : Int)) (hf : aFs sh (qPr (a_H A) sh) nm (a_H A) 0 = -1) (hns : nm ∉ aNs (a_H A) sh) (h4 : a_c A 4 < 4000) (ha : a_c A (20 + 0) + 1 ≤ B) : wfA S0 fa ms n (WEs S0 HT cs ms os) B (u_Q A (a_H A ++ [(qPr (a_H A) sh, sh, nm, qSz (a_H A) sh + 1)]) (a_C A) (a_W A) 0 1) := by
  obtain ⟨a1, a3, a4, a5, ⟨b1, b2, b3, b4, b5, ⟨b6, b6b, b6c⟩, b7, b8, b9⟩, ⟨n1, n2, n3⟩, a7, a8x⟩ := h
  have ew := cq_w (A := A) (l := 0) (ds := 1) (by omega)
  have en : ∀ i : Int, i ≠ 20 → i ≠ 4 → (fUp (fUp (a_c A) (20 + 0) (a_c A (20 + 0) + 1)) 4 (a_c A 4 + 1)) i = a_c A i := fun i hi h2 => cq_n (l := 0) (ds := 1) h2 (by omega)
  have hH := wSh_ns a3 hsh hnm.1 hf (by omega) hns
  have hll : (((a_H A ++ [(qPr (a_H A) sh, sh, nm, qSz (a_H A) sh + 1)]).length : Nat) : Int) = ((a_H A).length : Int) + 1 := by rw [List.length_append]; rfl
  have e11 := en 11 (by omega) (by omega)
  have eq : ∀ e : aE, ∀ q : Int, eOk S0 HT cs ms os A q e → eOk S0 HT cs ms os (u_Q A (a_H A ++ [(qPr (a_H A) sh, sh, nm, qSz (a_H A) sh + 1)]) (a_C A) (a_W A) 0 1) q e := fun e q hq => by
    obtain ⟨⟨c0, c1⟩, c2, c3⟩ := hq
    refine ⟨⟨c0, c1.1, ?_⟩, eRt_ch a3 (eCh_ns (c := a_c A 11 + 1) a3) ⟨c1.1, by omega⟩ c2, c3⟩
    show e.2.2.2.2.2.2.1 ≤ (fUp (fUp (a_c A) (20 + 0) (a_c A (20 + 0) + 1)) 4 (a_c A 4 + 1)) 11
    rw [e11]
    exact c1.2
  have e0 := en 0 (by omega) (by omega)
  have e1 := en 1 (by omega) (by omega)
  have e2 := en 2 (by omega) (by omega)
  have e3 := en 3 (by omega) (by omega)
  have e4 := cq_4 (A := A) (l := 0) (ds := 1)
  have e19 := en 19 (by omega) (by omega)
  have el := cq_l (A := A) (l := 0) (ds := 1) (by omega)
  have hnb := nmB_a (h := (qPr (a_H A) sh, sh, nm, qSz (a_H A) sh + 1)) (m := ((a_N A).length : Int)) n2 (Or.inr hnm)
  generalize hcc : (fUp (fUp (a_c A) (20 + 0) (a_c A (20 + 0) + 1)) 4 (a_c A 4 + 1)) = cc at *
  refine ⟨a1, hH, a4, a5, ⟨?_, ?_, ?_, ?_, ?_, ⟨?_, ?_, fun i i0 i1 => ?_⟩, b7, fun k k0 k1 => ?_, b9⟩, ⟨n1, hnb, n3⟩, ⟨fun q q0 q1 => ⟨(a7 q q0 q1).1, fun e he => eq e q ((a7 q q0 q1).2 e he)⟩, ⟨⟨?_, a8x.1.2⟩, a8x.2⟩⟩⟩
  all_goals unfold u_Q
  all_goals rw [hcc]
  · show ((a_T A).length : Int) + ((a_L A).length : Int) ≤ cc 0 ∧ cc 0 ≤ 8000
    rw [e0]
    exact b1
  · show 0 ≤ cc 1 ∧ cc 1 ≤ 60000 ∧ ∀ o ∈ a_T A, (o.2.2.2.2.2.2.length : Int) ≤ cc 1
    rw [e1]
    exact b2
  · show 0 ≤ cc 2 ∧ cc 2 ≤ 12000
    rw [e2]
    exact b3
  · show 0 ≤ cc 3 ∧ cc 3 ≤ 200000
    rw [e3]
    exact b4
  · show 0 ≤ cc 4 ∧ cc 4 ≤ 4000 ∧ ((a_H A ++ [(qPr (a_H A) sh, sh, nm, qSz (a_H A) sh + 1)]).length : Int) ≤ cc 4 + 1
    rw [e4]
    omega
  · show 0 ≤ cc 11 ∧ cc 11 ≤ B
    rw [e11]
    exact b6
  · show 0 ≤ cc 19 ∧ cc 19 ≤ B
    rw [e19]
    exact b6b
  · show 0 ≤ cc i ∧ cc i ≤ B
    by_cases e : i = 20
    · have e9 : i = 20 + 0 := by omega
      rw [e9, el]
      have := b6c (20 + 0) (by omega) (by omega)
      omega
    · rw [en i e (by omega)]
      exact b6c i i0 i1
  · show (-1 ≤ (tO (a_T A) k).2.2.2.2.1 ∧ (tO (a_T A) k).2.2.2.2.1 ≤ cc 11) ∧ 0 ≤ (tO (a_T A) k).2.2.2.2.2.1 ∧ (tO (a_T A) k).2.2.2.2.2.1 ≤ cc 11
    rw [e11]
    exact b8 k k0 k1
  · show a_W A ≤ cc 21 + cc 22
    exact Int.le_trans a8x.1.1 ew
/-- looking at a thing to write -/
theorem lo_set (h : hyA S0 p HT cs ms os X fa n B2 w t A s kd nms ne ec bh ba ar) (hL9 : stL S0) (hx1 : pe_at (pe_GA xs).xs 1 = some (1, tx_1)) (h97 : pe_at (pe_GA xs).xs 97 = some (3, tx_97)) (hq9 : stQ S0) (hb : a_c A 20 + 1 ≤ B2) (hkd : kd = 1 ∨ kd = 3) (hgk : ((a_K A t).1.getD ba (0, 0, [])).1 = 4 ∨ ((a_K A t).1.getD ba (0, 0, [])).1 = 5) (hnm : 0 ≤ nm ∧ nm < ((a_N A).length : Int)) (hne : nm = if kd = 2 ∨ kd = 3 then en else nms) (hen : en = enE kd nm) : lOut xs d S0 p HT cs ms os X mo fa n B2 w t A s kd nms ec bh ba nm en es := by
  have hN4 := h.2.1.2.2.2.2.2.1.1.1
  obtain ⟨go1, go2, go3⟩ := gO h hgk
  have hn2 : nmE kd nms nm := by
    unfold nmE
    by_cases z : kd = 2 ∨ kd = 3
    · exact Or.inl z
    · rw [if_neg z] at hne
      exact Or.inr hne
  have hn3 : nm = if kd = 1 then nms else en := by
    rcases hkd with z | z
    · rw [if_pos z]
      rw [if_neg (by omega)] at hne
      exact hne
    · rw [if_neg (by omega)]
      rw [if_pos (by omega)] at hne
      exact hne
  have hnm9 : 0 ≤ nm ∧ nm ≤ 100000 := ⟨hnm.1, by omega⟩
  have ssb : 0 ≤ s ∧ s < S0 237 47 := ⟨h.2.2.2.2.1.2.2.1.1.1, h.2.2.2.2.1.2.2.1.1.2.1⟩
  have hrg := aFs_rg (be := (tO (a_T A) ((a_K A t).1.getD ba (0, 0, [])).2.1).2.1) (pr := qPr (a_H A) (tO (a_T A) ((a_K A t).1.getD ba (0, 0, [])).2.1).2.1) (nm := nm) (H := a_H A)
  by_cases hc : (aIx (a_T A) nm ((a_K A t).1.getD ba (0, 0, [])).2.1 ≠ -1) ∨ (aIx (a_T A) nm ((a_K A t).1.getD ba (0, 0, [])).2.1 = -1 ∧ 0 ≤ aFs (tO (a_T A) ((a_K A t).1.getD ba (0, 0, [])).2.1).2.1 (qPr (a_H A) (tO (a_T A) ((a_K A t).1.getD ba (0, 0, [])).2.1).2.1) nm (a_H A) 0)
  · have hrr : ∃ r : Int, (aIx (a_T A) nm ((a_K A t).1.getD ba (0, 0, [])).2.1 ≠ -1 ∧ r = -1) ∨ (aIx (a_T A) nm ((a_K A t).1.getD ba (0, 0, [])).2.1 = -1 ∧ 0 ≤ r ∧ r = aFs (tO (a_T A) ((a_K A t).1.getD ba (0, 0, [])).2.1).2.1 (qPr (a_H A) (tO (a_T A) ((a_K A t).1.getD ba (0, 0, [])).2.1).2.1) nm (a_H A) 0) := by
      rcases hc with z | z
      · exact ⟨-1, Or.inl ⟨z, rfl⟩⟩
      · exact ⟨_, Or.inr ⟨z.1, z.2, rfl⟩⟩
    obtain ⟨r, hrr⟩ := hrr
    have hr2 : (aIx (a_T A) nm ((a_K A t).1.getD ba (0, 0, [])).2.1 ≠ -1 ∧ r = -1) ∨ (aIx (a_T A) nm ((a_K A t).1.getD ba (0, 0, [])).2.1 = -1 ∧ r ≠ -1 ∧ r = aFs (tO (a_T A) ((a_K A t).1.getD ba (0, 0, [])).2.1).2.1 (qPr (a_H A) (tO (a_T A) ((a_K A t).1.getD ba (0, 0, [])).2.1).2.1) nm (a_H A) 0) := by
      rcases hrr with z | z
      · exact Or.inl z
      · exact Or.inr ⟨z.1, by have := z.2.1; omega, z.2.2⟩
    have w1 := wf_Q0 (l := 0) h.2.1 (by first | decide | omega) hb
    have c11 : a_c (u_Q A (a_H A) (a_C A) (a_W A) 0 0) 11 = a_c A 11 := cq_n (A := A) (l := 0) (ds := 0) (i := 11) (by first | decide | omega) (by first | decide | omega)
    obtain ⟨ok, hp0⟩ := ok_st h hL9 hkd hgk hnm hn2 hr2
    have w2 := wf_N (s := s) w1 ssb (eOk_2 ok rfl rfl rfl c11)
    have h3 := hy_2 h w2 rfl c11
    obtain ⟨c, A2, y1, y2, y3, y4, y5⟩ := ao_0 (en := en) (es := es) (d := d) (mo := mo) h3 hx1 h97 hq9 hp0 (fun _ => hn3)
    refine ⟨c, A2, y1, y2, y3, ?_, fun Z hZ ha => rLk_s (N3 := 0) h rfl w1 ⟨rfl, rfl⟩ (Nat.zero_le _) (rks h hkd hgk hnm9 hne hen hrr) y5 Z hZ ha⟩
    rcases h.1.2.1 with ⟨rfl, rfl⟩ | ⟨rfl, rfl⟩
    · exact cks_215 h hL9 hx1 hkd hgk hnm9 hn2 hrr y4
    · exact cks_226 h hL9 hx1 hkd hgk hnm9 hn2 hrr y4
  · have i1 : aIx (a_T A) nm ((a_K A t).1.getD ba (0, 0, [])).2.1 = -1 := by
      by_cases z : aIx (a_T A) nm ((a_K A t).1.getD ba (0, 0, [])).2.1 = -1
      · exact z
      · exact absurd (Or.inl z) hc
    have i2 : aFs (tO (a_T A) ((a_K A t).1.getD ba (0, 0, [])).2.1).2.1 (qPr (a_H A) (tO (a_T A) ((a_K A t).1.getD ba (0, 0, [])).2.1).2.1) nm (a_H A) 0 = -1 := by
      have : ¬ (0 ≤ aFs (tO (a_T A) ((a_K A t).1.getD ba (0, 0, [])).2.1).2.1 (qPr (a_H A) (tO (a_T A) ((a_K A t).1.getD ba (0, 0, [])).2.1).2.1) nm (a_H A) 0) := fun z => hc (Or.inr ⟨i1, z⟩)
      omega
    by_cases h4 : a_c A 4 < 4000
    · have hns : nm ∉ aNs (a_H A) (tO (a_T A) ((a_K A t).1.getD ba (0, 0, [])).2.1).2.1 := by
        have z := (aUp_sh (nm := nm) h.2.1.2.1 go1).1
        rw [i1] at z
        exact (lIx_ne _).mp z.symm
      have w1 := wf_Q1 h.2.1 go3 hnm i2 hns h4 hb
      have c11 : a_c (u_Q A (a_H A ++ [(qPr (a_H A) (tO (a_T A) ((a_K A t).1.getD ba (0, 0, [])).2.1).2.1, (tO (a_T A) ((a_K A t).1.getD ba (0, 0, [])).2.1).2.1, nm, qSz (a_H A) (tO (a_T A) ((a_K A t).1.getD ba (0, 0, [])).2.1).2.1 + 1)]) (a_C A) (a_W A) 0 1) 11 = a_c A 11 := cq_n (A := A) (l := 0) (ds := 1) (i := 11) (by first | decide | omega) (by first | decide | omega)
      have h2 := hy_2 h w1 rfl c11
      have hp9 := ((eCh_ns (h := (qPr (a_H A) (tO (a_T A) ((a_K A t).1.getD ba (0, 0, [])).2.1).2.1, (tO (a_T A) ((a_K A t).1.getD ba (0, 0, [])).2.1).2.1, nm, qSz (a_H A) (tO (a_T A) ((a_K A t).1.getD ba (0, 0, [])).2.1).2.1 + 1)) (c := 0) h.2.1.2.1).2.1 (tO (a_T A) ((a_K A t).1.getD ba (0, 0, [])).2.1).2.1 go3.1 go3.2).1
      have ha9 : ((a_H A).length : Int) = aFs (tO (a_T A) ((a_K A t).1.getD ba (0, 0, [])).2.1).2.1 (qPr (a_H A ++ [(qPr (a_H A) (tO (a_T A) ((a_K A t).1.getD ba (0, 0, [])).2.1).2.1, (tO (a_T A) ((a_K A t).1.getD ba (0, 0, [])).2.1).2.1, nm, qSz (a_H A) (tO (a_T A) ((a_K A t).1.getD ba (0, 0, [])).2.1).2.1 + 1)]) (tO (a_T A) ((a_K A t).1.getD ba (0, 0, [])).2.1).2.1) nm (a_H A ++ [(qPr (a_H A) (tO (a_T A) ((a_K A t).1.getD ba (0, 0, [])).2.1).2.1, (tO (a_T A) ((a_K A t).1.getD ba (0, 0, [])).2.1).2.1, nm, qSz (a_H A) (tO (a_T A) ((a_K A t).1.getD ba (0, 0, [])).2.1).2.1 + 1)]) 0 := by
        rw [hp9, aFs_ap (a_H A) 0 (by first | decide | omega), if_pos i2, if_pos ⟨rfl, rfl, rfl⟩]
        omega
      obtain ⟨ok, hp0⟩ := ok_st (r := ((a_H A).length : Int)) h2 hL9 hkd hgk hnm hn2 (Or.inr ⟨i1, by omega, ha9⟩)
      rw [c11] at ok hp0
      have w2 := wf_N (s := s) w1 ssb ok
      have h3 := hy_2 h2 w2 rfl rfl
      obtain ⟨c, A2, y1, y2, y3, y4, y5⟩ := ao_0 (en := en) (es := es) (d := d) (mo := mo) h3 hx1 h97 hq9 hp0 (fun _ => hn3)
      refine ⟨c, A2, y1, y2, y3, ?_, fun Z hZ ha => rLk_s (N3 := 0) (H2 := (a_H A ++ [(qPr (a_H A) (tO (a_T A) ((a_K A t).1.getD ba (0, 0, [])).2.1).2.1, (tO (a_T A) ((a_K A t).1.getD ba (0, 0, [])).2.1).2.1, nm, qSz (a_H A) (tO (a_T A) ((a_K A t).1.getD ba (0, 0, [])).2.1).2.1 + 1)])) (C2 := a_C A) (W2 := a_W A) (l := 0) (ds := 1) h rfl w1 ⟨rfl, rfl⟩ (Nat.zero_le _) (rkn h hkd hgk hnm9 hne hen ⟨i1, i2, h4⟩) y5 Z hZ ha⟩
      rcases h.1.2.1 with ⟨rfl, rfl⟩ | ⟨rfl, rfl⟩
      · exact ckn_215 h hL9 hx1 hkd hgk hnm9 hn2 ⟨i1, i2, h4⟩ y4
      · exact ckn_226 h hL9 hx1 hkd hgk hnm9 hn2 ⟨i1, i2, h4⟩ y4
    · refine lo_er (c := 99) h hb ?_ (r99 h hkd hgk hnm9 hne ⟨i1, i2, by omega⟩)
      rcases h.1.2.1 with ⟨rfl, rfl⟩ | ⟨rfl, rfl⟩
      · exact c99_215 h hL9 hx1 hkd hgk hnm9 hn2 ⟨i1, i2, by omega⟩
      · exact c99_226 h hL9 hx1 hkd hgk hnm9 hn2 ⟨i1, i2, by omega⟩
/-- looking at a thing -/
theorem lo_0 (h : hyA S0 p HT cs ms os X fa n B2 w t A s kd nms ne ec bh ba ar) (hL9 : stL S0) (hx1 : pe_at (pe_GA xs).xs 1 = some (1, tx_1)) (h97 : pe_at (pe_GA xs).xs 97 = some (3, tx_97)) (hq9 : stQ S0) (hb : a_c A 20 + 1 ≤ B2) (hgk : ((a_K A t).1.getD ba (0, 0, [])).1 = 4 ∨ ((a_K A t).1.getD ba (0, 0, [])).1 = 5) (hno : nmO A (a_K A t) kd nms ba nm en) : lOut xs d S0 p HT cs ms os X mo fa n B2 w t A s kd nms ec bh ba nm en es := by
  have k6 := h.2.2.2.2.1.2.1.1.1
  have hnn := h.2.2.2.2.1.2.2.2.1
  have hN := h.2.1.2.2.2.2.2.1.1.2.1
  rcases hno with ⟨q1, q2, q3⟩ | ⟨⟨q0, q1⟩, q2, q3⟩
  · have k23 : ¬ (kd = 2 ∨ kd = 3) := fun z => q1 ⟨z, hgk⟩
    have e3 : nm = if kd = 2 ∨ kd = 3 then en else nms := by rw [if_neg k23]; exact q2
    have e4 : en = enE kd nm := by unfold enE; rw [if_neg k23]; exact q3
    by_cases k4 : kd = 4 ∨ kd = 6
    · exact lo_cal h hL9 hx1 h97 hq9 hb k4 hgk q3
    · have z := hnn (by omega)
      have hnm : 0 ≤ nm ∧ nm < ((a_N A).length : Int) := by omega
      by_cases k1 : kd = 1
      · exact lo_set h hL9 hx1 h97 hq9 hb (Or.inl k1) hgk hnm e3 e4
      · exact lo_get h hL9 hx1 h97 hq9 hb (by omega) hgk hnm e3 e4
  · have e3 : nm = if kd = 2 ∨ kd = 3 then en else nms := by rw [if_pos q0]; exact q2
    have e4 : en = enE kd nm := by unfold enE; rw [if_pos q0]; exact q2.symm
    rcases q3 with z | z
    · exact lo_nul h hL9 hb q0 hgk (q2.trans z) z
    · have hnm : 0 ≤ nm ∧ nm < ((a_N A).length : Int) := by rw [q2]; exact z
      by_cases k1 : kd = 3
      · exact lo_set h hL9 hx1 h97 hq9 hb (Or.inr k1) hgk hnm e3 e4
      · exact lo_get h hL9 hx1 h97 hq9 hb (by omega) hgk hnm e3 e4
end Wls
