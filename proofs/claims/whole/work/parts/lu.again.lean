/-! PART lu: what has no members; entries that hold, looked up again. -/
section Wlu
variable {Sb : wS} {xs : List (Nat × List Int32)} {d : Nat} {S0 S Z : wS} {p w m : Nat} {HT : Int → Int} {cs : List hCR} {ms : List hMR} {os : Int → List Int} {X : List (List Int)} {mo t n B B2 oq : Int} {fa : Int → Int} {WE : aA → Prop} {A A2 : aA} {K2 : aK} {ml : List Nat} {k c s kd nms ne ec bh nm en : Int} {b ba : Nat} {ar : List aV} {e : aE} {V Z2 Y : wS} {o : wO} {dn : Int} {H2 : List aH} {N2 : List (List Int)} {E2 : Int → List aE} {C2 : List aQ} {W2 : Int} {c2 : Int → Int} {k2 : Int → Int → Int} {mk rk : Nat → Int → Prop} {K : aK} {T : List aO} {H : List aH} {E : Int → List aE} {gk gb es lo hi a : Int} {r : List aE × Int × Option aE} {A1 : aA} {tl cl : List Int} {sl : Nat → List Int} {L : List aC} {G : Int → aV} {u : aV} {x : List Int} {T2 : List aO} {L2 : List aC} {G2 : Int → aV} {H2 : List aH} {c2 : Int → Int} {y : Int} {Q : wO → wS → Prop} {ps : List (Int × aV)} {k hd wh : Int} {f a9 pn fn md : Int} {vn m9 : Nat} {th : aV} {g : Int} {lp : List aV} {l ds fo g : Int} {mk : Nat → Int → Prop} {C2 : List aQ} {W2 : Int} {RZ : wS → Prop} {N3 : Nat} {SB : wS} {r r0 : Int} {sh : Int} {K9 : aK}

theorem ckx_215 (h : hyA S0 p HT cs ms os X fa n B2 215 0 A s kd nms ne ec bh ba ar) (hg : 0 ≤ ((a_K A 0).1.getD ba (0, 0, [])).1 ∧ ((a_K A 0).1.getD ba (0, 0, [])).1 ≤ 2) : cLook xs d S0 p HT cs ms os X mo 215 A s kd ec ba ((a_K A 0).1.getD ba (0, 0, [])).1 nm es 3 A := fun Y hY ha => by
  obtain ⟨⟨v4, v5, v6, v7, v8, v9, v10, v11, v12, v13⟩, v16⟩ := id ha
  obtain ⟨⟨hp, hw, hx⟩, hA, hB, ⟨hr, ho⟩, hsi, hme⟩ := id h
  obtain ⟨ix, fl, ow, hE⟩ := hY.2.2.2.2.1
  have hfo : 0 ≤ Y 158 14 ∧ Y 158 14 < 40000 := by
    have z1 := hE.2.2.2.1
    have z2 := hE.1.2.2.2
    omega
  refine wJ_mono (lokx_215 (d := d + 85) (ml := sML) hY.1.1 v4 v7 v9 v10 v11 v13 rfl hfo hg) (fun o Z hz => ?_)
  obtain ⟨z1, rfl⟩ := hz
  refine ⟨_, z1, Or.inl ⟨by rw [w_up_same]; decide, w_up_same _ _ _ _, cRel_16 hY hp hw⟩⟩

theorem ckx_226 (h : hyA S0 p HT cs ms os X fa n B2 226 1 A s kd nms ne ec bh ba ar) (hg : 0 ≤ ((a_K A 1).1.getD ba (0, 0, [])).1 ∧ ((a_K A 1).1.getD ba (0, 0, [])).1 ≤ 2) : cLook xs d S0 p HT cs ms os X mo 226 A s kd ec ba ((a_K A 1).1.getD ba (0, 0, [])).1 nm es 3 A := fun Y hY ha => by
  obtain ⟨⟨v4, v5, v6, v7, v8, v9, v10, v11, v12, v13⟩, v16⟩ := id ha
  obtain ⟨⟨hp, hw, hx⟩, hA, hB, ⟨hr, ho⟩, hsi, hme⟩ := id h
  obtain ⟨ix, fl, ow, hE⟩ := hY.2.2.2.2.1
  have hfo : 0 ≤ Y 158 14 ∧ Y 158 14 < 40000 := by
    have z1 := hE.2.2.2.1
    have z2 := hE.1.2.2.2
    omega
  refine wJ_mono (lokx_226 (d := d + 85) (ml := sML) hY.1.1 v4 v7 v9 v10 v11 v13 rfl hfo hg) (fun o Z hz => ?_)
  obtain ⟨z1, rfl⟩ := hz
  refine ⟨_, z1, Or.inl ⟨by rw [w_up_same]; decide, w_up_same _ _ _ _, cRel_16 hY hp hw⟩⟩

/-- looking at what has no members -/
theorem lo_x (h : hyA S0 p HT cs ms os X fa n B2 w t A s kd nms ne ec bh ba ar) (hg : 0 ≤ ((a_K A t).1.getD ba (0, 0, [])).1 ∧ ((a_K A t).1.getD ba (0, 0, [])).1 ≤ 2) : lOut xs d S0 p HT cs ms os X mo fa n B2 w t A s kd nms ec bh ba nm en es := by
  refine ⟨3, A, h.2.1, fun _ _ => rfl, fun _ => rfl, ?_, fun Z hz9 ha => rLk_x h (fun Y hY hb => ?_) Z hz9 ha⟩
  · rcases h.1.2.1 with ⟨rfl, rfl⟩ | ⟨rfl, rfl⟩
    · exact ckx_215 h hg
    · exact ckx_226 h hg
  · have hl9 := hl_A h
    obtain ⟨k0, k4, k5, k6⟩ := s_4 h hY
    have ht := wt_t h.1.2.1
    refine wJ_mono (rlkx (d := d + 82) hY.1.1 k0 k4 hb.2.2.1 hg) (fun o Z hz => ?_)
    obtain ⟨z1, rfl⟩ := hz
    have hM2 : w_ML (w_up (w_up (w_up (w_up Y 237 169 (-1)) 237 170 (-1)) 237 171 (-1)) 237 172 0) := w_ML_up (w_ML_up (w_ML_up (w_ML_up hY.1.1 (by first | decide | omega)) (by first | decide | omega)) (by first | decide | omega)) (by first | decide | omega)
    have q3 := rRun_s hY ht hl9 (Z := w_up (w_up (w_up (w_up Y 237 169 (-1)) 237 170 (-1)) 237 171 (-1)) 237 172 0) (fun j x h1 _ _ _ _ => by rw [w_up_no (by omega), w_up_no (by omega), w_up_no (by omega), w_up_no (by omega)]) hM2
    refine ⟨z1, by decide, ?_, rRun_h q3 ht hl9⟩
    unfold hZ
    rw [w_up_no (by omega)]
    exact w_up_same _ _ _ _
theorem lz_f (j : Nat) (x : Int) (h : ¬ (j = 237 ∧ (x = 166 ∨ (169 ≤ x ∧ x ≤ 172)))) : lkX l 0 Y j x = Y j x := by
  unfold lkX
  rw [if_pos rfl, w_up_no (by omega), w_up_no (by omega), w_up_no (by omega), w_up_no (by omega), w_up_no (by omega)]
theorem lz_v : lkX l 0 Y 237 169 = -1 ∧ lkX l 0 Y 237 170 = -1 ∧ lkX l 0 Y 237 171 = -1 := by
  unfold lkX
  rw [if_pos rfl]
  refine ⟨?_, ?_, ?_⟩
  · rw [w_up_no (by omega), w_up_no (by omega), w_up_no (by omega), w_up_no (by omega)]
    exact w_up_same _ _ _ _
  · rw [w_up_no (by omega), w_up_no (by omega), w_up_no (by omega)]
    exact w_up_same _ _ _ _
  · rw [w_up_no (by omega), w_up_no (by omega)]
    exact w_up_same _ _ _ _
theorem lz_R (ht : t = 0 ∨ t = 1) (hl9 : kLn (a_K A 0) ∧ kLn (a_K A 1)) (hY : rRun S0 Sb HT cs ms os X mo t A Y) : rRun S0 Sb HT cs ms os X mo t A (lkX l 0 Y) ∧ w_ML (lkX l 0 Y) := by
  have hM : w_ML (lkX l 0 Y) := by
    unfold lkX
    rw [if_pos rfl]
    exact w_ML_up (w_ML_up (w_ML_up (w_ML_up (w_ML_up hY.1.1 (by first | decide | omega)) (by first | decide | omega)) (by first | decide | omega)) (by first | decide | omega)) (by first | decide | omega)
  exact ⟨rRun_s hY ht hl9 (fun j x h1 _ _ _ _ => lz_f j x (by omega)) hM, hM⟩
/-- an entry of a thing that holds says what the thing is -/
theorem ap_of (h : hyA S0 p HT cs ms os X fa n B2 w t A s kd nms ne ec bh ba ar) (hno : nmO A (a_K A t) kd nms ba nm en) (he : eOk S0 HT cs ms os A s e) (hst : eSt (a_T A) (a_H A) kd e = 0) (hho : hoE (a_T A) kd nms ((a_K A t).1.getD ba (0, 0, [])).1 ((a_K A t).1.getD ba (0, 0, [])).2.1 nm (wb_l2i (esV (ar.map (clO (a_T A))))) (wb_l2i (wb_lushr (esV (ar.map (clO (a_T A)))) 32)) e) (e0 : e.1 = 0) : (((a_K A t).1.getD ba (0, 0, [])).1 = 4 ∨ ((a_K A t).1.getD ba (0, 0, [])).1 = 5) ∧ aP0 (a_T A) (a_H A) ((a_N A).length : Int) kd nm ((a_K A t).1.getD ba (0, 0, [])).1 ((a_K A t).1.getD ba (0, 0, [])).2.1 e ∧ ((kd = 4 ∨ kd = 6) → e.2.2.2.1 = -1) ∧ ((kd = 1 ∨ kd = 3) → e.2.2.2.1 = -1) ∧ ((kd ≠ 4 ∧ kd ≠ 6) → 0 ≤ nm ∧ nm < ((a_N A).length : Int)) := by
  obtain ⟨⟨hp, hw, hx⟩, hA, hB, ⟨hr, ho⟩, hsi, hme⟩ := id h
  obtain ⟨⟨s1, s2, s3, s4⟩, s5, s6, s7, s8⟩ := hsi
  have hN := hA.2.2.2.2.2.1.1
  have hwe := wEn_of he s2 s3 hN.1 s5.1.1 (fun z => ⟨(s7 z).1, by have := (s7 z).2; omega⟩)
  obtain ⟨⟨b0, b1⟩, b2, b3, b4, b5⟩ := he
  have hz : (((a_K A t).1.getD ba (0, 0, [])).1 = 4 ∨ ((a_K A t).1.getD ba (0, 0, [])).1 = 5) ∧ (((kd = 4 ∨ kd = 6) ∧ ((a_K A t).1.getD ba (0, 0, [])).1 = 5 ∧ (tO (a_T A) ((a_K A t).1.getD ba (0, 0, [])).2.1).2.2.1 = e.2.1) ∨ (kd ≠ 4 ∧ kd ≠ 6 ∧ (tO (a_T A) ((a_K A t).1.getD ba (0, 0, [])).2.1).2.1 = e.2.1 ∧ nm = cNm kd nms e)) := by
    rcases hho with z | z | z | z
    · exact z.2
    · exact absurd z.1 (by omega)
    · exact absurd z.1 (by omega)
    · exact absurd z.1 (by omega)
  obtain ⟨hgk, hz⟩ := hz
  obtain ⟨go1, go2, go3⟩ := gO h hgk
  obtain ⟨t1, t2, t3⟩ := b2 e0
  rw [s2, s3] at t2
  rw [s2] at t1 t3
  rw [s3] at t1
  have hrng : (kd ≠ 4 ∧ kd ≠ 6) → 0 ≤ nm ∧ nm < ((a_N A).length : Int) := fun k => by
    rcases hz with z | z
    · omega
    · have n0 := (hwe.2.2 e0 k.1 k.2).1
      rw [← z.2.2.2] at n0
      rcases hno with q | ⟨q0, q2, q3⟩
      · have := q.2.1
        omega
      · omega
  refine ⟨hgk, ⟨⟨e0, hgk, go1, go2⟩, fun k => ?_, fun k => ?_, fun k => ?_⟩, fun k => (t3 k).1, fun k => (t2 k).2.1, hrng⟩
  · rcases hz with z | z
    · omega
    · obtain ⟨u1, u2, u3⟩ := t1 k
      refine ⟨⟨?_, z.2.2.1, u2⟩, hrng ⟨by omega, by omega⟩⟩
      rw [z.2.2.2]
      exact u3 hst
  · rcases hz with z | z
    · omega
    · obtain ⟨u1, u2, u3, u4⟩ := t2 k
      refine ⟨?_, ?_, hrng ⟨by omega, by omega⟩⟩
      · rw [(aUp_sh hA.2.1 go1).1, z.2.2.1, z.2.2.2]
        exact u3
      · rw [z.2.2.1, z.2.2.2]
        exact u4
  · rcases hz with z | z
    · exact ⟨z.2.1, (t3 k).2⟩
    · omega
/-- what is read, looked up again -/
theorem gt_ag (hw : wSh T H) (hg : isO T gb) (hs : (tO T gb).2.1 = e.2.1) (hr : eRd T H nm e) : (if aUp T H nm gb = gb then -1 else aUp T H nm gb) = e.2.2.2.1 ∧ (if aUp T H nm gb = -1 then -1 else aIx T nm (aUp T H nm gb)) = e.2.2.2.2.1 := by
  obtain ⟨u1, u2⟩ := aUp_sh (nm := nm) hw hg
  have u3 := aUp_rg (nm := nm) hw hg
  have g0 := hg.1.1
  rw [hs] at u1 u2
  rcases hr with ⟨r1, r2, r3⟩ | ⟨r1, r2, r3⟩
  · rw [if_pos r1] at u2
    rw [u2, if_pos rfl, if_neg (by omega)]
    exact ⟨r2.symm, u1.trans r3.symm⟩
  · rw [if_neg (by omega)] at u2
    have ne9 : aUp T H nm gb ≠ gb := fun z => by
      rcases u3 with q | q
      · omega
      · rw [z] at q
        exact q.2 (u1.trans r1)
    rw [if_neg ne9]
    rw [← u2] at r2 r3
    exact ⟨r2.symm, r3.symm⟩
theorem lh_fr {T9 : wS} (g : ∀ (j : Nat) (x : Int), (j ≠ 237 ∨ (x < 166 ∨ 172 < x)) → Z j x = Y j x) (hY : rRun S0 Sb HT cs ms os X mo t A Y) : (∀ (j : Nat) (x : Int), (j ≠ 237 ∨ x < 166 ∨ 172 < x) → ¬ lhP j x → Z j x = Y j x) ∧ rCh HT cs ms os (a_N A) (a_C A) (a_W A) mo Z := ⟨fun j x hj _ => g j x hj, rCh_ag hY.1.2.2.2.2.2.2.1.1 (fun j x hj => g j x (by unfold chM at hj; omega))⟩
/-- a thing is looked up again -/
theorem hk_0 (h : hyA S0 p HT cs ms os X fa n B2 w t A s kd nms ne ec bh ba ar) (hno : nmO A (a_K A t) kd nms ba nm en) (he : eOk S0 HT cs ms os A s e) (hst : eSt (a_T A) (a_H A) kd e = 0) (hho : hoE (a_T A) kd nms ((a_K A t).1.getD ba (0, 0, [])).1 ((a_K A t).1.getD ba (0, 0, [])).2.1 nm (wb_l2i (esV (ar.map (clO (a_T A))))) (wb_l2i (wb_lushr (esV (ar.map (clO (a_T A)))) 32)) e) (e0 : e.1 = 0) : ∀ {Sb : wS} (Y : wS), rRun S0 Sb HT cs ms os X mo t A Y → rAim t (a_K A t) ba bh en Y → wJ (pe_GA xs) wY0 (fun _ => False) (d + 89) t_M_looks ((pe_at t_M_looks.bl 0).getD (0, [])).2 [(0, (2, 237)), (1, (0, s)), (2, (0, 0))] [] Y (fun o Z => o = .inl none ∧ (Z 237 169 = e.2.2.2.1 ∧ Z 237 170 = e.2.2.2.2.1 ∧ Z 237 171 = e.2.2.2.2.2.1) ∧ (∀ (j : Nat) (x : Int), (j ≠ 237 ∨ x < 166 ∨ 172 < x) → ¬ lhP j x → Z j x = Y j x) ∧ rCh HT cs ms os (a_N A) (a_C A) (a_W A) mo Z) := fun Y hY ha => by
  obtain ⟨hgk, ⟨p1, p2, p3, p4⟩, p5, p6, p7⟩ := ap_of h hno he hst hho e0
  have hT8 := hA_T h
  have hl9 := hl_A h
  obtain ⟨go1, go2, go3⟩ := gO h hgk
  obtain ⟨k0, k4, k5, k6⟩ := s_4 h hY
  have h8 := h82_r h hY
  have hgr := gb_r h hY (by omega)
  obtain ⟨⟨hp, hw, hx⟩, hA, hB, ⟨hr, ho⟩, hsi, hme⟩ := id h
  have ht := wt_t hw
  have hN4 := hA.2.2.2.2.2.1.1.1
  have h4 := hA.2.2.2.2.1.2.2.2.2.1
  obtain ⟨q1, q2⟩ := lz_R (l := 0) ht hl9 hY
  obtain ⟨sl, hW⟩ := q1.1.2.2.1.1
  have hH := q1.1.2.2.1.2
  obtain ⟨y1, y2, y3⟩ := lz_v (l := 0) (Y := Y)
  have g : ∀ (j : Nat) (x : Int), (j ≠ 237 ∨ (x < 166 ∨ 172 < x)) → lkX 0 0 Y j x = Y j x := fun j x hj => lz_f j x (by omega)
  have b5 : lkX 0 0 Y 237 82 ≤ 60000 := by rw [g 237 82 (by omega)]; omega
  have b6 : lkX 0 0 Y 237 174 = ((a_K A t).1.getD ba (0, 0, [])).1 := (g 237 174 (by omega)).trans ha.2.2.1
  have b7 : lkX 0 0 Y 237 175 = ((a_K A t).1.getD ba (0, 0, [])).2.1 := (g 237 175 (by omega)).trans (ha.2.2.2.1.trans hgr)
  have b8 : lkX 0 0 Y 237 177 = en := (g 237 177 (by omega)).trans ha.2.2.2.2.2
  have b10 : lkX 0 0 Y 305 s = nms := (g 305 s (by omega)).trans k5
  have b13 : lkX 0 0 Y 237 66 = a_c A 4 := (g 237 66 (by omega)).trans (hY.1.2.2.2.2.2.2.2.1.1 4 (by first | decide | omega))
  have hne : nm = if kd = 2 ∨ kd = 3 then en else nms := by
    rcases hno with ⟨n1, n2, n3⟩ | ⟨n1, n2, n3⟩
    · rw [if_neg (fun z => n1 ⟨z, hgk⟩)]
      exact n2
    · rw [if_pos n1.1]
      exact n2
  refine rlk0 (d := d + 81) hY.1.1 k0 k4 ha.2.2.1 hgk (Or.inl rfl) (ak_0 h hY (by first | decide | omega)) ?_ (fun o Z hz => Or.inl hz.1)
  by_cases c1 : kd = 4 ∨ kd = 6
  · refine wJ_mono (rlc_ok (d := d + 86) q2 hW.1 hH hA.2.1 hT8 b5 b6 b7 b8 y1 y2 y3 go1 c1 go2.symm) (fun o Z hz => ?_)
    rcases hz with ⟨_, z0, ⟨z1, z2, z3, z4⟩, z5, z6⟩ | z
    · have e9 := p4 c1
      exact ⟨z0, ⟨z2.trans (p5 c1).symm, z3.trans e9.2.1.symm, z4.trans e9.2.2.symm⟩, lh_fr (T9 := Z) (fun j x hj => (z5 j x (by omega)).trans (g j x hj)) hY⟩
    · exact absurd z.1 (by have := (p4 c1).1; omega)
  have hr9 := p7 ⟨by omega, by omega⟩
  by_cases c2 : kd = 1 ∨ kd = 3
  · refine wJ_mono (rls_ok (d := d + 84) (u4 := a_c A 4) q2 hW.1 hH hA.2.1 hT8 b5 b6 b7 b8 y1 y2 y3 k0 b10 hne go1 c2 ⟨hr9.1, by omega⟩ (Or.inl rfl) b13 ⟨h4.1, h4.2.1⟩ h4.2.2 rfl) (fun o Z hz => ?_)
    obtain ⟨x1, x2, x3⟩ := p3 c2
    rcases hz with ⟨a1, z0, ⟨z1, z2, z3, z4⟩, z5, z6⟩ | ⟨a1, _, z0, ⟨z1, z2, z3, z4⟩, z5, z6⟩ | z | z
    · refine ⟨z0, ⟨z2.trans (p6 c2).symm, z3.trans x1.symm, z4.trans ?_⟩, lh_fr (T9 := Z) (fun j x hj => (z5 j x (by omega)).trans (g j x hj)) hY⟩
      rcases x2 with q | q
      · exact q.2.symm
      · exact absurd (x1.symm.trans q.1) a1
    · refine ⟨z0, ⟨z2.trans (p6 c2).symm, z3.trans (x1.trans a1).symm, z4.trans ?_⟩, lh_fr (T9 := Z) (fun j x hj => (z5 j x (by omega)).trans (g j x hj)) hY⟩
      rcases x2 with q | q
      · exact absurd (x1.trans a1) q.1
      · exact q.2.2.symm
    · exact absurd z.2.1 (by first | decide | omega)
    · exact absurd z.2.1 (by first | decide | omega)
  · obtain ⟨⟨x1, x2, x3⟩, x4⟩ := p2 (by have := hsi.2.1.1.1; omega)
    obtain ⟨g1, g2⟩ := gt_ag hA.2.1 go1 x2 x1
    refine wJ_mono (rlg_ok (d := d + 86) q2 hW.1 hH hA.2.1 hT8 b5 b6 b7 b8 y1 y2 y3 k0 b10 hne go1 (by have := hsi.2.1.1.1; omega) ⟨hr9.1, by omega⟩) (fun o Z hz => ?_)
    obtain ⟨z0, ⟨z1, z2, z3, z4⟩, z5, z6⟩ := hz
    exact ⟨z0, ⟨z2.trans g1, z3.trans g2, z4.trans x3.symm⟩, lh_fr (T9 := Z) (fun j x hj => (z5 j x (by omega)).trans (g j x hj)) hY⟩
/-- a list or a text is looked up again -/
theorem hk_3 (h : hyA S0 p HT cs ms os X fa n B2 w t A s kd nms ne ec bh ba ar) (hX : w_X xs) (he : eOk S0 HT cs ms os A s e) (hst : eSt (a_T A) (a_H A) kd e = 0) (hho : hoE (a_T A) kd nms ((a_K A t).1.getD ba (0, 0, [])).1 ((a_K A t).1.getD ba (0, 0, [])).2.1 nm (wb_l2i (esV (ar.map (clO (a_T A))))) (wb_l2i (wb_lushr (esV (ar.map (clO (a_T A)))) 32)) e) (e3 : e.1 = 3) : (((a_K A t).1.getD ba (0, 0, [])).1 = 3 ∨ ((a_K A t).1.getD ba (0, 0, [])).1 = 6) ∧ rwP (wdK (nmT (a_N A) nms)) ((a_K A t).1.getD ba (0, 0, [])).1 kd ne = 0 ∧ ∀ {Sb : wS} (Y : wS), rRun S0 Sb HT cs ms os X mo t A Y → rAim t (a_K A t) ba bh en Y → wJ (pe_GA xs) wY0 (fun _ => False) (d + 89) t_M_looks ((pe_at t_M_looks.bl 0).getD (0, [])).2 [(0, (2, 237)), (1, (0, s)), (2, (0, 0))] [] Y (fun o Z => o = .inl none ∧ (Z 237 169 = e.2.2.2.1 ∧ Z 237 170 = e.2.2.2.2.1 ∧ Z 237 171 = e.2.2.2.2.2.1) ∧ (∀ (j : Nat) (x : Int), (j ≠ 237 ∨ x < 166 ∨ 172 < x) → ¬ lhP j x → Z j x = Y j x) ∧ rCh HT cs ms os (a_N A) (a_C A) (a_W A) mo Z) := by
  obtain ⟨⟨hp, hw, hx⟩, hA, hB, ⟨hr, ho⟩, hsi, hme⟩ := id h
  obtain ⟨⟨s1, s2, s3, s4⟩, s5, s6, s7, s8⟩ := id hsi
  have hz : (e.2.1 = 0 ∧ ((a_K A t).1.getD ba (0, 0, [])).1 = 6) ∨ (e.2.1 ≠ 0 ∧ ((a_K A t).1.getD ba (0, 0, [])).1 = 3) := by
    rcases hho with z | z | z | z
    · exact absurd z.1 (by omega)
    · exact absurd z.1 (by omega)
    · exact absurd z.1 (by omega)
    · exact z.2
  have hgk : ((a_K A t).1.getD ba (0, 0, [])).1 = 3 ∨ ((a_K A t).1.getD ba (0, 0, [])).1 = 6 := by omega
  obtain ⟨w1, w2, w3⟩ := he.2.2.2.1 e3
  rw [s2, s3, s4] at w3
  have hp9 : rwP (wdK (nmT (a_N A) nms)) ((a_K A t).1.getD ba (0, 0, [])).1 kd ne = 0 := by
    rcases hz with z | z
    · rw [if_pos z.1] at w3
      rw [z.2]
      exact w3
    · rw [if_neg z.1] at w3
      rw [z.2]
      exact w3
  refine ⟨hgk, hp9, fun Y hY ha => ?_⟩
  have hl9 := hl_A h
  obtain ⟨k0, k4, k5, k6⟩ := s_4 h hY
  have ht := wt_t hw
  obtain ⟨q1, q2⟩ := lz_R (l := 3) ht hl9 hY
  obtain ⟨y1, y2, y3⟩ := lz_v (l := 3) (Y := Y)
  have g : ∀ (j : Nat) (x : Int), (j ≠ 237 ∨ (x < 166 ∨ 172 < x)) → lkX 3 0 Y j x = Y j x := fun j x hj => lz_f j x (by omega)
  have hN := hA.2.2.2.2.2.1.1
  refine rlk3 (d := d + 81) hY.1.1 k0 k4 ha.2.2.1 hgk (Or.inl rfl) (ak_0 h hY (by first | decide | omega)) ?_ (fun o Z hz => Or.inl hz.1)
  refine wJ_E (fun hE => ?_)
  refine wJ_mono (rlr_ok (d := d + 82) (wd := (wdK (nmT (a_N A) nms))) (x := nmT (a_N A) nms) (nms := nms) (ec := ne) hX q2 k0 hgk ((g 237 174 (by omega)).trans ha.2.2.1) (fun z => ?_) s5.1.1) (fun o Z hz2 => ?_)
  · have z7 := s7 (by omega)
    obtain ⟨m1, m2, m3⟩ := hY.1.2.2.2.1.1
    obtain ⟨n1, n2, n3⟩ := m3 nms.toNat (by omega)
    have en9 : ((nms.toNat : Nat) : Int) = nms := by omega
    rw [en9] at n1 n3
    have n4 := nmT_g (A := A) z7.1
    have hb : ∀ i : Nat, i < (nmT (a_N A) nms).length → lkX 3 0 Y 281 (60 * nms + (i : Int)) = (nmT (a_N A) nms).getD i 0 := fun i hi => by
      rw [n4] at hi ⊢
      rw [g 281 _ (by omega)]
      exact n3 i hi
    refine ⟨⟨z7.1, by omega⟩, (g 305 s (by omega)).trans k5, (g 306 s (by omega)).trans k6, by have := s5.1.2; omega, ⟨?_, ?_, hb, fun i hi => ?_⟩, wdK_N _⟩
    · rw [n4, g 282 _ (by omega)]
      exact n1
    · rw [n4]
      exact n2
    · rw [← hb i hi]
      have l60 : (nmT (a_N A) nms).length ≤ 60 := by rw [n4]; exact n2
      exact br_E hE ⟨Or.inl (by first | decide | omega), by decide⟩ rfl (by omega) (by rw [ml_281 q2]; omega)
  · obtain ⟨z0, z1⟩ := hz2
    rw [if_pos hp9] at z0
    unfold rwX at z1
    rw [if_pos hp9] at z1
    obtain rfl := z1
    have u : ∀ (j : Nat) (x : Int), (j ≠ 237 ∨ x ≠ 167) → w_up (lkX 3 0 Y) 237 167 (if ((a_K A t).1.getD ba (0, 0, [])).1 = 6 then 0 else 1) j x = lkX 3 0 Y j x := fun j x hj => w_up_no (by omega)
    have x1 : e.2.2.2.1 = -1 := by rw [w2]
    have x2 : e.2.2.2.2.1 = -1 := by rw [w2]
    have x3 : e.2.2.2.2.2.1 = -1 := by rw [w2]
    exact ⟨z0, ⟨(u 237 169 (by omega)).trans (y1.trans x1.symm), (u 237 170 (by omega)).trans (y2.trans x2.symm), (u 237 171 (by omega)).trans (y3.trans x3.symm)⟩, lh_fr (T9 := Y) (fun j x hj => (u j x (by omega)).trans (g j x hj)) hY⟩
end Wlu
