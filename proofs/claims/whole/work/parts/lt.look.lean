/-! PART lt: looking at lists and texts, on both sides. -/
section Wlt
variable {Sb : wS} {xs : List (Nat × List Int32)} {d : Nat} {S0 S Z : wS} {p w m : Nat} {HT : Int → Int} {cs : List hCR} {ms : List hMR} {os : Int → List Int} {X : List (List Int)} {mo t n B B2 oq : Int} {fa : Int → Int} {WE : aA → Prop} {A A2 : aA} {K2 : aK} {ml : List Nat} {k c s kd nms ne ec bh nm en : Int} {b ba : Nat} {ar : List aV} {e : aE} {V Z2 Y : wS} {o : wO} {dn : Int} {H2 : List aH} {N2 : List (List Int)} {E2 : Int → List aE} {C2 : List aQ} {W2 : Int} {c2 : Int → Int} {k2 : Int → Int → Int} {mk rk : Nat → Int → Prop} {K : aK} {T : List aO} {H : List aH} {E : Int → List aE} {gk gb es lo hi a : Int} {r : List aE × Int × Option aE} {A1 : aA} {tl cl : List Int} {sl : Nat → List Int} {L : List aC} {G : Int → aV} {u : aV} {x : List Int} {T2 : List aO} {L2 : List aC} {G2 : Int → aV} {H2 : List aH} {c2 : Int → Int} {y : Int} {Q : wO → wS → Prop} {ps : List (Int × aV)} {k hd wh : Int} {f a9 pn fn md : Int} {vn m9 : Nat} {th : aV} {g : Int} {lp : List aV} {l ds fo g : Int} {mk : Nat → Int → Prop} {C2 : List aQ} {W2 : Int} {RZ : wS → Prop} {N3 : Nat} {SB : wS} {r r0 : Int} {sh : Int}
theorem rwP_i {a b g k x y : Int} (h : k ≠ 0 ∧ k ≠ 5) : rwP a g k x = rwP b g k y := by
  unfold rwP
  rw [if_neg h.1, if_neg h.2, if_neg h.1, if_neg h.2]
theorem rwP_v {a g k x : Int} : rwP a g k x = 0 ∨ rwP a g k x = 4 ∨ rwP a g k x = 5 := by
  unfold rwP
  by_cases h0 : k = 0
  · rw [if_pos h0]
    by_cases h1 : a = 22
    · rw [if_pos h1]; omega
    · rw [if_neg h1]; omega
  · rw [if_neg h0]
    by_cases h5 : k = 5
    · rw [if_pos h5]
      by_cases h1 : (g = 6 ∧ ((a = 23 ∧ x = 1) ∨ (a = 24 ∧ x = 0))) ∨ (g ≠ 6 ∧ a = 25 ∧ x = 2)
      · rw [if_pos h1]; omega
      · rw [if_neg h1]; omega
    · rw [if_neg h5]
      by_cases h1 : k = 2 ∨ (k = 3 ∧ g = 6)
      · rw [if_pos h1]; omega
      · rw [if_neg h1]; omega
theorem nmT_g (h0 : 0 ≤ nms) : nmT (a_N A) nms = (a_N A).getD nms.toNat [] := by
  unfold nmT
  rw [if_neg (by omega)]
/-- a name's word, in the class -/
theorem rw_c (h : hyA S0 p HT cs ms os X fa n B2 w t A s kd nms ne ec bh ba ar) (hY : cRel S0 p HT cs ms os X mo A Y) : (nms = -1 ∨ (0 ≤ nms ∧ nms < Y 9 (-1))) ∧ rwP (if nms = -1 then -1 else Y 9 nms) ((a_K A t).1.getD ba (0, 0, [])).1 kd ec = rwP (wdK (nmT (a_N A) nms)) ((a_K A t).1.getD ba (0, 0, [])).1 kd ne := by
  obtain ⟨⟨hp, hw, hx⟩, hA, hB, ⟨hr, ho⟩, hsi, hme⟩ := id h
  obtain ⟨⟨s1, s2, s3, s4⟩, s5, s6, s7, s8⟩ := hsi
  obtain ⟨⟨⟨w1, w2, w3, w4⟩, w5⟩, w6⟩ := hY.2.2.2.1
  have hN := hA.2.2.2.2.2.1.1.2.1
  have hv := w1.2.2.1.2.2.1
  replace hv : Y 2 10 ≤ Y 9 (-1) := hv
  have h10 := w3.1
  refine ⟨by omega, ?_⟩
  by_cases k0 : kd = 0 ∨ kd = 5
  · have z := s7 (by omega)
    have e1 : ec = ne := by
      have := s5.2.1.1
      rw [if_neg (by omega)] at this
      exact this
    rw [if_neg (by omega), e1]
    refine rwP_w (x := nmT (a_N A) nms) (fun k k0 k1 => ?_) (wdK_N _)
    have zk := w3.2 nms.toNat (by omega)
    have en : ((nms.toNat : Nat) : Int) = nms := by omega
    rw [en] at zk
    rw [nmT_g z.1]
    have h7 := w1.2.2.2.2.1.1
    have := wqL_u (S := Y) (x := (a_N A).getD nms.toNat []) (y := wl2.getD k []) (u := Y 9 nms) (v := (k : Int)) w1.1 zk.1 (by omega) zk.2 (w2 k (by omega))
    exact ⟨fun q => this.mpr q, fun q => this.mp q⟩
  · exact rwP_i ⟨by omega, by omega⟩
theorem cB_3 (h : hyA S0 p HT cs ms os X fa n B2 w t A s kd nms ne ec bh ba ar) (hY : cRel S0 p HT cs ms os X mo A Y) (ha : cAim w s kd ec ba ((a_K A t).1.getD ba (0, 0, [])).1 nm es Y) : (w_CL (bkZ (Y 158 14) 3 (w_up Y 160 3 (Y 160 3 + 1))) ∧ cSl (bkZ (Y 158 14) 3 (w_up Y 160 3 (Y 160 3 + 1)))) ∧ ((bkZ (Y 158 14) 3 (w_up Y 160 3 (Y 160 3 + 1))) 158 4 = (w : Int) ∧ (bkZ (Y 158 14) 3 (w_up Y 160 3 (Y 160 3 + 1))) 158 7 = kd ∧ (bkZ (Y 158 14) 3 (w_up Y 160 3 (Y 160 3 + 1))) 158 9 = ((a_K A t).1.getD ba (0, 0, [])).1 ∧ (bkZ (Y 158 14) 3 (w_up Y 160 3 (Y 160 3 + 1))) 158 10 = Y (w + 3) (ba : Int) ∧ (bkZ (Y 158 14) 3 (w_up Y 160 3 (Y 160 3 + 1))) 158 11 = nm ∧ (bkZ (Y 158 14) 3 (w_up Y 160 3 (Y 160 3 + 1))) 158 13 = es ∧ (bkZ (Y 158 14) 3 (w_up Y 160 3 (Y 160 3 + 1))) 158 12 = ec ∧ (bkZ (Y 158 14) 3 (w_up Y 160 3 (Y 160 3 + 1))) 158 14 = Y 158 14) ∧ (0 ≤ Y 158 14 ∧ Y 158 14 < (bkZ (Y 158 14) 3 (w_up Y 160 3 (Y 160 3 + 1))) 48 (-1)) ∧ (bkZ (Y 158 14) 3 (w_up Y 160 3 (Y 160 3 + 1))) w 16 = 0 ∧ (∀ x : Int, (bkZ (Y 158 14) 3 (w_up Y 160 3 (Y 160 3 + 1))) 9 x = Y 9 x) := by
  obtain ⟨⟨v4, v5, v6, v7, v8, v9, v10, v11, v12, v13⟩, v16⟩ := id ha
  obtain ⟨⟨hp, hw, hx⟩, hA, hB, ⟨hr, ho⟩, hsi, hme⟩ := id h
  have ww := isWt_w hw
  obtain ⟨ix, fl, ow, hE⟩ := hY.2.2.2.2.1
  have hfo : 0 ≤ Y 158 14 ∧ Y 158 14 < Y 48 (-1) := by
    have z1 := hE.2.2.2.1
    have z2 := hE.1.2.2.2
    omega
  obtain ⟨r1, r2, r3⟩ := lk_pl (Z := (bkZ (Y 158 14) 3 (w_up Y 160 3 (Y 160 3 + 1)))) (l := 3) hp hw hY (by first | decide | omega) hfo.1 (fun _ _ _ _ => rfl)
  obtain ⟨ix2, fl2, ow2, hE2⟩ := r3.2.2.2.2.1
  have g : ∀ (j : Nat) (x : Int), (j < 48 ∨ 57 < j) → j ≠ 160 → (bkZ (Y 158 14) 3 (w_up Y 160 3 (Y 160 3 + 1))) j x = Y j x := fun j x h1 h2 => bk_f j x h1 (by omega)
  refine ⟨⟨r2, hE2.1⟩, ⟨(g 158 4 (by omega) (by omega)).trans v4, (g 158 7 (by omega) (by omega)).trans v7, (g 158 9 (by omega) (by omega)).trans v9, (g 158 10 (by omega) (by omega)).trans v10, (g 158 11 (by omega) (by omega)).trans v11, (g 158 13 (by omega) (by omega)).trans v13, (g 158 12 (by omega) (by omega)).trans v12, g 158 14 (by omega) (by omega)⟩, ⟨hfo.1, ?_⟩, (g w 16 (by omega) (by omega)).trans v16, fun x => g 9 x (by omega) (by omega)⟩
  rw [bk_m hfo.1 (by first | decide | omega)]
  exact hfo.2

theorem ckr_215 (h : hyA S0 p HT cs ms os X fa n B2 215 0 A s kd nms ne ec bh ba ar) (hL9 : stL S0) (hgk : ((a_K A 0).1.getD ba (0, 0, [])).1 = 3 ∨ ((a_K A 0).1.getD ba (0, 0, [])).1 = 6) (hnm : nm = nms) (hp9 : rwP (wdK (nmT (a_N A) nms)) ((a_K A 0).1.getD ba (0, 0, [])).1 kd ne = 0) (hact : cAct xs d S0 p HT cs ms os X mo 215 (u_N (u_Q A (a_H A) (a_C A) (a_W A) 3 0) s ((3 : Int), ((if ((a_K A 0).1.getD ba (0, 0, [])).1 = 6 then 0 else 1) : Int), (-1 : Int), (-1 : Int), (-1 : Int), (-1 : Int), a_c A 11, (0 : Int), (0 : Int))) s kd nms ec ba ((a_K A 0).1.getD ba (0, 0, [])).1 nm es ((3 : Int), ((if ((a_K A 0).1.getD ba (0, 0, [])).1 = 6 then 0 else 1) : Int), (-1 : Int), (-1 : Int), (-1 : Int), (-1 : Int), a_c A 11, (0 : Int), (0 : Int)) c A2) : cLook xs d S0 p HT cs ms os X mo 215 A s kd ec ba ((a_K A 0).1.getD ba (0, 0, [])).1 nm es c A2 := fun Y hY ha => by
  obtain ⟨⟨b1, b2⟩, ⟨l4, l7, l9, l10, l11, l13, l12, l14⟩, hfo, b16, b9⟩ := cB_3 h hY ha
  obtain ⟨q1, q2⟩ := rw_c h hY
  obtain ⟨⟨hp, hw, hx⟩, hA, hB, ⟨hr, ho⟩, hsi, hme⟩ := id h
  refine cLk3_215 (mk := fun _ _ => False) (RZ := fun Z => w_up (bkZ (Y 158 14) 3 (w_up Y 160 3 (Y 160 3 + 1))) 49 (Y 158 14) (if ((a_K A 0).1.getD ba (0, 0, [])).1 = 6 then 0 else 1) = Z) (A1 := (u_Q A (a_H A) (a_C A) (a_W A) 3 0)) (e := ((3 : Int), ((if ((a_K A 0).1.getD ba (0, 0, [])).1 = 6 then 0 else 1) : Int), (-1 : Int), (-1 : Int), (-1 : Int), (-1 : Int), a_c A 11, (0 : Int), (0 : Int))) h hL9 hgk (fun _ _ z => z.elim) hY ha (wJ_mono (lar_215 (wd := if nms = -1 then -1 else Y 9 nms) b1 b2 l4 l7 l9 l10 l11 l13 l12 l14 hfo hgk h.2.2.2.2.1.2.1.1.1 (by rw [hnm, b9]; exact q1) (by rw [hnm, b9])) (fun o Z hz => ⟨hz.1, ?_⟩)) (fun Z hz => ?_) rfl rfl (fun _ => hact)
  · have z := hz.2
    rw [q2, hp9] at z
    exact z
  · obtain rfl := hz
    obtain ⟨r1, r2, r3⟩ := lk_pl (Z := w_up (bkZ (Y 158 14) 3 (w_up Y 160 3 (Y 160 3 + 1))) 49 (Y 158 14) (if ((a_K A 0).1.getD ba (0, 0, [])).1 = 6 then 0 else 1)) (l := 3) hp hw hY (by first | decide | omega) hfo.1 (fun j x a1 _ => w_up_no (by omega))
    exact ⟨r1, r2, Or.inl ⟨(w_up_no (by omega)).trans b16, cE_r bkZ_b, r3⟩⟩
theorem cke_215 (h : hyA S0 p HT cs ms os X fa n B2 215 0 A s kd nms ne ec bh ba ar) (hL9 : stL S0) (hgk : ((a_K A 0).1.getD ba (0, 0, [])).1 = 3 ∨ ((a_K A 0).1.getD ba (0, 0, [])).1 = 6) (hnm : nm = nms) (hc0 : c ≠ 0) (hp9 : rwP (wdK (nmT (a_N A) nms)) ((a_K A 0).1.getD ba (0, 0, [])).1 kd ne = c) : cLook xs d S0 p HT cs ms os X mo 215 A s kd ec ba ((a_K A 0).1.getD ba (0, 0, [])).1 nm es c (u_Q A (a_H A) (a_C A) (a_W A) 3 0) := fun Y hY ha => by
  obtain ⟨⟨b1, b2⟩, ⟨l4, l7, l9, l10, l11, l13, l12, l14⟩, hfo, b16, b9⟩ := cB_3 h hY ha
  obtain ⟨q1, q2⟩ := rw_c h hY
  obtain ⟨⟨hp, hw, hx⟩, hA, hB, ⟨hr, ho⟩, hsi, hme⟩ := id h
  refine cLk3_215 (mk := fun _ _ => False) (RZ := fun Z => w_up (w_up (bkZ (Y 158 14) 3 (w_up Y 160 3 (Y 160 3 + 1))) 49 (Y 158 14) (if ((a_K A 0).1.getD ba (0, 0, [])).1 = 6 then 0 else 1)) 215 16 c = Z) (A1 := A) (e := ((0 : Int), (0 : Int), (0 : Int), (0 : Int), (0 : Int), (0 : Int), (0 : Int), (0 : Int), (0 : Int))) (nms := nms) h hL9 hgk (fun _ _ z => z.elim) hY ha (wJ_mono (lar_215 (wd := if nms = -1 then -1 else Y 9 nms) b1 b2 l4 l7 l9 l10 l11 l13 l12 l14 hfo hgk h.2.2.2.2.1.2.1.1.1 (by rw [hnm, b9]; exact q1) (by rw [hnm, b9])) (fun o Z hz => ⟨hz.1, ?_⟩)) (fun Z hz => ?_) rfl rfl (fun z => ?_)
  · have z := hz.2
    rw [q2, hp9] at z
    unfold rwZ at z
    rw [if_neg hc0] at z
    exact z
  · obtain rfl := hz
    obtain ⟨r1, r2, r3⟩ := lk_pl (Z := w_up (w_up (bkZ (Y 158 14) 3 (w_up Y 160 3 (Y 160 3 + 1))) 49 (Y 158 14) (if ((a_K A 0).1.getD ba (0, 0, [])).1 = 6 then 0 else 1)) 215 16 c) (l := 3) hp hw hY (by first | decide | omega) hfo.1 (fun j x a1 a2 => by rw [w_up_no (by omega), w_up_no (by omega)])
    exact ⟨r1, r2, Or.inr ⟨by rw [w_up_same]; exact hc0, w_up_same _ _ _ _, r3⟩⟩
  · obtain ⟨Z, rfl, z2⟩ := z
    rw [w_up_same] at z2
    exact absurd z2 hc0

theorem ckr_226 (h : hyA S0 p HT cs ms os X fa n B2 226 1 A s kd nms ne ec bh ba ar) (hL9 : stL S0) (hgk : ((a_K A 1).1.getD ba (0, 0, [])).1 = 3 ∨ ((a_K A 1).1.getD ba (0, 0, [])).1 = 6) (hnm : nm = nms) (hp9 : rwP (wdK (nmT (a_N A) nms)) ((a_K A 1).1.getD ba (0, 0, [])).1 kd ne = 0) (hact : cAct xs d S0 p HT cs ms os X mo 226 (u_N (u_Q A (a_H A) (a_C A) (a_W A) 3 0) s ((3 : Int), ((if ((a_K A 1).1.getD ba (0, 0, [])).1 = 6 then 0 else 1) : Int), (-1 : Int), (-1 : Int), (-1 : Int), (-1 : Int), a_c A 11, (0 : Int), (0 : Int))) s kd nms ec ba ((a_K A 1).1.getD ba (0, 0, [])).1 nm es ((3 : Int), ((if ((a_K A 1).1.getD ba (0, 0, [])).1 = 6 then 0 else 1) : Int), (-1 : Int), (-1 : Int), (-1 : Int), (-1 : Int), a_c A 11, (0 : Int), (0 : Int)) c A2) : cLook xs d S0 p HT cs ms os X mo 226 A s kd ec ba ((a_K A 1).1.getD ba (0, 0, [])).1 nm es c A2 := fun Y hY ha => by
  obtain ⟨⟨b1, b2⟩, ⟨l4, l7, l9, l10, l11, l13, l12, l14⟩, hfo, b16, b9⟩ := cB_3 h hY ha
  obtain ⟨q1, q2⟩ := rw_c h hY
  obtain ⟨⟨hp, hw, hx⟩, hA, hB, ⟨hr, ho⟩, hsi, hme⟩ := id h
  refine cLk3_226 (mk := fun _ _ => False) (RZ := fun Z => w_up (bkZ (Y 158 14) 3 (w_up Y 160 3 (Y 160 3 + 1))) 49 (Y 158 14) (if ((a_K A 1).1.getD ba (0, 0, [])).1 = 6 then 0 else 1) = Z) (A1 := (u_Q A (a_H A) (a_C A) (a_W A) 3 0)) (e := ((3 : Int), ((if ((a_K A 1).1.getD ba (0, 0, [])).1 = 6 then 0 else 1) : Int), (-1 : Int), (-1 : Int), (-1 : Int), (-1 : Int), a_c A 11, (0 : Int), (0 : Int))) h hL9 hgk (fun _ _ z => z.elim) hY ha (wJ_mono (lar_226 (wd := if nms = -1 then -1 else Y 9 nms) b1 b2 l4 l7 l9 l10 l11 l13 l12 l14 hfo hgk h.2.2.2.2.1.2.1.1.1 (by rw [hnm, b9]; exact q1) (by rw [hnm, b9])) (fun o Z hz => ⟨hz.1, ?_⟩)) (fun Z hz => ?_) rfl rfl (fun _ => hact)
  · have z := hz.2
    rw [q2, hp9] at z
    exact z
  · obtain rfl := hz
    obtain ⟨r1, r2, r3⟩ := lk_pl (Z := w_up (bkZ (Y 158 14) 3 (w_up Y 160 3 (Y 160 3 + 1))) 49 (Y 158 14) (if ((a_K A 1).1.getD ba (0, 0, [])).1 = 6 then 0 else 1)) (l := 3) hp hw hY (by first | decide | omega) hfo.1 (fun j x a1 _ => w_up_no (by omega))
    exact ⟨r1, r2, Or.inl ⟨(w_up_no (by omega)).trans b16, cE_r bkZ_b, r3⟩⟩
theorem cke_226 (h : hyA S0 p HT cs ms os X fa n B2 226 1 A s kd nms ne ec bh ba ar) (hL9 : stL S0) (hgk : ((a_K A 1).1.getD ba (0, 0, [])).1 = 3 ∨ ((a_K A 1).1.getD ba (0, 0, [])).1 = 6) (hnm : nm = nms) (hc0 : c ≠ 0) (hp9 : rwP (wdK (nmT (a_N A) nms)) ((a_K A 1).1.getD ba (0, 0, [])).1 kd ne = c) : cLook xs d S0 p HT cs ms os X mo 226 A s kd ec ba ((a_K A 1).1.getD ba (0, 0, [])).1 nm es c (u_Q A (a_H A) (a_C A) (a_W A) 3 0) := fun Y hY ha => by
  obtain ⟨⟨b1, b2⟩, ⟨l4, l7, l9, l10, l11, l13, l12, l14⟩, hfo, b16, b9⟩ := cB_3 h hY ha
  obtain ⟨q1, q2⟩ := rw_c h hY
  obtain ⟨⟨hp, hw, hx⟩, hA, hB, ⟨hr, ho⟩, hsi, hme⟩ := id h
  refine cLk3_226 (mk := fun _ _ => False) (RZ := fun Z => w_up (w_up (bkZ (Y 158 14) 3 (w_up Y 160 3 (Y 160 3 + 1))) 49 (Y 158 14) (if ((a_K A 1).1.getD ba (0, 0, [])).1 = 6 then 0 else 1)) 226 16 c = Z) (A1 := A) (e := ((0 : Int), (0 : Int), (0 : Int), (0 : Int), (0 : Int), (0 : Int), (0 : Int), (0 : Int), (0 : Int))) (nms := nms) h hL9 hgk (fun _ _ z => z.elim) hY ha (wJ_mono (lar_226 (wd := if nms = -1 then -1 else Y 9 nms) b1 b2 l4 l7 l9 l10 l11 l13 l12 l14 hfo hgk h.2.2.2.2.1.2.1.1.1 (by rw [hnm, b9]; exact q1) (by rw [hnm, b9])) (fun o Z hz => ⟨hz.1, ?_⟩)) (fun Z hz => ?_) rfl rfl (fun z => ?_)
  · have z := hz.2
    rw [q2, hp9] at z
    unfold rwZ at z
    rw [if_neg hc0] at z
    exact z
  · obtain rfl := hz
    obtain ⟨r1, r2, r3⟩ := lk_pl (Z := w_up (w_up (bkZ (Y 158 14) 3 (w_up Y 160 3 (Y 160 3 + 1))) 49 (Y 158 14) (if ((a_K A 1).1.getD ba (0, 0, [])).1 = 6 then 0 else 1)) 226 16 c) (l := 3) hp hw hY (by first | decide | omega) hfo.1 (fun j x a1 a2 => by rw [w_up_no (by omega), w_up_no (by omega)])
    exact ⟨r1, r2, Or.inr ⟨by rw [w_up_same]; exact hc0, w_up_same _ _ _ _, r3⟩⟩
  · obtain ⟨Z, rfl, z2⟩ := z
    rw [w_up_same] at z2
    exact absurd z2 hc0

/-- the reference looks at a row -/
theorem rr_0 (h : hyA S0 p HT cs ms os X fa n B2 w t A s kd nms ne ec bh ba ar) (hX : w_X xs) (hgk : ((a_K A t).1.getD ba (0, 0, [])).1 = 3 ∨ ((a_K A t).1.getD ba (0, 0, [])).1 = 6) (hY : rRun S0 Sb HT cs ms os X mo t A Y) (ha : rAim t (a_K A t) ba bh en Y) : wJ (pe_GA xs) wY0 (fun _ => False) (d + 89) t_M_looksAtRow ((pe_at t_M_looksAtRow.bl 0).getD (0, [])).2 [(0, (2, 237)), (1, (0, s)), (2, (0, kd))] [] (lkX 3 1 Y) (fun o Z => (o = if rwP (wdK (nmT (a_N A) nms)) ((a_K A t).1.getD ba (0, 0, [])).1 kd ne = 0 then .inl none else .inr 238) ∧ rwX (if ((a_K A t).1.getD ba (0, 0, [])).1 = 6 then 0 else 1) (rwP (wdK (nmT (a_N A) nms)) ((a_K A t).1.getD ba (0, 0, [])).1 kd ne) (lkX 3 1 Y) = Z) := by
  have hl9 := hl_A h
  obtain ⟨k0, k4, k5, k6⟩ := s_4 h hY
  obtain ⟨⟨hp, hw, hx⟩, hA, hB, ⟨hr, ho⟩, hsi, hme⟩ := id h
  have ht := wt_t hw
  obtain ⟨q1, q2⟩ := rq_R (l := 3) ht hl9 hY (by first | decide | omega)
  obtain ⟨⟨s1, s2, s3, s4⟩, s5, s6, s7, s8⟩ := hsi
  have g : ∀ (j : Nat) (x : Int), (j ≠ 237 ∨ (x < 166 ∨ 172 < x)) → j ≠ 344 → lkX 3 1 Y j x = Y j x := fun j x h1 h2 => lx_f j x (by omega) (by omega)
  have hN := hA.2.2.2.2.2.1.1
  refine wJ_E (fun hE => ?_)
  refine rlr_ok (d := d + 83) (wd := (wdK (nmT (a_N A) nms))) (x := nmT (a_N A) nms) (nms := nms) (ec := ne) hX q2 k0 hgk ((g 237 174 (by omega) (by omega)).trans ha.2.2.1) (fun z => ?_) s5.1.1
  have z7 := s7 (by omega)
  obtain ⟨m1, m2, m3⟩ := hY.1.2.2.2.1.1
  obtain ⟨n1, n2, n3⟩ := m3 nms.toNat (by omega)
  have en : ((nms.toNat : Nat) : Int) = nms := by omega
  rw [en] at n1 n3
  have n4 := nmT_g (A := A) z7.1
  have hb : ∀ i : Nat, i < (nmT (a_N A) nms).length → lkX 3 1 Y 281 (60 * nms + (i : Int)) = (nmT (a_N A) nms).getD i 0 := fun i hi => by
    rw [n4] at hi ⊢
    rw [g 281 _ (by omega) (by omega)]
    exact n3 i hi
  refine ⟨⟨z7.1, by omega⟩, (g 305 s (by omega) (by omega)).trans k5, (g 306 s (by omega) (by omega)).trans k6, by have := s5.1.2; omega, ⟨?_, ?_, hb, fun i hi => ?_⟩, wdK_N _⟩
  · rw [n4, g 282 _ (by omega) (by omega)]
    exact n1
  · rw [n4]
    exact n2
  · rw [← hb i hi]
    have l60 : (nmT (a_N A) nms).length ≤ 60 := by rw [n4]; exact n2
    exact br_E hE ⟨Or.inl (by first | decide | omega), by decide⟩ rfl (by omega) (by rw [ml_281 q2]; omega)
theorem rkr (h : hyA S0 p HT cs ms os X fa n B2 w t A s kd nms ne ec bh ba ar) (hX : w_X xs) (hgk : ((a_K A t).1.getD ba (0, 0, [])).1 = 3 ∨ ((a_K A t).1.getD ba (0, 0, [])).1 = 6) (hen : en = -1) (hp9 : rwP (wdK (nmT (a_N A) nms)) ((a_K A t).1.getD ba (0, 0, [])).1 kd ne = 0) : ∀ {Sb : wS} (Y : wS), rRun S0 Sb HT cs ms os X mo t A Y → rAim t (a_K A t) ba bh en Y → wJ (pe_GA xs) wY0 (fun _ => False) (d + 90) t_M_looks ((pe_at t_M_looks.bl 0).getD (0, [])).2 [(0, (2, 237)), (1, (0, s)), (2, (0, 1))] [] Y (fun o Z => o = .inl none ∧ w_ML Z ∧ rRun S0 Sb HT cs ms os X mo t (u_Q A (a_H A) (a_C A) (a_W A) 3 0) Z ∧ rAim t (a_K A t) ba bh en Z ∧ (Z 237 166 = (((3 : Int), ((if ((a_K A t).1.getD ba (0, 0, [])).1 = 6 then 0 else 1) : Int), (-1 : Int), (-1 : Int), (-1 : Int), (-1 : Int), a_c A 11, (0 : Int), (0 : Int)) : aE).1 ∧ Z 237 167 = (((3 : Int), ((if ((a_K A t).1.getD ba (0, 0, [])).1 = 6 then 0 else 1) : Int), (-1 : Int), (-1 : Int), (-1 : Int), (-1 : Int), a_c A 11, (0 : Int), (0 : Int)) : aE).2.1 ∧ Z 237 177 = (((3 : Int), ((if ((a_K A t).1.getD ba (0, 0, [])).1 = 6 then 0 else 1) : Int), (-1 : Int), (-1 : Int), (-1 : Int), (-1 : Int), a_c A 11, (0 : Int), (0 : Int)) : aE).2.2.1 ∧ Z 237 169 = (((3 : Int), ((if ((a_K A t).1.getD ba (0, 0, [])).1 = 6 then 0 else 1) : Int), (-1 : Int), (-1 : Int), (-1 : Int), (-1 : Int), a_c A 11, (0 : Int), (0 : Int)) : aE).2.2.2.1 ∧ Z 237 170 = (((3 : Int), ((if ((a_K A t).1.getD ba (0, 0, [])).1 = 6 then 0 else 1) : Int), (-1 : Int), (-1 : Int), (-1 : Int), (-1 : Int), a_c A 11, (0 : Int), (0 : Int)) : aE).2.2.2.2.1 ∧ Z 237 171 = (((3 : Int), ((if ((a_K A t).1.getD ba (0, 0, [])).1 = 6 then 0 else 1) : Int), (-1 : Int), (-1 : Int), (-1 : Int), (-1 : Int), a_c A 11, (0 : Int), (0 : Int)) : aE).2.2.2.2.2.1 ∧ Z 237 81 = (((3 : Int), ((if ((a_K A t).1.getD ba (0, 0, [])).1 = 6 then 0 else 1) : Int), (-1 : Int), (-1 : Int), (-1 : Int), (-1 : Int), a_c A 11, (0 : Int), (0 : Int)) : aE).2.2.2.2.2.2.1) ∧ Z 237 172 = ((0 : Nat) : Int)) := fun Y hY ha => by
  have hl9 := hl_A h
  obtain ⟨y1, y2, y3, y4, y5, y6⟩ := lx_v (Y := Y) (l := 3)
  obtain ⟨k0, k4, k5, k6⟩ := s_4 h hY
  obtain ⟨⟨hp, hw, hx⟩, hA, hB, ⟨hr, ho⟩, hsi, hme⟩ := id h
  have ht := wt_t hw
  obtain ⟨q1, q2⟩ := rq_R (l := 3) ht hl9 hY (by first | decide | omega)
  have c2 := hY.1.2.2.2.2.2.2.2.1.2.1
  have g : ∀ (j : Nat) (x : Int), (j ≠ 237 ∨ (x < 166 ∨ 172 < x)) → j ≠ 344 → lkX 3 1 Y j x = Y j x := fun j x h1 h2 => lx_f j x (by omega) (by omega)
  refine rlk3 (d := d + 82) hY.1.1 k0 k4 ha.2.2.1 hgk (Or.inr rfl) (ak_0 h hY (by first | decide | omega)) (wJ_mono (wJ_ml q2 (rr_0 (d := d) h hX hgk hY ha)) (fun o Z hz => ?_)) (fun o Z hz => Or.inl hz.1)
  obtain ⟨⟨z0, z1⟩, hMZ⟩ := hz
  rw [if_pos hp9] at z0
  unfold rwX at z1
  rw [if_pos hp9] at z1
  obtain rfl := z1
  have u : ∀ (j : Nat) (x : Int), (j ≠ 237 ∨ x ≠ 167) → w_up (lkX 3 1 Y) 237 167 (if ((a_K A t).1.getD ba (0, 0, [])).1 = 6 then 0 else 1) j x = lkX 3 1 Y j x := fun j x hj => w_up_no (by omega)
  refine ⟨z0, hMZ, rRun_s (A := (u_Q A (a_H A) (a_C A) (a_W A) 3 0)) q1 ht hl9 (fun j x h1 _ _ _ _ => u j x (by omega)) hMZ, rA_k ha (fun j x hj => (u j x (by omega)).trans (g j x (by omega) (by omega))), ⟨?_, w_up_same _ _ _ _, ?_, ?_, ?_, ?_, ?_⟩, ?_⟩
  · exact (u 237 166 (by omega)).trans y5
  · exact (u 237 177 (by omega)).trans ((g 237 177 (by omega) (by omega)).trans (ha.2.2.2.2.2.trans hen))
  · exact (u 237 169 (by omega)).trans y1
  · exact (u 237 170 (by omega)).trans y2
  · exact (u 237 171 (by omega)).trans y3
  · exact (u 237 81 (by omega)).trans ((g 237 81 (by omega) (by omega)).trans c2)
  · exact (u 237 172 (by omega)).trans y4
theorem rke (h : hyA S0 p HT cs ms os X fa n B2 w t A s kd nms ne ec bh ba ar) (hX : w_X xs) (hgk : ((a_K A t).1.getD ba (0, 0, [])).1 = 3 ∨ ((a_K A t).1.getD ba (0, 0, [])).1 = 6) (hc0 : c ≠ 0) (hp9 : rwP (wdK (nmT (a_N A) nms)) ((a_K A t).1.getD ba (0, 0, [])).1 kd ne = c) : ∀ {Sb : wS} (Y : wS), rRun S0 Sb HT cs ms os X mo t A Y → rAim t (a_K A t) ba bh en Y → wJ (pe_GA xs) wY0 (fun _ => False) (d + 90) t_M_looks ((pe_at t_M_looks.bl 0).getD (0, [])).2 [(0, (2, 237)), (1, (0, s)), (2, (0, 1))] [] Y (fun o Z => o = .inr 238 ∧ ((c : Int) ≠ 0 ∧ Z 238 5 = c ∧ rRun S0 Sb HT cs ms os X mo t (u_Q A (a_H A) (a_C A) (a_W A) 3 0) Z)) := fun Y hY ha => by
  have hl9 := hl_A h
  obtain ⟨k0, k4, k5, k6⟩ := s_4 h hY
  obtain ⟨⟨hp, hw, hx⟩, hA, hB, ⟨hr, ho⟩, hsi, hme⟩ := id h
  have ht := wt_t hw
  obtain ⟨q1, q2⟩ := rq_R (l := 3) ht hl9 hY (by first | decide | omega)
  refine rlk3 (d := d + 82) hY.1.1 k0 k4 ha.2.2.1 hgk (Or.inr rfl) (ak_0 h hY (by first | decide | omega)) (wJ_mono (rr_0 (d := d) h hX hgk hY ha) (fun o Z hz => ?_)) (fun o Z hz => Or.inr hz.1)
  obtain ⟨z0, z1⟩ := hz
  rw [if_neg (by rw [hp9]; exact hc0)] at z0
  unfold rwX at z1
  rw [hp9, if_neg hc0] at z1
  obtain rfl := z1
  have hM2 : w_ML (w_up (lkX 3 1 Y) 237 167 (if ((a_K A t).1.getD ba (0, 0, [])).1 = 6 then 0 else 1)) := w_ML_up q2 (by omega)
  have q3 := rRun_s (A := (u_Q A (a_H A) (a_C A) (a_W A) 3 0)) q1 ht hl9 (Z := w_up (lkX 3 1 Y) 237 167 (if ((a_K A t).1.getD ba (0, 0, [])).1 = 6 then 0 else 1)) (fun j x h1 _ _ _ _ => w_up_no (by omega)) hM2
  refine ⟨z0, hc0, ?_, rRun_h (A := (u_Q A (a_H A) (a_C A) (a_W A) 3 0)) q3 ht hl9⟩
  unfold hZ
  rw [w_up_no (by omega)]
  exact w_up_same _ _ _ _
theorem ok_re (h : hyA S0 p HT cs ms os X fa n B2 w t A s kd nms ne ec bh ba ar) (hL9 : stL S0) (hgk : ((a_K A t).1.getD ba (0, 0, [])).1 = 3 ∨ ((a_K A t).1.getD ba (0, 0, [])).1 = 6) (hp9 : rwP (wdK (nmT (a_N A) nms)) ((a_K A t).1.getD ba (0, 0, [])).1 kd ne = 0) : eOk S0 HT cs ms os A s ((3 : Int), ((if ((a_K A t).1.getD ba (0, 0, [])).1 = 6 then 0 else 1) : Int), (-1 : Int), (-1 : Int), (-1 : Int), (-1 : Int), a_c A 11, (0 : Int), (0 : Int)) := by
  obtain ⟨⟨hp, hw, hx⟩, hA, hB, ⟨hr, ho⟩, hsi, hme⟩ := id h
  have h11 := hA.2.2.2.2.1.2.2.2.2.2.1.1
  obtain ⟨⟨s1, s2, s3, s4⟩, s5, s6, s7, s8⟩ := hsi
  refine ⟨⟨⟨by show (0 : Int) ≤ 3; decide, by show (3 : Int) ≤ 3; decide, ?_⟩, h11.1, Int.le_refl _⟩, fun z => absurd z (by show ¬ (3 : Int) = 0; decide), fun z => absurd z (by show ¬ (3 : Int) = 0; decide), fun _ => ⟨?_, rfl, ?_⟩, fun z => absurd z (by show ¬ ((3 : Int) = 1 ∨ (3 : Int) = 2); decide)⟩
  · refine ⟨?_, sKn_of h⟩
    rw [s3]
    have := hL9.2.2
    omega
  · show (if ((a_K A t).1.getD ba (0, 0, [])).1 = 6 then 0 else 1) = 0 ∨ (if ((a_K A t).1.getD ba (0, 0, [])).1 = 6 then 0 else 1) = 1
    by_cases g6 : ((a_K A t).1.getD ba (0, 0, [])).1 = 6
    · rw [if_pos g6]; omega
    · rw [if_neg g6]; omega
  · rw [s2, s3, s4]
    show rwP (wdK (nmT (a_N A) nms)) (if (if ((a_K A t).1.getD ba (0, 0, [])).1 = 6 then 0 else 1) = 0 then 6 else 3) kd ne = 0
    by_cases g6 : ((a_K A t).1.getD ba (0, 0, [])).1 = 6
    · rw [if_pos g6, if_pos rfl]
      rw [g6] at hp9
      exact hp9
    · rw [if_neg g6, if_neg (by first | decide | omega)]
      have g3 : ((a_K A t).1.getD ba (0, 0, [])).1 = 3 := by omega
      rw [g3] at hp9
      exact hp9
/-- acting on lists and texts -/
theorem ao_3 (h : hyA S0 p HT cs ms os X fa n B2 w t A s kd nms ne ec bh ba ar) (hx1 : pe_at (pe_GA xs).xs 1 = some (1, tx_1)) (hgk : ((a_K A t).1.getD ba (0, 0, [])).1 = 3 ∨ ((a_K A t).1.getD ba (0, 0, [])).1 = 6) (he3 : e.1 = 3) (hp9 : rwP r ((a_K A t).1.getD ba (0, 0, [])).1 kd ne = 0) : aOut xs d S0 p HT cs ms os X mo fa n B2 w t A s kd nms ec bh ba nm en es e := by
  by_cases k0 : kd = 0
  · rcases hgk with g | g
    · exact ao_tsz h hx1 he3 g k0
    · exact ao_lsz h hx1 he3 g k0
  by_cases k5 : kd = 5
  · unfold rwP at hp9
    rw [if_neg k0, if_pos k5] at hp9
    have hz : (((a_K A t).1.getD ba (0, 0, [])).1 = 6 ∧ ((r = 23 ∧ ne = 1) ∨ (r = 24 ∧ ne = 0))) ∨ (((a_K A t).1.getD ba (0, 0, [])).1 ≠ 6 ∧ r = 25 ∧ ne = 2) := by
      by_cases z : (((a_K A t).1.getD ba (0, 0, [])).1 = 6 ∧ ((r = 23 ∧ ne = 1) ∨ (r = 24 ∧ ne = 0))) ∨ (((a_K A t).1.getD ba (0, 0, [])).1 ≠ 6 ∧ r = 25 ∧ ne = 2)
      · exact z
      · rw [if_neg z] at hp9
        exact absurd hp9 (by first | decide | omega)
    rcases hz with ⟨g, z | z⟩ | ⟨g, _, z⟩
    · exact ao_lpu h hx1 he3 g k5 z.2
    · exact ao_lpo h hx1 he3 g k5 z.2
    · exact ao_tsb h hx1 he3 (by omega) k5 z
  unfold rwP at hp9
  rw [if_neg k0, if_neg k5] at hp9
  have hz : kd = 2 ∨ (kd = 3 ∧ ((a_K A t).1.getD ba (0, 0, [])).1 = 6) := by
    by_cases z : kd = 2 ∨ (kd = 3 ∧ ((a_K A t).1.getD ba (0, 0, [])).1 = 6)
    · exact z
    · rw [if_neg z] at hp9
      exact absurd hp9 (by first | decide | omega)
  rcases hz with z | z
  · rcases hgk with g | g
    · exact ao_tge h hx1 he3 g z
    · exact ao_lge h hx1 he3 g z
  · exact ao_lse h hx1 he3 z.2 z.1
/-- looking at a list or a text -/
theorem lo_3 (h : hyA S0 p HT cs ms os X fa n B2 w t A s kd nms ne ec bh ba ar) (hL9 : stL S0) (hx1 : pe_at (pe_GA xs).xs 1 = some (1, tx_1)) (hX : w_X xs) (hb : a_c A 23 + 1 ≤ B2) (hgk : ((a_K A t).1.getD ba (0, 0, [])).1 = 3 ∨ ((a_K A t).1.getD ba (0, 0, [])).1 = 6) (hno : nmO A (a_K A t) kd nms ba nm en) : lOut xs d S0 p HT cs ms os X mo fa n B2 w t A s kd nms ec bh ba nm en es := by
  obtain ⟨hnm, hen⟩ : nm = nms ∧ en = -1 := by
    rcases hno with q | q
    · exact q.2
    · have := q.1.2
      omega
  have w1 := wf_Q0 (l := 3) h.2.1 (by first | decide | omega) hb
  by_cases hp9 : rwP (wdK (nmT (a_N A) nms)) ((a_K A t).1.getD ba (0, 0, [])).1 kd ne = 0
  · have c11 : a_c (u_Q A (a_H A) (a_C A) (a_W A) 3 0) 11 = a_c A 11 := cq_n (A := A) (l := 3) (ds := 0) (i := 11) (by first | decide | omega) (by first | decide | omega)
    have w2 := wf_N (s := s) w1 ⟨h.2.2.2.2.1.2.2.1.1.1, h.2.2.2.2.1.2.2.1.1.2.1⟩ (eOk_2 (ok_re h hL9 hgk hp9) rfl rfl rfl c11)
    have h3 := hy_2 h w2 rfl c11
    obtain ⟨c, A2, y1, y2, y3, y4, y5⟩ := ao_3 (en := en) (es := es) (d := d) (mo := mo) (nm := nm) (e := ((3 : Int), ((if ((a_K A t).1.getD ba (0, 0, [])).1 = 6 then 0 else 1) : Int), (-1 : Int), (-1 : Int), (-1 : Int), (-1 : Int), a_c A 11, (0 : Int), (0 : Int))) h3 hx1 hgk rfl hp9
    refine ⟨c, A2, y1, y2, y3, ?_, fun Z hZ ha => rLk_s (N3 := 0) h rfl w1 ⟨rfl, rfl⟩ (Nat.zero_le _) (rkr h hX hgk hen hp9) y5 Z hZ ha⟩
    rcases h.1.2.1 with ⟨rfl, rfl⟩ | ⟨rfl, rfl⟩
    · exact ckr_215 h hL9 hgk hnm hp9 y4
    · exact ckr_226 h hL9 hgk hnm hp9 y4
  · refine ⟨rwP (wdK (nmT (a_N A) nms)) ((a_K A t).1.getD ba (0, 0, [])).1 kd ne, (u_Q A (a_H A) (a_C A) (a_W A) 3 0), w1, fun _ _ => rfl, fun _ => rfl, ?_, fun Z hZ ha => rLk_x h (rke h hX hgk hp9 rfl) Z hZ ha⟩
    rcases h.1.2.1 with ⟨rfl, rfl⟩ | ⟨rfl, rfl⟩
    · exact cke_215 h hL9 hgk hnm hp9 rfl
    · exact cke_226 h hL9 hgk hnm hp9 rfl
end Wlt
