/-! PART mb: looking at what is a host's, on both sides. -/
section Wmb
variable {Sb : wS} {xs : List (Nat × List Int32)} {d : Nat} {S0 S Z : wS} {p w m : Nat} {HT : Int → Int} {cs : List hCR} {ms : List hMR} {os : Int → List Int} {X : List (List Int)} {mo t n B B2 oq : Int} {fa : Int → Int} {WE : aA → Prop} {A A2 : aA} {K2 : aK} {ml : List Nat} {k c s kd nms ne ec bh nm en : Int} {b ba : Nat} {ar : List aV} {e : aE} {V Z2 Y : wS} {o : wO} {dn : Int} {H2 : List aH} {N2 : List (List Int)} {E2 : Int → List aE} {C2 : List aQ} {W2 : Int} {c2 : Int → Int} {k2 : Int → Int → Int} {mk rk : Nat → Int → Prop} {K : aK} {T : List aO} {H : List aH} {E : Int → List aE} {gk gb es lo hi a : Int} {r : List aE × Int × Option aE} {A1 : aA} {tl cl : List Int} {sl : Nat → List Int} {L : List aC} {G : Int → aV} {u : aV} {x : List Int} {T2 : List aO} {L2 : List aC} {G2 : Int → aV} {H2 : List aH} {c2 : Int → Int} {y : Int} {Q : wO → wS → Prop} {ps : List (Int × aV)} {k hd wh : Int} {f a9 pn fn md : Int} {vn m9 : Nat} {th : aV} {g : Int} {lp : List aV} {l ds fo g : Int} {mk : Nat → Int → Prop} {C2 : List aQ} {W2 : Int} {RZ : wS → Prop} {N3 : Nat} {SB : wS} {r r0 : Int} {sh : Int} {K9 : aK} {nt : Int}
theorem wf_QC (h : wfA S0 fa ms n (WEs S0 HT cs ms os) B (u_Q A (a_H A) (a_C A) (a_W A) l 0)) (hw0 : a_W A ≤ a_c A 21 + a_c A 22) (hl : l = 1 ∨ l = 2) (hW : W2 ≤ a_W A + 1) : wfA S0 fa ms n (WEs S0 HT cs ms os) B (u_Q A (a_H A) C2 W2 l 0) := ⟨h.1, h.2.1, h.2.2.1, h.2.2.2.1, h.2.2.2.2.1, h.2.2.2.2.2.1, h.2.2.2.2.2.2.1, ⟨by
  show W2 ≤ (fUp (fUp (a_c A) (20 + l) (a_c A (20 + l) + 1)) 4 (a_c A 4 + 0)) 21 + (fUp (fUp (a_c A) (20 + l) (a_c A (20 + l) + 1)) 4 (a_c A 4 + 0)) 22
  rw [cq_w1 hl]
  omega, h.2.2.2.2.2.2.2.1.2⟩, h.2.2.2.2.2.2.2.2⟩
theorem hoC_w {kd am k : Int} {W tl : List Int} : (hoC HT cs ms os A mo kd am W k tl).2 ≤ a_W A + 1 := by
  unfold hoC chN
  by_cases e : kd = 0
  · rw [if_pos e]
    show a_W A ≤ a_W A + 1
    omega
  · rw [if_neg e]
    split
    · show a_W A ≤ a_W A + 1
      omega
    · exact Int.le_refl _
theorem ok_ho {k : Int} (h : hyA S0 p HT cs ms os X fa n B2 w t A s kd nms ne ec bh ba ar) (hL9 : stL S0) (hn : n = (cs.length : Int)) (hl : l = 1 ∨ l = 2) (hkd : kd = 0 ∨ kd = 1 ∨ kd = 5 ∨ (kd = 6 ∧ l = 2)) (hk : 0 ≤ k ∧ k < (cs.length : Int)) (hwh : 0 ≤ whA HT cs ms os kd (l - 1) (nmT (a_N A) nms) k (ar.map (clO (a_T A)))) : eOk S0 HT cs ms os A s (hoR9 HT cs ms os (a_c A 11) l kd (nmT (a_N A) nms) k (ar.map (clO (a_T A)))) := by
  obtain ⟨⟨hp, hw, hx⟩, hA, hB, ⟨hr, ho⟩, hsi, hme⟩ := id h
  have h11 := hA.2.2.2.2.1.2.2.2.2.2.1.1
  have h88 := ec_8 hsi.2.1
  have hes := es_ok hsi.2.1 (vk_of hA hw)
  have htt := cl_t (cs := cs) hA hw hn hsi.2.1
  obtain ⟨⟨s1, s2, s3, s4⟩, s5, s6, s7, s8⟩ := hsi
  refine ⟨⟨⟨by show 0 ≤ l; omega, by show l ≤ 3; omega, ?_⟩, h11.1, Int.le_refl _⟩, fun z => absurd z (by show ¬ l = 0; omega), fun z => absurd z (by show ¬ l = 0; omega), fun z => absurd z (by show ¬ l = 3; omega), fun _ => ?_⟩
  · refine ⟨?_, sKn_of h⟩
    rw [s3]
    have := hL9.2.2
    omega
  · rw [s2, s3, s4]
    exact ⟨hkd, hk, (ar.map (clO (a_T A))), ⟨by rw [List.length_map]; exact h88.2, by rw [List.length_map]; exact h88.1, hes, htt⟩, hwh, rfl⟩
theorem ho_h {k : Int} (h : hyA S0 p HT cs ms os X fa n B2 w t A s kd nms ne ec bh ba ar) (hl : (l = 1 ∧ ((a_K A t).1.getD ba (0, 0, [])).1 = 7 ∧ k = (tO (a_T A) ((a_K A t).1.getD ba (0, 0, [])).2.1).2.2.1) ∨ (l = 2 ∧ ((a_K A t).1.getD ba (0, 0, [])).1 = 8 ∧ k = ((a_K A t).1.getD ba (0, 0, [])).2.1)) : hoE (a_T A) kd nms ((a_K A t).1.getD ba (0, 0, [])).1 ((a_K A t).1.getD ba (0, 0, [])).2.1 nm (wb_l2i (esV (ar.map (clO (a_T A))))) (wb_l2i (wb_lushr (esV (ar.map (clO (a_T A)))) 32)) (hoR9 HT cs ms os (a_c A 11) l kd (nmT (a_N A) nms) k (ar.map (clO (a_T A)))) := by
  have h88 := ec_8 h.2.2.2.2.1.2.1
  have hty : cHi kd (hoR9 HT cs ms os (a_c A 11) l kd (nmT (a_N A) nms) k (ar.map (clO (a_T A)))) = -1 ∨ (cHi kd (hoR9 HT cs ms os (a_c A 11) l kd (nmT (a_N A) nms) k (ar.map (clO (a_T A)))) = wb_l2i (wb_lushr (esV (ar.map (clO (a_T A)))) 32) ∧ cLo kd (hoR9 HT cs ms os (a_c A 11) l kd (nmT (a_N A) nms) k (ar.map (clO (a_T A)))) = wb_l2i (esV (ar.map (clO (a_T A))))) := by
    have e12 : (hoR9 HT cs ms os (a_c A 11) l kd (nmT (a_N A) nms) k (ar.map (clO (a_T A)))).1 = 1 ∨ (hoR9 HT cs ms os (a_c A 11) l kd (nmT (a_N A) nms) k (ar.map (clO (a_T A)))).1 = 2 := by
      show l = 1 ∨ l = 2
      omega
    by_cases hc : kd = 5 ∨ kd = 6 ∨ (kd = 1 ∧ (hoR9 HT cs ms os (a_c A 11) l kd (nmT (a_N A) nms) k (ar.map (clO (a_T A)))).2.2.2.2.2.2.2.1 = 1)
    · right
      have hmn : (ar.map (clO (a_T A))).length ≤ mnA HT cs ms os kd (l - 1) (nmT (a_N A) nms) k (ar.map (clO (a_T A))) := by
        rcases hc with z | z | z
        · rw [mn_5 (Or.inl z)]
          exact Nat.le_refl _
        · rw [mn_5 (Or.inr z)]
          exact Nat.le_refl _
        · have z2 : (mnA HT cs ms os kd (l - 1) (nmT (a_N A) nms) k (ar.map (clO (a_T A))) : Int) = 1 := z.2
          have z3 := h88.2
          rw [if_pos z.1] at z3
          rw [List.length_map]
          omega
      have x9 : (hoR9 HT cs ms os (a_c A 11) l kd (nmT (a_N A) nms) k (ar.map (clO (a_T A)))).2.2.2.2.2.2.2.2 = esV (ar.map (clO (a_T A))) := by
        show esV ((ar.map (clO (a_T A))).take (mnA HT cs ms os kd (l - 1) (nmT (a_N A) nms) k (ar.map (clO (a_T A))))) = esV (ar.map (clO (a_T A)))
        rw [List.take_of_length_le hmn]
      constructor
      · unfold cHi
        rw [if_pos ⟨e12, hc⟩, x9]
      · unfold cLo
        rw [if_pos ⟨e12, hc⟩, x9]
    · left
      unfold cHi
      rw [if_neg (fun z => hc z.2)]
  rcases hl with ⟨l1, l2, l3⟩ | ⟨l1, l2, l3⟩
  · exact Or.inr (Or.inl ⟨l1, l2, l3, hty⟩)
  · exact Or.inr (Or.inr (Or.inl ⟨l1, l2, l3, hty⟩))

theorem c5h_73_215_1 (h : hyA S0 73 HT cs ms os X fa n B2 215 0 A s kd nms ne ec bh ba ar) (hL9 : stL S0) (hH : stHo S0 73 241 HT nt cs ms os n) (hgk : ((a_K A 0).1.getD ba (0, 0, [])).1 = 7) (hkd : kd = 2 ∨ kd = 3 ∨ kd = 4 ∨ kd = 6) : cLook xs d S0 73 HT cs ms os X mo 215 A s kd ec ba ((a_K A 0).1.getD ba (0, 0, [])).1 nm es 5 (u_Q A (a_H A) (a_C A) (a_W A) 1 0) := fun Y hY ha => by
  have hvo := gv_G h
  have hkk : 0 ≤ (tO (a_T A) ((a_K A 0).1.getD ba (0, 0, [])).2.1).2.2.1 ∧ (tO (a_T A) ((a_K A 0).1.getD ba (0, 0, [])).2.1).2.2.1 < 60 := by
    have z1 := hvo.1.2.2.2.1 hgk
    omega
  obtain ⟨⟨v4, v5, v6, v7, v8, v9, v10, v11, v12, v13⟩, v16⟩ := id ha
  obtain ⟨⟨hp, hw, hx⟩, hA, hB, ⟨hr, ho⟩, hsi, hme⟩ := id h
  obtain ⟨ix, fl, ow, hE⟩ := hY.2.2.2.2.1
  have hfo : 0 ≤ Y 158 14 ∧ Y 158 14 < Y 48 (-1) := by
    have z1 := hE.2.2.2.1
    have z2 := hE.1.2.2.2
    omega
  obtain ⟨r1, r2, r3⟩ := lk_pl (Z := (bkZ (Y 158 14) 1 (w_up Y 160 1 (Y 160 1 + 1)))) (l := 1) hp hw hY (by first | decide | omega) hfo.1 (fun _ _ _ _ => rfl)
  obtain ⟨ix2, fl2, ow2, hE2⟩ := r3.2.2.2.2.1
  have g : ∀ (j : Nat) (x : Int), (j < 48 ∨ 57 < j) → j ≠ 160 → (bkZ (Y 158 14) 1 (w_up Y 160 1 (Y 160 1 + 1))) j x = Y j x := fun j x h1 h2 => bk_f j x h1 (by omega)
  have h72 := (ho_c (A := (u_Q A (a_H A) (a_C A) (a_W A) 1 0)) hH r3).1
  have hfs : 0 ≤ Y 158 14 ∧ Y 158 14 < (bkZ (Y 158 14) 1 (w_up Y 160 1 (Y 160 1 + 1))) 48 (-1) := by
    rw [bk_m hfo.1 (by first | decide | omega)]
    exact hfo
  refine cLk1_215 (mk := fun _ _ => False) (RZ := fun Z => w_up (w_up (bkZ (Y 158 14) 1 (w_up Y 160 1 (Y 160 1 + 1))) 49 (Y 158 14) (tO (a_T A) ((a_K A 0).1.getD ba (0, 0, [])).2.1).2.2.1) 215 16 5 = Z) (A1 := A) (e := ((0 : Int), (0 : Int), (0 : Int), (0 : Int), (0 : Int), (0 : Int), (0 : Int), (0 : Int), (0 : Int))) (nms := nms) h hL9 hgk (fun _ _ z => z.elim) hY ha (lax_73_215 (d := d + 84) h72 hE2.1 ((g 158 4 (by omega) (by omega)).trans v4) ((g 158 7 (by omega) (by omega)).trans v7) (g 158 14 (by omega) (by omega)) hfs r2 hkk ⟨by omega, by omega, by omega, by omega⟩ (by first | decide | omega)) (fun Z hz => ?_) rfl rfl (fun z => ?_)
  · obtain rfl := hz
    obtain ⟨r4, r5, r6⟩ := lk_pl (Z := w_up (w_up (bkZ (Y 158 14) 1 (w_up Y 160 1 (Y 160 1 + 1))) 49 (Y 158 14) (tO (a_T A) ((a_K A 0).1.getD ba (0, 0, [])).2.1).2.2.1) 215 16 5) (l := 1) hp hw hY (by first | decide | omega) hfo.1 (fun j x a1 a2 => by rw [w_up_no (by omega), w_up_no (by omega)])
    exact ⟨r4, r5, Or.inr ⟨by rw [w_up_same]; decide, w_up_same _ _ _ _, r6⟩⟩
  · obtain ⟨Z, rfl, z2⟩ := z
    rw [w_up_same] at z2
    exact absurd z2 (by first | decide | omega)

theorem c5h_73_226_1 (h : hyA S0 73 HT cs ms os X fa n B2 226 1 A s kd nms ne ec bh ba ar) (hL9 : stL S0) (hH : stHo S0 73 241 HT nt cs ms os n) (hgk : ((a_K A 1).1.getD ba (0, 0, [])).1 = 7) (hkd : kd = 2 ∨ kd = 3 ∨ kd = 4 ∨ kd = 6) : cLook xs d S0 73 HT cs ms os X mo 226 A s kd ec ba ((a_K A 1).1.getD ba (0, 0, [])).1 nm es 5 (u_Q A (a_H A) (a_C A) (a_W A) 1 0) := fun Y hY ha => by
  have hvo := gv_G h
  have hkk : 0 ≤ (tO (a_T A) ((a_K A 1).1.getD ba (0, 0, [])).2.1).2.2.1 ∧ (tO (a_T A) ((a_K A 1).1.getD ba (0, 0, [])).2.1).2.2.1 < 60 := by
    have z1 := hvo.1.2.2.2.1 hgk
    omega
  obtain ⟨⟨v4, v5, v6, v7, v8, v9, v10, v11, v12, v13⟩, v16⟩ := id ha
  obtain ⟨⟨hp, hw, hx⟩, hA, hB, ⟨hr, ho⟩, hsi, hme⟩ := id h
  obtain ⟨ix, fl, ow, hE⟩ := hY.2.2.2.2.1
  have hfo : 0 ≤ Y 158 14 ∧ Y 158 14 < Y 48 (-1) := by
    have z1 := hE.2.2.2.1
    have z2 := hE.1.2.2.2
    omega
  obtain ⟨r1, r2, r3⟩ := lk_pl (Z := (bkZ (Y 158 14) 1 (w_up Y 160 1 (Y 160 1 + 1)))) (l := 1) hp hw hY (by first | decide | omega) hfo.1 (fun _ _ _ _ => rfl)
  obtain ⟨ix2, fl2, ow2, hE2⟩ := r3.2.2.2.2.1
  have g : ∀ (j : Nat) (x : Int), (j < 48 ∨ 57 < j) → j ≠ 160 → (bkZ (Y 158 14) 1 (w_up Y 160 1 (Y 160 1 + 1))) j x = Y j x := fun j x h1 h2 => bk_f j x h1 (by omega)
  have h72 := (ho_c (A := (u_Q A (a_H A) (a_C A) (a_W A) 1 0)) hH r3).1
  have hfs : 0 ≤ Y 158 14 ∧ Y 158 14 < (bkZ (Y 158 14) 1 (w_up Y 160 1 (Y 160 1 + 1))) 48 (-1) := by
    rw [bk_m hfo.1 (by first | decide | omega)]
    exact hfo
  refine cLk1_226 (mk := fun _ _ => False) (RZ := fun Z => w_up (w_up (bkZ (Y 158 14) 1 (w_up Y 160 1 (Y 160 1 + 1))) 49 (Y 158 14) (tO (a_T A) ((a_K A 1).1.getD ba (0, 0, [])).2.1).2.2.1) 226 16 5 = Z) (A1 := A) (e := ((0 : Int), (0 : Int), (0 : Int), (0 : Int), (0 : Int), (0 : Int), (0 : Int), (0 : Int), (0 : Int))) (nms := nms) h hL9 hgk (fun _ _ z => z.elim) hY ha (lax_73_226 (d := d + 84) h72 hE2.1 ((g 158 4 (by omega) (by omega)).trans v4) ((g 158 7 (by omega) (by omega)).trans v7) (g 158 14 (by omega) (by omega)) hfs r2 hkk ⟨by omega, by omega, by omega, by omega⟩ (by first | decide | omega)) (fun Z hz => ?_) rfl rfl (fun z => ?_)
  · obtain rfl := hz
    obtain ⟨r4, r5, r6⟩ := lk_pl (Z := w_up (w_up (bkZ (Y 158 14) 1 (w_up Y 160 1 (Y 160 1 + 1))) 49 (Y 158 14) (tO (a_T A) ((a_K A 1).1.getD ba (0, 0, [])).2.1).2.2.1) 226 16 5) (l := 1) hp hw hY (by first | decide | omega) hfo.1 (fun j x a1 a2 => by rw [w_up_no (by omega), w_up_no (by omega)])
    exact ⟨r4, r5, Or.inr ⟨by rw [w_up_same]; decide, w_up_same _ _ _ _, r6⟩⟩
  · obtain ⟨Z, rfl, z2⟩ := z
    rw [w_up_same] at z2
    exact absurd z2 (by first | decide | omega)

theorem c5h_162_215_1 (h : hyA S0 162 HT cs ms os X fa n B2 215 0 A s kd nms ne ec bh ba ar) (hL9 : stL S0) (hH : stHo S0 162 261 HT nt cs ms os n) (hgk : ((a_K A 0).1.getD ba (0, 0, [])).1 = 7) (hkd : kd = 2 ∨ kd = 3 ∨ kd = 4 ∨ kd = 6) : cLook xs d S0 162 HT cs ms os X mo 215 A s kd ec ba ((a_K A 0).1.getD ba (0, 0, [])).1 nm es 5 (u_Q A (a_H A) (a_C A) (a_W A) 1 0) := fun Y hY ha => by
  have hvo := gv_G h
  have hkk : 0 ≤ (tO (a_T A) ((a_K A 0).1.getD ba (0, 0, [])).2.1).2.2.1 ∧ (tO (a_T A) ((a_K A 0).1.getD ba (0, 0, [])).2.1).2.2.1 < 60 := by
    have z1 := hvo.1.2.2.2.1 hgk
    omega
  obtain ⟨⟨v4, v5, v6, v7, v8, v9, v10, v11, v12, v13⟩, v16⟩ := id ha
  obtain ⟨⟨hp, hw, hx⟩, hA, hB, ⟨hr, ho⟩, hsi, hme⟩ := id h
  obtain ⟨ix, fl, ow, hE⟩ := hY.2.2.2.2.1
  have hfo : 0 ≤ Y 158 14 ∧ Y 158 14 < Y 48 (-1) := by
    have z1 := hE.2.2.2.1
    have z2 := hE.1.2.2.2
    omega
  obtain ⟨r1, r2, r3⟩ := lk_pl (Z := (bkZ (Y 158 14) 1 (w_up Y 160 1 (Y 160 1 + 1)))) (l := 1) hp hw hY (by first | decide | omega) hfo.1 (fun _ _ _ _ => rfl)
  obtain ⟨ix2, fl2, ow2, hE2⟩ := r3.2.2.2.2.1
  have g : ∀ (j : Nat) (x : Int), (j < 48 ∨ 57 < j) → j ≠ 160 → (bkZ (Y 158 14) 1 (w_up Y 160 1 (Y 160 1 + 1))) j x = Y j x := fun j x h1 h2 => bk_f j x h1 (by omega)
  have h72 := (ho_c (A := (u_Q A (a_H A) (a_C A) (a_W A) 1 0)) hH r3).1
  have hfs : 0 ≤ Y 158 14 ∧ Y 158 14 < (bkZ (Y 158 14) 1 (w_up Y 160 1 (Y 160 1 + 1))) 48 (-1) := by
    rw [bk_m hfo.1 (by first | decide | omega)]
    exact hfo
  refine cLk1_215 (mk := fun _ _ => False) (RZ := fun Z => w_up (w_up (bkZ (Y 158 14) 1 (w_up Y 160 1 (Y 160 1 + 1))) 49 (Y 158 14) (tO (a_T A) ((a_K A 0).1.getD ba (0, 0, [])).2.1).2.2.1) 215 16 5 = Z) (A1 := A) (e := ((0 : Int), (0 : Int), (0 : Int), (0 : Int), (0 : Int), (0 : Int), (0 : Int), (0 : Int), (0 : Int))) (nms := nms) h hL9 hgk (fun _ _ z => z.elim) hY ha (lax_162_215 (d := d + 84) h72 hE2.1 ((g 158 4 (by omega) (by omega)).trans v4) ((g 158 7 (by omega) (by omega)).trans v7) (g 158 14 (by omega) (by omega)) hfs r2 hkk ⟨by omega, by omega, by omega, by omega⟩ (by first | decide | omega)) (fun Z hz => ?_) rfl rfl (fun z => ?_)
  · obtain rfl := hz
    obtain ⟨r4, r5, r6⟩ := lk_pl (Z := w_up (w_up (bkZ (Y 158 14) 1 (w_up Y 160 1 (Y 160 1 + 1))) 49 (Y 158 14) (tO (a_T A) ((a_K A 0).1.getD ba (0, 0, [])).2.1).2.2.1) 215 16 5) (l := 1) hp hw hY (by first | decide | omega) hfo.1 (fun j x a1 a2 => by rw [w_up_no (by omega), w_up_no (by omega)])
    exact ⟨r4, r5, Or.inr ⟨by rw [w_up_same]; decide, w_up_same _ _ _ _, r6⟩⟩
  · obtain ⟨Z, rfl, z2⟩ := z
    rw [w_up_same] at z2
    exact absurd z2 (by first | decide | omega)

theorem c5h_162_226_1 (h : hyA S0 162 HT cs ms os X fa n B2 226 1 A s kd nms ne ec bh ba ar) (hL9 : stL S0) (hH : stHo S0 162 261 HT nt cs ms os n) (hgk : ((a_K A 1).1.getD ba (0, 0, [])).1 = 7) (hkd : kd = 2 ∨ kd = 3 ∨ kd = 4 ∨ kd = 6) : cLook xs d S0 162 HT cs ms os X mo 226 A s kd ec ba ((a_K A 1).1.getD ba (0, 0, [])).1 nm es 5 (u_Q A (a_H A) (a_C A) (a_W A) 1 0) := fun Y hY ha => by
  have hvo := gv_G h
  have hkk : 0 ≤ (tO (a_T A) ((a_K A 1).1.getD ba (0, 0, [])).2.1).2.2.1 ∧ (tO (a_T A) ((a_K A 1).1.getD ba (0, 0, [])).2.1).2.2.1 < 60 := by
    have z1 := hvo.1.2.2.2.1 hgk
    omega
  obtain ⟨⟨v4, v5, v6, v7, v8, v9, v10, v11, v12, v13⟩, v16⟩ := id ha
  obtain ⟨⟨hp, hw, hx⟩, hA, hB, ⟨hr, ho⟩, hsi, hme⟩ := id h
  obtain ⟨ix, fl, ow, hE⟩ := hY.2.2.2.2.1
  have hfo : 0 ≤ Y 158 14 ∧ Y 158 14 < Y 48 (-1) := by
    have z1 := hE.2.2.2.1
    have z2 := hE.1.2.2.2
    omega
  obtain ⟨r1, r2, r3⟩ := lk_pl (Z := (bkZ (Y 158 14) 1 (w_up Y 160 1 (Y 160 1 + 1)))) (l := 1) hp hw hY (by first | decide | omega) hfo.1 (fun _ _ _ _ => rfl)
  obtain ⟨ix2, fl2, ow2, hE2⟩ := r3.2.2.2.2.1
  have g : ∀ (j : Nat) (x : Int), (j < 48 ∨ 57 < j) → j ≠ 160 → (bkZ (Y 158 14) 1 (w_up Y 160 1 (Y 160 1 + 1))) j x = Y j x := fun j x h1 h2 => bk_f j x h1 (by omega)
  have h72 := (ho_c (A := (u_Q A (a_H A) (a_C A) (a_W A) 1 0)) hH r3).1
  have hfs : 0 ≤ Y 158 14 ∧ Y 158 14 < (bkZ (Y 158 14) 1 (w_up Y 160 1 (Y 160 1 + 1))) 48 (-1) := by
    rw [bk_m hfo.1 (by first | decide | omega)]
    exact hfo
  refine cLk1_226 (mk := fun _ _ => False) (RZ := fun Z => w_up (w_up (bkZ (Y 158 14) 1 (w_up Y 160 1 (Y 160 1 + 1))) 49 (Y 158 14) (tO (a_T A) ((a_K A 1).1.getD ba (0, 0, [])).2.1).2.2.1) 226 16 5 = Z) (A1 := A) (e := ((0 : Int), (0 : Int), (0 : Int), (0 : Int), (0 : Int), (0 : Int), (0 : Int), (0 : Int), (0 : Int))) (nms := nms) h hL9 hgk (fun _ _ z => z.elim) hY ha (lax_162_226 (d := d + 84) h72 hE2.1 ((g 158 4 (by omega) (by omega)).trans v4) ((g 158 7 (by omega) (by omega)).trans v7) (g 158 14 (by omega) (by omega)) hfs r2 hkk ⟨by omega, by omega, by omega, by omega⟩ (by first | decide | omega)) (fun Z hz => ?_) rfl rfl (fun z => ?_)
  · obtain rfl := hz
    obtain ⟨r4, r5, r6⟩ := lk_pl (Z := w_up (w_up (bkZ (Y 158 14) 1 (w_up Y 160 1 (Y 160 1 + 1))) 49 (Y 158 14) (tO (a_T A) ((a_K A 1).1.getD ba (0, 0, [])).2.1).2.2.1) 226 16 5) (l := 1) hp hw hY (by first | decide | omega) hfo.1 (fun j x a1 a2 => by rw [w_up_no (by omega), w_up_no (by omega)])
    exact ⟨r4, r5, Or.inr ⟨by rw [w_up_same]; decide, w_up_same _ _ _ _, r6⟩⟩
  · obtain ⟨Z, rfl, z2⟩ := z
    rw [w_up_same] at z2
    exact absurd z2 (by first | decide | omega)

theorem r5h_1 (h : hyA S0 p HT cs ms os X fa n B2 w t A s kd nms ne ec bh ba ar) (hgk : ((a_K A t).1.getD ba (0, 0, [])).1 = 7) (hkd : kd = 2 ∨ kd = 3 ∨ kd = 4 ∨ kd = 6) : ∀ {Sb : wS} (Y : wS), rRun S0 Sb HT cs ms os X mo t A Y → rAim t (a_K A t) ba bh en Y → wJ (pe_GA xs) wY0 (fun _ => False) (d + 90) t_M_looks ((pe_at t_M_looks.bl 0).getD (0, [])).2 [(0, (2, 237)), (1, (0, s)), (2, (0, 1))] [] Y (fun o Z => o = .inr 238 ∧ ((5 : Int) ≠ 0 ∧ Z 238 5 = 5 ∧ rRun S0 Sb HT cs ms os X mo t (u_Q A (a_H A) (a_C A) (a_W A) 1 0) Z)) := fun Y hY ha => by
  have hvo := gv_G h
  have hkk : 0 ≤ (tO (a_T A) ((a_K A t).1.getD ba (0, 0, [])).2.1).2.2.1 ∧ (tO (a_T A) ((a_K A t).1.getD ba (0, 0, [])).2.1).2.2.1 < 60 := by
    have z1 := hvo.1.2.2.2.1 hgk
    omega
  have hT8 := hA_T h
  have hl9 := hl_A h
  obtain ⟨s0, s4, s5, s6⟩ := s_4 h hY
  have ht := wt_t h.1.2.1
  obtain ⟨q1, q2⟩ := rq_R (l := 1) ht hl9 hY (by first | decide | omega)
  have g : ∀ (j : Nat) (x : Int), (j ≠ 237 ∨ (x < 166 ∨ 172 < x)) → j ≠ 344 → (lkX 1 1 Y) j x = Y j x := fun j x h1 h2 => lx_f j x (by omega) (by omega)
  obtain ⟨sl, hW⟩ := q1.1.2.2.1.1
  have hgo := (hvo.1.2.1 (by omega) (by omega)).1
  have hg321 : (lkX 1 1 Y) 321 ((a_K A t).1.getD ba (0, 0, [])).2.1 = (tO (a_T A) ((a_K A t).1.getD ba (0, 0, [])).2.1).2.2.1 := ((r_th (T := a_T A) hW.1 hgo.1 hgo.2).2.2.2.1).trans (if_pos ((hvo.1.2.1 (by omega) (by omega)).2.trans hgk))
  have hg9 : ((7 : Int) = 7 ∧ (0 : Int) = 0 ∧ (0 ≤ ((a_K A t).1.getD ba (0, 0, [])).2.1 ∧ ((a_K A t).1.getD ba (0, 0, [])).2.1 < 8000) ∧ (lkX 1 1 Y) 321 ((a_K A t).1.getD ba (0, 0, [])).2.1 = (tO (a_T A) ((a_K A t).1.getD ba (0, 0, [])).2.1).2.2.1) ∨ ((7 : Int) = 8 ∧ (0 : Int) = 1 ∧ ((a_K A t).1.getD ba (0, 0, [])).2.1 = (tO (a_T A) ((a_K A t).1.getD ba (0, 0, [])).2.1).2.2.1) := Or.inl ⟨rfl, rfl, ⟨hgo.1, by have := hgo.2; omega⟩, hg321⟩
  refine rlk1 (d := d + 82) hY.1.1 s0 s4 ha.2.2.1 hgk (Or.inr rfl) (ak_0 h hY (by first | decide | omega)) (wJ_mono (lhx_241 (d := d + 23) (am := 0) q2 s0 ((g 305 s (by omega) (by omega)).trans s5) ((g 237 174 (by omega) (by omega)).trans (ha.2.2.1.trans hgk)) ((g 237 175 (by omega) (by omega)).trans (ha.2.2.2.1.trans (gb_r h hY (by omega)))) hkk hg9 ⟨by omega, by omega, by omega, by omega⟩) (fun o Z hz => ?_)) (fun o Z hz => Or.inr hz.1)
  obtain ⟨z0, rfl⟩ := hz
  have hM2 : w_ML (w_up (lkX 1 1 Y) 237 167 (tO (a_T A) ((a_K A t).1.getD ba (0, 0, [])).2.1).2.2.1) := w_ML_up q2 (by omega)
  have q3 := rRun_s (A := (u_Q A (a_H A) (a_C A) (a_W A) 1 0)) q1 ht hl9 (Z := w_up (lkX 1 1 Y) 237 167 (tO (a_T A) ((a_K A t).1.getD ba (0, 0, [])).2.1).2.2.1) (fun j x h1 _ _ _ _ => w_up_no (by omega)) hM2
  refine ⟨z0, by decide, ?_, rRun_h (A := (u_Q A (a_H A) (a_C A) (a_W A) 1 0)) q3 ht hl9⟩
  unfold hZ
  rw [w_up_no (by omega)]
  exact w_up_same _ _ _ _
/-- looking at what is a host's -/
theorem lo_h1 (h : hyA S0 p HT cs ms os X fa n B2 w t A s kd nms ne ec bh ba ar) (hL9 : stL S0) (hX : w_X xs) {b9 : Nat} (hH : stHo S0 p b9 HT nt cs ms os n) (hC9 : stHc S0 p HT cs ms os) (hO9 : wOs cs os) (hAb : wAb cs) (hND : ∀ c : Int, 0 ≤ c → c < (cs.length : Int) → ∀ m q : Int, m ∈ mIx cs c → q ∈ mIx cs c → (hmR ms m).2.1 = 2 → (hmR ms q).2.1 = 2 → (hmR ms m).2.2.2.2.1 = (hmR ms q).2.2.2.2.1 → m = q) (hwo : a_W A < 10000000) (hix : 0 ≤ nms → nms < ((a_N A).length : Int) → ixL (a_N A) (nmT (a_N A) nms) = nms) (hb : a_c A (20 + 1) + 1 ≤ B2) (hgk : ((a_K A t).1.getD ba (0, 0, [])).1 = 7) (hno : nmO A (a_K A t) kd nms ba nm en) (hB9 : ∀ (A3 : aA) (e : aE), hyA S0 p HT cs ms os X fa n B2 w t A3 s kd nms ne ec bh ba ar → nmO A3 (a_K A3 t) kd nms ba nm en → (e.1 = 1 ∨ e.1 = 2) → eOk S0 HT cs ms os A3 s e → hoE (a_T A3) kd nms ((a_K A3 t).1.getD ba (0, 0, [])).1 ((a_K A3 t).1.getD ba (0, 0, [])).2.1 nm (wb_l2i (esV (ar.map (clO (a_T A3))))) (wb_l2i (wb_lushr (esV (ar.map (clO (a_T A3)))) 32)) e → aOut xs d S0 p HT cs ms os X mo fa n B2 w t A3 s kd nms ec bh ba nm en (esV (ar.map (clO (a_T A3)))) e) : lOut xs d S0 p HT cs ms os X mo fa n B2 w t A s kd nms ec bh ba nm en (esV (ar.map (clO (a_T A)))) := by
  obtain ⟨hnm, hen⟩ : nm = nms ∧ en = -1 := by
    rcases hno with q | q
    · exact q.2
    · have := q.1.2
      omega
  have hvo := gv_G h
  have hnc := hH.2.2.2.1.2.2
  have hkk : 0 ≤ (tO (a_T A) ((a_K A t).1.getD ba (0, 0, [])).2.1).2.2.1 ∧ (tO (a_T A) ((a_K A t).1.getD ba (0, 0, [])).2.1).2.2.1 < (cs.length : Int) := by
    have z1 := (hvo.1.2.2.2.1 hgk).1; have z2 := hvo.2.1 hgk
    omega
  have k6 := h.2.2.2.2.1.2.1.1.1
  have w1 := wf_Q0 (l := 1) h.2.1 (by first | decide | omega) hb
  by_cases hkd : kd = 0 ∨ kd = 1 ∨ kd = 5
  · have w2 := wf_QC (C2 := (hoC HT cs ms os A mo kd 0 (nmT (a_N A) nms) (tO (a_T A) ((a_K A t).1.getD ba (0, 0, [])).2.1).2.2.1 (ar.map (clO (a_T A)))).1) (W2 := (hoC HT cs ms os A mo kd 0 (nmT (a_N A) nms) (tO (a_T A) ((a_K A t).1.getD ba (0, 0, [])).2.1).2.2.1 (ar.map (clO (a_T A)))).2) w1 h.2.1.2.2.2.2.2.2.2.1.1 (by omega) hoC_w
    by_cases hwh : 0 ≤ (whA HT cs ms os kd 0 (nmT (a_N A) nms) (tO (a_T A) ((a_K A t).1.getD ba (0, 0, [])).2.1).2.2.1 (ar.map (clO (a_T A))))
    · have c11 : a_c (u_Q A (a_H A) (hoC HT cs ms os A mo kd 0 (nmT (a_N A) nms) (tO (a_T A) ((a_K A t).1.getD ba (0, 0, [])).2.1).2.2.1 (ar.map (clO (a_T A)))).1 (hoC HT cs ms os A mo kd 0 (nmT (a_N A) nms) (tO (a_T A) ((a_K A t).1.getD ba (0, 0, [])).2.1).2.2.1 (ar.map (clO (a_T A)))).2 1 0) 11 = a_c A 11 := cq_n (A := A) (l := 1) (ds := 0) (i := 11) (by first | decide | omega) (by first | decide | omega)
      have hok := ok_ho (l := 1) (k := (tO (a_T A) ((a_K A t).1.getD ba (0, 0, [])).2.1).2.2.1) h hL9 hnc (by omega) (by omega) hkk hwh
      have w3 := wf_N (s := s) w2 ⟨h.2.2.2.2.1.2.2.1.1.1, h.2.2.2.2.1.2.2.1.1.2.1⟩ (eOk_2 hok rfl rfl rfl c11)
      have h3 := hy_2 h w3 rfl c11
      have hok3 : eOk S0 HT cs ms os (u_N (u_Q A (a_H A) (hoC HT cs ms os A mo kd 0 (nmT (a_N A) nms) (tO (a_T A) ((a_K A t).1.getD ba (0, 0, [])).2.1).2.2.1 (ar.map (clO (a_T A)))).1 (hoC HT cs ms os A mo kd 0 (nmT (a_N A) nms) (tO (a_T A) ((a_K A t).1.getD ba (0, 0, [])).2.1).2.2.1 (ar.map (clO (a_T A)))).2 1 0) s (hoR9 HT cs ms os (a_c A 11) 1 kd (nmT (a_N A) nms) (tO (a_T A) ((a_K A t).1.getD ba (0, 0, [])).2.1).2.2.1 (ar.map (clO (a_T A))))) s (hoR9 HT cs ms os (a_c A 11) 1 kd (nmT (a_N A) nms) (tO (a_T A) ((a_K A t).1.getD ba (0, 0, [])).2.1).2.2.1 (ar.map (clO (a_T A)))) := eOk_2 hok rfl rfl rfl c11
      have hho9 := ho_h (l := 1) (k := (tO (a_T A) ((a_K A t).1.getD ba (0, 0, [])).2.1).2.2.1) (nm := nm) (HT := HT) (cs := cs) (ms := ms) (os := os) h (by omega)
      obtain ⟨c, A2, y1, y2, y3, y4, y5⟩ := hB9 _ (hoR9 HT cs ms os (a_c A 11) 1 kd (nmT (a_N A) nms) (tO (a_T A) ((a_K A t).1.getD ba (0, 0, [])).2.1).2.2.1 (ar.map (clO (a_T A)))) h3 hno (by show (1 : Int) = 1 ∨ (1 : Int) = 2; decide) hok3 hho9
      have hml : (mnA HT cs ms os kd 0 (nmT (a_N A) nms) (tO (a_T A) ((a_K A t).1.getD ba (0, 0, [])).2.1).2.2.1 (ar.map (clO (a_T A)))) ≤ ar.length := by
        have z := mn_le (HT := HT) (cs := cs) (ms := ms) (os := os) (kd := kd) (am := 0) (k := (tO (a_T A) ((a_K A t).1.getD ba (0, 0, [])).2.1).2.2.1) (W := (nmT (a_N A) nms)) (tl := (ar.map (clO (a_T A)))) (fun z => by
          have z3 := (ec_8 h.2.2.2.2.1.2.1).2
          rw [if_pos z] at z3
          rw [List.length_map]
          omega)
        rw [List.length_map] at z
        exact z
      refine ⟨c, A2, y1, y2, y3, ?_, fun Z hz9 ha => rLk_s (N3 := mnA HT cs ms os kd 0 (nmT (a_N A) nms) (tO (a_T A) ((a_K A t).1.getD ba (0, 0, [])).2.1).2.2.1 (ar.map (clO (a_T A)))) (H2 := a_H A) (C2 := (hoC HT cs ms os A mo kd 0 (nmT (a_N A) nms) (tO (a_T A) ((a_K A t).1.getD ba (0, 0, [])).2.1).2.2.1 (ar.map (clO (a_T A)))).1) (W2 := (hoC HT cs ms os A mo kd 0 (nmT (a_N A) nms) (tO (a_T A) ((a_K A t).1.getD ba (0, 0, [])).2.1).2.2.1 (ar.map (clO (a_T A)))).2) (l := 1) (ds := 0) h rfl w2 ⟨rfl, rfl⟩ hml ?_ y5 Z hz9 ha⟩
      · rcases hH.1 with ⟨rfl, rfl⟩ | ⟨rfl, rfl⟩
        · rcases h.1.2.1 with ⟨rfl, rfl⟩ | ⟨rfl, rfl⟩
          · exact ckh_73_215_1 h hL9 hH hC9 hX hb hwo hgk hnm hkd hwh y4
          · exact ckh_73_226_1 h hL9 hH hC9 hX hb hwo hgk hnm hkd hwh y4
        · rcases h.1.2.1 with ⟨rfl, rfl⟩ | ⟨rfl, rfl⟩
          · exact ckh_162_215_1 h hL9 hH hC9 hX hb hwo hgk hnm hkd hwh y4
          · exact ckh_162_226_1 h hL9 hH hC9 hX hb hwo hgk hnm hkd hwh y4
      · rcases hH.1 with ⟨rfl, rfl⟩ | ⟨rfl, rfl⟩
        · exact rkh_241_1 h hX hH hO9 hAb hND hwo hix hgk hkd hen hwh
        · exact rkh_261_1 h hX hH hO9 hAb hND hwo hix hgk hkd hen hwh
    · have hwn : (whA HT cs ms os kd 0 (nmT (a_N A) nms) (tO (a_T A) ((a_K A t).1.getD ba (0, 0, [])).2.1).2.2.1 (ar.map (clO (a_T A)))) < 0 := by omega
      refine ⟨(if (whA HT cs ms os kd 0 (nmT (a_N A) nms) (tO (a_T A) ((a_K A t).1.getD ba (0, 0, [])).2.1).2.2.1 (ar.map (clO (a_T A)))) = -1 then 4 else -(whA HT cs ms os kd 0 (nmT (a_N A) nms) (tO (a_T A) ((a_K A t).1.getD ba (0, 0, [])).2.1).2.2.1 (ar.map (clO (a_T A))))), (u_Q A (a_H A) (hoC HT cs ms os A mo kd 0 (nmT (a_N A) nms) (tO (a_T A) ((a_K A t).1.getD ba (0, 0, [])).2.1).2.2.1 (ar.map (clO (a_T A)))).1 (hoC HT cs ms os A mo kd 0 (nmT (a_N A) nms) (tO (a_T A) ((a_K A t).1.getD ba (0, 0, [])).2.1).2.2.1 (ar.map (clO (a_T A)))).2 1 0), w2, fun _ _ => rfl, fun _ => rfl, ?_, fun Z hz9 ha => rLk_x h ?_ Z hz9 ha⟩
      · rcases hH.1 with ⟨rfl, rfl⟩ | ⟨rfl, rfl⟩
        · rcases h.1.2.1 with ⟨rfl, rfl⟩ | ⟨rfl, rfl⟩
          · exact ckj_73_215_1 h hL9 hH hC9 hX hb hwo hgk hnm hkd hwn
          · exact ckj_73_226_1 h hL9 hH hC9 hX hb hwo hgk hnm hkd hwn
        · rcases h.1.2.1 with ⟨rfl, rfl⟩ | ⟨rfl, rfl⟩
          · exact ckj_162_215_1 h hL9 hH hC9 hX hb hwo hgk hnm hkd hwn
          · exact ckj_162_226_1 h hL9 hH hC9 hX hb hwo hgk hnm hkd hwn
      · rcases hH.1 with ⟨rfl, rfl⟩ | ⟨rfl, rfl⟩
        · exact rkj_241_1 h hX hH hO9 hAb hND hwo hix hgk hkd hwn
        · exact rkj_261_1 h hX hH hO9 hAb hND hwo hix hgk hkd hwn
  · have hk5 : kd = 2 ∨ kd = 3 ∨ kd = 4 ∨ kd = 6 := by omega
    refine ⟨5, (u_Q A (a_H A) (a_C A) (a_W A) 1 0), w1, fun _ _ => rfl, fun _ => rfl, ?_, fun Z hz9 ha => rLk_x h (r5h_1 h hgk hk5) Z hz9 ha⟩
    rcases hH.1 with ⟨rfl, rfl⟩ | ⟨rfl, rfl⟩
    · rcases h.1.2.1 with ⟨rfl, rfl⟩ | ⟨rfl, rfl⟩
      · exact c5h_73_215_1 h hL9 hH hgk hk5
      · exact c5h_73_226_1 h hL9 hH hgk hk5
    · rcases h.1.2.1 with ⟨rfl, rfl⟩ | ⟨rfl, rfl⟩
      · exact c5h_162_215_1 h hL9 hH hgk hk5
      · exact c5h_162_226_1 h hL9 hH hgk hk5

theorem c5h_73_215_2 (h : hyA S0 73 HT cs ms os X fa n B2 215 0 A s kd nms ne ec bh ba ar) (hL9 : stL S0) (hH : stHo S0 73 241 HT nt cs ms os n) (hgk : ((a_K A 0).1.getD ba (0, 0, [])).1 = 8) (hkd : kd = 2 ∨ kd = 3 ∨ kd = 4) : cLook xs d S0 73 HT cs ms os X mo 215 A s kd ec ba ((a_K A 0).1.getD ba (0, 0, [])).1 nm es 5 (u_Q A (a_H A) (a_C A) (a_W A) 2 0) := fun Y hY ha => by
  have hvo := gv_G h
  have hkk : 0 ≤ ((a_K A 0).1.getD ba (0, 0, [])).2.1 ∧ ((a_K A 0).1.getD ba (0, 0, [])).2.1 < 60 := by
    have z1 := hvo.1.2.2.1 hgk
    omega
  obtain ⟨⟨v4, v5, v6, v7, v8, v9, v10, v11, v12, v13⟩, v16⟩ := id ha
  obtain ⟨⟨hp, hw, hx⟩, hA, hB, ⟨hr, ho⟩, hsi, hme⟩ := id h
  obtain ⟨ix, fl, ow, hE⟩ := hY.2.2.2.2.1
  have hfo : 0 ≤ Y 158 14 ∧ Y 158 14 < Y 48 (-1) := by
    have z1 := hE.2.2.2.1
    have z2 := hE.1.2.2.2
    omega
  obtain ⟨r1, r2, r3⟩ := lk_pl (Z := (bkZ (Y 158 14) 2 (w_up Y 160 2 (Y 160 2 + 1)))) (l := 2) hp hw hY (by first | decide | omega) hfo.1 (fun _ _ _ _ => rfl)
  obtain ⟨ix2, fl2, ow2, hE2⟩ := r3.2.2.2.2.1
  have g : ∀ (j : Nat) (x : Int), (j < 48 ∨ 57 < j) → j ≠ 160 → (bkZ (Y 158 14) 2 (w_up Y 160 2 (Y 160 2 + 1))) j x = Y j x := fun j x h1 h2 => bk_f j x h1 (by omega)
  have h72 := (ho_c (A := (u_Q A (a_H A) (a_C A) (a_W A) 2 0)) hH r3).1
  have hfs : 0 ≤ Y 158 14 ∧ Y 158 14 < (bkZ (Y 158 14) 2 (w_up Y 160 2 (Y 160 2 + 1))) 48 (-1) := by
    rw [bk_m hfo.1 (by first | decide | omega)]
    exact hfo
  refine cLk2_215 (mk := fun _ _ => False) (RZ := fun Z => w_up (w_up (bkZ (Y 158 14) 2 (w_up Y 160 2 (Y 160 2 + 1))) 49 (Y 158 14) ((a_K A 0).1.getD ba (0, 0, [])).2.1) 215 16 5 = Z) (A1 := A) (e := ((0 : Int), (0 : Int), (0 : Int), (0 : Int), (0 : Int), (0 : Int), (0 : Int), (0 : Int), (0 : Int))) (nms := nms) h hL9 hgk (fun _ _ z => z.elim) hY ha (lax_73_215 (d := d + 84) h72 hE2.1 ((g 158 4 (by omega) (by omega)).trans v4) ((g 158 7 (by omega) (by omega)).trans v7) (g 158 14 (by omega) (by omega)) hfs r2 hkk ⟨by omega, by omega, by omega, by omega⟩ (by first | decide | omega)) (fun Z hz => ?_) rfl rfl (fun z => ?_)
  · obtain rfl := hz
    obtain ⟨r4, r5, r6⟩ := lk_pl (Z := w_up (w_up (bkZ (Y 158 14) 2 (w_up Y 160 2 (Y 160 2 + 1))) 49 (Y 158 14) ((a_K A 0).1.getD ba (0, 0, [])).2.1) 215 16 5) (l := 2) hp hw hY (by first | decide | omega) hfo.1 (fun j x a1 a2 => by rw [w_up_no (by omega), w_up_no (by omega)])
    exact ⟨r4, r5, Or.inr ⟨by rw [w_up_same]; decide, w_up_same _ _ _ _, r6⟩⟩
  · obtain ⟨Z, rfl, z2⟩ := z
    rw [w_up_same] at z2
    exact absurd z2 (by first | decide | omega)

theorem c5h_73_226_2 (h : hyA S0 73 HT cs ms os X fa n B2 226 1 A s kd nms ne ec bh ba ar) (hL9 : stL S0) (hH : stHo S0 73 241 HT nt cs ms os n) (hgk : ((a_K A 1).1.getD ba (0, 0, [])).1 = 8) (hkd : kd = 2 ∨ kd = 3 ∨ kd = 4) : cLook xs d S0 73 HT cs ms os X mo 226 A s kd ec ba ((a_K A 1).1.getD ba (0, 0, [])).1 nm es 5 (u_Q A (a_H A) (a_C A) (a_W A) 2 0) := fun Y hY ha => by
  have hvo := gv_G h
  have hkk : 0 ≤ ((a_K A 1).1.getD ba (0, 0, [])).2.1 ∧ ((a_K A 1).1.getD ba (0, 0, [])).2.1 < 60 := by
    have z1 := hvo.1.2.2.1 hgk
    omega
  obtain ⟨⟨v4, v5, v6, v7, v8, v9, v10, v11, v12, v13⟩, v16⟩ := id ha
  obtain ⟨⟨hp, hw, hx⟩, hA, hB, ⟨hr, ho⟩, hsi, hme⟩ := id h
  obtain ⟨ix, fl, ow, hE⟩ := hY.2.2.2.2.1
  have hfo : 0 ≤ Y 158 14 ∧ Y 158 14 < Y 48 (-1) := by
    have z1 := hE.2.2.2.1
    have z2 := hE.1.2.2.2
    omega
  obtain ⟨r1, r2, r3⟩ := lk_pl (Z := (bkZ (Y 158 14) 2 (w_up Y 160 2 (Y 160 2 + 1)))) (l := 2) hp hw hY (by first | decide | omega) hfo.1 (fun _ _ _ _ => rfl)
  obtain ⟨ix2, fl2, ow2, hE2⟩ := r3.2.2.2.2.1
  have g : ∀ (j : Nat) (x : Int), (j < 48 ∨ 57 < j) → j ≠ 160 → (bkZ (Y 158 14) 2 (w_up Y 160 2 (Y 160 2 + 1))) j x = Y j x := fun j x h1 h2 => bk_f j x h1 (by omega)
  have h72 := (ho_c (A := (u_Q A (a_H A) (a_C A) (a_W A) 2 0)) hH r3).1
  have hfs : 0 ≤ Y 158 14 ∧ Y 158 14 < (bkZ (Y 158 14) 2 (w_up Y 160 2 (Y 160 2 + 1))) 48 (-1) := by
    rw [bk_m hfo.1 (by first | decide | omega)]
    exact hfo
  refine cLk2_226 (mk := fun _ _ => False) (RZ := fun Z => w_up (w_up (bkZ (Y 158 14) 2 (w_up Y 160 2 (Y 160 2 + 1))) 49 (Y 158 14) ((a_K A 1).1.getD ba (0, 0, [])).2.1) 226 16 5 = Z) (A1 := A) (e := ((0 : Int), (0 : Int), (0 : Int), (0 : Int), (0 : Int), (0 : Int), (0 : Int), (0 : Int), (0 : Int))) (nms := nms) h hL9 hgk (fun _ _ z => z.elim) hY ha (lax_73_226 (d := d + 84) h72 hE2.1 ((g 158 4 (by omega) (by omega)).trans v4) ((g 158 7 (by omega) (by omega)).trans v7) (g 158 14 (by omega) (by omega)) hfs r2 hkk ⟨by omega, by omega, by omega, by omega⟩ (by first | decide | omega)) (fun Z hz => ?_) rfl rfl (fun z => ?_)
  · obtain rfl := hz
    obtain ⟨r4, r5, r6⟩ := lk_pl (Z := w_up (w_up (bkZ (Y 158 14) 2 (w_up Y 160 2 (Y 160 2 + 1))) 49 (Y 158 14) ((a_K A 1).1.getD ba (0, 0, [])).2.1) 226 16 5) (l := 2) hp hw hY (by first | decide | omega) hfo.1 (fun j x a1 a2 => by rw [w_up_no (by omega), w_up_no (by omega)])
    exact ⟨r4, r5, Or.inr ⟨by rw [w_up_same]; decide, w_up_same _ _ _ _, r6⟩⟩
  · obtain ⟨Z, rfl, z2⟩ := z
    rw [w_up_same] at z2
    exact absurd z2 (by first | decide | omega)

theorem c5h_162_215_2 (h : hyA S0 162 HT cs ms os X fa n B2 215 0 A s kd nms ne ec bh ba ar) (hL9 : stL S0) (hH : stHo S0 162 261 HT nt cs ms os n) (hgk : ((a_K A 0).1.getD ba (0, 0, [])).1 = 8) (hkd : kd = 2 ∨ kd = 3 ∨ kd = 4) : cLook xs d S0 162 HT cs ms os X mo 215 A s kd ec ba ((a_K A 0).1.getD ba (0, 0, [])).1 nm es 5 (u_Q A (a_H A) (a_C A) (a_W A) 2 0) := fun Y hY ha => by
  have hvo := gv_G h
  have hkk : 0 ≤ ((a_K A 0).1.getD ba (0, 0, [])).2.1 ∧ ((a_K A 0).1.getD ba (0, 0, [])).2.1 < 60 := by
    have z1 := hvo.1.2.2.1 hgk
    omega
  obtain ⟨⟨v4, v5, v6, v7, v8, v9, v10, v11, v12, v13⟩, v16⟩ := id ha
  obtain ⟨⟨hp, hw, hx⟩, hA, hB, ⟨hr, ho⟩, hsi, hme⟩ := id h
  obtain ⟨ix, fl, ow, hE⟩ := hY.2.2.2.2.1
  have hfo : 0 ≤ Y 158 14 ∧ Y 158 14 < Y 48 (-1) := by
    have z1 := hE.2.2.2.1
    have z2 := hE.1.2.2.2
    omega
  obtain ⟨r1, r2, r3⟩ := lk_pl (Z := (bkZ (Y 158 14) 2 (w_up Y 160 2 (Y 160 2 + 1)))) (l := 2) hp hw hY (by first | decide | omega) hfo.1 (fun _ _ _ _ => rfl)
  obtain ⟨ix2, fl2, ow2, hE2⟩ := r3.2.2.2.2.1
  have g : ∀ (j : Nat) (x : Int), (j < 48 ∨ 57 < j) → j ≠ 160 → (bkZ (Y 158 14) 2 (w_up Y 160 2 (Y 160 2 + 1))) j x = Y j x := fun j x h1 h2 => bk_f j x h1 (by omega)
  have h72 := (ho_c (A := (u_Q A (a_H A) (a_C A) (a_W A) 2 0)) hH r3).1
  have hfs : 0 ≤ Y 158 14 ∧ Y 158 14 < (bkZ (Y 158 14) 2 (w_up Y 160 2 (Y 160 2 + 1))) 48 (-1) := by
    rw [bk_m hfo.1 (by first | decide | omega)]
    exact hfo
  refine cLk2_215 (mk := fun _ _ => False) (RZ := fun Z => w_up (w_up (bkZ (Y 158 14) 2 (w_up Y 160 2 (Y 160 2 + 1))) 49 (Y 158 14) ((a_K A 0).1.getD ba (0, 0, [])).2.1) 215 16 5 = Z) (A1 := A) (e := ((0 : Int), (0 : Int), (0 : Int), (0 : Int), (0 : Int), (0 : Int), (0 : Int), (0 : Int), (0 : Int))) (nms := nms) h hL9 hgk (fun _ _ z => z.elim) hY ha (lax_162_215 (d := d + 84) h72 hE2.1 ((g 158 4 (by omega) (by omega)).trans v4) ((g 158 7 (by omega) (by omega)).trans v7) (g 158 14 (by omega) (by omega)) hfs r2 hkk ⟨by omega, by omega, by omega, by omega⟩ (by first | decide | omega)) (fun Z hz => ?_) rfl rfl (fun z => ?_)
  · obtain rfl := hz
    obtain ⟨r4, r5, r6⟩ := lk_pl (Z := w_up (w_up (bkZ (Y 158 14) 2 (w_up Y 160 2 (Y 160 2 + 1))) 49 (Y 158 14) ((a_K A 0).1.getD ba (0, 0, [])).2.1) 215 16 5) (l := 2) hp hw hY (by first | decide | omega) hfo.1 (fun j x a1 a2 => by rw [w_up_no (by omega), w_up_no (by omega)])
    exact ⟨r4, r5, Or.inr ⟨by rw [w_up_same]; decide, w_up_same _ _ _ _, r6⟩⟩
  · obtain ⟨Z, rfl, z2⟩ := z
    rw [w_up_same] at z2
    exact absurd z2 (by first | decide | omega)

theorem c5h_162_226_2 (h : hyA S0 162 HT cs ms os X fa n B2 226 1 A s kd nms ne ec bh ba ar) (hL9 : stL S0) (hH : stHo S0 162 261 HT nt cs ms os n) (hgk : ((a_K A 1).1.getD ba (0, 0, [])).1 = 8) (hkd : kd = 2 ∨ kd = 3 ∨ kd = 4) : cLook xs d S0 162 HT cs ms os X mo 226 A s kd ec ba ((a_K A 1).1.getD ba (0, 0, [])).1 nm es 5 (u_Q A (a_H A) (a_C A) (a_W A) 2 0) := fun Y hY ha => by
  have hvo := gv_G h
  have hkk : 0 ≤ ((a_K A 1).1.getD ba (0, 0, [])).2.1 ∧ ((a_K A 1).1.getD ba (0, 0, [])).2.1 < 60 := by
    have z1 := hvo.1.2.2.1 hgk
    omega
  obtain ⟨⟨v4, v5, v6, v7, v8, v9, v10, v11, v12, v13⟩, v16⟩ := id ha
  obtain ⟨⟨hp, hw, hx⟩, hA, hB, ⟨hr, ho⟩, hsi, hme⟩ := id h
  obtain ⟨ix, fl, ow, hE⟩ := hY.2.2.2.2.1
  have hfo : 0 ≤ Y 158 14 ∧ Y 158 14 < Y 48 (-1) := by
    have z1 := hE.2.2.2.1
    have z2 := hE.1.2.2.2
    omega
  obtain ⟨r1, r2, r3⟩ := lk_pl (Z := (bkZ (Y 158 14) 2 (w_up Y 160 2 (Y 160 2 + 1)))) (l := 2) hp hw hY (by first | decide | omega) hfo.1 (fun _ _ _ _ => rfl)
  obtain ⟨ix2, fl2, ow2, hE2⟩ := r3.2.2.2.2.1
  have g : ∀ (j : Nat) (x : Int), (j < 48 ∨ 57 < j) → j ≠ 160 → (bkZ (Y 158 14) 2 (w_up Y 160 2 (Y 160 2 + 1))) j x = Y j x := fun j x h1 h2 => bk_f j x h1 (by omega)
  have h72 := (ho_c (A := (u_Q A (a_H A) (a_C A) (a_W A) 2 0)) hH r3).1
  have hfs : 0 ≤ Y 158 14 ∧ Y 158 14 < (bkZ (Y 158 14) 2 (w_up Y 160 2 (Y 160 2 + 1))) 48 (-1) := by
    rw [bk_m hfo.1 (by first | decide | omega)]
    exact hfo
  refine cLk2_226 (mk := fun _ _ => False) (RZ := fun Z => w_up (w_up (bkZ (Y 158 14) 2 (w_up Y 160 2 (Y 160 2 + 1))) 49 (Y 158 14) ((a_K A 1).1.getD ba (0, 0, [])).2.1) 226 16 5 = Z) (A1 := A) (e := ((0 : Int), (0 : Int), (0 : Int), (0 : Int), (0 : Int), (0 : Int), (0 : Int), (0 : Int), (0 : Int))) (nms := nms) h hL9 hgk (fun _ _ z => z.elim) hY ha (lax_162_226 (d := d + 84) h72 hE2.1 ((g 158 4 (by omega) (by omega)).trans v4) ((g 158 7 (by omega) (by omega)).trans v7) (g 158 14 (by omega) (by omega)) hfs r2 hkk ⟨by omega, by omega, by omega, by omega⟩ (by first | decide | omega)) (fun Z hz => ?_) rfl rfl (fun z => ?_)
  · obtain rfl := hz
    obtain ⟨r4, r5, r6⟩ := lk_pl (Z := w_up (w_up (bkZ (Y 158 14) 2 (w_up Y 160 2 (Y 160 2 + 1))) 49 (Y 158 14) ((a_K A 1).1.getD ba (0, 0, [])).2.1) 226 16 5) (l := 2) hp hw hY (by first | decide | omega) hfo.1 (fun j x a1 a2 => by rw [w_up_no (by omega), w_up_no (by omega)])
    exact ⟨r4, r5, Or.inr ⟨by rw [w_up_same]; decide, w_up_same _ _ _ _, r6⟩⟩
  · obtain ⟨Z, rfl, z2⟩ := z
    rw [w_up_same] at z2
    exact absurd z2 (by first | decide | omega)

theorem r5h_2 (h : hyA S0 p HT cs ms os X fa n B2 w t A s kd nms ne ec bh ba ar) (hgk : ((a_K A t).1.getD ba (0, 0, [])).1 = 8) (hkd : kd = 2 ∨ kd = 3 ∨ kd = 4) : ∀ {Sb : wS} (Y : wS), rRun S0 Sb HT cs ms os X mo t A Y → rAim t (a_K A t) ba bh en Y → wJ (pe_GA xs) wY0 (fun _ => False) (d + 90) t_M_looks ((pe_at t_M_looks.bl 0).getD (0, [])).2 [(0, (2, 237)), (1, (0, s)), (2, (0, 1))] [] Y (fun o Z => o = .inr 238 ∧ ((5 : Int) ≠ 0 ∧ Z 238 5 = 5 ∧ rRun S0 Sb HT cs ms os X mo t (u_Q A (a_H A) (a_C A) (a_W A) 2 0) Z)) := fun Y hY ha => by
  have hvo := gv_G h
  have hkk : 0 ≤ ((a_K A t).1.getD ba (0, 0, [])).2.1 ∧ ((a_K A t).1.getD ba (0, 0, [])).2.1 < 60 := by
    have z1 := hvo.1.2.2.1 hgk
    omega
  have hT8 := hA_T h
  have hl9 := hl_A h
  obtain ⟨s0, s4, s5, s6⟩ := s_4 h hY
  have ht := wt_t h.1.2.1
  obtain ⟨q1, q2⟩ := rq_R (l := 2) ht hl9 hY (by first | decide | omega)
  have g : ∀ (j : Nat) (x : Int), (j ≠ 237 ∨ (x < 166 ∨ 172 < x)) → j ≠ 344 → (lkX 2 1 Y) j x = Y j x := fun j x h1 h2 => lx_f j x (by omega) (by omega)
  have hg9 : ((8 : Int) = 7 ∧ (1 : Int) = 0 ∧ (0 ≤ ((a_K A t).1.getD ba (0, 0, [])).2.1 ∧ ((a_K A t).1.getD ba (0, 0, [])).2.1 < 8000) ∧ (lkX 2 1 Y) 321 ((a_K A t).1.getD ba (0, 0, [])).2.1 = ((a_K A t).1.getD ba (0, 0, [])).2.1) ∨ ((8 : Int) = 8 ∧ (1 : Int) = 1 ∧ ((a_K A t).1.getD ba (0, 0, [])).2.1 = ((a_K A t).1.getD ba (0, 0, [])).2.1) := Or.inr ⟨rfl, rfl, rfl⟩
  refine rlk2 (d := d + 82) hY.1.1 s0 s4 ha.2.2.1 hgk (Or.inr rfl) (ak_0 h hY (by first | decide | omega)) (wJ_mono (lhx_241 (d := d + 23) (am := 1) q2 s0 ((g 305 s (by omega) (by omega)).trans s5) ((g 237 174 (by omega) (by omega)).trans (ha.2.2.1.trans hgk)) ((g 237 175 (by omega) (by omega)).trans (ha.2.2.2.1.trans (gb_r h hY (by omega)))) hkk hg9 ⟨by omega, by omega, by omega, by omega⟩) (fun o Z hz => ?_)) (fun o Z hz => Or.inr hz.1)
  obtain ⟨z0, rfl⟩ := hz
  have hM2 : w_ML (w_up (lkX 2 1 Y) 237 167 ((a_K A t).1.getD ba (0, 0, [])).2.1) := w_ML_up q2 (by omega)
  have q3 := rRun_s (A := (u_Q A (a_H A) (a_C A) (a_W A) 2 0)) q1 ht hl9 (Z := w_up (lkX 2 1 Y) 237 167 ((a_K A t).1.getD ba (0, 0, [])).2.1) (fun j x h1 _ _ _ _ => w_up_no (by omega)) hM2
  refine ⟨z0, by decide, ?_, rRun_h (A := (u_Q A (a_H A) (a_C A) (a_W A) 2 0)) q3 ht hl9⟩
  unfold hZ
  rw [w_up_no (by omega)]
  exact w_up_same _ _ _ _
/-- looking at what is a host's -/
theorem lo_h2 (h : hyA S0 p HT cs ms os X fa n B2 w t A s kd nms ne ec bh ba ar) (hL9 : stL S0) (hX : w_X xs) {b9 : Nat} (hH : stHo S0 p b9 HT nt cs ms os n) (hC9 : stHc S0 p HT cs ms os) (hO9 : wOs cs os) (hAb : wAb cs) (hND : ∀ c : Int, 0 ≤ c → c < (cs.length : Int) → ∀ m q : Int, m ∈ mIx cs c → q ∈ mIx cs c → (hmR ms m).2.1 = 2 → (hmR ms q).2.1 = 2 → (hmR ms m).2.2.2.2.1 = (hmR ms q).2.2.2.2.1 → m = q) (hwo : a_W A < 10000000) (hix : 0 ≤ nms → nms < ((a_N A).length : Int) → ixL (a_N A) (nmT (a_N A) nms) = nms) (hb : a_c A (20 + 2) + 1 ≤ B2) (hgk : ((a_K A t).1.getD ba (0, 0, [])).1 = 8) (hno : nmO A (a_K A t) kd nms ba nm en) (hB9 : ∀ (A3 : aA) (e : aE), hyA S0 p HT cs ms os X fa n B2 w t A3 s kd nms ne ec bh ba ar → nmO A3 (a_K A3 t) kd nms ba nm en → (e.1 = 1 ∨ e.1 = 2) → eOk S0 HT cs ms os A3 s e → hoE (a_T A3) kd nms ((a_K A3 t).1.getD ba (0, 0, [])).1 ((a_K A3 t).1.getD ba (0, 0, [])).2.1 nm (wb_l2i (esV (ar.map (clO (a_T A3))))) (wb_l2i (wb_lushr (esV (ar.map (clO (a_T A3)))) 32)) e → aOut xs d S0 p HT cs ms os X mo fa n B2 w t A3 s kd nms ec bh ba nm en (esV (ar.map (clO (a_T A3)))) e) : lOut xs d S0 p HT cs ms os X mo fa n B2 w t A s kd nms ec bh ba nm en (esV (ar.map (clO (a_T A)))) := by
  obtain ⟨hnm, hen⟩ : nm = nms ∧ en = -1 := by
    rcases hno with q | q
    · exact q.2
    · have := q.1.2
      omega
  have hvo := gv_G h
  have hnc := hH.2.2.2.1.2.2
  have hkk : 0 ≤ ((a_K A t).1.getD ba (0, 0, [])).2.1 ∧ ((a_K A t).1.getD ba (0, 0, [])).2.1 < (cs.length : Int) := by
    have z1 := (hvo.1.2.2.1 hgk).1; have z2 := hvo.2.2.1 hgk
    omega
  have k6 := h.2.2.2.2.1.2.1.1.1
  have w1 := wf_Q0 (l := 2) h.2.1 (by first | decide | omega) hb
  by_cases hkd : kd = 0 ∨ kd = 1 ∨ kd = 5 ∨ kd = 6
  · have w2 := wf_QC (C2 := (hoC HT cs ms os A mo kd 1 (nmT (a_N A) nms) ((a_K A t).1.getD ba (0, 0, [])).2.1 (ar.map (clO (a_T A)))).1) (W2 := (hoC HT cs ms os A mo kd 1 (nmT (a_N A) nms) ((a_K A t).1.getD ba (0, 0, [])).2.1 (ar.map (clO (a_T A)))).2) w1 h.2.1.2.2.2.2.2.2.2.1.1 (by omega) hoC_w
    by_cases hwh : 0 ≤ (whA HT cs ms os kd 1 (nmT (a_N A) nms) ((a_K A t).1.getD ba (0, 0, [])).2.1 (ar.map (clO (a_T A))))
    · have c11 : a_c (u_Q A (a_H A) (hoC HT cs ms os A mo kd 1 (nmT (a_N A) nms) ((a_K A t).1.getD ba (0, 0, [])).2.1 (ar.map (clO (a_T A)))).1 (hoC HT cs ms os A mo kd 1 (nmT (a_N A) nms) ((a_K A t).1.getD ba (0, 0, [])).2.1 (ar.map (clO (a_T A)))).2 2 0) 11 = a_c A 11 := cq_n (A := A) (l := 2) (ds := 0) (i := 11) (by first | decide | omega) (by first | decide | omega)
      have hok := ok_ho (l := 2) (k := ((a_K A t).1.getD ba (0, 0, [])).2.1) h hL9 hnc (by omega) (by omega) hkk hwh
      have w3 := wf_N (s := s) w2 ⟨h.2.2.2.2.1.2.2.1.1.1, h.2.2.2.2.1.2.2.1.1.2.1⟩ (eOk_2 hok rfl rfl rfl c11)
      have h3 := hy_2 h w3 rfl c11
      have hok3 : eOk S0 HT cs ms os (u_N (u_Q A (a_H A) (hoC HT cs ms os A mo kd 1 (nmT (a_N A) nms) ((a_K A t).1.getD ba (0, 0, [])).2.1 (ar.map (clO (a_T A)))).1 (hoC HT cs ms os A mo kd 1 (nmT (a_N A) nms) ((a_K A t).1.getD ba (0, 0, [])).2.1 (ar.map (clO (a_T A)))).2 2 0) s (hoR9 HT cs ms os (a_c A 11) 2 kd (nmT (a_N A) nms) ((a_K A t).1.getD ba (0, 0, [])).2.1 (ar.map (clO (a_T A))))) s (hoR9 HT cs ms os (a_c A 11) 2 kd (nmT (a_N A) nms) ((a_K A t).1.getD ba (0, 0, [])).2.1 (ar.map (clO (a_T A)))) := eOk_2 hok rfl rfl rfl c11
      have hho9 := ho_h (l := 2) (k := ((a_K A t).1.getD ba (0, 0, [])).2.1) (nm := nm) (HT := HT) (cs := cs) (ms := ms) (os := os) h (by omega)
      obtain ⟨c, A2, y1, y2, y3, y4, y5⟩ := hB9 _ (hoR9 HT cs ms os (a_c A 11) 2 kd (nmT (a_N A) nms) ((a_K A t).1.getD ba (0, 0, [])).2.1 (ar.map (clO (a_T A)))) h3 hno (by show (2 : Int) = 1 ∨ (2 : Int) = 2; decide) hok3 hho9
      have hml : (mnA HT cs ms os kd 1 (nmT (a_N A) nms) ((a_K A t).1.getD ba (0, 0, [])).2.1 (ar.map (clO (a_T A)))) ≤ ar.length := by
        have z := mn_le (HT := HT) (cs := cs) (ms := ms) (os := os) (kd := kd) (am := 1) (k := ((a_K A t).1.getD ba (0, 0, [])).2.1) (W := (nmT (a_N A) nms)) (tl := (ar.map (clO (a_T A)))) (fun z => by
          have z3 := (ec_8 h.2.2.2.2.1.2.1).2
          rw [if_pos z] at z3
          rw [List.length_map]
          omega)
        rw [List.length_map] at z
        exact z
      refine ⟨c, A2, y1, y2, y3, ?_, fun Z hz9 ha => rLk_s (N3 := mnA HT cs ms os kd 1 (nmT (a_N A) nms) ((a_K A t).1.getD ba (0, 0, [])).2.1 (ar.map (clO (a_T A)))) (H2 := a_H A) (C2 := (hoC HT cs ms os A mo kd 1 (nmT (a_N A) nms) ((a_K A t).1.getD ba (0, 0, [])).2.1 (ar.map (clO (a_T A)))).1) (W2 := (hoC HT cs ms os A mo kd 1 (nmT (a_N A) nms) ((a_K A t).1.getD ba (0, 0, [])).2.1 (ar.map (clO (a_T A)))).2) (l := 2) (ds := 0) h rfl w2 ⟨rfl, rfl⟩ hml ?_ y5 Z hz9 ha⟩
      · rcases hH.1 with ⟨rfl, rfl⟩ | ⟨rfl, rfl⟩
        · rcases h.1.2.1 with ⟨rfl, rfl⟩ | ⟨rfl, rfl⟩
          · exact ckh_73_215_2 h hL9 hH hC9 hX hb hwo hgk hnm hkd hwh y4
          · exact ckh_73_226_2 h hL9 hH hC9 hX hb hwo hgk hnm hkd hwh y4
        · rcases h.1.2.1 with ⟨rfl, rfl⟩ | ⟨rfl, rfl⟩
          · exact ckh_162_215_2 h hL9 hH hC9 hX hb hwo hgk hnm hkd hwh y4
          · exact ckh_162_226_2 h hL9 hH hC9 hX hb hwo hgk hnm hkd hwh y4
      · rcases hH.1 with ⟨rfl, rfl⟩ | ⟨rfl, rfl⟩
        · exact rkh_241_2 h hX hH hO9 hAb hND hwo hix hgk hkd hen hwh
        · exact rkh_261_2 h hX hH hO9 hAb hND hwo hix hgk hkd hen hwh
    · have hwn : (whA HT cs ms os kd 1 (nmT (a_N A) nms) ((a_K A t).1.getD ba (0, 0, [])).2.1 (ar.map (clO (a_T A)))) < 0 := by omega
      refine ⟨(if (whA HT cs ms os kd 1 (nmT (a_N A) nms) ((a_K A t).1.getD ba (0, 0, [])).2.1 (ar.map (clO (a_T A)))) = -1 then 4 else -(whA HT cs ms os kd 1 (nmT (a_N A) nms) ((a_K A t).1.getD ba (0, 0, [])).2.1 (ar.map (clO (a_T A))))), (u_Q A (a_H A) (hoC HT cs ms os A mo kd 1 (nmT (a_N A) nms) ((a_K A t).1.getD ba (0, 0, [])).2.1 (ar.map (clO (a_T A)))).1 (hoC HT cs ms os A mo kd 1 (nmT (a_N A) nms) ((a_K A t).1.getD ba (0, 0, [])).2.1 (ar.map (clO (a_T A)))).2 2 0), w2, fun _ _ => rfl, fun _ => rfl, ?_, fun Z hz9 ha => rLk_x h ?_ Z hz9 ha⟩
      · rcases hH.1 with ⟨rfl, rfl⟩ | ⟨rfl, rfl⟩
        · rcases h.1.2.1 with ⟨rfl, rfl⟩ | ⟨rfl, rfl⟩
          · exact ckj_73_215_2 h hL9 hH hC9 hX hb hwo hgk hnm hkd hwn
          · exact ckj_73_226_2 h hL9 hH hC9 hX hb hwo hgk hnm hkd hwn
        · rcases h.1.2.1 with ⟨rfl, rfl⟩ | ⟨rfl, rfl⟩
          · exact ckj_162_215_2 h hL9 hH hC9 hX hb hwo hgk hnm hkd hwn
          · exact ckj_162_226_2 h hL9 hH hC9 hX hb hwo hgk hnm hkd hwn
      · rcases hH.1 with ⟨rfl, rfl⟩ | ⟨rfl, rfl⟩
        · exact rkj_241_2 h hX hH hO9 hAb hND hwo hix hgk hkd hwn
        · exact rkj_261_2 h hX hH hO9 hAb hND hwo hix hgk hkd hwn
  · have hk5 : kd = 2 ∨ kd = 3 ∨ kd = 4 := by omega
    refine ⟨5, (u_Q A (a_H A) (a_C A) (a_W A) 2 0), w1, fun _ _ => rfl, fun _ => rfl, ?_, fun Z hz9 ha => rLk_x h (r5h_2 h hgk hk5) Z hz9 ha⟩
    rcases hH.1 with ⟨rfl, rfl⟩ | ⟨rfl, rfl⟩
    · rcases h.1.2.1 with ⟨rfl, rfl⟩ | ⟨rfl, rfl⟩
      · exact c5h_73_215_2 h hL9 hH hgk hk5
      · exact c5h_73_226_2 h hL9 hH hgk hk5
    · rcases h.1.2.1 with ⟨rfl, rfl⟩ | ⟨rfl, rfl⟩
      · exact c5h_162_215_2 h hL9 hH hgk hk5
      · exact c5h_162_226_2 h hL9 hH hgk hk5

end Wmb
