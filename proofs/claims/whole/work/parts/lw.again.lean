/-! PART lw: an entry of a host's value that holds, looked up again. -/
section Wlw
variable {Sb : wS} {xs : List (Nat × List Int32)} {d : Nat} {S0 S Z : wS} {p w m : Nat} {HT : Int → Int} {cs : List hCR} {ms : List hMR} {os : Int → List Int} {X : List (List Int)} {mo t n B B2 oq : Int} {fa : Int → Int} {WE : aA → Prop} {A A2 : aA} {K2 : aK} {ml : List Nat} {k c s kd nms ne ec bh nm en : Int} {b ba : Nat} {ar : List aV} {e : aE} {V Z2 Y : wS} {o : wO} {dn : Int} {H2 : List aH} {N2 : List (List Int)} {E2 : Int → List aE} {C2 : List aQ} {W2 : Int} {c2 : Int → Int} {k2 : Int → Int → Int} {mk rk : Nat → Int → Prop} {K : aK} {T : List aO} {H : List aH} {E : Int → List aE} {gk gb es lo hi a : Int} {r : List aE × Int × Option aE} {A1 : aA} {tl cl : List Int} {sl : Nat → List Int} {L : List aC} {G : Int → aV} {u : aV} {x : List Int} {T2 : List aO} {L2 : List aC} {G2 : Int → aV} {H2 : List aH} {c2 : Int → Int} {y : Int} {Q : wO → wS → Prop} {ps : List (Int × aV)} {k hd wh : Int} {f a9 pn fn md : Int} {vn m9 : Nat} {th : aV} {g : Int} {lp : List aV} {l ds fo g : Int} {mk : Nat → Int → Prop} {C2 : List aQ} {W2 : Int} {RZ : wS → Prop} {N3 : Nat} {SB : wS} {r r0 : Int} {sh : Int} {K9 : aK} {nt : Int}
theorem gD_ix {α : Type} {l9 : List α} {i : Nat} {d9 : α} (h : i < l9.length) : l9.getD i d9 = l9[i] := by
  rw [List.getD_eq_getElem?_getD, List.getElem?_eq_getElem h]
  rfl
/-- the types of what is given, by the host's classes -/
theorem cl_t (hA : wfA S0 fa ms n WE B A) (hw : isWt w t) (hn : n = (cs.length : Int)) (hg : siG (a_K A t) kd ne ec bh ba ar) : ∀ c ∈ ar.map (clO (a_T A)), c < 9 + (cs.length : Int) := fun c hc => by
  obtain ⟨v, hv, rfl⟩ := List.mem_map.mp hc
  obtain ⟨i, hi, he⟩ := List.mem_iff_getElem.mp hv
  have e1 : ar.getD i (0, 0, []) = v := by rw [gD_ix hi]; exact he
  have e2 := hg.2.2.2.2 i hi
  have hG := gD_G (fun x hx => (wV_of hA hw).1 x hx) (ba + 1 + i)
  rw [e2, e1] at hG
  have h7 := hG.2.1
  unfold clO
  by_cases c0 : v.1 = 0
  · rw [if_pos c0]; omega
  rw [if_neg c0]
  by_cases c1 : v.1 = 1
  · rw [if_pos c1]; omega
  rw [if_neg c1]
  by_cases c2 : v.1 = 2
  · rw [if_pos c2]
    by_cases c3 : v.2.1 = wb_l2i v.2.1
    · rw [if_pos c3]; omega
    · rw [if_neg c3]; omega
  rw [if_neg c2]
  by_cases c3 : v.1 = 3
  · rw [if_pos c3]; omega
  rw [if_neg c3]
  by_cases c7 : v.1 = 7
  · rw [if_pos c7]
    have := h7 c7
    omega
  · rw [if_neg c7]; omega
/-- what is looked up by the types of now is what the entry says -/
theorem wh_ag (he : eOk S0 HT cs ms os A s e) (hk : S0 304 s = kd) (hn : S0 305 s = nms) (h6 : S0 306 s = ne) (e12 : e.1 = 1 ∨ e.1 = 2) (hl : (cl.length : Int) = (if kd = 1 then 1 else ne)) (h2 : esOk cl) (h8 : cl.length ≤ 8) (hho : cHi kd e = -1 ∨ (cHi kd e = wb_l2i (wb_lushr (esV cl) 32) ∧ cLo kd e = wb_l2i (esV cl))) : (whA HT cs ms os kd (e.1 - 1) (nmT (a_N A) nms) e.2.1 cl = e.2.2.2.2.1 ∧ 0 ≤ e.2.2.2.2.1) ∧ (e.2.2.2.1 = -1 ∧ e.2.2.2.2.2.1 = -1) ∧ (kd = 0 ∨ kd = 1 ∨ kd = 5 ∨ (kd = 6 ∧ e.1 = 2)) ∧ (0 ≤ e.2.1 ∧ e.2.1 < (cs.length : Int)) := by
  have hR := he.2.2.2.2 e12
  rw [hk, hn, h6] at hR
  obtain ⟨k1, k2, tl, ⟨t1, t2, t3, t4⟩, t5, t6⟩ := hR
  have x4 : e.2.2.2.1 = -1 := congrArg (fun z : aE => z.2.2.2.1) t6
  have x5 : e.2.2.2.2.1 = whA HT cs ms os kd (e.1 - 1) (nmT (a_N A) nms) e.2.1 tl := congrArg (fun z : aE => z.2.2.2.2.1) t6
  have x6 : e.2.2.2.2.2.1 = -1 := congrArg (fun z : aE => z.2.2.2.2.2.1) t6
  have x8 : e.2.2.2.2.2.2.2.1 = (mnA HT cs ms os kd (e.1 - 1) (nmT (a_N A) nms) e.2.1 tl : Int) := congrArg (fun z : aE => z.2.2.2.2.2.2.2.1) t6
  have x9 : e.2.2.2.2.2.2.2.2 = esV (tl.take (mnA HT cs ms os kd (e.1 - 1) (nmT (a_N A) nms) e.2.1 tl)) := congrArg (fun z : aE => z.2.2.2.2.2.2.2.2) t6
  have hlen : tl.length = cl.length := by omega
  have key : (kd = 5 ∨ kd = 6 ∨ (kd = 1 ∧ e.2.2.2.2.2.2.2.1 = 1)) → tl = cl := fun hc => by
    have hmn : tl.length ≤ mnA HT cs ms os kd (e.1 - 1) (nmT (a_N A) nms) e.2.1 tl := by
      rcases hc with z | z | z
      · unfold mnA
        rw [if_neg (by omega), if_neg (by omega)]
        exact Nat.le_refl _
      · unfold mnA
        rw [if_neg (by omega), if_neg (by omega)]
        exact Nat.le_refl _
      · rw [if_pos z.1] at t1
        omega
    rw [List.take_of_length_le hmn] at x9
    have c9 : cHi kd e = wb_l2i (wb_lushr (esV tl) 32) := by
      unfold cHi
      rw [if_pos ⟨e12, hc⟩, x9]
    have c8 : cLo kd e = wb_l2i (esV tl) := by
      unfold cLo
      rw [if_pos ⟨e12, hc⟩, x9]
    rw [c9, c8] at hho
    have z := (ty_eq t3 h2 h8 hlen).mp hho
    rw [hlen, List.take_length] at z
    exact z
  have hwh : whA HT cs ms os kd (e.1 - 1) (nmT (a_N A) nms) e.2.1 tl = whA HT cs ms os kd (e.1 - 1) (nmT (a_N A) nms) e.2.1 cl := by
    rcases k1 with z | z | z | z
    · unfold whA
      rw [if_pos z, if_pos z]
    · by_cases hF : FA HT cs ms os e.2.1 (e.1 - 1) 1 (wnW [115, 101, 116] (nmT (a_N A) nms)) = []
      · unfold whA
        rw [if_neg (by omega), if_pos z, if_pos hF, if_neg (by omega), if_pos z, if_pos hF]
      · have h1 : e.2.2.2.2.2.2.2.1 = 1 := by
          rw [x8]
          unfold mnA
          rw [if_neg (by omega), if_pos z, if_neg hF]
          rfl
        rw [key (Or.inr (Or.inr ⟨z, h1⟩))]
    · rw [key (Or.inl z)]
    · rw [key (Or.inr (Or.inl z.1))]
  exact ⟨⟨hwh.symm.trans x5.symm, by rw [x5]; exact t5⟩, ⟨x4, x6⟩, k1, k2⟩
theorem lz_2 : lkX l 0 Y 237 172 = 0 := by
  unfold lkX
  rw [if_pos rfl, w_up_no (by omega)]
  exact w_up_same _ _ _ _
theorem lh_sub {j : Nat} {x : Int} (h1 : j ≠ 237 ∨ x < 166 ∨ 172 < x) (h2 : ¬ lhP j x) : ¬ lhM j x := fun z => h2 (by unfold lhM at z; unfold lhP chM; omega)

theorem hkh_241_1 (h : hyA S0 p HT cs ms os X fa n B2 w t A s kd nms ne ec bh ba ar) (hX : w_X xs) (hH : stHo S0 p 241 HT nt cs ms os n) (hO9 : wOs cs os) (hAb : wAb cs) (hND : ∀ c : Int, 0 ≤ c → c < (cs.length : Int) → ∀ m q : Int, m ∈ mIx cs c → q ∈ mIx cs c → (hmR ms m).2.1 = 2 → (hmR ms q).2.1 = 2 → (hmR ms m).2.2.2.2.1 = (hmR ms q).2.2.2.2.1 → m = q) (hwo : a_W A < 10000000) (hix : 0 ≤ nms → nms < ((a_N A).length : Int) → ixL (a_N A) (nmT (a_N A) nms) = nms) (he : eOk S0 HT cs ms os A s e) (hst : eSt (a_T A) (a_H A) kd e = 0) (hho : hoE (a_T A) kd nms ((a_K A t).1.getD ba (0, 0, [])).1 ((a_K A t).1.getD ba (0, 0, [])).2.1 nm (wb_l2i (esV (ar.map (clO (a_T A))))) (wb_l2i (wb_lushr (esV (ar.map (clO (a_T A)))) 32)) e) (e1 : e.1 = 1) : ∀ {Sb : wS} (Y : wS), rRun S0 Sb HT cs ms os X mo t A Y → rAim t (a_K A t) ba bh en Y → wJ (pe_GA xs) wY0 (fun _ => False) (d + 89) t_M_looks ((pe_at t_M_looks.bl 0).getD (0, [])).2 [(0, (2, 237)), (1, (0, s)), (2, (0, 0))] [] Y (fun o Z => o = .inl none ∧ (Z 237 169 = e.2.2.2.1 ∧ Z 237 170 = e.2.2.2.2.1 ∧ Z 237 171 = e.2.2.2.2.2.1) ∧ (∀ (j : Nat) (x : Int), (j ≠ 237 ∨ x < 166 ∨ 172 < x) → ¬ lhP j x → Z j x = Y j x) ∧ rCh HT cs ms os (a_N A) (a_C A) (a_W A) mo Z) := fun Y hY ha => by
  have hT8 := hA_T h
  have hl9 := hl_A h
  obtain ⟨s0, s4, s5, s6⟩ := s_4 h hY
  have hba := hA_ba h
  obtain ⟨⟨hp, hw, hx⟩, hA, hB, ⟨hr, ho⟩, hsi, hme⟩ := id h
  have ht := wt_t hw
  obtain ⟨⟨i1, i2, i3, i4⟩, i5, i6, i7, i8⟩ := id hsi
  have hN := hA.2.2.2.2.2.1.1
  have hnc := hH.2.2.2.1.2.2
  have hwH := hH.2.2.2.2.2.2.2.1
  have hv1 := vk_of hA hw
  have hes := es_ok i5 hv1
  have h88 := ec_8 i5
  have htt := cl_t (cs := cs) hA hw hnc i5
  have hz : ((a_K A t).1.getD ba (0, 0, [])).1 = 7 ∧ e.2.1 = (tO (a_T A) ((a_K A t).1.getD ba (0, 0, [])).2.1).2.2.1 ∧ (cHi kd e = -1 ∨ (cHi kd e = wb_l2i (wb_lushr (esV (ar.map (clO (a_T A)))) 32) ∧ cLo kd e = wb_l2i (esV (ar.map (clO (a_T A)))))) := by
    rcases hho with z | z | z | z
    · exact absurd z.1 (by omega)
    · exact z.2
    · exact absurd z.1 (by omega)
    · exact absurd z.1 (by omega)
  obtain ⟨hgk, hgc, hty⟩ := hz
  obtain ⟨⟨wh1, wh2⟩, ⟨x4, x6⟩, k1, k2⟩ := wh_ag he i2 i3 i4 (by omega) (by rw [List.length_map]; exact h88.2) hes (by rw [List.length_map]; exact h88.1) hty
  have ea : e.1 - 1 = 0 := by omega
  rw [ea] at wh1
  obtain ⟨q1, q2⟩ := lz_R (l := 1) ht hl9 hY
  have hKR := ho_r hH q1
  obtain ⟨sl, hW⟩ := q1.1.2.2.1.1
  have hCh := q1.1.2.2.2.2.2.2.1.1
  obtain ⟨y1, y2, y3⟩ := lz_v (l := 1) (Y := Y)
  have g : ∀ (j : Nat) (x : Int), (j ≠ 237 ∨ (x < 166 ∨ 172 < x)) → lkX 1 0 Y j x = Y j x := fun j x hj => lz_f j x (by omega)
  have g305 : lkX 1 0 Y 305 s = nms := (g 305 s (by omega)).trans s5
  have g174 : lkX 1 0 Y 237 174 = 7 := (g 237 174 (by omega)).trans (ha.2.2.1.trans hgk)
  have g175 : lkX 1 0 Y 237 175 = ((a_K A t).1.getD ba (0, 0, [])).2.1 := (g 237 175 (by omega)).trans (ha.2.2.2.1.trans (gb_r h hY (by omega)))
  have g173 : lkX 1 0 Y 237 173 = 2100 * t + (ba : Int) := (g 237 173 (by omega)).trans ha.2.1
  have hr9 : 0 ≤ 2100 * t + (ba : Int) ∧ 2100 * t + (ba : Int) + 1 + ((ar.map (clO (a_T A))).length : Int) ≤ 4200 := by
    rw [List.length_map]
    have := i5.2.2.1
    have := i5.2.2.2.1
    omega
  have hcl : rCl (lkX 1 0 Y) (2100 * t + (ba : Int)) (ar.map (clO (a_T A))) := rCl_of ht (rT_of q1.1 ht) hW hT8 hv1 i5
  have h80 : (ar.map (clO (a_T A))).length ≤ 8 := by rw [List.length_map]; exact h88.1
  have hgo := ((gv_G h).1.2.1 (by omega) (by omega)).1
  have hg321 : lkX 1 0 Y 321 ((a_K A t).1.getD ba (0, 0, [])).2.1 = e.2.1 := by
    rw [(r_th hW.1 hgo.1 hgo.2).2.2.2.1, if_pos (((gv_G h).1.2.1 (by omega) (by omega)).2.trans hgk)]
    exact hgc.symm
  have hg9 : ((7 : Int) = 7 ∧ (0 : Int) = 0 ∧ (0 ≤ ((a_K A t).1.getD ba (0, 0, [])).2.1 ∧ ((a_K A t).1.getD ba (0, 0, [])).2.1 < 8000) ∧ lkX 1 0 Y 321 ((a_K A t).1.getD ba (0, 0, [])).2.1 = e.2.1) ∨ ((7 : Int) = 8 ∧ (0 : Int) = 1 ∧ ((a_K A t).1.getD ba (0, 0, [])).2.1 = e.2.1) := Or.inl ⟨rfl, rfl, ⟨hgo.1, by have := hgo.2; omega⟩, hg321⟩
  have nmf : kd ≠ 6 → (0 ≤ nms ∧ nms < 4000) ∧ lkX 1 0 Y 282 nms = ((nmT (a_N A) nms).length : Int) ∧ (nmT (a_N A) nms).length ≤ 60 ∧ (∀ x : Nat, x < (nmT (a_N A) nms).length → lkX 1 0 Y 281 (60 * nms + (x : Int)) = (nmT (a_N A) nms).getD x 0) ∧ (nmT (a_N A) nms) ∈ a_N A ∧ ixL (a_N A) (nmT (a_N A) nms) = nms := fun k6 => by
    have z7 := i7 (by omega)
    obtain ⟨m1, m2, m3⟩ := hY.1.2.2.2.1.1
    obtain ⟨n1, n2, n3⟩ := m3 nms.toNat (by omega)
    have en9 : ((nms.toNat : Nat) : Int) = nms := by omega
    rw [en9] at n1 n3
    have n4 := nmT_g (A := A) z7.1
    refine ⟨⟨z7.1, by omega⟩, ?_, by rw [n4]; exact n2, fun i hi => ?_, ?_, hix z7.1 (by omega)⟩
    · rw [n4, g 282 _ (by omega)]
      exact n1
    · rw [n4] at hi ⊢
      rw [g 281 _ (by omega)]
      exact n3 i hi
    · rw [n4, gD_ix (show nms.toNat < (a_N A).length by omega)]
      exact List.getElem_mem _
  have fin : ∀ (wh mn : Int) (o : wO) (Z : wS), wh = e.2.2.2.2.1 → lrQ HT cs ms os (a_N A) (a_C A) (a_W A) mo e.2.1 wh mn (lkX 1 0 Y) o Z → (fun (o : wO) (Z : wS) => o = .inl none ∧ (Z 237 169 = e.2.2.2.1 ∧ Z 237 170 = e.2.2.2.2.1 ∧ Z 237 171 = e.2.2.2.2.2.1) ∧ (∀ (j : Nat) (x : Int), (j ≠ 237 ∨ x < 166 ∨ 172 < x) → ¬ lhP j x → Z j x = Y j x) ∧ rCh HT cs ms os (a_N A) (a_C A) (a_W A) mo Z) o Z := fun wh mn o Z hwh hz => by
    obtain ⟨z1, z2, z3, z4, z5⟩ := hz
    obtain ⟨z6, z7, z8⟩ := z1 (by rw [hwh]; exact wh2)
    refine ⟨z6, ⟨?_, z7.trans hwh, ?_⟩, fun j x h1 h2 => (z5 j x (lh_sub h1 h2)).trans (g j x (by omega)), z4⟩
    · rw [z5 237 169 (by unfold lhM; omega), y1, x4]
    · rw [z5 237 171 (by unfold lhM; omega), y3, x6]
  refine rlk1 (d := d + 81) hY.1.1 s0 s4 ha.2.2.1 hgk (Or.inl rfl) (ak_0 h hY (by first | decide | omega)) ?_ (fun o Z hz => Or.inl hz.1)
  rcases k1 with z | z | z | z
  · subst z
    obtain ⟨a1, a2, a3, a4, a5, a6⟩ := nmf (by first | decide | omega)
    unfold whA at wh1
    rw [if_pos rfl] at wh1
    exact wJ_mono (lhg_241 (d := d + 22) (am := 0) q2 hKR hwH hX a1 a2 a3 a4 hO9 hAb k2 (by first | decide | omega) s0 g305 g174 g175 hg9 lz_2 hCh (Or.inl rfl)) (fun o Z hz => fin _ _ o Z wh1 hz)
  · subst z
    obtain ⟨a1, a2, a3, a4, a5, a6⟩ := nmf (by first | decide | omega)
    unfold whA at wh1
    rw [if_neg (by first | decide | omega), if_pos rfl] at wh1
    have h1 : (ar.map (clO (a_T A))).length = 1 := by
      rw [List.length_map]
      have := h88.2
      rw [if_pos rfl] at this
      omega
    exact wJ_mono (lhs0_241 (d := d + 22) (ct := 0) (am := 0) q2 hKR hwH hX a1 a2 a3 a4 hO9 hAb k2 (by first | decide | omega) s0 g305 g174 g175 hg9 lz_2 hCh g173 hr9 hcl h80 hes htt hwo h1) (fun o Z hz => fin _ _ o Z wh1 hz)
  · subst z
    obtain ⟨a1, a2, a3, a4, a5, a6⟩ := nmf (by first | decide | omega)
    unfold whA at wh1
    rw [if_neg (by first | decide | omega), if_neg (by first | decide | omega), if_pos rfl] at wh1
    have h06 : lkX 1 0 Y 306 s = ((ar.map (clO (a_T A))).length : Int) := by
      rw [g 306 s (by omega), s6, List.length_map]
      have := h88.2
      rw [if_neg (by first | decide | omega)] at this
      exact this.symm
    exact wJ_mono (lhm0_241 (d := d + 22) (ct := 0) (am := 0) q2 hKR hwH hX a1 a2 a3 a4 hO9 hAb k2 (by first | decide | omega) s0 g305 g174 g175 hg9 lz_2 hCh g173 hr9 hcl h80 hes htt hwo h06 a5 a6) (fun o Z hz => fin _ _ o Z wh1 hz)
  · exact absurd z.2 (by omega)

theorem hkh_241_2 (h : hyA S0 p HT cs ms os X fa n B2 w t A s kd nms ne ec bh ba ar) (hX : w_X xs) (hH : stHo S0 p 241 HT nt cs ms os n) (hO9 : wOs cs os) (hAb : wAb cs) (hND : ∀ c : Int, 0 ≤ c → c < (cs.length : Int) → ∀ m q : Int, m ∈ mIx cs c → q ∈ mIx cs c → (hmR ms m).2.1 = 2 → (hmR ms q).2.1 = 2 → (hmR ms m).2.2.2.2.1 = (hmR ms q).2.2.2.2.1 → m = q) (hwo : a_W A < 10000000) (hix : 0 ≤ nms → nms < ((a_N A).length : Int) → ixL (a_N A) (nmT (a_N A) nms) = nms) (he : eOk S0 HT cs ms os A s e) (hst : eSt (a_T A) (a_H A) kd e = 0) (hho : hoE (a_T A) kd nms ((a_K A t).1.getD ba (0, 0, [])).1 ((a_K A t).1.getD ba (0, 0, [])).2.1 nm (wb_l2i (esV (ar.map (clO (a_T A))))) (wb_l2i (wb_lushr (esV (ar.map (clO (a_T A)))) 32)) e) (e1 : e.1 = 2) : ∀ {Sb : wS} (Y : wS), rRun S0 Sb HT cs ms os X mo t A Y → rAim t (a_K A t) ba bh en Y → wJ (pe_GA xs) wY0 (fun _ => False) (d + 89) t_M_looks ((pe_at t_M_looks.bl 0).getD (0, [])).2 [(0, (2, 237)), (1, (0, s)), (2, (0, 0))] [] Y (fun o Z => o = .inl none ∧ (Z 237 169 = e.2.2.2.1 ∧ Z 237 170 = e.2.2.2.2.1 ∧ Z 237 171 = e.2.2.2.2.2.1) ∧ (∀ (j : Nat) (x : Int), (j ≠ 237 ∨ x < 166 ∨ 172 < x) → ¬ lhP j x → Z j x = Y j x) ∧ rCh HT cs ms os (a_N A) (a_C A) (a_W A) mo Z) := fun Y hY ha => by
  have hT8 := hA_T h
  have hl9 := hl_A h
  obtain ⟨s0, s4, s5, s6⟩ := s_4 h hY
  have hba := hA_ba h
  obtain ⟨⟨hp, hw, hx⟩, hA, hB, ⟨hr, ho⟩, hsi, hme⟩ := id h
  have ht := wt_t hw
  obtain ⟨⟨i1, i2, i3, i4⟩, i5, i6, i7, i8⟩ := id hsi
  have hN := hA.2.2.2.2.2.1.1
  have hnc := hH.2.2.2.1.2.2
  have hwH := hH.2.2.2.2.2.2.2.1
  have hv1 := vk_of hA hw
  have hes := es_ok i5 hv1
  have h88 := ec_8 i5
  have htt := cl_t (cs := cs) hA hw hnc i5
  have hz : ((a_K A t).1.getD ba (0, 0, [])).1 = 8 ∧ e.2.1 = ((a_K A t).1.getD ba (0, 0, [])).2.1 ∧ (cHi kd e = -1 ∨ (cHi kd e = wb_l2i (wb_lushr (esV (ar.map (clO (a_T A)))) 32) ∧ cLo kd e = wb_l2i (esV (ar.map (clO (a_T A)))))) := by
    rcases hho with z | z | z | z
    · exact absurd z.1 (by omega)
    · exact absurd z.1 (by omega)
    · exact z.2
    · exact absurd z.1 (by omega)
  obtain ⟨hgk, hgc, hty⟩ := hz
  obtain ⟨⟨wh1, wh2⟩, ⟨x4, x6⟩, k1, k2⟩ := wh_ag he i2 i3 i4 (by omega) (by rw [List.length_map]; exact h88.2) hes (by rw [List.length_map]; exact h88.1) hty
  have ea : e.1 - 1 = 1 := by omega
  rw [ea] at wh1
  obtain ⟨q1, q2⟩ := lz_R (l := 2) ht hl9 hY
  have hKR := ho_r hH q1
  obtain ⟨sl, hW⟩ := q1.1.2.2.1.1
  have hCh := q1.1.2.2.2.2.2.2.1.1
  obtain ⟨y1, y2, y3⟩ := lz_v (l := 2) (Y := Y)
  have g : ∀ (j : Nat) (x : Int), (j ≠ 237 ∨ (x < 166 ∨ 172 < x)) → lkX 2 0 Y j x = Y j x := fun j x hj => lz_f j x (by omega)
  have g305 : lkX 2 0 Y 305 s = nms := (g 305 s (by omega)).trans s5
  have g174 : lkX 2 0 Y 237 174 = 8 := (g 237 174 (by omega)).trans (ha.2.2.1.trans hgk)
  have g175 : lkX 2 0 Y 237 175 = ((a_K A t).1.getD ba (0, 0, [])).2.1 := (g 237 175 (by omega)).trans (ha.2.2.2.1.trans (gb_r h hY (by omega)))
  have g173 : lkX 2 0 Y 237 173 = 2100 * t + (ba : Int) := (g 237 173 (by omega)).trans ha.2.1
  have hr9 : 0 ≤ 2100 * t + (ba : Int) ∧ 2100 * t + (ba : Int) + 1 + ((ar.map (clO (a_T A))).length : Int) ≤ 4200 := by
    rw [List.length_map]
    have := i5.2.2.1
    have := i5.2.2.2.1
    omega
  have hcl : rCl (lkX 2 0 Y) (2100 * t + (ba : Int)) (ar.map (clO (a_T A))) := rCl_of ht (rT_of q1.1 ht) hW hT8 hv1 i5
  have h80 : (ar.map (clO (a_T A))).length ≤ 8 := by rw [List.length_map]; exact h88.1
  have hg9 : ((8 : Int) = 7 ∧ (1 : Int) = 0 ∧ (0 ≤ ((a_K A t).1.getD ba (0, 0, [])).2.1 ∧ ((a_K A t).1.getD ba (0, 0, [])).2.1 < 8000) ∧ lkX 2 0 Y 321 ((a_K A t).1.getD ba (0, 0, [])).2.1 = e.2.1) ∨ ((8 : Int) = 8 ∧ (1 : Int) = 1 ∧ ((a_K A t).1.getD ba (0, 0, [])).2.1 = e.2.1) := Or.inr ⟨rfl, rfl, hgc.symm⟩
  have nmf : kd ≠ 6 → (0 ≤ nms ∧ nms < 4000) ∧ lkX 2 0 Y 282 nms = ((nmT (a_N A) nms).length : Int) ∧ (nmT (a_N A) nms).length ≤ 60 ∧ (∀ x : Nat, x < (nmT (a_N A) nms).length → lkX 2 0 Y 281 (60 * nms + (x : Int)) = (nmT (a_N A) nms).getD x 0) ∧ (nmT (a_N A) nms) ∈ a_N A ∧ ixL (a_N A) (nmT (a_N A) nms) = nms := fun k6 => by
    have z7 := i7 (by omega)
    obtain ⟨m1, m2, m3⟩ := hY.1.2.2.2.1.1
    obtain ⟨n1, n2, n3⟩ := m3 nms.toNat (by omega)
    have en9 : ((nms.toNat : Nat) : Int) = nms := by omega
    rw [en9] at n1 n3
    have n4 := nmT_g (A := A) z7.1
    refine ⟨⟨z7.1, by omega⟩, ?_, by rw [n4]; exact n2, fun i hi => ?_, ?_, hix z7.1 (by omega)⟩
    · rw [n4, g 282 _ (by omega)]
      exact n1
    · rw [n4] at hi ⊢
      rw [g 281 _ (by omega)]
      exact n3 i hi
    · rw [n4, gD_ix (show nms.toNat < (a_N A).length by omega)]
      exact List.getElem_mem _
  have fin : ∀ (wh mn : Int) (o : wO) (Z : wS), wh = e.2.2.2.2.1 → lrQ HT cs ms os (a_N A) (a_C A) (a_W A) mo e.2.1 wh mn (lkX 2 0 Y) o Z → (fun (o : wO) (Z : wS) => o = .inl none ∧ (Z 237 169 = e.2.2.2.1 ∧ Z 237 170 = e.2.2.2.2.1 ∧ Z 237 171 = e.2.2.2.2.2.1) ∧ (∀ (j : Nat) (x : Int), (j ≠ 237 ∨ x < 166 ∨ 172 < x) → ¬ lhP j x → Z j x = Y j x) ∧ rCh HT cs ms os (a_N A) (a_C A) (a_W A) mo Z) o Z := fun wh mn o Z hwh hz => by
    obtain ⟨z1, z2, z3, z4, z5⟩ := hz
    obtain ⟨z6, z7, z8⟩ := z1 (by rw [hwh]; exact wh2)
    refine ⟨z6, ⟨?_, z7.trans hwh, ?_⟩, fun j x h1 h2 => (z5 j x (lh_sub h1 h2)).trans (g j x (by omega)), z4⟩
    · rw [z5 237 169 (by unfold lhM; omega), y1, x4]
    · rw [z5 237 171 (by unfold lhM; omega), y3, x6]
  refine rlk2 (d := d + 81) hY.1.1 s0 s4 ha.2.2.1 hgk (Or.inl rfl) (ak_0 h hY (by first | decide | omega)) ?_ (fun o Z hz => Or.inl hz.1)
  rcases k1 with z | z | z | z
  · subst z
    obtain ⟨a1, a2, a3, a4, a5, a6⟩ := nmf (by first | decide | omega)
    unfold whA at wh1
    rw [if_pos rfl] at wh1
    exact wJ_mono (lhg_241 (d := d + 22) (am := 1) q2 hKR hwH hX a1 a2 a3 a4 hO9 hAb k2 (by first | decide | omega) s0 g305 g174 g175 hg9 lz_2 hCh (Or.inl rfl)) (fun o Z hz => fin _ _ o Z wh1 hz)
  · subst z
    obtain ⟨a1, a2, a3, a4, a5, a6⟩ := nmf (by first | decide | omega)
    unfold whA at wh1
    rw [if_neg (by first | decide | omega), if_pos rfl] at wh1
    have h1 : (ar.map (clO (a_T A))).length = 1 := by
      rw [List.length_map]
      have := h88.2
      rw [if_pos rfl] at this
      omega
    exact wJ_mono (lhs0_241 (d := d + 22) (ct := 0) (am := 1) q2 hKR hwH hX a1 a2 a3 a4 hO9 hAb k2 (by first | decide | omega) s0 g305 g174 g175 hg9 lz_2 hCh g173 hr9 hcl h80 hes htt hwo h1) (fun o Z hz => fin _ _ o Z wh1 hz)
  · subst z
    obtain ⟨a1, a2, a3, a4, a5, a6⟩ := nmf (by first | decide | omega)
    unfold whA at wh1
    rw [if_neg (by first | decide | omega), if_neg (by first | decide | omega), if_pos rfl] at wh1
    have h06 : lkX 2 0 Y 306 s = ((ar.map (clO (a_T A))).length : Int) := by
      rw [g 306 s (by omega), s6, List.length_map]
      have := h88.2
      rw [if_neg (by first | decide | omega)] at this
      exact this.symm
    exact wJ_mono (lhm0_241 (d := d + 22) (ct := 0) (am := 1) q2 hKR hwH hX a1 a2 a3 a4 hO9 hAb k2 (by first | decide | omega) s0 g305 g174 g175 hg9 lz_2 hCh g173 hr9 hcl h80 hes htt hwo h06 a5 a6) (fun o Z hz => fin _ _ o Z wh1 hz)
  · obtain ⟨z, _⟩ := z
    subst z
    unfold whA at wh1
    rw [if_neg (by first | decide | omega), if_neg (by first | decide | omega), if_neg (by first | decide | omega)] at wh1
    have h06 : lkX 2 0 Y 306 s = ((ar.map (clO (a_T A))).length : Int) := by
      rw [g 306 s (by omega), s6, List.length_map]
      have := h88.2
      rw [if_neg (by first | decide | omega)] at this
      exact this.symm
    exact wJ_mono (lhn0_241 (d := d + 22) (ct := 0) (am := 1) (W := []) q2 hKR hwH hO9 hAb k2 (by first | decide | omega) s0 g305 g174 g175 hg9 lz_2 hCh g173 hr9 hcl h80 hes htt hwo h06 rfl (by omega) (hND e.2.1 k2.1 k2.2)) (fun o Z hz => fin _ _ o Z wh1 hz)

theorem hkh_261_1 (h : hyA S0 p HT cs ms os X fa n B2 w t A s kd nms ne ec bh ba ar) (hX : w_X xs) (hH : stHo S0 p 261 HT nt cs ms os n) (hO9 : wOs cs os) (hAb : wAb cs) (hND : ∀ c : Int, 0 ≤ c → c < (cs.length : Int) → ∀ m q : Int, m ∈ mIx cs c → q ∈ mIx cs c → (hmR ms m).2.1 = 2 → (hmR ms q).2.1 = 2 → (hmR ms m).2.2.2.2.1 = (hmR ms q).2.2.2.2.1 → m = q) (hwo : a_W A < 10000000) (hix : 0 ≤ nms → nms < ((a_N A).length : Int) → ixL (a_N A) (nmT (a_N A) nms) = nms) (he : eOk S0 HT cs ms os A s e) (hst : eSt (a_T A) (a_H A) kd e = 0) (hho : hoE (a_T A) kd nms ((a_K A t).1.getD ba (0, 0, [])).1 ((a_K A t).1.getD ba (0, 0, [])).2.1 nm (wb_l2i (esV (ar.map (clO (a_T A))))) (wb_l2i (wb_lushr (esV (ar.map (clO (a_T A)))) 32)) e) (e1 : e.1 = 1) : ∀ {Sb : wS} (Y : wS), rRun S0 Sb HT cs ms os X mo t A Y → rAim t (a_K A t) ba bh en Y → wJ (pe_GA xs) wY0 (fun _ => False) (d + 89) t_M_looks ((pe_at t_M_looks.bl 0).getD (0, [])).2 [(0, (2, 237)), (1, (0, s)), (2, (0, 0))] [] Y (fun o Z => o = .inl none ∧ (Z 237 169 = e.2.2.2.1 ∧ Z 237 170 = e.2.2.2.2.1 ∧ Z 237 171 = e.2.2.2.2.2.1) ∧ (∀ (j : Nat) (x : Int), (j ≠ 237 ∨ x < 166 ∨ 172 < x) → ¬ lhP j x → Z j x = Y j x) ∧ rCh HT cs ms os (a_N A) (a_C A) (a_W A) mo Z) := fun Y hY ha => by
  have hT8 := hA_T h
  have hl9 := hl_A h
  obtain ⟨s0, s4, s5, s6⟩ := s_4 h hY
  have hba := hA_ba h
  obtain ⟨⟨hp, hw, hx⟩, hA, hB, ⟨hr, ho⟩, hsi, hme⟩ := id h
  have ht := wt_t hw
  obtain ⟨⟨i1, i2, i3, i4⟩, i5, i6, i7, i8⟩ := id hsi
  have hN := hA.2.2.2.2.2.1.1
  have hnc := hH.2.2.2.1.2.2
  have hwH := hH.2.2.2.2.2.2.2.1
  have hv1 := vk_of hA hw
  have hes := es_ok i5 hv1
  have h88 := ec_8 i5
  have htt := cl_t (cs := cs) hA hw hnc i5
  have hz : ((a_K A t).1.getD ba (0, 0, [])).1 = 7 ∧ e.2.1 = (tO (a_T A) ((a_K A t).1.getD ba (0, 0, [])).2.1).2.2.1 ∧ (cHi kd e = -1 ∨ (cHi kd e = wb_l2i (wb_lushr (esV (ar.map (clO (a_T A)))) 32) ∧ cLo kd e = wb_l2i (esV (ar.map (clO (a_T A)))))) := by
    rcases hho with z | z | z | z
    · exact absurd z.1 (by omega)
    · exact z.2
    · exact absurd z.1 (by omega)
    · exact absurd z.1 (by omega)
  obtain ⟨hgk, hgc, hty⟩ := hz
  obtain ⟨⟨wh1, wh2⟩, ⟨x4, x6⟩, k1, k2⟩ := wh_ag he i2 i3 i4 (by omega) (by rw [List.length_map]; exact h88.2) hes (by rw [List.length_map]; exact h88.1) hty
  have ea : e.1 - 1 = 0 := by omega
  rw [ea] at wh1
  obtain ⟨q1, q2⟩ := lz_R (l := 1) ht hl9 hY
  have hKR := ho_r hH q1
  obtain ⟨sl, hW⟩ := q1.1.2.2.1.1
  have hCh := q1.1.2.2.2.2.2.2.1.1
  obtain ⟨y1, y2, y3⟩ := lz_v (l := 1) (Y := Y)
  have g : ∀ (j : Nat) (x : Int), (j ≠ 237 ∨ (x < 166 ∨ 172 < x)) → lkX 1 0 Y j x = Y j x := fun j x hj => lz_f j x (by omega)
  have g305 : lkX 1 0 Y 305 s = nms := (g 305 s (by omega)).trans s5
  have g174 : lkX 1 0 Y 237 174 = 7 := (g 237 174 (by omega)).trans (ha.2.2.1.trans hgk)
  have g175 : lkX 1 0 Y 237 175 = ((a_K A t).1.getD ba (0, 0, [])).2.1 := (g 237 175 (by omega)).trans (ha.2.2.2.1.trans (gb_r h hY (by omega)))
  have g173 : lkX 1 0 Y 237 173 = 2100 * t + (ba : Int) := (g 237 173 (by omega)).trans ha.2.1
  have hr9 : 0 ≤ 2100 * t + (ba : Int) ∧ 2100 * t + (ba : Int) + 1 + ((ar.map (clO (a_T A))).length : Int) ≤ 4200 := by
    rw [List.length_map]
    have := i5.2.2.1
    have := i5.2.2.2.1
    omega
  have hcl : rCl (lkX 1 0 Y) (2100 * t + (ba : Int)) (ar.map (clO (a_T A))) := rCl_of ht (rT_of q1.1 ht) hW hT8 hv1 i5
  have h80 : (ar.map (clO (a_T A))).length ≤ 8 := by rw [List.length_map]; exact h88.1
  have hgo := ((gv_G h).1.2.1 (by omega) (by omega)).1
  have hg321 : lkX 1 0 Y 321 ((a_K A t).1.getD ba (0, 0, [])).2.1 = e.2.1 := by
    rw [(r_th hW.1 hgo.1 hgo.2).2.2.2.1, if_pos (((gv_G h).1.2.1 (by omega) (by omega)).2.trans hgk)]
    exact hgc.symm
  have hg9 : ((7 : Int) = 7 ∧ (0 : Int) = 0 ∧ (0 ≤ ((a_K A t).1.getD ba (0, 0, [])).2.1 ∧ ((a_K A t).1.getD ba (0, 0, [])).2.1 < 8000) ∧ lkX 1 0 Y 321 ((a_K A t).1.getD ba (0, 0, [])).2.1 = e.2.1) ∨ ((7 : Int) = 8 ∧ (0 : Int) = 1 ∧ ((a_K A t).1.getD ba (0, 0, [])).2.1 = e.2.1) := Or.inl ⟨rfl, rfl, ⟨hgo.1, by have := hgo.2; omega⟩, hg321⟩
  have nmf : kd ≠ 6 → (0 ≤ nms ∧ nms < 4000) ∧ lkX 1 0 Y 282 nms = ((nmT (a_N A) nms).length : Int) ∧ (nmT (a_N A) nms).length ≤ 60 ∧ (∀ x : Nat, x < (nmT (a_N A) nms).length → lkX 1 0 Y 281 (60 * nms + (x : Int)) = (nmT (a_N A) nms).getD x 0) ∧ (nmT (a_N A) nms) ∈ a_N A ∧ ixL (a_N A) (nmT (a_N A) nms) = nms := fun k6 => by
    have z7 := i7 (by omega)
    obtain ⟨m1, m2, m3⟩ := hY.1.2.2.2.1.1
    obtain ⟨n1, n2, n3⟩ := m3 nms.toNat (by omega)
    have en9 : ((nms.toNat : Nat) : Int) = nms := by omega
    rw [en9] at n1 n3
    have n4 := nmT_g (A := A) z7.1
    refine ⟨⟨z7.1, by omega⟩, ?_, by rw [n4]; exact n2, fun i hi => ?_, ?_, hix z7.1 (by omega)⟩
    · rw [n4, g 282 _ (by omega)]
      exact n1
    · rw [n4] at hi ⊢
      rw [g 281 _ (by omega)]
      exact n3 i hi
    · rw [n4, gD_ix (show nms.toNat < (a_N A).length by omega)]
      exact List.getElem_mem _
  have fin : ∀ (wh mn : Int) (o : wO) (Z : wS), wh = e.2.2.2.2.1 → lrQ HT cs ms os (a_N A) (a_C A) (a_W A) mo e.2.1 wh mn (lkX 1 0 Y) o Z → (fun (o : wO) (Z : wS) => o = .inl none ∧ (Z 237 169 = e.2.2.2.1 ∧ Z 237 170 = e.2.2.2.2.1 ∧ Z 237 171 = e.2.2.2.2.2.1) ∧ (∀ (j : Nat) (x : Int), (j ≠ 237 ∨ x < 166 ∨ 172 < x) → ¬ lhP j x → Z j x = Y j x) ∧ rCh HT cs ms os (a_N A) (a_C A) (a_W A) mo Z) o Z := fun wh mn o Z hwh hz => by
    obtain ⟨z1, z2, z3, z4, z5⟩ := hz
    obtain ⟨z6, z7, z8⟩ := z1 (by rw [hwh]; exact wh2)
    refine ⟨z6, ⟨?_, z7.trans hwh, ?_⟩, fun j x h1 h2 => (z5 j x (lh_sub h1 h2)).trans (g j x (by omega)), z4⟩
    · rw [z5 237 169 (by unfold lhM; omega), y1, x4]
    · rw [z5 237 171 (by unfold lhM; omega), y3, x6]
  refine rlk1 (d := d + 81) hY.1.1 s0 s4 ha.2.2.1 hgk (Or.inl rfl) (ak_0 h hY (by first | decide | omega)) ?_ (fun o Z hz => Or.inl hz.1)
  rcases k1 with z | z | z | z
  · subst z
    obtain ⟨a1, a2, a3, a4, a5, a6⟩ := nmf (by first | decide | omega)
    unfold whA at wh1
    rw [if_pos rfl] at wh1
    exact wJ_mono (lhg_261 (d := d + 22) (am := 0) q2 hKR hwH hX a1 a2 a3 a4 hO9 hAb k2 (by first | decide | omega) s0 g305 g174 g175 hg9 lz_2 hCh (Or.inl rfl)) (fun o Z hz => fin _ _ o Z wh1 hz)
  · subst z
    obtain ⟨a1, a2, a3, a4, a5, a6⟩ := nmf (by first | decide | omega)
    unfold whA at wh1
    rw [if_neg (by first | decide | omega), if_pos rfl] at wh1
    have h1 : (ar.map (clO (a_T A))).length = 1 := by
      rw [List.length_map]
      have := h88.2
      rw [if_pos rfl] at this
      omega
    exact wJ_mono (lhs0_261 (d := d + 22) (ct := 0) (am := 0) q2 hKR hwH hX a1 a2 a3 a4 hO9 hAb k2 (by first | decide | omega) s0 g305 g174 g175 hg9 lz_2 hCh g173 hr9 hcl h80 hes htt hwo h1) (fun o Z hz => fin _ _ o Z wh1 hz)
  · subst z
    obtain ⟨a1, a2, a3, a4, a5, a6⟩ := nmf (by first | decide | omega)
    unfold whA at wh1
    rw [if_neg (by first | decide | omega), if_neg (by first | decide | omega), if_pos rfl] at wh1
    have h06 : lkX 1 0 Y 306 s = ((ar.map (clO (a_T A))).length : Int) := by
      rw [g 306 s (by omega), s6, List.length_map]
      have := h88.2
      rw [if_neg (by first | decide | omega)] at this
      exact this.symm
    exact wJ_mono (lhm0_261 (d := d + 22) (ct := 0) (am := 0) q2 hKR hwH hX a1 a2 a3 a4 hO9 hAb k2 (by first | decide | omega) s0 g305 g174 g175 hg9 lz_2 hCh g173 hr9 hcl h80 hes htt hwo h06 a5 a6) (fun o Z hz => fin _ _ o Z wh1 hz)
  · exact absurd z.2 (by omega)

theorem hkh_261_2 (h : hyA S0 p HT cs ms os X fa n B2 w t A s kd nms ne ec bh ba ar) (hX : w_X xs) (hH : stHo S0 p 261 HT nt cs ms os n) (hO9 : wOs cs os) (hAb : wAb cs) (hND : ∀ c : Int, 0 ≤ c → c < (cs.length : Int) → ∀ m q : Int, m ∈ mIx cs c → q ∈ mIx cs c → (hmR ms m).2.1 = 2 → (hmR ms q).2.1 = 2 → (hmR ms m).2.2.2.2.1 = (hmR ms q).2.2.2.2.1 → m = q) (hwo : a_W A < 10000000) (hix : 0 ≤ nms → nms < ((a_N A).length : Int) → ixL (a_N A) (nmT (a_N A) nms) = nms) (he : eOk S0 HT cs ms os A s e) (hst : eSt (a_T A) (a_H A) kd e = 0) (hho : hoE (a_T A) kd nms ((a_K A t).1.getD ba (0, 0, [])).1 ((a_K A t).1.getD ba (0, 0, [])).2.1 nm (wb_l2i (esV (ar.map (clO (a_T A))))) (wb_l2i (wb_lushr (esV (ar.map (clO (a_T A)))) 32)) e) (e1 : e.1 = 2) : ∀ {Sb : wS} (Y : wS), rRun S0 Sb HT cs ms os X mo t A Y → rAim t (a_K A t) ba bh en Y → wJ (pe_GA xs) wY0 (fun _ => False) (d + 89) t_M_looks ((pe_at t_M_looks.bl 0).getD (0, [])).2 [(0, (2, 237)), (1, (0, s)), (2, (0, 0))] [] Y (fun o Z => o = .inl none ∧ (Z 237 169 = e.2.2.2.1 ∧ Z 237 170 = e.2.2.2.2.1 ∧ Z 237 171 = e.2.2.2.2.2.1) ∧ (∀ (j : Nat) (x : Int), (j ≠ 237 ∨ x < 166 ∨ 172 < x) → ¬ lhP j x → Z j x = Y j x) ∧ rCh HT cs ms os (a_N A) (a_C A) (a_W A) mo Z) := fun Y hY ha => by
  have hT8 := hA_T h
  have hl9 := hl_A h
  obtain ⟨s0, s4, s5, s6⟩ := s_4 h hY
  have hba := hA_ba h
  obtain ⟨⟨hp, hw, hx⟩, hA, hB, ⟨hr, ho⟩, hsi, hme⟩ := id h
  have ht := wt_t hw
  obtain ⟨⟨i1, i2, i3, i4⟩, i5, i6, i7, i8⟩ := id hsi
  have hN := hA.2.2.2.2.2.1.1
  have hnc := hH.2.2.2.1.2.2
  have hwH := hH.2.2.2.2.2.2.2.1
  have hv1 := vk_of hA hw
  have hes := es_ok i5 hv1
  have h88 := ec_8 i5
  have htt := cl_t (cs := cs) hA hw hnc i5
  have hz : ((a_K A t).1.getD ba (0, 0, [])).1 = 8 ∧ e.2.1 = ((a_K A t).1.getD ba (0, 0, [])).2.1 ∧ (cHi kd e = -1 ∨ (cHi kd e = wb_l2i (wb_lushr (esV (ar.map (clO (a_T A)))) 32) ∧ cLo kd e = wb_l2i (esV (ar.map (clO (a_T A)))))) := by
    rcases hho with z | z | z | z
    · exact absurd z.1 (by omega)
    · exact absurd z.1 (by omega)
    · exact z.2
    · exact absurd z.1 (by omega)
  obtain ⟨hgk, hgc, hty⟩ := hz
  obtain ⟨⟨wh1, wh2⟩, ⟨x4, x6⟩, k1, k2⟩ := wh_ag he i2 i3 i4 (by omega) (by rw [List.length_map]; exact h88.2) hes (by rw [List.length_map]; exact h88.1) hty
  have ea : e.1 - 1 = 1 := by omega
  rw [ea] at wh1
  obtain ⟨q1, q2⟩ := lz_R (l := 2) ht hl9 hY
  have hKR := ho_r hH q1
  obtain ⟨sl, hW⟩ := q1.1.2.2.1.1
  have hCh := q1.1.2.2.2.2.2.2.1.1
  obtain ⟨y1, y2, y3⟩ := lz_v (l := 2) (Y := Y)
  have g : ∀ (j : Nat) (x : Int), (j ≠ 237 ∨ (x < 166 ∨ 172 < x)) → lkX 2 0 Y j x = Y j x := fun j x hj => lz_f j x (by omega)
  have g305 : lkX 2 0 Y 305 s = nms := (g 305 s (by omega)).trans s5
  have g174 : lkX 2 0 Y 237 174 = 8 := (g 237 174 (by omega)).trans (ha.2.2.1.trans hgk)
  have g175 : lkX 2 0 Y 237 175 = ((a_K A t).1.getD ba (0, 0, [])).2.1 := (g 237 175 (by omega)).trans (ha.2.2.2.1.trans (gb_r h hY (by omega)))
  have g173 : lkX 2 0 Y 237 173 = 2100 * t + (ba : Int) := (g 237 173 (by omega)).trans ha.2.1
  have hr9 : 0 ≤ 2100 * t + (ba : Int) ∧ 2100 * t + (ba : Int) + 1 + ((ar.map (clO (a_T A))).length : Int) ≤ 4200 := by
    rw [List.length_map]
    have := i5.2.2.1
    have := i5.2.2.2.1
    omega
  have hcl : rCl (lkX 2 0 Y) (2100 * t + (ba : Int)) (ar.map (clO (a_T A))) := rCl_of ht (rT_of q1.1 ht) hW hT8 hv1 i5
  have h80 : (ar.map (clO (a_T A))).length ≤ 8 := by rw [List.length_map]; exact h88.1
  have hg9 : ((8 : Int) = 7 ∧ (1 : Int) = 0 ∧ (0 ≤ ((a_K A t).1.getD ba (0, 0, [])).2.1 ∧ ((a_K A t).1.getD ba (0, 0, [])).2.1 < 8000) ∧ lkX 2 0 Y 321 ((a_K A t).1.getD ba (0, 0, [])).2.1 = e.2.1) ∨ ((8 : Int) = 8 ∧ (1 : Int) = 1 ∧ ((a_K A t).1.getD ba (0, 0, [])).2.1 = e.2.1) := Or.inr ⟨rfl, rfl, hgc.symm⟩
  have nmf : kd ≠ 6 → (0 ≤ nms ∧ nms < 4000) ∧ lkX 2 0 Y 282 nms = ((nmT (a_N A) nms).length : Int) ∧ (nmT (a_N A) nms).length ≤ 60 ∧ (∀ x : Nat, x < (nmT (a_N A) nms).length → lkX 2 0 Y 281 (60 * nms + (x : Int)) = (nmT (a_N A) nms).getD x 0) ∧ (nmT (a_N A) nms) ∈ a_N A ∧ ixL (a_N A) (nmT (a_N A) nms) = nms := fun k6 => by
    have z7 := i7 (by omega)
    obtain ⟨m1, m2, m3⟩ := hY.1.2.2.2.1.1
    obtain ⟨n1, n2, n3⟩ := m3 nms.toNat (by omega)
    have en9 : ((nms.toNat : Nat) : Int) = nms := by omega
    rw [en9] at n1 n3
    have n4 := nmT_g (A := A) z7.1
    refine ⟨⟨z7.1, by omega⟩, ?_, by rw [n4]; exact n2, fun i hi => ?_, ?_, hix z7.1 (by omega)⟩
    · rw [n4, g 282 _ (by omega)]
      exact n1
    · rw [n4] at hi ⊢
      rw [g 281 _ (by omega)]
      exact n3 i hi
    · rw [n4, gD_ix (show nms.toNat < (a_N A).length by omega)]
      exact List.getElem_mem _
  have fin : ∀ (wh mn : Int) (o : wO) (Z : wS), wh = e.2.2.2.2.1 → lrQ HT cs ms os (a_N A) (a_C A) (a_W A) mo e.2.1 wh mn (lkX 2 0 Y) o Z → (fun (o : wO) (Z : wS) => o = .inl none ∧ (Z 237 169 = e.2.2.2.1 ∧ Z 237 170 = e.2.2.2.2.1 ∧ Z 237 171 = e.2.2.2.2.2.1) ∧ (∀ (j : Nat) (x : Int), (j ≠ 237 ∨ x < 166 ∨ 172 < x) → ¬ lhP j x → Z j x = Y j x) ∧ rCh HT cs ms os (a_N A) (a_C A) (a_W A) mo Z) o Z := fun wh mn o Z hwh hz => by
    obtain ⟨z1, z2, z3, z4, z5⟩ := hz
    obtain ⟨z6, z7, z8⟩ := z1 (by rw [hwh]; exact wh2)
    refine ⟨z6, ⟨?_, z7.trans hwh, ?_⟩, fun j x h1 h2 => (z5 j x (lh_sub h1 h2)).trans (g j x (by omega)), z4⟩
    · rw [z5 237 169 (by unfold lhM; omega), y1, x4]
    · rw [z5 237 171 (by unfold lhM; omega), y3, x6]
  refine rlk2 (d := d + 81) hY.1.1 s0 s4 ha.2.2.1 hgk (Or.inl rfl) (ak_0 h hY (by first | decide | omega)) ?_ (fun o Z hz => Or.inl hz.1)
  rcases k1 with z | z | z | z
  · subst z
    obtain ⟨a1, a2, a3, a4, a5, a6⟩ := nmf (by first | decide | omega)
    unfold whA at wh1
    rw [if_pos rfl] at wh1
    exact wJ_mono (lhg_261 (d := d + 22) (am := 1) q2 hKR hwH hX a1 a2 a3 a4 hO9 hAb k2 (by first | decide | omega) s0 g305 g174 g175 hg9 lz_2 hCh (Or.inl rfl)) (fun o Z hz => fin _ _ o Z wh1 hz)
  · subst z
    obtain ⟨a1, a2, a3, a4, a5, a6⟩ := nmf (by first | decide | omega)
    unfold whA at wh1
    rw [if_neg (by first | decide | omega), if_pos rfl] at wh1
    have h1 : (ar.map (clO (a_T A))).length = 1 := by
      rw [List.length_map]
      have := h88.2
      rw [if_pos rfl] at this
      omega
    exact wJ_mono (lhs0_261 (d := d + 22) (ct := 0) (am := 1) q2 hKR hwH hX a1 a2 a3 a4 hO9 hAb k2 (by first | decide | omega) s0 g305 g174 g175 hg9 lz_2 hCh g173 hr9 hcl h80 hes htt hwo h1) (fun o Z hz => fin _ _ o Z wh1 hz)
  · subst z
    obtain ⟨a1, a2, a3, a4, a5, a6⟩ := nmf (by first | decide | omega)
    unfold whA at wh1
    rw [if_neg (by first | decide | omega), if_neg (by first | decide | omega), if_pos rfl] at wh1
    have h06 : lkX 2 0 Y 306 s = ((ar.map (clO (a_T A))).length : Int) := by
      rw [g 306 s (by omega), s6, List.length_map]
      have := h88.2
      rw [if_neg (by first | decide | omega)] at this
      exact this.symm
    exact wJ_mono (lhm0_261 (d := d + 22) (ct := 0) (am := 1) q2 hKR hwH hX a1 a2 a3 a4 hO9 hAb k2 (by first | decide | omega) s0 g305 g174 g175 hg9 lz_2 hCh g173 hr9 hcl h80 hes htt hwo h06 a5 a6) (fun o Z hz => fin _ _ o Z wh1 hz)
  · obtain ⟨z, _⟩ := z
    subst z
    unfold whA at wh1
    rw [if_neg (by first | decide | omega), if_neg (by first | decide | omega), if_neg (by first | decide | omega)] at wh1
    have h06 : lkX 2 0 Y 306 s = ((ar.map (clO (a_T A))).length : Int) := by
      rw [g 306 s (by omega), s6, List.length_map]
      have := h88.2
      rw [if_neg (by first | decide | omega)] at this
      exact this.symm
    exact wJ_mono (lhn0_261 (d := d + 22) (ct := 0) (am := 1) (W := []) q2 hKR hwH hO9 hAb k2 (by first | decide | omega) s0 g305 g174 g175 hg9 lz_2 hCh g173 hr9 hcl h80 hes htt hwo h06 rfl (by omega) (hND e.2.1 k2.1 k2.2)) (fun o Z hz => fin _ _ o Z wh1 hz)

end Wlw
