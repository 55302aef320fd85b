/-! PART ly: looking at what is a host's, in the class. -/
section Wly
variable {xs : List (Nat × List Int32)} {d : Nat} {S0 S Z : wS} {p w m : Nat} {HT : Int → Int} {cs : List hCR} {ms : List hMR} {os : Int → List Int} {X : List (List Int)} {mo t n B B2 oq : Int} {fa : Int → Int} {WE : aA → Prop} {A A2 : aA} {K2 : aK} {ml : List Nat} {k c s kd nms ne ec bh nm en : Int} {b ba : Nat} {ar : List aV} {e : aE} {V Z2 Y : wS} {o : wO} {dn : Int} {H2 : List aH} {N2 : List (List Int)} {E2 : Int → List aE} {C2 : List aQ} {W2 : Int} {c2 : Int → Int} {k2 : Int → Int → Int} {mk rk : Nat → Int → Prop} {K : aK} {T : List aO} {H : List aH} {E : Int → List aE} {gk gb es lo hi a : Int} {r : List aE × Int × Option aE} {A1 : aA} {tl cl : List Int} {sl : Nat → List Int} {L : List aC} {G : Int → aV} {u : aV} {x : List Int} {T2 : List aO} {L2 : List aC} {G2 : Int → aV} {H2 : List aH} {c2 : Int → Int} {y : Int} {Q : wO → wS → Prop} {ps : List (Int × aV)} {k hd wh : Int} {f a9 pn fn md : Int} {vn m9 : Nat} {th : aV} {g : Int} {lp : List aV} {l ds fo g : Int} {mk : Nat → Int → Prop} {C2 : List aQ} {W2 : Int} {RZ : wS → Prop} {N3 : Nat} {SB : wS} {r r0 : Int} {sh : Int} {K9 : aK} {nt : Int}
/-- what is asked of the host's choices -/
def hoQ9 (kd am : Int) (W : List Int) (k : Int) (tl : List Int) : aQ := if kd = 1 then (k, am, 1, wnW [115, 101, 116] W, tl) else if kd = 5 then (k, am, 0, wnW ([] : List Int) W, tl) else (k, 2, 0, [], tl)
/-- the choices then -/
def hoC (HT : Int → Int) (cs : List hCR) (ms : List hMR) (os : Int → List Int) (A : aA) (mo kd am : Int) (W : List Int) (k : Int) (tl : List Int) : List aQ × Int := if kd = 0 then (a_C A, a_W A) else chN (a_C A) (a_W A) mo (hoQ9 kd am W k tl) (FA HT cs ms os (hoQ9 kd am W k tl).1 (hoQ9 kd am W k tl).2.1 (hoQ9 kd am W k tl).2.2.1 (hoQ9 kd am W k tl).2.2.2.1)
/-- the entry then -/
noncomputable def hoR9 (HT : Int → Int) (cs : List hCR) (ms : List hMR) (os : Int → List Int) (at0 l kd : Int) (W : List Int) (k : Int) (tl : List Int) : aE := hoN l k (whA HT cs ms os kd (l - 1) W k tl) (mnA HT cs ms os kd (l - 1) W k tl : Int) (esV (tl.take (mnA HT cs ms os kd (l - 1) W k tl))) at0
def mkH (p : Nat) (j : Nat) (x : Int) : Prop := (j = 159 ∧ 0 ≤ x) ∨ (p + 47 ≤ j ∧ j ≤ p + 52) ∨ (j = p ∧ (x = 10 ∨ x = 16 ∨ x = 18))
theorem mkH_L (hp : p = 73 ∨ p = 162) : mkL (mkH p) := fun j x hm => by unfold mkH at hm; omega
/-- the class has looked at what is a host's -/
theorem lk_ho (hp : p = 73 ∨ p = 162) (hw : isWt w t) (hY : cRel S0 p HT cs ms os X mo A Y) (hl : 0 ≤ l ∧ l ≤ 3) (hfo0 : 0 ≤ Y 158 14) (hCL : w_CL Z) {kd9 nms9 wh9 : Int} {e9 : aE} {o9 : wO} (hz : lhQ p (p + 47) (p + 48) (p + 1) w HT cs ms os C2 W2 mo kd9 nms9 (Y 158 14) wh9 e9 (bkZ (Y 158 14) l (w_up Y 160 l (Y 160 l + 1))) o9 Z) : lkF w (Y 158 14) (mkH p) (bkZ (Y 158 14) l (w_up Y 160 l (Y 160 l + 1))) Z ∧ cRel S0 p HT cs ms os X mo (u_Q A (a_H A) C2 W2 l 0) Z := by
  have ww := isWt_w hw
  obtain ⟨z1, z2, z3, z4, z5, z6, z7⟩ := hz
  have hF : lkF w (Y 158 14) (mkH p) (bkZ (Y 158 14) l (w_up Y 160 l (Y 160 l + 1))) Z := ⟨fun j x j0 j1 h1 h2 h3 => z5 j x j0 j1 (by unfold lahM lahC lahA; unfold mkH at h3; omega), z6, z7⟩
  have hg : wG = 1000000 := rfl
  have g : ∀ (j : Nat) (x : Int), (j < 48 ∨ 57 < j) → j ≠ 159 → j ≠ 160 → (j < p ∨ p + 52 < j) → (j ≠ w ∨ x ≠ 16) → j < 1000 → Z j x = Y j x := fun j x q1 q2 q3 q4 q5 q6 => (hF.1 j x (by omega) (by omega) (by omega) q5 (by unfold mkH; omega)).trans (bk_f j x q1 (by omega))
  refine ⟨hF, lk_R hp hw hY rfl hfo0 hl (mkH_L hp) (fun j x hm => by unfold mkH at hm; unfold mLk; omega) (fun x hx hm => by unfold mkH at hm; omega) hF hCL (cSw_ag hY.2.2.1.2.1 (fun j x hj => g j x (by omega) (by omega) (by omega) (by omega) (by omega) (by omega))) z4 ?_⟩
  rw [g 150 4 (by omega) (by omega) (by omega) (by omega) (by omega) (by omega), (cR_u hY).2.2.2.2.1]
  omega

theorem cHo_73_215_1 (h : hyA S0 73 HT cs ms os X fa n B2 215 0 A s kd nms ne ec bh ba ar) (hL9 : stL S0) (hH : stHo S0 73 241 HT nt cs ms os n) (hC9 : stHc S0 73 HT cs ms os) (hX : w_X xs) (hb : a_c A (20 + 1) + 1 ≤ B2) (hwo : a_W A < 10000000) (hgk : ((a_K A 0).1.getD ba (0, 0, [])).1 = 7) (hnm : nm = nms) (hkd : kd = 0 ∨ kd = 1 ∨ kd = 5) (hY : cRel S0 73 HT cs ms os X mo A Y) (ha : cAim 215 s kd ec ba ((a_K A 0).1.getD ba (0, 0, [])).1 nm (esV (ar.map (clO (a_T A)))) Y) : wJ (pe_GA xs) wY0 (mS sML) (d + 90) t_XL_lookAtHost ((pe_at t_XL_lookAtHost.bl 0).getD (0, [])).2 [(0, (2, 158)), (1, (0, (tO (a_T A) ((a_K A 0).1.getD ba (0, 0, [])).2.1).2.2.1)), (2, (0, 0))] [] (bkZ (Y 158 14) 1 (w_up Y 160 1 (Y 160 1 + 1))) (fun o Z => lhQ 73 (73 + 47) (73 + 48) (73 + 1) 215 HT cs ms os (hoC HT cs ms os A mo kd 0 (nmT (a_N A) nms) (tO (a_T A) ((a_K A 0).1.getD ba (0, 0, [])).2.1).2.2.1 (ar.map (clO (a_T A)))).1 (hoC HT cs ms os A mo kd 0 (nmT (a_N A) nms) (tO (a_T A) ((a_K A 0).1.getD ba (0, 0, [])).2.1).2.2.1 (ar.map (clO (a_T A)))).2 mo kd nms (Y 158 14) (whA HT cs ms os kd 0 (nmT (a_N A) nms) (tO (a_T A) ((a_K A 0).1.getD ba (0, 0, [])).2.1).2.2.1 (ar.map (clO (a_T A)))) (hoR9 HT cs ms os (a_c A 11) 1 kd (nmT (a_N A) nms) (tO (a_T A) ((a_K A 0).1.getD ba (0, 0, [])).2.1).2.2.1 (ar.map (clO (a_T A)))) (bkZ (Y 158 14) 1 (w_up Y 160 1 (Y 160 1 + 1))) o Z ∧ w_CL Z) := by
  obtain ⟨⟨v4, v5, v6, v7, v8, v9, v10, v11, v12, v13⟩, v16⟩ := id ha
  have hvo := gv_G h
  have w1 := wf_Q0 (l := 1) h.2.1 (by first | decide | omega) hb
  have c11 : a_c (u_Q A (a_H A) (a_C A) (a_W A) 1 0) 11 = a_c A 11 := cq_n (A := A) (l := 1) (ds := 0) (i := 11) (by first | decide | omega) (by first | decide | omega)
  have h3 := hy_2 h w1 rfl c11
  obtain ⟨⟨hp, hw, hx⟩, hA, hB, ⟨hr, ho⟩, hsi, hme⟩ := id h
  obtain ⟨ix, fl, ow, hE⟩ := hY.2.2.2.2.1
  have hfo : 0 ≤ Y 158 14 ∧ Y 158 14 < Y 48 (-1) := by
    have z1 := hE.2.2.2.1
    have z2 := hE.1.2.2.2
    omega
  obtain ⟨r1, r2, r3⟩ := lk_pl (Z := (bkZ (Y 158 14) 1 (w_up Y 160 1 (Y 160 1 + 1)))) (l := 1) hp hw hY (by first | decide | omega) hfo.1 (fun _ _ _ _ => rfl)
  obtain ⟨ix2, fl2, ow2, hE2⟩ := r3.2.2.2.2.1
  have g : ∀ (j : Nat) (x : Int), (j < 48 ∨ 57 < j) → j ≠ 160 → (bkZ (Y 158 14) 1 (w_up Y 160 1 (Y 160 1 + 1))) j x = Y j x := fun j x h1 h2 => bk_f j x h1 (by omega)
  obtain ⟨hKC, h159⟩ := hkc_c (A := (u_Q A (a_H A) (a_C A) (a_W A) 1 0)) hp hC9 r3
  obtain ⟨h72, o2, o3, hWd, o5, o6, o7⟩ := ho_c (A := (u_Q A (a_H A) (a_C A) (a_W A) 1 0)) hH r3
  have b1 := r2
  have b2 := r3.1.2.1
  have b3 := hE2.1
  have hCh := r3.2.2.2.2.2.2.1.1
  have l4 := (g 158 4 (by omega) (by omega)).trans v4
  have l7 := (g 158 7 (by omega) (by omega)).trans v7
  have l11 := (g 158 11 (by omega) (by omega)).trans v11
  have l13 := (g 158 13 (by omega) (by omega)).trans v13
  have l14 := g 158 14 (by omega) (by omega)
  have h88 := ec_8 hsi.2.1
  have hec := hsi.2.1.2.2.2.1
  have l12 : (bkZ (Y 158 14) 1 (w_up Y 160 1 (Y 160 1 + 1))) 158 12 = ((ar.map (clO (a_T A))).length : Int) := by
    rw [g 158 12 (by omega) (by omega), v12, List.length_map]
    exact hec.symm
  have h80 : (ar.map (clO (a_T A))).length ≤ 8 := by rw [List.length_map]; exact h88.1
  have hes := es_ok hsi.2.1 (vk_of hA hw)
  have htt := cl_t (cs := cs) hA hw hH.2.2.2.1.2.2 hsi.2.1
  have hwH := hH.2.2.2.2.2.2.2.1
  have hfs : 0 ≤ Y 158 14 ∧ Y 158 14 < (bkZ (Y 158 14) 1 (w_up Y 160 1 (Y 160 1 + 1))) 48 (-1) := by
    rw [bk_m hfo.1 (by first | decide | omega)]
    exact hfo
  have hnc := hH.2.2.2.1.2.2
  have hkk : 0 ≤ (tO (a_T A) ((a_K A 0).1.getD ba (0, 0, [])).2.1).2.2.1 ∧ (tO (a_T A) ((a_K A 0).1.getD ba (0, 0, [])).2.1).2.2.1 < (cs.length : Int) := by
    have z1 := (hvo.1.2.2.2.1 hgk).1; have z2 := hvo.2.1 hgk
    omega
  have hsn := hsi.2.2.2.1
  by_cases k0 : kd = 0
  · subst k0
    have hNm := hkl_c (A := (u_Q A (a_H A) (a_C A) (a_W A) 1 0)) h3 hH hC9 r3 hnm l11 (hsn (by omega))
    refine wJ_mono (wJ_cl b1 (by first | decide | omega) (lag_73_215 (d := d + 84) (nms := nms) (l := 1) (at0 := a_c A 11) (am := 0) (tl := []) b1 hKC hwH hX b2 hNm h72 hCh hWd b3 l4 l7 l14 hfs bkZ_b (by first | decide | omega) hkk (by first | decide | omega))) (fun o Z hz => ?_)
    exact hz
  by_cases k1 : kd = 1
  · subst k1
    have hNm := hkl_c (A := (u_Q A (a_H A) (a_C A) (a_W A) 1 0)) h3 hH hC9 r3 hnm l11 (hsn (by omega))
    have h1 : (ar.map (clO (a_T A))).length = 1 := by
      have z := h88.2
      rw [if_pos rfl] at z
      rw [List.length_map]
      omega
    refine wJ_mono (wJ_cl b1 (by first | decide | omega) (las_73_215 (d := d + 84) (nms := nms) (l := 1) (at0 := a_c A 11) (am := 0) b1 hKC hwH hX b2 hNm h72 hCh hWd b3 l4 l7 l12 l13 h80 hes htt hwo h1 l14 hfs bkZ_b (by first | decide | omega) hkk (by first | decide | omega))) (fun o Z hz => ?_)
    have hE9 : (hoR9 HT cs ms os (a_c A 11) 1 1 (nmT (a_N A) nms) (tO (a_T A) ((a_K A 0).1.getD ba (0, 0, [])).2.1).2.2.1 (ar.map (clO (a_T A)))) = (if FA HT cs ms os (tO (a_T A) ((a_K A 0).1.getD ba (0, 0, [])).2.1).2.2.1 0 1 (wnW [115, 101, 116] (nmT (a_N A) nms)) = [] then hoN 1 (tO (a_T A) ((a_K A 0).1.getD ba (0, 0, [])).2.1).2.2.1 (whA HT cs ms os 1 0 (nmT (a_N A) nms) (tO (a_T A) ((a_K A 0).1.getD ba (0, 0, [])).2.1).2.2.1 (ar.map (clO (a_T A)))) 0 0 (a_c A 11) else hoN 1 (tO (a_T A) ((a_K A 0).1.getD ba (0, 0, [])).2.1).2.2.1 (whA HT cs ms os 1 0 (nmT (a_N A) nms) (tO (a_T A) ((a_K A 0).1.getD ba (0, 0, [])).2.1).2.2.1 (ar.map (clO (a_T A)))) 1 (esV (ar.map (clO (a_T A)))) (a_c A 11)) := by
      unfold hoR9
      show hoN 1 (tO (a_T A) ((a_K A 0).1.getD ba (0, 0, [])).2.1).2.2.1 (whA HT cs ms os 1 0 (nmT (a_N A) nms) (tO (a_T A) ((a_K A 0).1.getD ba (0, 0, [])).2.1).2.2.1 (ar.map (clO (a_T A)))) (mnA HT cs ms os 1 0 (nmT (a_N A) nms) (tO (a_T A) ((a_K A 0).1.getD ba (0, 0, [])).2.1).2.2.1 (ar.map (clO (a_T A))) : Int) (esV ((ar.map (clO (a_T A))).take (mnA HT cs ms os 1 0 (nmT (a_N A) nms) (tO (a_T A) ((a_K A 0).1.getD ba (0, 0, [])).2.1).2.2.1 (ar.map (clO (a_T A)))))) (a_c A 11) = _
      by_cases hF : FA HT cs ms os (tO (a_T A) ((a_K A 0).1.getD ba (0, 0, [])).2.1).2.2.1 0 1 (wnW [115, 101, 116] (nmT (a_N A) nms)) = []
      · have hm : mnA HT cs ms os 1 0 (nmT (a_N A) nms) (tO (a_T A) ((a_K A 0).1.getD ba (0, 0, [])).2.1).2.2.1 (ar.map (clO (a_T A))) = 0 := by
          unfold mnA
          rw [if_neg (by first | decide | omega), if_pos rfl, if_pos hF]
        rw [hm, if_pos hF]
        rfl
      · have hm : mnA HT cs ms os 1 0 (nmT (a_N A) nms) (tO (a_T A) ((a_K A 0).1.getD ba (0, 0, [])).2.1).2.2.1 (ar.map (clO (a_T A))) = 1 := by
          unfold mnA
          rw [if_neg (by first | decide | omega), if_pos rfl, if_neg hF]
        rw [hm, if_neg hF, List.take_of_length_le (by omega)]
        rfl
    rw [hE9]
    exact hz
  by_cases k5 : kd = 5
  · subst k5
    have hNm := hkl_c (A := (u_Q A (a_H A) (a_C A) (a_W A) 1 0)) h3 hH hC9 r3 hnm l11 (hsn (by omega))
    refine wJ_mono (wJ_cl b1 (by first | decide | omega) (lam_73_215 (d := d + 84) (nms := nms) (l := 1) (at0 := a_c A 11) (am := 0) b1 hKC hwH hX b2 hNm h72 hCh hWd b3 l4 l7 l12 l13 h80 hes htt hwo l14 hfs bkZ_b (by first | decide | omega) hkk (by first | decide | omega))) (fun o Z hz => ?_)
    have hE9 : (hoR9 HT cs ms os (a_c A 11) 1 5 (nmT (a_N A) nms) (tO (a_T A) ((a_K A 0).1.getD ba (0, 0, [])).2.1).2.2.1 (ar.map (clO (a_T A)))) = hoN 1 (tO (a_T A) ((a_K A 0).1.getD ba (0, 0, [])).2.1).2.2.1 (whA HT cs ms os 5 0 (nmT (a_N A) nms) (tO (a_T A) ((a_K A 0).1.getD ba (0, 0, [])).2.1).2.2.1 (ar.map (clO (a_T A)))) ((ar.map (clO (a_T A))).length : Int) (esV (ar.map (clO (a_T A)))) (a_c A 11) := by
      unfold hoR9
      show hoN 1 (tO (a_T A) ((a_K A 0).1.getD ba (0, 0, [])).2.1).2.2.1 (whA HT cs ms os 5 0 (nmT (a_N A) nms) (tO (a_T A) ((a_K A 0).1.getD ba (0, 0, [])).2.1).2.2.1 (ar.map (clO (a_T A)))) (mnA HT cs ms os 5 0 (nmT (a_N A) nms) (tO (a_T A) ((a_K A 0).1.getD ba (0, 0, [])).2.1).2.2.1 (ar.map (clO (a_T A))) : Int) (esV ((ar.map (clO (a_T A))).take (mnA HT cs ms os 5 0 (nmT (a_N A) nms) (tO (a_T A) ((a_K A 0).1.getD ba (0, 0, [])).2.1).2.2.1 (ar.map (clO (a_T A)))))) (a_c A 11) = _
      have hm : mnA HT cs ms os 5 0 (nmT (a_N A) nms) (tO (a_T A) ((a_K A 0).1.getD ba (0, 0, [])).2.1).2.2.1 (ar.map (clO (a_T A))) = (ar.map (clO (a_T A))).length := by
        unfold mnA
        rw [if_neg (by first | decide | omega), if_neg (by first | decide | omega)]
      rw [hm, List.take_length]
    rw [hE9]
    exact hz
  omega

theorem cHo_73_215_2 (h : hyA S0 73 HT cs ms os X fa n B2 215 0 A s kd nms ne ec bh ba ar) (hL9 : stL S0) (hH : stHo S0 73 241 HT nt cs ms os n) (hC9 : stHc S0 73 HT cs ms os) (hX : w_X xs) (hb : a_c A (20 + 2) + 1 ≤ B2) (hwo : a_W A < 10000000) (hgk : ((a_K A 0).1.getD ba (0, 0, [])).1 = 8) (hnm : nm = nms) (hkd : kd = 0 ∨ kd = 1 ∨ kd = 5 ∨ kd = 6) (hY : cRel S0 73 HT cs ms os X mo A Y) (ha : cAim 215 s kd ec ba ((a_K A 0).1.getD ba (0, 0, [])).1 nm (esV (ar.map (clO (a_T A)))) Y) : wJ (pe_GA xs) wY0 (mS sML) (d + 90) t_XL_lookAtHost ((pe_at t_XL_lookAtHost.bl 0).getD (0, [])).2 [(0, (2, 158)), (1, (0, ((a_K A 0).1.getD ba (0, 0, [])).2.1)), (2, (0, 1))] [] (bkZ (Y 158 14) 2 (w_up Y 160 2 (Y 160 2 + 1))) (fun o Z => lhQ 73 (73 + 47) (73 + 48) (73 + 1) 215 HT cs ms os (hoC HT cs ms os A mo kd 1 (nmT (a_N A) nms) ((a_K A 0).1.getD ba (0, 0, [])).2.1 (ar.map (clO (a_T A)))).1 (hoC HT cs ms os A mo kd 1 (nmT (a_N A) nms) ((a_K A 0).1.getD ba (0, 0, [])).2.1 (ar.map (clO (a_T A)))).2 mo kd nms (Y 158 14) (whA HT cs ms os kd 1 (nmT (a_N A) nms) ((a_K A 0).1.getD ba (0, 0, [])).2.1 (ar.map (clO (a_T A)))) (hoR9 HT cs ms os (a_c A 11) 2 kd (nmT (a_N A) nms) ((a_K A 0).1.getD ba (0, 0, [])).2.1 (ar.map (clO (a_T A)))) (bkZ (Y 158 14) 2 (w_up Y 160 2 (Y 160 2 + 1))) o Z ∧ w_CL Z) := by
  obtain ⟨⟨v4, v5, v6, v7, v8, v9, v10, v11, v12, v13⟩, v16⟩ := id ha
  have hvo := gv_G h
  have w1 := wf_Q0 (l := 2) h.2.1 (by first | decide | omega) hb
  have c11 : a_c (u_Q A (a_H A) (a_C A) (a_W A) 2 0) 11 = a_c A 11 := cq_n (A := A) (l := 2) (ds := 0) (i := 11) (by first | decide | omega) (by first | decide | omega)
  have h3 := hy_2 h w1 rfl c11
  obtain ⟨⟨hp, hw, hx⟩, hA, hB, ⟨hr, ho⟩, hsi, hme⟩ := id h
  obtain ⟨ix, fl, ow, hE⟩ := hY.2.2.2.2.1
  have hfo : 0 ≤ Y 158 14 ∧ Y 158 14 < Y 48 (-1) := by
    have z1 := hE.2.2.2.1
    have z2 := hE.1.2.2.2
    omega
  obtain ⟨r1, r2, r3⟩ := lk_pl (Z := (bkZ (Y 158 14) 2 (w_up Y 160 2 (Y 160 2 + 1)))) (l := 2) hp hw hY (by first | decide | omega) hfo.1 (fun _ _ _ _ => rfl)
  obtain ⟨ix2, fl2, ow2, hE2⟩ := r3.2.2.2.2.1
  have g : ∀ (j : Nat) (x : Int), (j < 48 ∨ 57 < j) → j ≠ 160 → (bkZ (Y 158 14) 2 (w_up Y 160 2 (Y 160 2 + 1))) j x = Y j x := fun j x h1 h2 => bk_f j x h1 (by omega)
  obtain ⟨hKC, h159⟩ := hkc_c (A := (u_Q A (a_H A) (a_C A) (a_W A) 2 0)) hp hC9 r3
  obtain ⟨h72, o2, o3, hWd, o5, o6, o7⟩ := ho_c (A := (u_Q A (a_H A) (a_C A) (a_W A) 2 0)) hH r3
  have b1 := r2
  have b2 := r3.1.2.1
  have b3 := hE2.1
  have hCh := r3.2.2.2.2.2.2.1.1
  have l4 := (g 158 4 (by omega) (by omega)).trans v4
  have l7 := (g 158 7 (by omega) (by omega)).trans v7
  have l11 := (g 158 11 (by omega) (by omega)).trans v11
  have l13 := (g 158 13 (by omega) (by omega)).trans v13
  have l14 := g 158 14 (by omega) (by omega)
  have h88 := ec_8 hsi.2.1
  have hec := hsi.2.1.2.2.2.1
  have l12 : (bkZ (Y 158 14) 2 (w_up Y 160 2 (Y 160 2 + 1))) 158 12 = ((ar.map (clO (a_T A))).length : Int) := by
    rw [g 158 12 (by omega) (by omega), v12, List.length_map]
    exact hec.symm
  have h80 : (ar.map (clO (a_T A))).length ≤ 8 := by rw [List.length_map]; exact h88.1
  have hes := es_ok hsi.2.1 (vk_of hA hw)
  have htt := cl_t (cs := cs) hA hw hH.2.2.2.1.2.2 hsi.2.1
  have hwH := hH.2.2.2.2.2.2.2.1
  have hfs : 0 ≤ Y 158 14 ∧ Y 158 14 < (bkZ (Y 158 14) 2 (w_up Y 160 2 (Y 160 2 + 1))) 48 (-1) := by
    rw [bk_m hfo.1 (by first | decide | omega)]
    exact hfo
  have hnc := hH.2.2.2.1.2.2
  have hkk : 0 ≤ ((a_K A 0).1.getD ba (0, 0, [])).2.1 ∧ ((a_K A 0).1.getD ba (0, 0, [])).2.1 < (cs.length : Int) := by
    have z1 := (hvo.1.2.2.1 hgk).1; have z2 := hvo.2.2.1 hgk
    omega
  have hsn := hsi.2.2.2.1
  by_cases k0 : kd = 0
  · subst k0
    have hNm := hkl_c (A := (u_Q A (a_H A) (a_C A) (a_W A) 2 0)) h3 hH hC9 r3 hnm l11 (hsn (by omega))
    refine wJ_mono (wJ_cl b1 (by first | decide | omega) (lag_73_215 (d := d + 84) (nms := nms) (l := 2) (at0 := a_c A 11) (am := 1) (tl := []) b1 hKC hwH hX b2 hNm h72 hCh hWd b3 l4 l7 l14 hfs bkZ_b (by first | decide | omega) hkk (by first | decide | omega))) (fun o Z hz => ?_)
    exact hz
  by_cases k1 : kd = 1
  · subst k1
    have hNm := hkl_c (A := (u_Q A (a_H A) (a_C A) (a_W A) 2 0)) h3 hH hC9 r3 hnm l11 (hsn (by omega))
    have h1 : (ar.map (clO (a_T A))).length = 1 := by
      have z := h88.2
      rw [if_pos rfl] at z
      rw [List.length_map]
      omega
    refine wJ_mono (wJ_cl b1 (by first | decide | omega) (las_73_215 (d := d + 84) (nms := nms) (l := 2) (at0 := a_c A 11) (am := 1) b1 hKC hwH hX b2 hNm h72 hCh hWd b3 l4 l7 l12 l13 h80 hes htt hwo h1 l14 hfs bkZ_b (by first | decide | omega) hkk (by first | decide | omega))) (fun o Z hz => ?_)
    have hE9 : (hoR9 HT cs ms os (a_c A 11) 2 1 (nmT (a_N A) nms) ((a_K A 0).1.getD ba (0, 0, [])).2.1 (ar.map (clO (a_T A)))) = (if FA HT cs ms os ((a_K A 0).1.getD ba (0, 0, [])).2.1 1 1 (wnW [115, 101, 116] (nmT (a_N A) nms)) = [] then hoN 2 ((a_K A 0).1.getD ba (0, 0, [])).2.1 (whA HT cs ms os 1 1 (nmT (a_N A) nms) ((a_K A 0).1.getD ba (0, 0, [])).2.1 (ar.map (clO (a_T A)))) 0 0 (a_c A 11) else hoN 2 ((a_K A 0).1.getD ba (0, 0, [])).2.1 (whA HT cs ms os 1 1 (nmT (a_N A) nms) ((a_K A 0).1.getD ba (0, 0, [])).2.1 (ar.map (clO (a_T A)))) 1 (esV (ar.map (clO (a_T A)))) (a_c A 11)) := by
      unfold hoR9
      show hoN 2 ((a_K A 0).1.getD ba (0, 0, [])).2.1 (whA HT cs ms os 1 1 (nmT (a_N A) nms) ((a_K A 0).1.getD ba (0, 0, [])).2.1 (ar.map (clO (a_T A)))) (mnA HT cs ms os 1 1 (nmT (a_N A) nms) ((a_K A 0).1.getD ba (0, 0, [])).2.1 (ar.map (clO (a_T A))) : Int) (esV ((ar.map (clO (a_T A))).take (mnA HT cs ms os 1 1 (nmT (a_N A) nms) ((a_K A 0).1.getD ba (0, 0, [])).2.1 (ar.map (clO (a_T A)))))) (a_c A 11) = _
      by_cases hF : FA HT cs ms os ((a_K A 0).1.getD ba (0, 0, [])).2.1 1 1 (wnW [115, 101, 116] (nmT (a_N A) nms)) = []
      · have hm : mnA HT cs ms os 1 1 (nmT (a_N A) nms) ((a_K A 0).1.getD ba (0, 0, [])).2.1 (ar.map (clO (a_T A))) = 0 := by
          unfold mnA
          rw [if_neg (by first | decide | omega), if_pos rfl, if_pos hF]
        rw [hm, if_pos hF]
        rfl
      · have hm : mnA HT cs ms os 1 1 (nmT (a_N A) nms) ((a_K A 0).1.getD ba (0, 0, [])).2.1 (ar.map (clO (a_T A))) = 1 := by
          unfold mnA
          rw [if_neg (by first | decide | omega), if_pos rfl, if_neg hF]
        rw [hm, if_neg hF, List.take_of_length_le (by omega)]
        rfl
    rw [hE9]
    exact hz
  by_cases k5 : kd = 5
  · subst k5
    have hNm := hkl_c (A := (u_Q A (a_H A) (a_C A) (a_W A) 2 0)) h3 hH hC9 r3 hnm l11 (hsn (by omega))
    refine wJ_mono (wJ_cl b1 (by first | decide | omega) (lam_73_215 (d := d + 84) (nms := nms) (l := 2) (at0 := a_c A 11) (am := 1) b1 hKC hwH hX b2 hNm h72 hCh hWd b3 l4 l7 l12 l13 h80 hes htt hwo l14 hfs bkZ_b (by first | decide | omega) hkk (by first | decide | omega))) (fun o Z hz => ?_)
    have hE9 : (hoR9 HT cs ms os (a_c A 11) 2 5 (nmT (a_N A) nms) ((a_K A 0).1.getD ba (0, 0, [])).2.1 (ar.map (clO (a_T A)))) = hoN 2 ((a_K A 0).1.getD ba (0, 0, [])).2.1 (whA HT cs ms os 5 1 (nmT (a_N A) nms) ((a_K A 0).1.getD ba (0, 0, [])).2.1 (ar.map (clO (a_T A)))) ((ar.map (clO (a_T A))).length : Int) (esV (ar.map (clO (a_T A)))) (a_c A 11) := by
      unfold hoR9
      show hoN 2 ((a_K A 0).1.getD ba (0, 0, [])).2.1 (whA HT cs ms os 5 1 (nmT (a_N A) nms) ((a_K A 0).1.getD ba (0, 0, [])).2.1 (ar.map (clO (a_T A)))) (mnA HT cs ms os 5 1 (nmT (a_N A) nms) ((a_K A 0).1.getD ba (0, 0, [])).2.1 (ar.map (clO (a_T A))) : Int) (esV ((ar.map (clO (a_T A))).take (mnA HT cs ms os 5 1 (nmT (a_N A) nms) ((a_K A 0).1.getD ba (0, 0, [])).2.1 (ar.map (clO (a_T A)))))) (a_c A 11) = _
      have hm : mnA HT cs ms os 5 1 (nmT (a_N A) nms) ((a_K A 0).1.getD ba (0, 0, [])).2.1 (ar.map (clO (a_T A))) = (ar.map (clO (a_T A))).length := by
        unfold mnA
        rw [if_neg (by first | decide | omega), if_neg (by first | decide | omega)]
      rw [hm, List.take_length]
    rw [hE9]
    exact hz
  have k6 : kd = 6 := by omega
  subst k6
  refine wJ_mono (wJ_cl b1 (by first | decide | omega) (lan_73_215 (d := d + 84) (nms := nms) (l := 2) (at0 := a_c A 11) (am := 1) (W := []) (nm := 0) (wk := 0) b1 hKC hwH hX b2 h72 hCh hWd b3 l4 l7 l12 l13 h80 hes htt hwo l14 hfs bkZ_b (by first | decide | omega) hkk rfl)) (fun o Z hz => ?_)
  have hE9 : (hoR9 HT cs ms os (a_c A 11) 2 6 (nmT (a_N A) nms) ((a_K A 0).1.getD ba (0, 0, [])).2.1 (ar.map (clO (a_T A)))) = hoN 2 ((a_K A 0).1.getD ba (0, 0, [])).2.1 (whA HT cs ms os 6 1 (nmT (a_N A) nms) ((a_K A 0).1.getD ba (0, 0, [])).2.1 (ar.map (clO (a_T A)))) ((ar.map (clO (a_T A))).length : Int) (esV (ar.map (clO (a_T A)))) (a_c A 11) := by
    unfold hoR9
    show hoN 2 ((a_K A 0).1.getD ba (0, 0, [])).2.1 (whA HT cs ms os 6 1 (nmT (a_N A) nms) ((a_K A 0).1.getD ba (0, 0, [])).2.1 (ar.map (clO (a_T A)))) (mnA HT cs ms os 6 1 (nmT (a_N A) nms) ((a_K A 0).1.getD ba (0, 0, [])).2.1 (ar.map (clO (a_T A))) : Int) (esV ((ar.map (clO (a_T A))).take (mnA HT cs ms os 6 1 (nmT (a_N A) nms) ((a_K A 0).1.getD ba (0, 0, [])).2.1 (ar.map (clO (a_T A)))))) (a_c A 11) = _
    have hm : mnA HT cs ms os 6 1 (nmT (a_N A) nms) ((a_K A 0).1.getD ba (0, 0, [])).2.1 (ar.map (clO (a_T A))) = (ar.map (clO (a_T A))).length := by
      unfold mnA
      rw [if_neg (by first | decide | omega), if_neg (by first | decide | omega)]
    rw [hm, List.take_length]
  rw [hE9]
  exact hz

theorem cHo_73_226_1 (h : hyA S0 73 HT cs ms os X fa n B2 226 1 A s kd nms ne ec bh ba ar) (hL9 : stL S0) (hH : stHo S0 73 241 HT nt cs ms os n) (hC9 : stHc S0 73 HT cs ms os) (hX : w_X xs) (hb : a_c A (20 + 1) + 1 ≤ B2) (hwo : a_W A < 10000000) (hgk : ((a_K A 1).1.getD ba (0, 0, [])).1 = 7) (hnm : nm = nms) (hkd : kd = 0 ∨ kd = 1 ∨ kd = 5) (hY : cRel S0 73 HT cs ms os X mo A Y) (ha : cAim 226 s kd ec ba ((a_K A 1).1.getD ba (0, 0, [])).1 nm (esV (ar.map (clO (a_T A)))) Y) : wJ (pe_GA xs) wY0 (mS sML) (d + 90) t_XL_lookAtHost ((pe_at t_XL_lookAtHost.bl 0).getD (0, [])).2 [(0, (2, 158)), (1, (0, (tO (a_T A) ((a_K A 1).1.getD ba (0, 0, [])).2.1).2.2.1)), (2, (0, 0))] [] (bkZ (Y 158 14) 1 (w_up Y 160 1 (Y 160 1 + 1))) (fun o Z => lhQ 73 (73 + 47) (73 + 48) (73 + 1) 226 HT cs ms os (hoC HT cs ms os A mo kd 0 (nmT (a_N A) nms) (tO (a_T A) ((a_K A 1).1.getD ba (0, 0, [])).2.1).2.2.1 (ar.map (clO (a_T A)))).1 (hoC HT cs ms os A mo kd 0 (nmT (a_N A) nms) (tO (a_T A) ((a_K A 1).1.getD ba (0, 0, [])).2.1).2.2.1 (ar.map (clO (a_T A)))).2 mo kd nms (Y 158 14) (whA HT cs ms os kd 0 (nmT (a_N A) nms) (tO (a_T A) ((a_K A 1).1.getD ba (0, 0, [])).2.1).2.2.1 (ar.map (clO (a_T A)))) (hoR9 HT cs ms os (a_c A 11) 1 kd (nmT (a_N A) nms) (tO (a_T A) ((a_K A 1).1.getD ba (0, 0, [])).2.1).2.2.1 (ar.map (clO (a_T A)))) (bkZ (Y 158 14) 1 (w_up Y 160 1 (Y 160 1 + 1))) o Z ∧ w_CL Z) := by
  obtain ⟨⟨v4, v5, v6, v7, v8, v9, v10, v11, v12, v13⟩, v16⟩ := id ha
  have hvo := gv_G h
  have w1 := wf_Q0 (l := 1) h.2.1 (by first | decide | omega) hb
  have c11 : a_c (u_Q A (a_H A) (a_C A) (a_W A) 1 0) 11 = a_c A 11 := cq_n (A := A) (l := 1) (ds := 0) (i := 11) (by first | decide | omega) (by first | decide | omega)
  have h3 := hy_2 h w1 rfl c11
  obtain ⟨⟨hp, hw, hx⟩, hA, hB, ⟨hr, ho⟩, hsi, hme⟩ := id h
  obtain ⟨ix, fl, ow, hE⟩ := hY.2.2.2.2.1
  have hfo : 0 ≤ Y 158 14 ∧ Y 158 14 < Y 48 (-1) := by
    have z1 := hE.2.2.2.1
    have z2 := hE.1.2.2.2
    omega
  obtain ⟨r1, r2, r3⟩ := lk_pl (Z := (bkZ (Y 158 14) 1 (w_up Y 160 1 (Y 160 1 + 1)))) (l := 1) hp hw hY (by first | decide | omega) hfo.1 (fun _ _ _ _ => rfl)
  obtain ⟨ix2, fl2, ow2, hE2⟩ := r3.2.2.2.2.1
  have g : ∀ (j : Nat) (x : Int), (j < 48 ∨ 57 < j) → j ≠ 160 → (bkZ (Y 158 14) 1 (w_up Y 160 1 (Y 160 1 + 1))) j x = Y j x := fun j x h1 h2 => bk_f j x h1 (by omega)
  obtain ⟨hKC, h159⟩ := hkc_c (A := (u_Q A (a_H A) (a_C A) (a_W A) 1 0)) hp hC9 r3
  obtain ⟨h72, o2, o3, hWd, o5, o6, o7⟩ := ho_c (A := (u_Q A (a_H A) (a_C A) (a_W A) 1 0)) hH r3
  have b1 := r2
  have b2 := r3.1.2.1
  have b3 := hE2.1
  have hCh := r3.2.2.2.2.2.2.1.1
  have l4 := (g 158 4 (by omega) (by omega)).trans v4
  have l7 := (g 158 7 (by omega) (by omega)).trans v7
  have l11 := (g 158 11 (by omega) (by omega)).trans v11
  have l13 := (g 158 13 (by omega) (by omega)).trans v13
  have l14 := g 158 14 (by omega) (by omega)
  have h88 := ec_8 hsi.2.1
  have hec := hsi.2.1.2.2.2.1
  have l12 : (bkZ (Y 158 14) 1 (w_up Y 160 1 (Y 160 1 + 1))) 158 12 = ((ar.map (clO (a_T A))).length : Int) := by
    rw [g 158 12 (by omega) (by omega), v12, List.length_map]
    exact hec.symm
  have h80 : (ar.map (clO (a_T A))).length ≤ 8 := by rw [List.length_map]; exact h88.1
  have hes := es_ok hsi.2.1 (vk_of hA hw)
  have htt := cl_t (cs := cs) hA hw hH.2.2.2.1.2.2 hsi.2.1
  have hwH := hH.2.2.2.2.2.2.2.1
  have hfs : 0 ≤ Y 158 14 ∧ Y 158 14 < (bkZ (Y 158 14) 1 (w_up Y 160 1 (Y 160 1 + 1))) 48 (-1) := by
    rw [bk_m hfo.1 (by first | decide | omega)]
    exact hfo
  have hnc := hH.2.2.2.1.2.2
  have hkk : 0 ≤ (tO (a_T A) ((a_K A 1).1.getD ba (0, 0, [])).2.1).2.2.1 ∧ (tO (a_T A) ((a_K A 1).1.getD ba (0, 0, [])).2.1).2.2.1 < (cs.length : Int) := by
    have z1 := (hvo.1.2.2.2.1 hgk).1; have z2 := hvo.2.1 hgk
    omega
  have hsn := hsi.2.2.2.1
  by_cases k0 : kd = 0
  · subst k0
    have hNm := hkl_c (A := (u_Q A (a_H A) (a_C A) (a_W A) 1 0)) h3 hH hC9 r3 hnm l11 (hsn (by omega))
    refine wJ_mono (wJ_cl b1 (by first | decide | omega) (lag_73_226 (d := d + 84) (nms := nms) (l := 1) (at0 := a_c A 11) (am := 0) (tl := []) b1 hKC hwH hX b2 hNm h72 hCh hWd b3 l4 l7 l14 hfs bkZ_b (by first | decide | omega) hkk (by first | decide | omega))) (fun o Z hz => ?_)
    exact hz
  by_cases k1 : kd = 1
  · subst k1
    have hNm := hkl_c (A := (u_Q A (a_H A) (a_C A) (a_W A) 1 0)) h3 hH hC9 r3 hnm l11 (hsn (by omega))
    have h1 : (ar.map (clO (a_T A))).length = 1 := by
      have z := h88.2
      rw [if_pos rfl] at z
      rw [List.length_map]
      omega
    refine wJ_mono (wJ_cl b1 (by first | decide | omega) (las_73_226 (d := d + 84) (nms := nms) (l := 1) (at0 := a_c A 11) (am := 0) b1 hKC hwH hX b2 hNm h72 hCh hWd b3 l4 l7 l12 l13 h80 hes htt hwo h1 l14 hfs bkZ_b (by first | decide | omega) hkk (by first | decide | omega))) (fun o Z hz => ?_)
    have hE9 : (hoR9 HT cs ms os (a_c A 11) 1 1 (nmT (a_N A) nms) (tO (a_T A) ((a_K A 1).1.getD ba (0, 0, [])).2.1).2.2.1 (ar.map (clO (a_T A)))) = (if FA HT cs ms os (tO (a_T A) ((a_K A 1).1.getD ba (0, 0, [])).2.1).2.2.1 0 1 (wnW [115, 101, 116] (nmT (a_N A) nms)) = [] then hoN 1 (tO (a_T A) ((a_K A 1).1.getD ba (0, 0, [])).2.1).2.2.1 (whA HT cs ms os 1 0 (nmT (a_N A) nms) (tO (a_T A) ((a_K A 1).1.getD ba (0, 0, [])).2.1).2.2.1 (ar.map (clO (a_T A)))) 0 0 (a_c A 11) else hoN 1 (tO (a_T A) ((a_K A 1).1.getD ba (0, 0, [])).2.1).2.2.1 (whA HT cs ms os 1 0 (nmT (a_N A) nms) (tO (a_T A) ((a_K A 1).1.getD ba (0, 0, [])).2.1).2.2.1 (ar.map (clO (a_T A)))) 1 (esV (ar.map (clO (a_T A)))) (a_c A 11)) := by
      unfold hoR9
      show hoN 1 (tO (a_T A) ((a_K A 1).1.getD ba (0, 0, [])).2.1).2.2.1 (whA HT cs ms os 1 0 (nmT (a_N A) nms) (tO (a_T A) ((a_K A 1).1.getD ba (0, 0, [])).2.1).2.2.1 (ar.map (clO (a_T A)))) (mnA HT cs ms os 1 0 (nmT (a_N A) nms) (tO (a_T A) ((a_K A 1).1.getD ba (0, 0, [])).2.1).2.2.1 (ar.map (clO (a_T A))) : Int) (esV ((ar.map (clO (a_T A))).take (mnA HT cs ms os 1 0 (nmT (a_N A) nms) (tO (a_T A) ((a_K A 1).1.getD ba (0, 0, [])).2.1).2.2.1 (ar.map (clO (a_T A)))))) (a_c A 11) = _
      by_cases hF : FA HT cs ms os (tO (a_T A) ((a_K A 1).1.getD ba (0, 0, [])).2.1).2.2.1 0 1 (wnW [115, 101, 116] (nmT (a_N A) nms)) = []
      · have hm : mnA HT cs ms os 1 0 (nmT (a_N A) nms) (tO (a_T A) ((a_K A 1).1.getD ba (0, 0, [])).2.1).2.2.1 (ar.map (clO (a_T A))) = 0 := by
          unfold mnA
          rw [if_neg (by first | decide | omega), if_pos rfl, if_pos hF]
        rw [hm, if_pos hF]
        rfl
      · have hm : mnA HT cs ms os 1 0 (nmT (a_N A) nms) (tO (a_T A) ((a_K A 1).1.getD ba (0, 0, [])).2.1).2.2.1 (ar.map (clO (a_T A))) = 1 := by
          unfold mnA
          rw [if_neg (by first | decide | omega), if_pos rfl, if_neg hF]
        rw [hm, if_neg hF, List.take_of_length_le (by omega)]
        rfl
    rw [hE9]
    exact hz
  by_cases k5 : kd = 5
  · subst k5
    have hNm := hkl_c (A := (u_Q A (a_H A) (a_C A) (a_W A) 1 0)) h3 hH hC9 r3 hnm l11 (hsn (by omega))
    refine wJ_mono (wJ_cl b1 (by first | decide | omega) (lam_73_226 (d := d + 84) (nms := nms) (l := 1) (at0 := a_c A 11) (am := 0) b1 hKC hwH hX b2 hNm h72 hCh hWd b3 l4 l7 l12 l13 h80 hes htt hwo l14 hfs bkZ_b (by first | decide | omega) hkk (by first | decide | omega))) (fun o Z hz => ?_)
    have hE9 : (hoR9 HT cs ms os (a_c A 11) 1 5 (nmT (a_N A) nms) (tO (a_T A) ((a_K A 1).1.getD ba (0, 0, [])).2.1).2.2.1 (ar.map (clO (a_T A)))) = hoN 1 (tO (a_T A) ((a_K A 1).1.getD ba (0, 0, [])).2.1).2.2.1 (whA HT cs ms os 5 0 (nmT (a_N A) nms) (tO (a_T A) ((a_K A 1).1.getD ba (0, 0, [])).2.1).2.2.1 (ar.map (clO (a_T A)))) ((ar.map (clO (a_T A))).length : Int) (esV (ar.map (clO (a_T A)))) (a_c A 11) := by
      unfold hoR9
      show hoN 1 (tO (a_T A) ((a_K A 1).1.getD ba (0, 0, [])).2.1).2.2.1 (whA HT cs ms os 5 0 (nmT (a_N A) nms) (tO (a_T A) ((a_K A 1).1.getD ba (0, 0, [])).2.1).2.2.1 (ar.map (clO (a_T A)))) (mnA HT cs ms os 5 0 (nmT (a_N A) nms) (tO (a_T A) ((a_K A 1).1.getD ba (0, 0, [])).2.1).2.2.1 (ar.map (clO (a_T A))) : Int) (esV ((ar.map (clO (a_T A))).take (mnA HT cs ms os 5 0 (nmT (a_N A) nms) (tO (a_T A) ((a_K A 1).1.getD ba (0, 0, [])).2.1).2.2.1 (ar.map (clO (a_T A)))))) (a_c A 11) = _
      have hm : mnA HT cs ms os 5 0 (nmT (a_N A) nms) (tO (a_T A) ((a_K A 1).1.getD ba (0, 0, [])).2.1).2.2.1 (ar.map (clO (a_T A))) = (ar.map (clO (a_T A))).length := by
        unfold mnA
        rw [if_neg (by first | decide | omega), if_neg (by first | decide | omega)]
      rw [hm, List.take_length]
    rw [hE9]
    exact hz
  omega

theorem cHo_73_226_2 (h : hyA S0 73 HT cs ms os X fa n B2 226 1 A s kd nms ne ec bh ba ar) (hL9 : stL S0) (hH : stHo S0 73 241 HT nt cs ms os n) (hC9 : stHc S0 73 HT cs ms os) (hX : w_X xs) (hb : a_c A (20 + 2) + 1 ≤ B2) (hwo : a_W A < 10000000) (hgk : ((a_K A 1).1.getD ba (0, 0, [])).1 = 8) (hnm : nm = nms) (hkd : kd = 0 ∨ kd = 1 ∨ kd = 5 ∨ kd = 6) (hY : cRel S0 73 HT cs ms os X mo A Y) (ha : cAim 226 s kd ec ba ((a_K A 1).1.getD ba (0, 0, [])).1 nm (esV (ar.map (clO (a_T A)))) Y) : wJ (pe_GA xs) wY0 (mS sML) (d + 90) t_XL_lookAtHost ((pe_at t_XL_lookAtHost.bl 0).getD (0, [])).2 [(0, (2, 158)), (1, (0, ((a_K A 1).1.getD ba (0, 0, [])).2.1)), (2, (0, 1))] [] (bkZ (Y 158 14) 2 (w_up Y 160 2 (Y 160 2 + 1))) (fun o Z => lhQ 73 (73 + 47) (73 + 48) (73 + 1) 226 HT cs ms os (hoC HT cs ms os A mo kd 1 (nmT (a_N A) nms) ((a_K A 1).1.getD ba (0, 0, [])).2.1 (ar.map (clO (a_T A)))).1 (hoC HT cs ms os A mo kd 1 (nmT (a_N A) nms) ((a_K A 1).1.getD ba (0, 0, [])).2.1 (ar.map (clO (a_T A)))).2 mo kd nms (Y 158 14) (whA HT cs ms os kd 1 (nmT (a_N A) nms) ((a_K A 1).1.getD ba (0, 0, [])).2.1 (ar.map (clO (a_T A)))) (hoR9 HT cs ms os (a_c A 11) 2 kd (nmT (a_N A) nms) ((a_K A 1).1.getD ba (0, 0, [])).2.1 (ar.map (clO (a_T A)))) (bkZ (Y 158 14) 2 (w_up Y 160 2 (Y 160 2 + 1))) o Z ∧ w_CL Z) := by
  obtain ⟨⟨v4, v5, v6, v7, v8, v9, v10, v11, v12, v13⟩, v16⟩ := id ha
  have hvo := gv_G h
  have w1 := wf_Q0 (l := 2) h.2.1 (by first | decide | omega) hb
  have c11 : a_c (u_Q A (a_H A) (a_C A) (a_W A) 2 0) 11 = a_c A 11 := cq_n (A := A) (l := 2) (ds := 0) (i := 11) (by first | decide | omega) (by first | decide | omega)
  have h3 := hy_2 h w1 rfl c11
  obtain ⟨⟨hp, hw, hx⟩, hA, hB, ⟨hr, ho⟩, hsi, hme⟩ := id h
  obtain ⟨ix, fl, ow, hE⟩ := hY.2.2.2.2.1
  have hfo : 0 ≤ Y 158 14 ∧ Y 158 14 < Y 48 (-1) := by
    have z1 := hE.2.2.2.1
    have z2 := hE.1.2.2.2
    omega
  obtain ⟨r1, r2, r3⟩ := lk_pl (Z := (bkZ (Y 158 14) 2 (w_up Y 160 2 (Y 160 2 + 1)))) (l := 2) hp hw hY (by first | decide | omega) hfo.1 (fun _ _ _ _ => rfl)
  obtain ⟨ix2, fl2, ow2, hE2⟩ := r3.2.2.2.2.1
  have g : ∀ (j : Nat) (x : Int), (j < 48 ∨ 57 < j) → j ≠ 160 → (bkZ (Y 158 14) 2 (w_up Y 160 2 (Y 160 2 + 1))) j x = Y j x := fun j x h1 h2 => bk_f j x h1 (by omega)
  obtain ⟨hKC, h159⟩ := hkc_c (A := (u_Q A (a_H A) (a_C A) (a_W A) 2 0)) hp hC9 r3
  obtain ⟨h72, o2, o3, hWd, o5, o6, o7⟩ := ho_c (A := (u_Q A (a_H A) (a_C A) (a_W A) 2 0)) hH r3
  have b1 := r2
  have b2 := r3.1.2.1
  have b3 := hE2.1
  have hCh := r3.2.2.2.2.2.2.1.1
  have l4 := (g 158 4 (by omega) (by omega)).trans v4
  have l7 := (g 158 7 (by omega) (by omega)).trans v7
  have l11 := (g 158 11 (by omega) (by omega)).trans v11
  have l13 := (g 158 13 (by omega) (by omega)).trans v13
  have l14 := g 158 14 (by omega) (by omega)
  have h88 := ec_8 hsi.2.1
  have hec := hsi.2.1.2.2.2.1
  have l12 : (bkZ (Y 158 14) 2 (w_up Y 160 2 (Y 160 2 + 1))) 158 12 = ((ar.map (clO (a_T A))).length : Int) := by
    rw [g 158 12 (by omega) (by omega), v12, List.length_map]
    exact hec.symm
  have h80 : (ar.map (clO (a_T A))).length ≤ 8 := by rw [List.length_map]; exact h88.1
  have hes := es_ok hsi.2.1 (vk_of hA hw)
  have htt := cl_t (cs := cs) hA hw hH.2.2.2.1.2.2 hsi.2.1
  have hwH := hH.2.2.2.2.2.2.2.1
  have hfs : 0 ≤ Y 158 14 ∧ Y 158 14 < (bkZ (Y 158 14) 2 (w_up Y 160 2 (Y 160 2 + 1))) 48 (-1) := by
    rw [bk_m hfo.1 (by first | decide | omega)]
    exact hfo
  have hnc := hH.2.2.2.1.2.2
  have hkk : 0 ≤ ((a_K A 1).1.getD ba (0, 0, [])).2.1 ∧ ((a_K A 1).1.getD ba (0, 0, [])).2.1 < (cs.length : Int) := by
    have z1 := (hvo.1.2.2.1 hgk).1; have z2 := hvo.2.2.1 hgk
    omega
  have hsn := hsi.2.2.2.1
  by_cases k0 : kd = 0
  · subst k0
    have hNm := hkl_c (A := (u_Q A (a_H A) (a_C A) (a_W A) 2 0)) h3 hH hC9 r3 hnm l11 (hsn (by omega))
    refine wJ_mono (wJ_cl b1 (by first | decide | omega) (lag_73_226 (d := d + 84) (nms := nms) (l := 2) (at0 := a_c A 11) (am := 1) (tl := []) b1 hKC hwH hX b2 hNm h72 hCh hWd b3 l4 l7 l14 hfs bkZ_b (by first | decide | omega) hkk (by first | decide | omega))) (fun o Z hz => ?_)
    exact hz
  by_cases k1 : kd = 1
  · subst k1
    have hNm := hkl_c (A := (u_Q A (a_H A) (a_C A) (a_W A) 2 0)) h3 hH hC9 r3 hnm l11 (hsn (by omega))
    have h1 : (ar.map (clO (a_T A))).length = 1 := by
      have z := h88.2
      rw [if_pos rfl] at z
      rw [List.length_map]
      omega
    refine wJ_mono (wJ_cl b1 (by first | decide | omega) (las_73_226 (d := d + 84) (nms := nms) (l := 2) (at0 := a_c A 11) (am := 1) b1 hKC hwH hX b2 hNm h72 hCh hWd b3 l4 l7 l12 l13 h80 hes htt hwo h1 l14 hfs bkZ_b (by first | decide | omega) hkk (by first | decide | omega))) (fun o Z hz => ?_)
    have hE9 : (hoR9 HT cs ms os (a_c A 11) 2 1 (nmT (a_N A) nms) ((a_K A 1).1.getD ba (0, 0, [])).2.1 (ar.map (clO (a_T A)))) = (if FA HT cs ms os ((a_K A 1).1.getD ba (0, 0, [])).2.1 1 1 (wnW [115, 101, 116] (nmT (a_N A) nms)) = [] then hoN 2 ((a_K A 1).1.getD ba (0, 0, [])).2.1 (whA HT cs ms os 1 1 (nmT (a_N A) nms) ((a_K A 1).1.getD ba (0, 0, [])).2.1 (ar.map (clO (a_T A)))) 0 0 (a_c A 11) else hoN 2 ((a_K A 1).1.getD ba (0, 0, [])).2.1 (whA HT cs ms os 1 1 (nmT (a_N A) nms) ((a_K A 1).1.getD ba (0, 0, [])).2.1 (ar.map (clO (a_T A)))) 1 (esV (ar.map (clO (a_T A)))) (a_c A 11)) := by
      unfold hoR9
      show hoN 2 ((a_K A 1).1.getD ba (0, 0, [])).2.1 (whA HT cs ms os 1 1 (nmT (a_N A) nms) ((a_K A 1).1.getD ba (0, 0, [])).2.1 (ar.map (clO (a_T A)))) (mnA HT cs ms os 1 1 (nmT (a_N A) nms) ((a_K A 1).1.getD ba (0, 0, [])).2.1 (ar.map (clO (a_T A))) : Int) (esV ((ar.map (clO (a_T A))).take (mnA HT cs ms os 1 1 (nmT (a_N A) nms) ((a_K A 1).1.getD ba (0, 0, [])).2.1 (ar.map (clO (a_T A)))))) (a_c A 11) = _
      by_cases hF : FA HT cs ms os ((a_K A 1).1.getD ba (0, 0, [])).2.1 1 1 (wnW [115, 101, 116] (nmT (a_N A) nms)) = []
      · have hm : mnA HT cs ms os 1 1 (nmT (a_N A) nms) ((a_K A 1).1.getD ba (0, 0, [])).2.1 (ar.map (clO (a_T A))) = 0 := by
          unfold mnA
          rw [if_neg (by first | decide | omega), if_pos rfl, if_pos hF]
        rw [hm, if_pos hF]
        rfl
      · have hm : mnA HT cs ms os 1 1 (nmT (a_N A) nms) ((a_K A 1).1.getD ba (0, 0, [])).2.1 (ar.map (clO (a_T A))) = 1 := by
          unfold mnA
          rw [if_neg (by first | decide | omega), if_pos rfl, if_neg hF]
        rw [hm, if_neg hF, List.take_of_length_le (by omega)]
        rfl
    rw [hE9]
    exact hz
  by_cases k5 : kd = 5
  · subst k5
    have hNm := hkl_c (A := (u_Q A (a_H A) (a_C A) (a_W A) 2 0)) h3 hH hC9 r3 hnm l11 (hsn (by omega))
    refine wJ_mono (wJ_cl b1 (by first | decide | omega) (lam_73_226 (d := d + 84) (nms := nms) (l := 2) (at0 := a_c A 11) (am := 1) b1 hKC hwH hX b2 hNm h72 hCh hWd b3 l4 l7 l12 l13 h80 hes htt hwo l14 hfs bkZ_b (by first | decide | omega) hkk (by first | decide | omega))) (fun o Z hz => ?_)
    have hE9 : (hoR9 HT cs ms os (a_c A 11) 2 5 (nmT (a_N A) nms) ((a_K A 1).1.getD ba (0, 0, [])).2.1 (ar.map (clO (a_T A)))) = hoN 2 ((a_K A 1).1.getD ba (0, 0, [])).2.1 (whA HT cs ms os 5 1 (nmT (a_N A) nms) ((a_K A 1).1.getD ba (0, 0, [])).2.1 (ar.map (clO (a_T A)))) ((ar.map (clO (a_T A))).length : Int) (esV (ar.map (clO (a_T A)))) (a_c A 11) := by
      unfold hoR9
      show hoN 2 ((a_K A 1).1.getD ba (0, 0, [])).2.1 (whA HT cs ms os 5 1 (nmT (a_N A) nms) ((a_K A 1).1.getD ba (0, 0, [])).2.1 (ar.map (clO (a_T A)))) (mnA HT cs ms os 5 1 (nmT (a_N A) nms) ((a_K A 1).1.getD ba (0, 0, [])).2.1 (ar.map (clO (a_T A))) : Int) (esV ((ar.map (clO (a_T A))).take (mnA HT cs ms os 5 1 (nmT (a_N A) nms) ((a_K A 1).1.getD ba (0, 0, [])).2.1 (ar.map (clO (a_T A)))))) (a_c A 11) = _
      have hm : mnA HT cs ms os 5 1 (nmT (a_N A) nms) ((a_K A 1).1.getD ba (0, 0, [])).2.1 (ar.map (clO (a_T A))) = (ar.map (clO (a_T A))).length := by
        unfold mnA
        rw [if_neg (by first | decide | omega), if_neg (by first | decide | omega)]
      rw [hm, List.take_length]
    rw [hE9]
    exact hz
  have k6 : kd = 6 := by omega
  subst k6
  refine wJ_mono (wJ_cl b1 (by first | decide | omega) (lan_73_226 (d := d + 84) (nms := nms) (l := 2) (at0 := a_c A 11) (am := 1) (W := []) (nm := 0) (wk := 0) b1 hKC hwH hX b2 h72 hCh hWd b3 l4 l7 l12 l13 h80 hes htt hwo l14 hfs bkZ_b (by first | decide | omega) hkk rfl)) (fun o Z hz => ?_)
  have hE9 : (hoR9 HT cs ms os (a_c A 11) 2 6 (nmT (a_N A) nms) ((a_K A 1).1.getD ba (0, 0, [])).2.1 (ar.map (clO (a_T A)))) = hoN 2 ((a_K A 1).1.getD ba (0, 0, [])).2.1 (whA HT cs ms os 6 1 (nmT (a_N A) nms) ((a_K A 1).1.getD ba (0, 0, [])).2.1 (ar.map (clO (a_T A)))) ((ar.map (clO (a_T A))).length : Int) (esV (ar.map (clO (a_T A)))) (a_c A 11) := by
    unfold hoR9
    show hoN 2 ((a_K A 1).1.getD ba (0, 0, [])).2.1 (whA HT cs ms os 6 1 (nmT (a_N A) nms) ((a_K A 1).1.getD ba (0, 0, [])).2.1 (ar.map (clO (a_T A)))) (mnA HT cs ms os 6 1 (nmT (a_N A) nms) ((a_K A 1).1.getD ba (0, 0, [])).2.1 (ar.map (clO (a_T A))) : Int) (esV ((ar.map (clO (a_T A))).take (mnA HT cs ms os 6 1 (nmT (a_N A) nms) ((a_K A 1).1.getD ba (0, 0, [])).2.1 (ar.map (clO (a_T A)))))) (a_c A 11) = _
    have hm : mnA HT cs ms os 6 1 (nmT (a_N A) nms) ((a_K A 1).1.getD ba (0, 0, [])).2.1 (ar.map (clO (a_T A))) = (ar.map (clO (a_T A))).length := by
      unfold mnA
      rw [if_neg (by first | decide | omega), if_neg (by first | decide | omega)]
    rw [hm, List.take_length]
  rw [hE9]
  exact hz

theorem cHo_162_215_1 (h : hyA S0 162 HT cs ms os X fa n B2 215 0 A s kd nms ne ec bh ba ar) (hL9 : stL S0) (hH : stHo S0 162 261 HT nt cs ms os n) (hC9 : stHc S0 162 HT cs ms os) (hX : w_X xs) (hb : a_c A (20 + 1) + 1 ≤ B2) (hwo : a_W A < 10000000) (hgk : ((a_K A 0).1.getD ba (0, 0, [])).1 = 7) (hnm : nm = nms) (hkd : kd = 0 ∨ kd = 1 ∨ kd = 5) (hY : cRel S0 162 HT cs ms os X mo A Y) (ha : cAim 215 s kd ec ba ((a_K A 0).1.getD ba (0, 0, [])).1 nm (esV (ar.map (clO (a_T A)))) Y) : wJ (pe_GA xs) wY0 (mS sML) (d + 90) t_XL_lookAtHost ((pe_at t_XL_lookAtHost.bl 0).getD (0, [])).2 [(0, (2, 158)), (1, (0, (tO (a_T A) ((a_K A 0).1.getD ba (0, 0, [])).2.1).2.2.1)), (2, (0, 0))] [] (bkZ (Y 158 14) 1 (w_up Y 160 1 (Y 160 1 + 1))) (fun o Z => lhQ 162 (162 + 47) (162 + 48) (162 + 1) 215 HT cs ms os (hoC HT cs ms os A mo kd 0 (nmT (a_N A) nms) (tO (a_T A) ((a_K A 0).1.getD ba (0, 0, [])).2.1).2.2.1 (ar.map (clO (a_T A)))).1 (hoC HT cs ms os A mo kd 0 (nmT (a_N A) nms) (tO (a_T A) ((a_K A 0).1.getD ba (0, 0, [])).2.1).2.2.1 (ar.map (clO (a_T A)))).2 mo kd nms (Y 158 14) (whA HT cs ms os kd 0 (nmT (a_N A) nms) (tO (a_T A) ((a_K A 0).1.getD ba (0, 0, [])).2.1).2.2.1 (ar.map (clO (a_T A)))) (hoR9 HT cs ms os (a_c A 11) 1 kd (nmT (a_N A) nms) (tO (a_T A) ((a_K A 0).1.getD ba (0, 0, [])).2.1).2.2.1 (ar.map (clO (a_T A)))) (bkZ (Y 158 14) 1 (w_up Y 160 1 (Y 160 1 + 1))) o Z ∧ w_CL Z) := by
  obtain ⟨⟨v4, v5, v6, v7, v8, v9, v10, v11, v12, v13⟩, v16⟩ := id ha
  have hvo := gv_G h
  have w1 := wf_Q0 (l := 1) h.2.1 (by first | decide | omega) hb
  have c11 : a_c (u_Q A (a_H A) (a_C A) (a_W A) 1 0) 11 = a_c A 11 := cq_n (A := A) (l := 1) (ds := 0) (i := 11) (by first | decide | omega) (by first | decide | omega)
  have h3 := hy_2 h w1 rfl c11
  obtain ⟨⟨hp, hw, hx⟩, hA, hB, ⟨hr, ho⟩, hsi, hme⟩ := id h
  obtain ⟨ix, fl, ow, hE⟩ := hY.2.2.2.2.1
  have hfo : 0 ≤ Y 158 14 ∧ Y 158 14 < Y 48 (-1) := by
    have z1 := hE.2.2.2.1
    have z2 := hE.1.2.2.2
    omega
  obtain ⟨r1, r2, r3⟩ := lk_pl (Z := (bkZ (Y 158 14) 1 (w_up Y 160 1 (Y 160 1 + 1)))) (l := 1) hp hw hY (by first | decide | omega) hfo.1 (fun _ _ _ _ => rfl)
  obtain ⟨ix2, fl2, ow2, hE2⟩ := r3.2.2.2.2.1
  have g : ∀ (j : Nat) (x : Int), (j < 48 ∨ 57 < j) → j ≠ 160 → (bkZ (Y 158 14) 1 (w_up Y 160 1 (Y 160 1 + 1))) j x = Y j x := fun j x h1 h2 => bk_f j x h1 (by omega)
  obtain ⟨hKC, h159⟩ := hkc_c (A := (u_Q A (a_H A) (a_C A) (a_W A) 1 0)) hp hC9 r3
  obtain ⟨h72, o2, o3, hWd, o5, o6, o7⟩ := ho_c (A := (u_Q A (a_H A) (a_C A) (a_W A) 1 0)) hH r3
  have b1 := r2
  have b2 := r3.1.2.1
  have b3 := hE2.1
  have hCh := r3.2.2.2.2.2.2.1.1
  have l4 := (g 158 4 (by omega) (by omega)).trans v4
  have l7 := (g 158 7 (by omega) (by omega)).trans v7
  have l11 := (g 158 11 (by omega) (by omega)).trans v11
  have l13 := (g 158 13 (by omega) (by omega)).trans v13
  have l14 := g 158 14 (by omega) (by omega)
  have h88 := ec_8 hsi.2.1
  have hec := hsi.2.1.2.2.2.1
  have l12 : (bkZ (Y 158 14) 1 (w_up Y 160 1 (Y 160 1 + 1))) 158 12 = ((ar.map (clO (a_T A))).length : Int) := by
    rw [g 158 12 (by omega) (by omega), v12, List.length_map]
    exact hec.symm
  have h80 : (ar.map (clO (a_T A))).length ≤ 8 := by rw [List.length_map]; exact h88.1
  have hes := es_ok hsi.2.1 (vk_of hA hw)
  have htt := cl_t (cs := cs) hA hw hH.2.2.2.1.2.2 hsi.2.1
  have hwH := hH.2.2.2.2.2.2.2.1
  have hfs : 0 ≤ Y 158 14 ∧ Y 158 14 < (bkZ (Y 158 14) 1 (w_up Y 160 1 (Y 160 1 + 1))) 48 (-1) := by
    rw [bk_m hfo.1 (by first | decide | omega)]
    exact hfo
  have hnc := hH.2.2.2.1.2.2
  have hkk : 0 ≤ (tO (a_T A) ((a_K A 0).1.getD ba (0, 0, [])).2.1).2.2.1 ∧ (tO (a_T A) ((a_K A 0).1.getD ba (0, 0, [])).2.1).2.2.1 < (cs.length : Int) := by
    have z1 := (hvo.1.2.2.2.1 hgk).1; have z2 := hvo.2.1 hgk
    omega
  have hsn := hsi.2.2.2.1
  by_cases k0 : kd = 0
  · subst k0
    have hNm := hkl_c (A := (u_Q A (a_H A) (a_C A) (a_W A) 1 0)) h3 hH hC9 r3 hnm l11 (hsn (by omega))
    refine wJ_mono (wJ_cl b1 (by first | decide | omega) (lag_162_215 (d := d + 84) (nms := nms) (l := 1) (at0 := a_c A 11) (am := 0) (tl := []) b1 hKC hwH hX b2 hNm h72 hCh hWd b3 l4 l7 l14 hfs bkZ_b (by first | decide | omega) hkk (by first | decide | omega))) (fun o Z hz => ?_)
    exact hz
  by_cases k1 : kd = 1
  · subst k1
    have hNm := hkl_c (A := (u_Q A (a_H A) (a_C A) (a_W A) 1 0)) h3 hH hC9 r3 hnm l11 (hsn (by omega))
    have h1 : (ar.map (clO (a_T A))).length = 1 := by
      have z := h88.2
      rw [if_pos rfl] at z
      rw [List.length_map]
      omega
    refine wJ_mono (wJ_cl b1 (by first | decide | omega) (las_162_215 (d := d + 84) (nms := nms) (l := 1) (at0 := a_c A 11) (am := 0) b1 hKC hwH hX b2 hNm h72 hCh hWd b3 l4 l7 l12 l13 h80 hes htt hwo h1 l14 hfs bkZ_b (by first | decide | omega) hkk (by first | decide | omega))) (fun o Z hz => ?_)
    have hE9 : (hoR9 HT cs ms os (a_c A 11) 1 1 (nmT (a_N A) nms) (tO (a_T A) ((a_K A 0).1.getD ba (0, 0, [])).2.1).2.2.1 (ar.map (clO (a_T A)))) = (if FA HT cs ms os (tO (a_T A) ((a_K A 0).1.getD ba (0, 0, [])).2.1).2.2.1 0 1 (wnW [115, 101, 116] (nmT (a_N A) nms)) = [] then hoN 1 (tO (a_T A) ((a_K A 0).1.getD ba (0, 0, [])).2.1).2.2.1 (whA HT cs ms os 1 0 (nmT (a_N A) nms) (tO (a_T A) ((a_K A 0).1.getD ba (0, 0, [])).2.1).2.2.1 (ar.map (clO (a_T A)))) 0 0 (a_c A 11) else hoN 1 (tO (a_T A) ((a_K A 0).1.getD ba (0, 0, [])).2.1).2.2.1 (whA HT cs ms os 1 0 (nmT (a_N A) nms) (tO (a_T A) ((a_K A 0).1.getD ba (0, 0, [])).2.1).2.2.1 (ar.map (clO (a_T A)))) 1 (esV (ar.map (clO (a_T A)))) (a_c A 11)) := by
      unfold hoR9
      show hoN 1 (tO (a_T A) ((a_K A 0).1.getD ba (0, 0, [])).2.1).2.2.1 (whA HT cs ms os 1 0 (nmT (a_N A) nms) (tO (a_T A) ((a_K A 0).1.getD ba (0, 0, [])).2.1).2.2.1 (ar.map (clO (a_T A)))) (mnA HT cs ms os 1 0 (nmT (a_N A) nms) (tO (a_T A) ((a_K A 0).1.getD ba (0, 0, [])).2.1).2.2.1 (ar.map (clO (a_T A))) : Int) (esV ((ar.map (clO (a_T A))).take (mnA HT cs ms os 1 0 (nmT (a_N A) nms) (tO (a_T A) ((a_K A 0).1.getD ba (0, 0, [])).2.1).2.2.1 (ar.map (clO (a_T A)))))) (a_c A 11) = _
      by_cases hF : FA HT cs ms os (tO (a_T A) ((a_K A 0).1.getD ba (0, 0, [])).2.1).2.2.1 0 1 (wnW [115, 101, 116] (nmT (a_N A) nms)) = []
      · have hm : mnA HT cs ms os 1 0 (nmT (a_N A) nms) (tO (a_T A) ((a_K A 0).1.getD ba (0, 0, [])).2.1).2.2.1 (ar.map (clO (a_T A))) = 0 := by
          unfold mnA
          rw [if_neg (by first | decide | omega), if_pos rfl, if_pos hF]
        rw [hm, if_pos hF]
        rfl
      · have hm : mnA HT cs ms os 1 0 (nmT (a_N A) nms) (tO (a_T A) ((a_K A 0).1.getD ba (0, 0, [])).2.1).2.2.1 (ar.map (clO (a_T A))) = 1 := by
          unfold mnA
          rw [if_neg (by first | decide | omega), if_pos rfl, if_neg hF]
        rw [hm, if_neg hF, List.take_of_length_le (by omega)]
        rfl
    rw [hE9]
    exact hz
  by_cases k5 : kd = 5
  · subst k5
    have hNm := hkl_c (A := (u_Q A (a_H A) (a_C A) (a_W A) 1 0)) h3 hH hC9 r3 hnm l11 (hsn (by omega))
    refine wJ_mono (wJ_cl b1 (by first | decide | omega) (lam_162_215 (d := d + 84) (nms := nms) (l := 1) (at0 := a_c A 11) (am := 0) b1 hKC hwH hX b2 hNm h72 hCh hWd b3 l4 l7 l12 l13 h80 hes htt hwo l14 hfs bkZ_b (by first | decide | omega) hkk (by first | decide | omega))) (fun o Z hz => ?_)
    have hE9 : (hoR9 HT cs ms os (a_c A 11) 1 5 (nmT (a_N A) nms) (tO (a_T A) ((a_K A 0).1.getD ba (0, 0, [])).2.1).2.2.1 (ar.map (clO (a_T A)))) = hoN 1 (tO (a_T A) ((a_K A 0).1.getD ba (0, 0, [])).2.1).2.2.1 (whA HT cs ms os 5 0 (nmT (a_N A) nms) (tO (a_T A) ((a_K A 0).1.getD ba (0, 0, [])).2.1).2.2.1 (ar.map (clO (a_T A)))) ((ar.map (clO (a_T A))).length : Int) (esV (ar.map (clO (a_T A)))) (a_c A 11) := by
      unfold hoR9
      show hoN 1 (tO (a_T A) ((a_K A 0).1.getD ba (0, 0, [])).2.1).2.2.1 (whA HT cs ms os 5 0 (nmT (a_N A) nms) (tO (a_T A) ((a_K A 0).1.getD ba (0, 0, [])).2.1).2.2.1 (ar.map (clO (a_T A)))) (mnA HT cs ms os 5 0 (nmT (a_N A) nms) (tO (a_T A) ((a_K A 0).1.getD ba (0, 0, [])).2.1).2.2.1 (ar.map (clO (a_T A))) : Int) (esV ((ar.map (clO (a_T A))).take (mnA HT cs ms os 5 0 (nmT (a_N A) nms) (tO (a_T A) ((a_K A 0).1.getD ba (0, 0, [])).2.1).2.2.1 (ar.map (clO (a_T A)))))) (a_c A 11) = _
      have hm : mnA HT cs ms os 5 0 (nmT (a_N A) nms) (tO (a_T A) ((a_K A 0).1.getD ba (0, 0, [])).2.1).2.2.1 (ar.map (clO (a_T A))) = (ar.map (clO (a_T A))).length := by
        unfold mnA
        rw [if_neg (by first | decide | omega), if_neg (by first | decide | omega)]
      rw [hm, List.take_length]
    rw [hE9]
    exact hz
  omega

theorem cHo_162_215_2 (h : hyA S0 162 HT cs ms os X fa n B2 215 0 A s kd nms ne ec bh ba ar) (hL9 : stL S0) (hH : stHo S0 162 261 HT nt cs ms os n) (hC9 : stHc S0 162 HT cs ms os) (hX : w_X xs) (hb : a_c A (20 + 2) + 1 ≤ B2) (hwo : a_W A < 10000000) (hgk : ((a_K A 0).1.getD ba (0, 0, [])).1 = 8) (hnm : nm = nms) (hkd : kd = 0 ∨ kd = 1 ∨ kd = 5 ∨ kd = 6) (hY : cRel S0 162 HT cs ms os X mo A Y) (ha : cAim 215 s kd ec ba ((a_K A 0).1.getD ba (0, 0, [])).1 nm (esV (ar.map (clO (a_T A)))) Y) : wJ (pe_GA xs) wY0 (mS sML) (d + 90) t_XL_lookAtHost ((pe_at t_XL_lookAtHost.bl 0).getD (0, [])).2 [(0, (2, 158)), (1, (0, ((a_K A 0).1.getD ba (0, 0, [])).2.1)), (2, (0, 1))] [] (bkZ (Y 158 14) 2 (w_up Y 160 2 (Y 160 2 + 1))) (fun o Z => lhQ 162 (162 + 47) (162 + 48) (162 + 1) 215 HT cs ms os (hoC HT cs ms os A mo kd 1 (nmT (a_N A) nms) ((a_K A 0).1.getD ba (0, 0, [])).2.1 (ar.map (clO (a_T A)))).1 (hoC HT cs ms os A mo kd 1 (nmT (a_N A) nms) ((a_K A 0).1.getD ba (0, 0, [])).2.1 (ar.map (clO (a_T A)))).2 mo kd nms (Y 158 14) (whA HT cs ms os kd 1 (nmT (a_N A) nms) ((a_K A 0).1.getD ba (0, 0, [])).2.1 (ar.map (clO (a_T A)))) (hoR9 HT cs ms os (a_c A 11) 2 kd (nmT (a_N A) nms) ((a_K A 0).1.getD ba (0, 0, [])).2.1 (ar.map (clO (a_T A)))) (bkZ (Y 158 14) 2 (w_up Y 160 2 (Y 160 2 + 1))) o Z ∧ w_CL Z) := by
  obtain ⟨⟨v4, v5, v6, v7, v8, v9, v10, v11, v12, v13⟩, v16⟩ := id ha
  have hvo := gv_G h
  have w1 := wf_Q0 (l := 2) h.2.1 (by first | decide | omega) hb
  have c11 : a_c (u_Q A (a_H A) (a_C A) (a_W A) 2 0) 11 = a_c A 11 := cq_n (A := A) (l := 2) (ds := 0) (i := 11) (by first | decide | omega) (by first | decide | omega)
  have h3 := hy_2 h w1 rfl c11
  obtain ⟨⟨hp, hw, hx⟩, hA, hB, ⟨hr, ho⟩, hsi, hme⟩ := id h
  obtain ⟨ix, fl, ow, hE⟩ := hY.2.2.2.2.1
  have hfo : 0 ≤ Y 158 14 ∧ Y 158 14 < Y 48 (-1) := by
    have z1 := hE.2.2.2.1
    have z2 := hE.1.2.2.2
    omega
  obtain ⟨r1, r2, r3⟩ := lk_pl (Z := (bkZ (Y 158 14) 2 (w_up Y 160 2 (Y 160 2 + 1)))) (l := 2) hp hw hY (by first | decide | omega) hfo.1 (fun _ _ _ _ => rfl)
  obtain ⟨ix2, fl2, ow2, hE2⟩ := r3.2.2.2.2.1
  have g : ∀ (j : Nat) (x : Int), (j < 48 ∨ 57 < j) → j ≠ 160 → (bkZ (Y 158 14) 2 (w_up Y 160 2 (Y 160 2 + 1))) j x = Y j x := fun j x h1 h2 => bk_f j x h1 (by omega)
  obtain ⟨hKC, h159⟩ := hkc_c (A := (u_Q A (a_H A) (a_C A) (a_W A) 2 0)) hp hC9 r3
  obtain ⟨h72, o2, o3, hWd, o5, o6, o7⟩ := ho_c (A := (u_Q A (a_H A) (a_C A) (a_W A) 2 0)) hH r3
  have b1 := r2
  have b2 := r3.1.2.1
  have b3 := hE2.1
  have hCh := r3.2.2.2.2.2.2.1.1
  have l4 := (g 158 4 (by omega) (by omega)).trans v4
  have l7 := (g 158 7 (by omega) (by omega)).trans v7
  have l11 := (g 158 11 (by omega) (by omega)).trans v11
  have l13 := (g 158 13 (by omega) (by omega)).trans v13
  have l14 := g 158 14 (by omega) (by omega)
  have h88 := ec_8 hsi.2.1
  have hec := hsi.2.1.2.2.2.1
  have l12 : (bkZ (Y 158 14) 2 (w_up Y 160 2 (Y 160 2 + 1))) 158 12 = ((ar.map (clO (a_T A))).length : Int) := by
    rw [g 158 12 (by omega) (by omega), v12, List.length_map]
    exact hec.symm
  have h80 : (ar.map (clO (a_T A))).length ≤ 8 := by rw [List.length_map]; exact h88.1
  have hes := es_ok hsi.2.1 (vk_of hA hw)
  have htt := cl_t (cs := cs) hA hw hH.2.2.2.1.2.2 hsi.2.1
  have hwH := hH.2.2.2.2.2.2.2.1
  have hfs : 0 ≤ Y 158 14 ∧ Y 158 14 < (bkZ (Y 158 14) 2 (w_up Y 160 2 (Y 160 2 + 1))) 48 (-1) := by
    rw [bk_m hfo.1 (by first | decide | omega)]
    exact hfo
  have hnc := hH.2.2.2.1.2.2
  have hkk : 0 ≤ ((a_K A 0).1.getD ba (0, 0, [])).2.1 ∧ ((a_K A 0).1.getD ba (0, 0, [])).2.1 < (cs.length : Int) := by
    have z1 := (hvo.1.2.2.1 hgk).1; have z2 := hvo.2.2.1 hgk
    omega
  have hsn := hsi.2.2.2.1
  by_cases k0 : kd = 0
  · subst k0
    have hNm := hkl_c (A := (u_Q A (a_H A) (a_C A) (a_W A) 2 0)) h3 hH hC9 r3 hnm l11 (hsn (by omega))
    refine wJ_mono (wJ_cl b1 (by first | decide | omega) (lag_162_215 (d := d + 84) (nms := nms) (l := 2) (at0 := a_c A 11) (am := 1) (tl := []) b1 hKC hwH hX b2 hNm h72 hCh hWd b3 l4 l7 l14 hfs bkZ_b (by first | decide | omega) hkk (by first | decide | omega))) (fun o Z hz => ?_)
    exact hz
  by_cases k1 : kd = 1
  · subst k1
    have hNm := hkl_c (A := (u_Q A (a_H A) (a_C A) (a_W A) 2 0)) h3 hH hC9 r3 hnm l11 (hsn (by omega))
    have h1 : (ar.map (clO (a_T A))).length = 1 := by
      have z := h88.2
      rw [if_pos rfl] at z
      rw [List.length_map]
      omega
    refine wJ_mono (wJ_cl b1 (by first | decide | omega) (las_162_215 (d := d + 84) (nms := nms) (l := 2) (at0 := a_c A 11) (am := 1) b1 hKC hwH hX b2 hNm h72 hCh hWd b3 l4 l7 l12 l13 h80 hes htt hwo h1 l14 hfs bkZ_b (by first | decide | omega) hkk (by first | decide | omega))) (fun o Z hz => ?_)
    have hE9 : (hoR9 HT cs ms os (a_c A 11) 2 1 (nmT (a_N A) nms) ((a_K A 0).1.getD ba (0, 0, [])).2.1 (ar.map (clO (a_T A)))) = (if FA HT cs ms os ((a_K A 0).1.getD ba (0, 0, [])).2.1 1 1 (wnW [115, 101, 116] (nmT (a_N A) nms)) = [] then hoN 2 ((a_K A 0).1.getD ba (0, 0, [])).2.1 (whA HT cs ms os 1 1 (nmT (a_N A) nms) ((a_K A 0).1.getD ba (0, 0, [])).2.1 (ar.map (clO (a_T A)))) 0 0 (a_c A 11) else hoN 2 ((a_K A 0).1.getD ba (0, 0, [])).2.1 (whA HT cs ms os 1 1 (nmT (a_N A) nms) ((a_K A 0).1.getD ba (0, 0, [])).2.1 (ar.map (clO (a_T A)))) 1 (esV (ar.map (clO (a_T A)))) (a_c A 11)) := by
      unfold hoR9
      show hoN 2 ((a_K A 0).1.getD ba (0, 0, [])).2.1 (whA HT cs ms os 1 1 (nmT (a_N A) nms) ((a_K A 0).1.getD ba (0, 0, [])).2.1 (ar.map (clO (a_T A)))) (mnA HT cs ms os 1 1 (nmT (a_N A) nms) ((a_K A 0).1.getD ba (0, 0, [])).2.1 (ar.map (clO (a_T A))) : Int) (esV ((ar.map (clO (a_T A))).take (mnA HT cs ms os 1 1 (nmT (a_N A) nms) ((a_K A 0).1.getD ba (0, 0, [])).2.1 (ar.map (clO (a_T A)))))) (a_c A 11) = _
      by_cases hF : FA HT cs ms os ((a_K A 0).1.getD ba (0, 0, [])).2.1 1 1 (wnW [115, 101, 116] (nmT (a_N A) nms)) = []
      · have hm : mnA HT cs ms os 1 1 (nmT (a_N A) nms) ((a_K A 0).1.getD ba (0, 0, [])).2.1 (ar.map (clO (a_T A))) = 0 := by
          unfold mnA
          rw [if_neg (by first | decide | omega), if_pos rfl, if_pos hF]
        rw [hm, if_pos hF]
        rfl
      · have hm : mnA HT cs ms os 1 1 (nmT (a_N A) nms) ((a_K A 0).1.getD ba (0, 0, [])).2.1 (ar.map (clO (a_T A))) = 1 := by
          unfold mnA
          rw [if_neg (by first | decide | omega), if_pos rfl, if_neg hF]
        rw [hm, if_neg hF, List.take_of_length_le (by omega)]
        rfl
    rw [hE9]
    exact hz
  by_cases k5 : kd = 5
  · subst k5
    have hNm := hkl_c (A := (u_Q A (a_H A) (a_C A) (a_W A) 2 0)) h3 hH hC9 r3 hnm l11 (hsn (by omega))
    refine wJ_mono (wJ_cl b1 (by first | decide | omega) (lam_162_215 (d := d + 84) (nms := nms) (l := 2) (at0 := a_c A 11) (am := 1) b1 hKC hwH hX b2 hNm h72 hCh hWd b3 l4 l7 l12 l13 h80 hes htt hwo l14 hfs bkZ_b (by first | decide | omega) hkk (by first | decide | omega))) (fun o Z hz => ?_)
    have hE9 : (hoR9 HT cs ms os (a_c A 11) 2 5 (nmT (a_N A) nms) ((a_K A 0).1.getD ba (0, 0, [])).2.1 (ar.map (clO (a_T A)))) = hoN 2 ((a_K A 0).1.getD ba (0, 0, [])).2.1 (whA HT cs ms os 5 1 (nmT (a_N A) nms) ((a_K A 0).1.getD ba (0, 0, [])).2.1 (ar.map (clO (a_T A)))) ((ar.map (clO (a_T A))).length : Int) (esV (ar.map (clO (a_T A)))) (a_c A 11) := by
      unfold hoR9
      show hoN 2 ((a_K A 0).1.getD ba (0, 0, [])).2.1 (whA HT cs ms os 5 1 (nmT (a_N A) nms) ((a_K A 0).1.getD ba (0, 0, [])).2.1 (ar.map (clO (a_T A)))) (mnA HT cs ms os 5 1 (nmT (a_N A) nms) ((a_K A 0).1.getD ba (0, 0, [])).2.1 (ar.map (clO (a_T A))) : Int) (esV ((ar.map (clO (a_T A))).take (mnA HT cs ms os 5 1 (nmT (a_N A) nms) ((a_K A 0).1.getD ba (0, 0, [])).2.1 (ar.map (clO (a_T A)))))) (a_c A 11) = _
      have hm : mnA HT cs ms os 5 1 (nmT (a_N A) nms) ((a_K A 0).1.getD ba (0, 0, [])).2.1 (ar.map (clO (a_T A))) = (ar.map (clO (a_T A))).length := by
        unfold mnA
        rw [if_neg (by first | decide | omega), if_neg (by first | decide | omega)]
      rw [hm, List.take_length]
    rw [hE9]
    exact hz
  have k6 : kd = 6 := by omega
  subst k6
  refine wJ_mono (wJ_cl b1 (by first | decide | omega) (lan_162_215 (d := d + 84) (nms := nms) (l := 2) (at0 := a_c A 11) (am := 1) (W := []) (nm := 0) (wk := 0) b1 hKC hwH hX b2 h72 hCh hWd b3 l4 l7 l12 l13 h80 hes htt hwo l14 hfs bkZ_b (by first | decide | omega) hkk rfl)) (fun o Z hz => ?_)
  have hE9 : (hoR9 HT cs ms os (a_c A 11) 2 6 (nmT (a_N A) nms) ((a_K A 0).1.getD ba (0, 0, [])).2.1 (ar.map (clO (a_T A)))) = hoN 2 ((a_K A 0).1.getD ba (0, 0, [])).2.1 (whA HT cs ms os 6 1 (nmT (a_N A) nms) ((a_K A 0).1.getD ba (0, 0, [])).2.1 (ar.map (clO (a_T A)))) ((ar.map (clO (a_T A))).length : Int) (esV (ar.map (clO (a_T A)))) (a_c A 11) := by
    unfold hoR9
    show hoN 2 ((a_K A 0).1.getD ba (0, 0, [])).2.1 (whA HT cs ms os 6 1 (nmT (a_N A) nms) ((a_K A 0).1.getD ba (0, 0, [])).2.1 (ar.map (clO (a_T A)))) (mnA HT cs ms os 6 1 (nmT (a_N A) nms) ((a_K A 0).1.getD ba (0, 0, [])).2.1 (ar.map (clO (a_T A))) : Int) (esV ((ar.map (clO (a_T A))).take (mnA HT cs ms os 6 1 (nmT (a_N A) nms) ((a_K A 0).1.getD ba (0, 0, [])).2.1 (ar.map (clO (a_T A)))))) (a_c A 11) = _
    have hm : mnA HT cs ms os 6 1 (nmT (a_N A) nms) ((a_K A 0).1.getD ba (0, 0, [])).2.1 (ar.map (clO (a_T A))) = (ar.map (clO (a_T A))).length := by
      unfold mnA
      rw [if_neg (by first | decide | omega), if_neg (by first | decide | omega)]
    rw [hm, List.take_length]
  rw [hE9]
  exact hz

theorem cHo_162_226_1 (h : hyA S0 162 HT cs ms os X fa n B2 226 1 A s kd nms ne ec bh ba ar) (hL9 : stL S0) (hH : stHo S0 162 261 HT nt cs ms os n) (hC9 : stHc S0 162 HT cs ms os) (hX : w_X xs) (hb : a_c A (20 + 1) + 1 ≤ B2) (hwo : a_W A < 10000000) (hgk : ((a_K A 1).1.getD ba (0, 0, [])).1 = 7) (hnm : nm = nms) (hkd : kd = 0 ∨ kd = 1 ∨ kd = 5) (hY : cRel S0 162 HT cs ms os X mo A Y) (ha : cAim 226 s kd ec ba ((a_K A 1).1.getD ba (0, 0, [])).1 nm (esV (ar.map (clO (a_T A)))) Y) : wJ (pe_GA xs) wY0 (mS sML) (d + 90) t_XL_lookAtHost ((pe_at t_XL_lookAtHost.bl 0).getD (0, [])).2 [(0, (2, 158)), (1, (0, (tO (a_T A) ((a_K A 1).1.getD ba (0, 0, [])).2.1).2.2.1)), (2, (0, 0))] [] (bkZ (Y 158 14) 1 (w_up Y 160 1 (Y 160 1 + 1))) (fun o Z => lhQ 162 (162 + 47) (162 + 48) (162 + 1) 226 HT cs ms os (hoC HT cs ms os A mo kd 0 (nmT (a_N A) nms) (tO (a_T A) ((a_K A 1).1.getD ba (0, 0, [])).2.1).2.2.1 (ar.map (clO (a_T A)))).1 (hoC HT cs ms os A mo kd 0 (nmT (a_N A) nms) (tO (a_T A) ((a_K A 1).1.getD ba (0, 0, [])).2.1).2.2.1 (ar.map (clO (a_T A)))).2 mo kd nms (Y 158 14) (whA HT cs ms os kd 0 (nmT (a_N A) nms) (tO (a_T A) ((a_K A 1).1.getD ba (0, 0, [])).2.1).2.2.1 (ar.map (clO (a_T A)))) (hoR9 HT cs ms os (a_c A 11) 1 kd (nmT (a_N A) nms) (tO (a_T A) ((a_K A 1).1.getD ba (0, 0, [])).2.1).2.2.1 (ar.map (clO (a_T A)))) (bkZ (Y 158 14) 1 (w_up Y 160 1 (Y 160 1 + 1))) o Z ∧ w_CL Z) := by
  obtain ⟨⟨v4, v5, v6, v7, v8, v9, v10, v11, v12, v13⟩, v16⟩ := id ha
  have hvo := gv_G h
  have w1 := wf_Q0 (l := 1) h.2.1 (by first | decide | omega) hb
  have c11 : a_c (u_Q A (a_H A) (a_C A) (a_W A) 1 0) 11 = a_c A 11 := cq_n (A := A) (l := 1) (ds := 0) (i := 11) (by first | decide | omega) (by first | decide | omega)
  have h3 := hy_2 h w1 rfl c11
  obtain ⟨⟨hp, hw, hx⟩, hA, hB, ⟨hr, ho⟩, hsi, hme⟩ := id h
  obtain ⟨ix, fl, ow, hE⟩ := hY.2.2.2.2.1
  have hfo : 0 ≤ Y 158 14 ∧ Y 158 14 < Y 48 (-1) := by
    have z1 := hE.2.2.2.1
    have z2 := hE.1.2.2.2
    omega
  obtain ⟨r1, r2, r3⟩ := lk_pl (Z := (bkZ (Y 158 14) 1 (w_up Y 160 1 (Y 160 1 + 1)))) (l := 1) hp hw hY (by first | decide | omega) hfo.1 (fun _ _ _ _ => rfl)
  obtain ⟨ix2, fl2, ow2, hE2⟩ := r3.2.2.2.2.1
  have g : ∀ (j : Nat) (x : Int), (j < 48 ∨ 57 < j) → j ≠ 160 → (bkZ (Y 158 14) 1 (w_up Y 160 1 (Y 160 1 + 1))) j x = Y j x := fun j x h1 h2 => bk_f j x h1 (by omega)
  obtain ⟨hKC, h159⟩ := hkc_c (A := (u_Q A (a_H A) (a_C A) (a_W A) 1 0)) hp hC9 r3
  obtain ⟨h72, o2, o3, hWd, o5, o6, o7⟩ := ho_c (A := (u_Q A (a_H A) (a_C A) (a_W A) 1 0)) hH r3
  have b1 := r2
  have b2 := r3.1.2.1
  have b3 := hE2.1
  have hCh := r3.2.2.2.2.2.2.1.1
  have l4 := (g 158 4 (by omega) (by omega)).trans v4
  have l7 := (g 158 7 (by omega) (by omega)).trans v7
  have l11 := (g 158 11 (by omega) (by omega)).trans v11
  have l13 := (g 158 13 (by omega) (by omega)).trans v13
  have l14 := g 158 14 (by omega) (by omega)
  have h88 := ec_8 hsi.2.1
  have hec := hsi.2.1.2.2.2.1
  have l12 : (bkZ (Y 158 14) 1 (w_up Y 160 1 (Y 160 1 + 1))) 158 12 = ((ar.map (clO (a_T A))).length : Int) := by
    rw [g 158 12 (by omega) (by omega), v12, List.length_map]
    exact hec.symm
  have h80 : (ar.map (clO (a_T A))).length ≤ 8 := by rw [List.length_map]; exact h88.1
  have hes := es_ok hsi.2.1 (vk_of hA hw)
  have htt := cl_t (cs := cs) hA hw hH.2.2.2.1.2.2 hsi.2.1
  have hwH := hH.2.2.2.2.2.2.2.1
  have hfs : 0 ≤ Y 158 14 ∧ Y 158 14 < (bkZ (Y 158 14) 1 (w_up Y 160 1 (Y 160 1 + 1))) 48 (-1) := by
    rw [bk_m hfo.1 (by first | decide | omega)]
    exact hfo
  have hnc := hH.2.2.2.1.2.2
  have hkk : 0 ≤ (tO (a_T A) ((a_K A 1).1.getD ba (0, 0, [])).2.1).2.2.1 ∧ (tO (a_T A) ((a_K A 1).1.getD ba (0, 0, [])).2.1).2.2.1 < (cs.length : Int) := by
    have z1 := (hvo.1.2.2.2.1 hgk).1; have z2 := hvo.2.1 hgk
    omega
  have hsn := hsi.2.2.2.1
  by_cases k0 : kd = 0
  · subst k0
    have hNm := hkl_c (A := (u_Q A (a_H A) (a_C A) (a_W A) 1 0)) h3 hH hC9 r3 hnm l11 (hsn (by omega))
    refine wJ_mono (wJ_cl b1 (by first | decide | omega) (lag_162_226 (d := d + 84) (nms := nms) (l := 1) (at0 := a_c A 11) (am := 0) (tl := []) b1 hKC hwH hX b2 hNm h72 hCh hWd b3 l4 l7 l14 hfs bkZ_b (by first | decide | omega) hkk (by first | decide | omega))) (fun o Z hz => ?_)
    exact hz
  by_cases k1 : kd = 1
  · subst k1
    have hNm := hkl_c (A := (u_Q A (a_H A) (a_C A) (a_W A) 1 0)) h3 hH hC9 r3 hnm l11 (hsn (by omega))
    have h1 : (ar.map (clO (a_T A))).length = 1 := by
      have z := h88.2
      rw [if_pos rfl] at z
      rw [List.length_map]
      omega
    refine wJ_mono (wJ_cl b1 (by first | decide | omega) (las_162_226 (d := d + 84) (nms := nms) (l := 1) (at0 := a_c A 11) (am := 0) b1 hKC hwH hX b2 hNm h72 hCh hWd b3 l4 l7 l12 l13 h80 hes htt hwo h1 l14 hfs bkZ_b (by first | decide | omega) hkk (by first | decide | omega))) (fun o Z hz => ?_)
    have hE9 : (hoR9 HT cs ms os (a_c A 11) 1 1 (nmT (a_N A) nms) (tO (a_T A) ((a_K A 1).1.getD ba (0, 0, [])).2.1).2.2.1 (ar.map (clO (a_T A)))) = (if FA HT cs ms os (tO (a_T A) ((a_K A 1).1.getD ba (0, 0, [])).2.1).2.2.1 0 1 (wnW [115, 101, 116] (nmT (a_N A) nms)) = [] then hoN 1 (tO (a_T A) ((a_K A 1).1.getD ba (0, 0, [])).2.1).2.2.1 (whA HT cs ms os 1 0 (nmT (a_N A) nms) (tO (a_T A) ((a_K A 1).1.getD ba (0, 0, [])).2.1).2.2.1 (ar.map (clO (a_T A)))) 0 0 (a_c A 11) else hoN 1 (tO (a_T A) ((a_K A 1).1.getD ba (0, 0, [])).2.1).2.2.1 (whA HT cs ms os 1 0 (nmT (a_N A) nms) (tO (a_T A) ((a_K A 1).1.getD ba (0, 0, [])).2.1).2.2.1 (ar.map (clO (a_T A)))) 1 (esV (ar.map (clO (a_T A)))) (a_c A 11)) := by
      unfold hoR9
      show hoN 1 (tO (a_T A) ((a_K A 1).1.getD ba (0, 0, [])).2.1).2.2.1 (whA HT cs ms os 1 0 (nmT (a_N A) nms) (tO (a_T A) ((a_K A 1).1.getD ba (0, 0, [])).2.1).2.2.1 (ar.map (clO (a_T A)))) (mnA HT cs ms os 1 0 (nmT (a_N A) nms) (tO (a_T A) ((a_K A 1).1.getD ba (0, 0, [])).2.1).2.2.1 (ar.map (clO (a_T A))) : Int) (esV ((ar.map (clO (a_T A))).take (mnA HT cs ms os 1 0 (nmT (a_N A) nms) (tO (a_T A) ((a_K A 1).1.getD ba (0, 0, [])).2.1).2.2.1 (ar.map (clO (a_T A)))))) (a_c A 11) = _
      by_cases hF : FA HT cs ms os (tO (a_T A) ((a_K A 1).1.getD ba (0, 0, [])).2.1).2.2.1 0 1 (wnW [115, 101, 116] (nmT (a_N A) nms)) = []
      · have hm : mnA HT cs ms os 1 0 (nmT (a_N A) nms) (tO (a_T A) ((a_K A 1).1.getD ba (0, 0, [])).2.1).2.2.1 (ar.map (clO (a_T A))) = 0 := by
          unfold mnA
          rw [if_neg (by first | decide | omega), if_pos rfl, if_pos hF]
        rw [hm, if_pos hF]
        rfl
      · have hm : mnA HT cs ms os 1 0 (nmT (a_N A) nms) (tO (a_T A) ((a_K A 1).1.getD ba (0, 0, [])).2.1).2.2.1 (ar.map (clO (a_T A))) = 1 := by
          unfold mnA
          rw [if_neg (by first | decide | omega), if_pos rfl, if_neg hF]
        rw [hm, if_neg hF, List.take_of_length_le (by omega)]
        rfl
    rw [hE9]
    exact hz
  by_cases k5 : kd = 5
  · subst k5
    have hNm := hkl_c (A := (u_Q A (a_H A) (a_C A) (a_W A) 1 0)) h3 hH hC9 r3 hnm l11 (hsn (by omega))
    refine wJ_mono (wJ_cl b1 (by first | decide | omega) (lam_162_226 (d := d + 84) (nms := nms) (l := 1) (at0 := a_c A 11) (am := 0) b1 hKC hwH hX b2 hNm h72 hCh hWd b3 l4 l7 l12 l13 h80 hes htt hwo l14 hfs bkZ_b (by first | decide | omega) hkk (by first | decide | omega))) (fun o Z hz => ?_)
    have hE9 : (hoR9 HT cs ms os (a_c A 11) 1 5 (nmT (a_N A) nms) (tO (a_T A) ((a_K A 1).1.getD ba (0, 0, [])).2.1).2.2.1 (ar.map (clO (a_T A)))) = hoN 1 (tO (a_T A) ((a_K A 1).1.getD ba (0, 0, [])).2.1).2.2.1 (whA HT cs ms os 5 0 (nmT (a_N A) nms) (tO (a_T A) ((a_K A 1).1.getD ba (0, 0, [])).2.1).2.2.1 (ar.map (clO (a_T A)))) ((ar.map (clO (a_T A))).length : Int) (esV (ar.map (clO (a_T A)))) (a_c A 11) := by
      unfold hoR9
      show hoN 1 (tO (a_T A) ((a_K A 1).1.getD ba (0, 0, [])).2.1).2.2.1 (whA HT cs ms os 5 0 (nmT (a_N A) nms) (tO (a_T A) ((a_K A 1).1.getD ba (0, 0, [])).2.1).2.2.1 (ar.map (clO (a_T A)))) (mnA HT cs ms os 5 0 (nmT (a_N A) nms) (tO (a_T A) ((a_K A 1).1.getD ba (0, 0, [])).2.1).2.2.1 (ar.map (clO (a_T A))) : Int) (esV ((ar.map (clO (a_T A))).take (mnA HT cs ms os 5 0 (nmT (a_N A) nms) (tO (a_T A) ((a_K A 1).1.getD ba (0, 0, [])).2.1).2.2.1 (ar.map (clO (a_T A)))))) (a_c A 11) = _
      have hm : mnA HT cs ms os 5 0 (nmT (a_N A) nms) (tO (a_T A) ((a_K A 1).1.getD ba (0, 0, [])).2.1).2.2.1 (ar.map (clO (a_T A))) = (ar.map (clO (a_T A))).length := by
        unfold mnA
        rw [if_neg (by first | decide | omega), if_neg (by first | decide | omega)]
      rw [hm, List.take_length]
    rw [hE9]
    exact hz
  omega

theorem cHo_162_226_2 (h : hyA S0 162 HT cs ms os X fa n B2 226 1 A s kd nms ne ec bh ba ar) (hL9 : stL S0) (hH : stHo S0 162 261 HT nt cs ms os n) (hC9 : stHc S0 162 HT cs ms os) (hX : w_X xs) (hb : a_c A (20 + 2) + 1 ≤ B2) (hwo : a_W A < 10000000) (hgk : ((a_K A 1).1.getD ba (0, 0, [])).1 = 8) (hnm : nm = nms) (hkd : kd = 0 ∨ kd = 1 ∨ kd = 5 ∨ kd = 6) (hY : cRel S0 162 HT cs ms os X mo A Y) (ha : cAim 226 s kd ec ba ((a_K A 1).1.getD ba (0, 0, [])).1 nm (esV (ar.map (clO (a_T A)))) Y) : wJ (pe_GA xs) wY0 (mS sML) (d + 90) t_XL_lookAtHost ((pe_at t_XL_lookAtHost.bl 0).getD (0, [])).2 [(0, (2, 158)), (1, (0, ((a_K A 1).1.getD ba (0, 0, [])).2.1)), (2, (0, 1))] [] (bkZ (Y 158 14) 2 (w_up Y 160 2 (Y 160 2 + 1))) (fun o Z => lhQ 162 (162 + 47) (162 + 48) (162 + 1) 226 HT cs ms os (hoC HT cs ms os A mo kd 1 (nmT (a_N A) nms) ((a_K A 1).1.getD ba (0, 0, [])).2.1 (ar.map (clO (a_T A)))).1 (hoC HT cs ms os A mo kd 1 (nmT (a_N A) nms) ((a_K A 1).1.getD ba (0, 0, [])).2.1 (ar.map (clO (a_T A)))).2 mo kd nms (Y 158 14) (whA HT cs ms os kd 1 (nmT (a_N A) nms) ((a_K A 1).1.getD ba (0, 0, [])).2.1 (ar.map (clO (a_T A)))) (hoR9 HT cs ms os (a_c A 11) 2 kd (nmT (a_N A) nms) ((a_K A 1).1.getD ba (0, 0, [])).2.1 (ar.map (clO (a_T A)))) (bkZ (Y 158 14) 2 (w_up Y 160 2 (Y 160 2 + 1))) o Z ∧ w_CL Z) := by
  obtain ⟨⟨v4, v5, v6, v7, v8, v9, v10, v11, v12, v13⟩, v16⟩ := id ha
  have hvo := gv_G h
  have w1 := wf_Q0 (l := 2) h.2.1 (by first | decide | omega) hb
  have c11 : a_c (u_Q A (a_H A) (a_C A) (a_W A) 2 0) 11 = a_c A 11 := cq_n (A := A) (l := 2) (ds := 0) (i := 11) (by first | decide | omega) (by first | decide | omega)
  have h3 := hy_2 h w1 rfl c11
  obtain ⟨⟨hp, hw, hx⟩, hA, hB, ⟨hr, ho⟩, hsi, hme⟩ := id h
  obtain ⟨ix, fl, ow, hE⟩ := hY.2.2.2.2.1
  have hfo : 0 ≤ Y 158 14 ∧ Y 158 14 < Y 48 (-1) := by
    have z1 := hE.2.2.2.1
    have z2 := hE.1.2.2.2
    omega
  obtain ⟨r1, r2, r3⟩ := lk_pl (Z := (bkZ (Y 158 14) 2 (w_up Y 160 2 (Y 160 2 + 1)))) (l := 2) hp hw hY (by first | decide | omega) hfo.1 (fun _ _ _ _ => rfl)
  obtain ⟨ix2, fl2, ow2, hE2⟩ := r3.2.2.2.2.1
  have g : ∀ (j : Nat) (x : Int), (j < 48 ∨ 57 < j) → j ≠ 160 → (bkZ (Y 158 14) 2 (w_up Y 160 2 (Y 160 2 + 1))) j x = Y j x := fun j x h1 h2 => bk_f j x h1 (by omega)
  obtain ⟨hKC, h159⟩ := hkc_c (A := (u_Q A (a_H A) (a_C A) (a_W A) 2 0)) hp hC9 r3
  obtain ⟨h72, o2, o3, hWd, o5, o6, o7⟩ := ho_c (A := (u_Q A (a_H A) (a_C A) (a_W A) 2 0)) hH r3
  have b1 := r2
  have b2 := r3.1.2.1
  have b3 := hE2.1
  have hCh := r3.2.2.2.2.2.2.1.1
  have l4 := (g 158 4 (by omega) (by omega)).trans v4
  have l7 := (g 158 7 (by omega) (by omega)).trans v7
  have l11 := (g 158 11 (by omega) (by omega)).trans v11
  have l13 := (g 158 13 (by omega) (by omega)).trans v13
  have l14 := g 158 14 (by omega) (by omega)
  have h88 := ec_8 hsi.2.1
  have hec := hsi.2.1.2.2.2.1
  have l12 : (bkZ (Y 158 14) 2 (w_up Y 160 2 (Y 160 2 + 1))) 158 12 = ((ar.map (clO (a_T A))).length : Int) := by
    rw [g 158 12 (by omega) (by omega), v12, List.length_map]
    exact hec.symm
  have h80 : (ar.map (clO (a_T A))).length ≤ 8 := by rw [List.length_map]; exact h88.1
  have hes := es_ok hsi.2.1 (vk_of hA hw)
  have htt := cl_t (cs := cs) hA hw hH.2.2.2.1.2.2 hsi.2.1
  have hwH := hH.2.2.2.2.2.2.2.1
  have hfs : 0 ≤ Y 158 14 ∧ Y 158 14 < (bkZ (Y 158 14) 2 (w_up Y 160 2 (Y 160 2 + 1))) 48 (-1) := by
    rw [bk_m hfo.1 (by first | decide | omega)]
    exact hfo
  have hnc := hH.2.2.2.1.2.2
  have hkk : 0 ≤ ((a_K A 1).1.getD ba (0, 0, [])).2.1 ∧ ((a_K A 1).1.getD ba (0, 0, [])).2.1 < (cs.length : Int) := by
    have z1 := (hvo.1.2.2.1 hgk).1; have z2 := hvo.2.2.1 hgk
    omega
  have hsn := hsi.2.2.2.1
  by_cases k0 : kd = 0
  · subst k0
    have hNm := hkl_c (A := (u_Q A (a_H A) (a_C A) (a_W A) 2 0)) h3 hH hC9 r3 hnm l11 (hsn (by omega))
    refine wJ_mono (wJ_cl b1 (by first | decide | omega) (lag_162_226 (d := d + 84) (nms := nms) (l := 2) (at0 := a_c A 11) (am := 1) (tl := []) b1 hKC hwH hX b2 hNm h72 hCh hWd b3 l4 l7 l14 hfs bkZ_b (by first | decide | omega) hkk (by first | decide | omega))) (fun o Z hz => ?_)
    exact hz
  by_cases k1 : kd = 1
  · subst k1
    have hNm := hkl_c (A := (u_Q A (a_H A) (a_C A) (a_W A) 2 0)) h3 hH hC9 r3 hnm l11 (hsn (by omega))
    have h1 : (ar.map (clO (a_T A))).length = 1 := by
      have z := h88.2
      rw [if_pos rfl] at z
      rw [List.length_map]
      omega
    refine wJ_mono (wJ_cl b1 (by first | decide | omega) (las_162_226 (d := d + 84) (nms := nms) (l := 2) (at0 := a_c A 11) (am := 1) b1 hKC hwH hX b2 hNm h72 hCh hWd b3 l4 l7 l12 l13 h80 hes htt hwo h1 l14 hfs bkZ_b (by first | decide | omega) hkk (by first | decide | omega))) (fun o Z hz => ?_)
    have hE9 : (hoR9 HT cs ms os (a_c A 11) 2 1 (nmT (a_N A) nms) ((a_K A 1).1.getD ba (0, 0, [])).2.1 (ar.map (clO (a_T A)))) = (if FA HT cs ms os ((a_K A 1).1.getD ba (0, 0, [])).2.1 1 1 (wnW [115, 101, 116] (nmT (a_N A) nms)) = [] then hoN 2 ((a_K A 1).1.getD ba (0, 0, [])).2.1 (whA HT cs ms os 1 1 (nmT (a_N A) nms) ((a_K A 1).1.getD ba (0, 0, [])).2.1 (ar.map (clO (a_T A)))) 0 0 (a_c A 11) else hoN 2 ((a_K A 1).1.getD ba (0, 0, [])).2.1 (whA HT cs ms os 1 1 (nmT (a_N A) nms) ((a_K A 1).1.getD ba (0, 0, [])).2.1 (ar.map (clO (a_T A)))) 1 (esV (ar.map (clO (a_T A)))) (a_c A 11)) := by
      unfold hoR9
      show hoN 2 ((a_K A 1).1.getD ba (0, 0, [])).2.1 (whA HT cs ms os 1 1 (nmT (a_N A) nms) ((a_K A 1).1.getD ba (0, 0, [])).2.1 (ar.map (clO (a_T A)))) (mnA HT cs ms os 1 1 (nmT (a_N A) nms) ((a_K A 1).1.getD ba (0, 0, [])).2.1 (ar.map (clO (a_T A))) : Int) (esV ((ar.map (clO (a_T A))).take (mnA HT cs ms os 1 1 (nmT (a_N A) nms) ((a_K A 1).1.getD ba (0, 0, [])).2.1 (ar.map (clO (a_T A)))))) (a_c A 11) = _
      by_cases hF : FA HT cs ms os ((a_K A 1).1.getD ba (0, 0, [])).2.1 1 1 (wnW [115, 101, 116] (nmT (a_N A) nms)) = []
      · have hm : mnA HT cs ms os 1 1 (nmT (a_N A) nms) ((a_K A 1).1.getD ba (0, 0, [])).2.1 (ar.map (clO (a_T A))) = 0 := by
          unfold mnA
          rw [if_neg (by first | decide | omega), if_pos rfl, if_pos hF]
        rw [hm, if_pos hF]
        rfl
      · have hm : mnA HT cs ms os 1 1 (nmT (a_N A) nms) ((a_K A 1).1.getD ba (0, 0, [])).2.1 (ar.map (clO (a_T A))) = 1 := by
          unfold mnA
          rw [if_neg (by first | decide | omega), if_pos rfl, if_neg hF]
        rw [hm, if_neg hF, List.take_of_length_le (by omega)]
        rfl
    rw [hE9]
    exact hz
  by_cases k5 : kd = 5
  · subst k5
    have hNm := hkl_c (A := (u_Q A (a_H A) (a_C A) (a_W A) 2 0)) h3 hH hC9 r3 hnm l11 (hsn (by omega))
    refine wJ_mono (wJ_cl b1 (by first | decide | omega) (lam_162_226 (d := d + 84) (nms := nms) (l := 2) (at0 := a_c A 11) (am := 1) b1 hKC hwH hX b2 hNm h72 hCh hWd b3 l4 l7 l12 l13 h80 hes htt hwo l14 hfs bkZ_b (by first | decide | omega) hkk (by first | decide | omega))) (fun o Z hz => ?_)
    have hE9 : (hoR9 HT cs ms os (a_c A 11) 2 5 (nmT (a_N A) nms) ((a_K A 1).1.getD ba (0, 0, [])).2.1 (ar.map (clO (a_T A)))) = hoN 2 ((a_K A 1).1.getD ba (0, 0, [])).2.1 (whA HT cs ms os 5 1 (nmT (a_N A) nms) ((a_K A 1).1.getD ba (0, 0, [])).2.1 (ar.map (clO (a_T A)))) ((ar.map (clO (a_T A))).length : Int) (esV (ar.map (clO (a_T A)))) (a_c A 11) := by
      unfold hoR9
      show hoN 2 ((a_K A 1).1.getD ba (0, 0, [])).2.1 (whA HT cs ms os 5 1 (nmT (a_N A) nms) ((a_K A 1).1.getD ba (0, 0, [])).2.1 (ar.map (clO (a_T A)))) (mnA HT cs ms os 5 1 (nmT (a_N A) nms) ((a_K A 1).1.getD ba (0, 0, [])).2.1 (ar.map (clO (a_T A))) : Int) (esV ((ar.map (clO (a_T A))).take (mnA HT cs ms os 5 1 (nmT (a_N A) nms) ((a_K A 1).1.getD ba (0, 0, [])).2.1 (ar.map (clO (a_T A)))))) (a_c A 11) = _
      have hm : mnA HT cs ms os 5 1 (nmT (a_N A) nms) ((a_K A 1).1.getD ba (0, 0, [])).2.1 (ar.map (clO (a_T A))) = (ar.map (clO (a_T A))).length := by
        unfold mnA
        rw [if_neg (by first | decide | omega), if_neg (by first | decide | omega)]
      rw [hm, List.take_length]
    rw [hE9]
    exact hz
  have k6 : kd = 6 := by omega
  subst k6
  refine wJ_mono (wJ_cl b1 (by first | decide | omega) (lan_162_226 (d := d + 84) (nms := nms) (l := 2) (at0 := a_c A 11) (am := 1) (W := []) (nm := 0) (wk := 0) b1 hKC hwH hX b2 h72 hCh hWd b3 l4 l7 l12 l13 h80 hes htt hwo l14 hfs bkZ_b (by first | decide | omega) hkk rfl)) (fun o Z hz => ?_)
  have hE9 : (hoR9 HT cs ms os (a_c A 11) 2 6 (nmT (a_N A) nms) ((a_K A 1).1.getD ba (0, 0, [])).2.1 (ar.map (clO (a_T A)))) = hoN 2 ((a_K A 1).1.getD ba (0, 0, [])).2.1 (whA HT cs ms os 6 1 (nmT (a_N A) nms) ((a_K A 1).1.getD ba (0, 0, [])).2.1 (ar.map (clO (a_T A)))) ((ar.map (clO (a_T A))).length : Int) (esV (ar.map (clO (a_T A)))) (a_c A 11) := by
    unfold hoR9
    show hoN 2 ((a_K A 1).1.getD ba (0, 0, [])).2.1 (whA HT cs ms os 6 1 (nmT (a_N A) nms) ((a_K A 1).1.getD ba (0, 0, [])).2.1 (ar.map (clO (a_T A)))) (mnA HT cs ms os 6 1 (nmT (a_N A) nms) ((a_K A 1).1.getD ba (0, 0, [])).2.1 (ar.map (clO (a_T A))) : Int) (esV ((ar.map (clO (a_T A))).take (mnA HT cs ms os 6 1 (nmT (a_N A) nms) ((a_K A 1).1.getD ba (0, 0, [])).2.1 (ar.map (clO (a_T A)))))) (a_c A 11) = _
    have hm : mnA HT cs ms os 6 1 (nmT (a_N A) nms) ((a_K A 1).1.getD ba (0, 0, [])).2.1 (ar.map (clO (a_T A))) = (ar.map (clO (a_T A))).length := by
      unfold mnA
      rw [if_neg (by first | decide | omega), if_neg (by first | decide | omega)]
    rw [hm, List.take_length]
  rw [hE9]
  exact hz

end Wly
