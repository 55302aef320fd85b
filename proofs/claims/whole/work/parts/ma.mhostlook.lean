/-! PART ma: looking at what is a host's, in the reference. -/
section Wma
variable {Sb : wS} {xs : List (Nat × List Int32)} {d : Nat} {S0 S Z : wS} {p w m : Nat} {HT : Int → Int} {cs : List hCR} {ms : List hMR} {os : Int → List Int} {X : List (List Int)} {mo t n B B2 oq : Int} {fa : Int → Int} {WE : aA → Prop} {A A2 : aA} {K2 : aK} {ml : List Nat} {k c s kd nms ne ec bh nm en : Int} {b ba : Nat} {ar : List aV} {e : aE} {V Z2 Y : wS} {o : wO} {dn : Int} {H2 : List aH} {N2 : List (List Int)} {E2 : Int → List aE} {C2 : List aQ} {W2 : Int} {c2 : Int → Int} {k2 : Int → Int → Int} {mk rk : Nat → Int → Prop} {K : aK} {T : List aO} {H : List aH} {E : Int → List aE} {gk gb es lo hi a : Int} {r : List aE × Int × Option aE} {A1 : aA} {tl cl : List Int} {sl : Nat → List Int} {L : List aC} {G : Int → aV} {u : aV} {x : List Int} {T2 : List aO} {L2 : List aC} {G2 : Int → aV} {H2 : List aH} {c2 : Int → Int} {y : Int} {Q : wO → wS → Prop} {ps : List (Int × aV)} {k hd wh : Int} {f a9 pn fn md : Int} {vn m9 : Nat} {th : aV} {g : Int} {lp : List aV} {l ds fo g : Int} {mk : Nat → Int → Prop} {C2 : List aQ} {W2 : Int} {RZ : wS → Prop} {N3 : Nat} {SB : wS} {r r0 : Int} {sh : Int} {K9 : aK} {nt : Int}
theorem mn_1 {am k : Int} {W tl : List Int} : (mnA HT cs ms os 1 am W k tl : Int) = (if FA HT cs ms os k am 1 (wnW [115, 101, 116] W) = [] then 0 else 1) := by
  unfold mnA
  rw [if_neg (by first | decide | omega), if_pos rfl]
  by_cases h : FA HT cs ms os k am 1 (wnW [115, 101, 116] W) = []
  · rw [if_pos h, if_pos h]
    rfl
  · rw [if_neg h, if_neg h]
    rfl
theorem mn_5 {am k : Int} {W tl : List Int} (h : kd = 5 ∨ kd = 6) : mnA HT cs ms os kd am W k tl = tl.length := by
  unfold mnA
  rw [if_neg (by omega), if_neg (by omega)]
theorem mn_le {am k : Int} {W tl : List Int} (h1 : kd = 1 → tl.length = 1) : mnA HT cs ms os kd am W k tl ≤ tl.length := by
  unfold mnA
  by_cases k0 : kd = 0
  · rw [if_pos k0]
    exact Nat.zero_le _
  rw [if_neg k0]
  by_cases k1 : kd = 1
  · rw [if_pos k1, h1 k1]
    by_cases h : FA HT cs ms os k am 1 (wnW [115, 101, 116] W) = []
    · rw [if_pos h]
      decide
    · rw [if_neg h]
      decide
  · rw [if_neg k1]
    exact Nat.le_refl _

theorem rHo_241_1 (h : hyA S0 p HT cs ms os X fa n B2 w t A s kd nms ne ec bh ba ar) (hX : w_X xs) (hH : stHo S0 p 241 HT nt cs ms os n) (hO9 : wOs cs os) (hAb : wAb cs) (hND : ∀ c : Int, 0 ≤ c → c < (cs.length : Int) → ∀ m q : Int, m ∈ mIx cs c → q ∈ mIx cs c → (hmR ms m).2.1 = 2 → (hmR ms q).2.1 = 2 → (hmR ms m).2.2.2.2.1 = (hmR ms q).2.2.2.2.1 → m = q) (hwo : a_W A < 10000000) (hix : 0 ≤ nms → nms < ((a_N A).length : Int) → ixL (a_N A) (nmT (a_N A) nms) = nms) (hgk : ((a_K A t).1.getD ba (0, 0, [])).1 = 7) (hkd : kd = 0 ∨ kd = 1 ∨ kd = 5) (hY : rRun S0 Sb HT cs ms os X mo t A Y) (ha : rAim t (a_K A t) ba bh en Y) : wJ (pe_GA xs) wY0 (fun _ => False) (d + 89) t_M_looksAtHost ((pe_at t_M_looksAtHost.bl 0).getD (0, [])).2 [(0, (2, 237)), (1, (0, s)), (2, (0, kd)), (3, (0, 1))] [] (lkX 1 1 Y) (lrQ HT cs ms os (a_N A) (hoC HT cs ms os A mo kd 0 (nmT (a_N A) nms) (tO (a_T A) ((a_K A t).1.getD ba (0, 0, [])).2.1).2.2.1 (ar.map (clO (a_T A)))).1 (hoC HT cs ms os A mo kd 0 (nmT (a_N A) nms) (tO (a_T A) ((a_K A t).1.getD ba (0, 0, [])).2.1).2.2.1 (ar.map (clO (a_T A)))).2 mo (tO (a_T A) ((a_K A t).1.getD ba (0, 0, [])).2.1).2.2.1 (whA HT cs ms os kd 0 (nmT (a_N A) nms) (tO (a_T A) ((a_K A t).1.getD ba (0, 0, [])).2.1).2.2.1 (ar.map (clO (a_T A)))) (mnA HT cs ms os kd 0 (nmT (a_N A) nms) (tO (a_T A) ((a_K A t).1.getD ba (0, 0, [])).2.1).2.2.1 (ar.map (clO (a_T A))) : Int) (lkX 1 1 Y)) := by
  have hT8 := hA_T h
  have hl9 := hl_A h
  have hvo := gv_G h
  obtain ⟨s0, s4, s5, s6⟩ := s_4 h hY
  have hba := hA_ba h
  obtain ⟨⟨hp, hw, hx⟩, hA, hB, ⟨hr, ho⟩, hsi, hme⟩ := id h
  have ht := wt_t hw
  obtain ⟨⟨i1, i2, i3, i4⟩, i5, i6, i7, i8⟩ := id hsi
  have hN := hA.2.2.2.2.2.1.1
  have hnc := hH.2.2.2.1.2.2
  have hwH := hH.2.2.2.2.2.2.2.1
  have hv1 := vk_of hA hw
  have hes := es_ok i5 hv1
  have h88 := ec_8 i5
  have htt := cl_t (cs := cs) hA hw hnc i5
  have hkk : 0 ≤ (tO (a_T A) ((a_K A t).1.getD ba (0, 0, [])).2.1).2.2.1 ∧ (tO (a_T A) ((a_K A t).1.getD ba (0, 0, [])).2.1).2.2.1 < (cs.length : Int) := by
    have z1 := (hvo.1.2.2.2.1 hgk).1; have z2 := hvo.2.1 hgk
    omega
  obtain ⟨q1, q2⟩ := rq_R (l := 1) ht hl9 hY (by first | decide | omega)
  have hKR := ho_r (A := (u_Q A (a_H A) (a_C A) (a_W A) 1 0)) hH q1
  obtain ⟨sl, hW⟩ := q1.1.2.2.1.1
  have hCh := q1.1.2.2.2.2.2.2.1.1
  have y172 := (lx_v (l := 1) (Y := Y)).2.2.2.1
  have g : ∀ (j : Nat) (x : Int), (j ≠ 237 ∨ (x < 166 ∨ 172 < x)) → j ≠ 344 → (lkX 1 1 Y) j x = Y j x := fun j x h1 h2 => lx_f j x (by omega) (by omega)
  have g305 : (lkX 1 1 Y) 305 s = nms := (g 305 s (by omega) (by omega)).trans s5
  have g174 : (lkX 1 1 Y) 237 174 = 7 := (g 237 174 (by omega) (by omega)).trans (ha.2.2.1.trans hgk)
  have g175 : (lkX 1 1 Y) 237 175 = ((a_K A t).1.getD ba (0, 0, [])).2.1 := (g 237 175 (by omega) (by omega)).trans (ha.2.2.2.1.trans (gb_r h hY (by omega)))
  have g173 : (lkX 1 1 Y) 237 173 = 2100 * t + (ba : Int) := (g 237 173 (by omega) (by omega)).trans ha.2.1
  have hr9 : 0 ≤ 2100 * t + (ba : Int) ∧ 2100 * t + (ba : Int) + 1 + ((ar.map (clO (a_T A))).length : Int) ≤ 4200 := by
    rw [List.length_map]
    have := i5.2.2.1
    have := i5.2.2.2.1
    omega
  have hcl : rCl (lkX 1 1 Y) (2100 * t + (ba : Int)) (ar.map (clO (a_T A))) := rCl_of ht (rT_of q1.1 ht) hW hT8 hv1 i5
  have h80 : (ar.map (clO (a_T A))).length ≤ 8 := by rw [List.length_map]; exact h88.1
  have hgo := ((gv_G h).1.2.1 (by omega) (by omega)).1
  have hg321 : (lkX 1 1 Y) 321 ((a_K A t).1.getD ba (0, 0, [])).2.1 = (tO (a_T A) ((a_K A t).1.getD ba (0, 0, [])).2.1).2.2.1 := by
    exact ((r_th (T := a_T A) hW.1 hgo.1 hgo.2).2.2.2.1).trans (if_pos (((gv_G h).1.2.1 (by omega) (by omega)).2.trans hgk))
  have hg9 : ((7 : Int) = 7 ∧ (0 : Int) = 0 ∧ (0 ≤ ((a_K A t).1.getD ba (0, 0, [])).2.1 ∧ ((a_K A t).1.getD ba (0, 0, [])).2.1 < 8000) ∧ (lkX 1 1 Y) 321 ((a_K A t).1.getD ba (0, 0, [])).2.1 = (tO (a_T A) ((a_K A t).1.getD ba (0, 0, [])).2.1).2.2.1) ∨ ((7 : Int) = 8 ∧ (0 : Int) = 1 ∧ ((a_K A t).1.getD ba (0, 0, [])).2.1 = (tO (a_T A) ((a_K A t).1.getD ba (0, 0, [])).2.1).2.2.1) := Or.inl ⟨rfl, rfl, ⟨hgo.1, by have := hgo.2; omega⟩, hg321⟩
  have nmf : kd ≠ 6 → (0 ≤ nms ∧ nms < 4000) ∧ (lkX 1 1 Y) 282 nms = ((nmT (a_N A) nms).length : Int) ∧ (nmT (a_N A) nms).length ≤ 60 ∧ (∀ x : Nat, x < (nmT (a_N A) nms).length → (lkX 1 1 Y) 281 (60 * nms + (x : Int)) = (nmT (a_N A) nms).getD x 0) ∧ (nmT (a_N A) nms) ∈ a_N A ∧ ixL (a_N A) (nmT (a_N A) nms) = nms := fun k6 => by
    have z7 := i7 (by omega)
    obtain ⟨m1, m2, m3⟩ := hY.1.2.2.2.1.1
    obtain ⟨n1, n2, n3⟩ := m3 nms.toNat (by omega)
    have en9 : ((nms.toNat : Nat) : Int) = nms := by omega
    rw [en9] at n1 n3
    have n4 := nmT_g (A := A) z7.1
    refine ⟨⟨z7.1, by omega⟩, ?_, by rw [n4]; exact n2, fun i hi => ?_, ?_, hix z7.1 (by omega)⟩
    · rw [n4, g 282 _ (by omega) (by omega)]
      exact n1
    · rw [n4] at hi ⊢
      rw [g 281 _ (by omega) (by omega)]
      exact n3 i hi
    · rw [n4, gD_ix (show nms.toNat < (a_N A).length by omega)]
      exact List.getElem_mem _
  by_cases k0 : kd = 0
  · subst k0
    obtain ⟨a1, a2, a3, a4, a5, a6⟩ := nmf (by first | decide | omega)
    exact lhg_241 (d := d + 23) (am := 0) q2 hKR hwH hX a1 a2 a3 a4 hO9 hAb hkk (by first | decide | omega) s0 g305 g174 g175 hg9 y172 hCh (Or.inr rfl)
  by_cases k1 : kd = 1
  · subst k1
    obtain ⟨a1, a2, a3, a4, a5, a6⟩ := nmf (by first | decide | omega)
    have h1 : (ar.map (clO (a_T A))).length = 1 := by
      rw [List.length_map]
      have := h88.2
      rw [if_pos rfl] at this
      omega
    rw [mn_1]
    exact lhs1_241 (d := d + 23) (ct := 0) (am := 0) q2 hKR hwH hX a1 a2 a3 a4 hO9 hAb hkk (by first | decide | omega) s0 g305 g174 g175 hg9 y172 hCh g173 hr9 hcl h80 hes htt hwo h1
  have h06 : (lkX 1 1 Y) 306 s = ((ar.map (clO (a_T A))).length : Int) := by
    rw [g 306 s (by omega) (by omega), s6, List.length_map]
    have := h88.2
    rw [if_neg k1] at this
    exact this.symm
  by_cases k5 : kd = 5
  · subst k5
    obtain ⟨a1, a2, a3, a4, a5, a6⟩ := nmf (by first | decide | omega)
    rw [mn_5 (kd := 5) (Or.inl rfl)]
    exact lhm1_241 (d := d + 23) (ct := 0) (am := 0) q2 hKR hwH hX a1 a2 a3 a4 hO9 hAb hkk (by first | decide | omega) s0 g305 g174 g175 hg9 y172 hCh g173 hr9 hcl h80 hes htt hwo h06 a5 a6
  omega
theorem rkh_241_1 (h : hyA S0 p HT cs ms os X fa n B2 w t A s kd nms ne ec bh ba ar) (hX : w_X xs) (hH : stHo S0 p 241 HT nt cs ms os n) (hO9 : wOs cs os) (hAb : wAb cs) (hND : ∀ c : Int, 0 ≤ c → c < (cs.length : Int) → ∀ m q : Int, m ∈ mIx cs c → q ∈ mIx cs c → (hmR ms m).2.1 = 2 → (hmR ms q).2.1 = 2 → (hmR ms m).2.2.2.2.1 = (hmR ms q).2.2.2.2.1 → m = q) (hwo : a_W A < 10000000) (hix : 0 ≤ nms → nms < ((a_N A).length : Int) → ixL (a_N A) (nmT (a_N A) nms) = nms) (hgk : ((a_K A t).1.getD ba (0, 0, [])).1 = 7) (hkd : kd = 0 ∨ kd = 1 ∨ kd = 5) (hen : en = -1) (hwh : 0 ≤ (whA HT cs ms os kd 0 (nmT (a_N A) nms) (tO (a_T A) ((a_K A t).1.getD ba (0, 0, [])).2.1).2.2.1 (ar.map (clO (a_T A))))) : ∀ {Sb : wS} (Y : wS), rRun S0 Sb HT cs ms os X mo t A Y → rAim t (a_K A t) ba bh en Y → wJ (pe_GA xs) wY0 (fun _ => False) (d + 90) t_M_looks ((pe_at t_M_looks.bl 0).getD (0, [])).2 [(0, (2, 237)), (1, (0, s)), (2, (0, 1))] [] Y (fun o Z => o = .inl none ∧ w_ML Z ∧ rRun S0 Sb HT cs ms os X mo t (u_Q A (a_H A) (hoC HT cs ms os A mo kd 0 (nmT (a_N A) nms) (tO (a_T A) ((a_K A t).1.getD ba (0, 0, [])).2.1).2.2.1 (ar.map (clO (a_T A)))).1 (hoC HT cs ms os A mo kd 0 (nmT (a_N A) nms) (tO (a_T A) ((a_K A t).1.getD ba (0, 0, [])).2.1).2.2.1 (ar.map (clO (a_T A)))).2 1 0) Z ∧ rAim t (a_K A t) ba bh en Z ∧ (Z 237 166 = ((hoR9 HT cs ms os (a_c A 11) 1 kd (nmT (a_N A) nms) (tO (a_T A) ((a_K A t).1.getD ba (0, 0, [])).2.1).2.2.1 (ar.map (clO (a_T A)))) : aE).1 ∧ Z 237 167 = ((hoR9 HT cs ms os (a_c A 11) 1 kd (nmT (a_N A) nms) (tO (a_T A) ((a_K A t).1.getD ba (0, 0, [])).2.1).2.2.1 (ar.map (clO (a_T A)))) : aE).2.1 ∧ Z 237 177 = ((hoR9 HT cs ms os (a_c A 11) 1 kd (nmT (a_N A) nms) (tO (a_T A) ((a_K A t).1.getD ba (0, 0, [])).2.1).2.2.1 (ar.map (clO (a_T A)))) : aE).2.2.1 ∧ Z 237 169 = ((hoR9 HT cs ms os (a_c A 11) 1 kd (nmT (a_N A) nms) (tO (a_T A) ((a_K A t).1.getD ba (0, 0, [])).2.1).2.2.1 (ar.map (clO (a_T A)))) : aE).2.2.2.1 ∧ Z 237 170 = ((hoR9 HT cs ms os (a_c A 11) 1 kd (nmT (a_N A) nms) (tO (a_T A) ((a_K A t).1.getD ba (0, 0, [])).2.1).2.2.1 (ar.map (clO (a_T A)))) : aE).2.2.2.2.1 ∧ Z 237 171 = ((hoR9 HT cs ms os (a_c A 11) 1 kd (nmT (a_N A) nms) (tO (a_T A) ((a_K A t).1.getD ba (0, 0, [])).2.1).2.2.1 (ar.map (clO (a_T A)))) : aE).2.2.2.2.2.1 ∧ Z 237 81 = ((hoR9 HT cs ms os (a_c A 11) 1 kd (nmT (a_N A) nms) (tO (a_T A) ((a_K A t).1.getD ba (0, 0, [])).2.1).2.2.1 (ar.map (clO (a_T A)))) : aE).2.2.2.2.2.2.1) ∧ Z 237 172 = ((mnA HT cs ms os kd 0 (nmT (a_N A) nms) (tO (a_T A) ((a_K A t).1.getD ba (0, 0, [])).2.1).2.2.1 (ar.map (clO (a_T A)))) : Int)) := fun Y hY ha => by
  have hl9 := hl_A h
  obtain ⟨k0, k4, k5, k6⟩ := s_4 h hY
  obtain ⟨y1, y2, y3, y4, y5, y6⟩ := lx_v (Y := Y) (l := 1)
  have ht := wt_t h.1.2.1
  obtain ⟨q1, q2⟩ := rq_R (l := 1) ht hl9 hY (by first | decide | omega)
  have c2 := hY.1.2.2.2.2.2.2.2.1.2.1
  refine rlk1 (d := d + 82) hY.1.1 k0 k4 ha.2.2.1 hgk (Or.inr rfl) (ak_0 h hY (by first | decide | omega)) (wJ_mono (wJ_ml q2 (rHo_241_1 (d := d) h hX hH hO9 hAb hND hwo hix hgk hkd hY ha)) (fun o Z hz => ?_)) (fun o Z hz => Or.inl hz.1)
  obtain ⟨⟨z1, z2, z3, z4, z5⟩, hMZ⟩ := hz
  obtain ⟨z6, z7, z8⟩ := z1 hwh
  have g : ∀ (j : Nat) (x : Int), ¬ lhM j x → (j ≠ 237 ∨ (x < 166 ∨ 172 < x)) → j ≠ 344 → Z j x = Y j x := fun j x h0 h1 h2 => (z5 j x h0).trans (lx_f j x (by omega) (by omega))
  refine ⟨z6, hMZ, rq_H ht hl9 hY (by first | decide | omega) hMZ (fun j x h1 h2 h3 => (z5 j x h2).trans (lx_f j x (by omega) h1)) z4 ((z5 344 1 (by unfold lhM; omega)).trans y6), rA_k ha (fun j x hj => g j x (by unfold lhM; omega) (by omega) (by omega)), ⟨?_, z3, ?_, ?_, z7, ?_, ?_⟩, z8⟩
  · exact (z5 237 166 (by unfold lhM; omega)).trans y5
  · exact (g 237 177 (by unfold lhM; omega) (by omega) (by omega)).trans (ha.2.2.2.2.2.trans hen)
  · exact (z5 237 169 (by unfold lhM; omega)).trans y1
  · exact (z5 237 171 (by unfold lhM; omega)).trans y3
  · exact (g 237 81 (by unfold lhM; omega) (by omega) (by omega)).trans c2
theorem rkj_241_1 (h : hyA S0 p HT cs ms os X fa n B2 w t A s kd nms ne ec bh ba ar) (hX : w_X xs) (hH : stHo S0 p 241 HT nt cs ms os n) (hO9 : wOs cs os) (hAb : wAb cs) (hND : ∀ c : Int, 0 ≤ c → c < (cs.length : Int) → ∀ m q : Int, m ∈ mIx cs c → q ∈ mIx cs c → (hmR ms m).2.1 = 2 → (hmR ms q).2.1 = 2 → (hmR ms m).2.2.2.2.1 = (hmR ms q).2.2.2.2.1 → m = q) (hwo : a_W A < 10000000) (hix : 0 ≤ nms → nms < ((a_N A).length : Int) → ixL (a_N A) (nmT (a_N A) nms) = nms) (hgk : ((a_K A t).1.getD ba (0, 0, [])).1 = 7) (hkd : kd = 0 ∨ kd = 1 ∨ kd = 5) (hwh : (whA HT cs ms os kd 0 (nmT (a_N A) nms) (tO (a_T A) ((a_K A t).1.getD ba (0, 0, [])).2.1).2.2.1 (ar.map (clO (a_T A)))) < 0) : ∀ {Sb : wS} (Y : wS), rRun S0 Sb HT cs ms os X mo t A Y → rAim t (a_K A t) ba bh en Y → wJ (pe_GA xs) wY0 (fun _ => False) (d + 90) t_M_looks ((pe_at t_M_looks.bl 0).getD (0, [])).2 [(0, (2, 237)), (1, (0, s)), (2, (0, 1))] [] Y (fun o Z => o = .inr 238 ∧ (((if (whA HT cs ms os kd 0 (nmT (a_N A) nms) (tO (a_T A) ((a_K A t).1.getD ba (0, 0, [])).2.1).2.2.1 (ar.map (clO (a_T A)))) = -1 then 4 else -(whA HT cs ms os kd 0 (nmT (a_N A) nms) (tO (a_T A) ((a_K A t).1.getD ba (0, 0, [])).2.1).2.2.1 (ar.map (clO (a_T A))))) : Int) ≠ 0 ∧ Z 238 5 = (if (whA HT cs ms os kd 0 (nmT (a_N A) nms) (tO (a_T A) ((a_K A t).1.getD ba (0, 0, [])).2.1).2.2.1 (ar.map (clO (a_T A)))) = -1 then 4 else -(whA HT cs ms os kd 0 (nmT (a_N A) nms) (tO (a_T A) ((a_K A t).1.getD ba (0, 0, [])).2.1).2.2.1 (ar.map (clO (a_T A))))) ∧ rRun S0 Sb HT cs ms os X mo t (u_Q A (a_H A) (hoC HT cs ms os A mo kd 0 (nmT (a_N A) nms) (tO (a_T A) ((a_K A t).1.getD ba (0, 0, [])).2.1).2.2.1 (ar.map (clO (a_T A)))).1 (hoC HT cs ms os A mo kd 0 (nmT (a_N A) nms) (tO (a_T A) ((a_K A t).1.getD ba (0, 0, [])).2.1).2.2.1 (ar.map (clO (a_T A)))).2 1 0) Z)) := fun Y hY ha => by
  have hl9 := hl_A h
  obtain ⟨k0, k4, k5, k6⟩ := s_4 h hY
  obtain ⟨y1, y2, y3, y4, y5, y6⟩ := lx_v (Y := Y) (l := 1)
  have ht := wt_t h.1.2.1
  obtain ⟨q1, q2⟩ := rq_R (l := 1) ht hl9 hY (by first | decide | omega)
  have hc0 : (if (whA HT cs ms os kd 0 (nmT (a_N A) nms) (tO (a_T A) ((a_K A t).1.getD ba (0, 0, [])).2.1).2.2.1 (ar.map (clO (a_T A)))) = -1 then 4 else -(whA HT cs ms os kd 0 (nmT (a_N A) nms) (tO (a_T A) ((a_K A t).1.getD ba (0, 0, [])).2.1).2.2.1 (ar.map (clO (a_T A))))) ≠ 0 := by
    by_cases z : (whA HT cs ms os kd 0 (nmT (a_N A) nms) (tO (a_T A) ((a_K A t).1.getD ba (0, 0, [])).2.1).2.2.1 (ar.map (clO (a_T A)))) = -1
    · rw [if_pos z]; decide
    · rw [if_neg z]; omega
  refine rlk1 (d := d + 82) hY.1.1 k0 k4 ha.2.2.1 hgk (Or.inr rfl) (ak_0 h hY (by first | decide | omega)) (wJ_mono (wJ_ml q2 (rHo_241_1 (d := d) h hX hH hO9 hAb hND hwo hix hgk hkd hY ha)) (fun o Z hz => ?_)) (fun o Z hz => Or.inr hz.1)
  obtain ⟨⟨z1, z2, z3, z4, z5⟩, hMZ⟩ := hz
  obtain ⟨z6, z7, z8⟩ := z2 hwh
  exact ⟨z6, hc0, z7, rq_H ht hl9 hY (by first | decide | omega) hMZ (fun j x h1 h2 h3 => (z5 j x h2).trans (lx_f j x (by omega) h1)) z4 ((z5 344 1 (by unfold lhM; omega)).trans y6)⟩

theorem rHo_241_2 (h : hyA S0 p HT cs ms os X fa n B2 w t A s kd nms ne ec bh ba ar) (hX : w_X xs) (hH : stHo S0 p 241 HT nt cs ms os n) (hO9 : wOs cs os) (hAb : wAb cs) (hND : ∀ c : Int, 0 ≤ c → c < (cs.length : Int) → ∀ m q : Int, m ∈ mIx cs c → q ∈ mIx cs c → (hmR ms m).2.1 = 2 → (hmR ms q).2.1 = 2 → (hmR ms m).2.2.2.2.1 = (hmR ms q).2.2.2.2.1 → m = q) (hwo : a_W A < 10000000) (hix : 0 ≤ nms → nms < ((a_N A).length : Int) → ixL (a_N A) (nmT (a_N A) nms) = nms) (hgk : ((a_K A t).1.getD ba (0, 0, [])).1 = 8) (hkd : kd = 0 ∨ kd = 1 ∨ kd = 5 ∨ kd = 6) (hY : rRun S0 Sb HT cs ms os X mo t A Y) (ha : rAim t (a_K A t) ba bh en Y) : wJ (pe_GA xs) wY0 (fun _ => False) (d + 89) t_M_looksAtHost ((pe_at t_M_looksAtHost.bl 0).getD (0, [])).2 [(0, (2, 237)), (1, (0, s)), (2, (0, kd)), (3, (0, 1))] [] (lkX 2 1 Y) (lrQ HT cs ms os (a_N A) (hoC HT cs ms os A mo kd 1 (nmT (a_N A) nms) ((a_K A t).1.getD ba (0, 0, [])).2.1 (ar.map (clO (a_T A)))).1 (hoC HT cs ms os A mo kd 1 (nmT (a_N A) nms) ((a_K A t).1.getD ba (0, 0, [])).2.1 (ar.map (clO (a_T A)))).2 mo ((a_K A t).1.getD ba (0, 0, [])).2.1 (whA HT cs ms os kd 1 (nmT (a_N A) nms) ((a_K A t).1.getD ba (0, 0, [])).2.1 (ar.map (clO (a_T A)))) (mnA HT cs ms os kd 1 (nmT (a_N A) nms) ((a_K A t).1.getD ba (0, 0, [])).2.1 (ar.map (clO (a_T A))) : Int) (lkX 2 1 Y)) := by
  have hT8 := hA_T h
  have hl9 := hl_A h
  have hvo := gv_G h
  obtain ⟨s0, s4, s5, s6⟩ := s_4 h hY
  have hba := hA_ba h
  obtain ⟨⟨hp, hw, hx⟩, hA, hB, ⟨hr, ho⟩, hsi, hme⟩ := id h
  have ht := wt_t hw
  obtain ⟨⟨i1, i2, i3, i4⟩, i5, i6, i7, i8⟩ := id hsi
  have hN := hA.2.2.2.2.2.1.1
  have hnc := hH.2.2.2.1.2.2
  have hwH := hH.2.2.2.2.2.2.2.1
  have hv1 := vk_of hA hw
  have hes := es_ok i5 hv1
  have h88 := ec_8 i5
  have htt := cl_t (cs := cs) hA hw hnc i5
  have hkk : 0 ≤ ((a_K A t).1.getD ba (0, 0, [])).2.1 ∧ ((a_K A t).1.getD ba (0, 0, [])).2.1 < (cs.length : Int) := by
    have z1 := (hvo.1.2.2.1 hgk).1; have z2 := hvo.2.2.1 hgk
    omega
  obtain ⟨q1, q2⟩ := rq_R (l := 2) ht hl9 hY (by first | decide | omega)
  have hKR := ho_r (A := (u_Q A (a_H A) (a_C A) (a_W A) 2 0)) hH q1
  obtain ⟨sl, hW⟩ := q1.1.2.2.1.1
  have hCh := q1.1.2.2.2.2.2.2.1.1
  have y172 := (lx_v (l := 2) (Y := Y)).2.2.2.1
  have g : ∀ (j : Nat) (x : Int), (j ≠ 237 ∨ (x < 166 ∨ 172 < x)) → j ≠ 344 → (lkX 2 1 Y) j x = Y j x := fun j x h1 h2 => lx_f j x (by omega) (by omega)
  have g305 : (lkX 2 1 Y) 305 s = nms := (g 305 s (by omega) (by omega)).trans s5
  have g174 : (lkX 2 1 Y) 237 174 = 8 := (g 237 174 (by omega) (by omega)).trans (ha.2.2.1.trans hgk)
  have g175 : (lkX 2 1 Y) 237 175 = ((a_K A t).1.getD ba (0, 0, [])).2.1 := (g 237 175 (by omega) (by omega)).trans (ha.2.2.2.1.trans (gb_r h hY (by omega)))
  have g173 : (lkX 2 1 Y) 237 173 = 2100 * t + (ba : Int) := (g 237 173 (by omega) (by omega)).trans ha.2.1
  have hr9 : 0 ≤ 2100 * t + (ba : Int) ∧ 2100 * t + (ba : Int) + 1 + ((ar.map (clO (a_T A))).length : Int) ≤ 4200 := by
    rw [List.length_map]
    have := i5.2.2.1
    have := i5.2.2.2.1
    omega
  have hcl : rCl (lkX 2 1 Y) (2100 * t + (ba : Int)) (ar.map (clO (a_T A))) := rCl_of ht (rT_of q1.1 ht) hW hT8 hv1 i5
  have h80 : (ar.map (clO (a_T A))).length ≤ 8 := by rw [List.length_map]; exact h88.1
  have hg9 : ((8 : Int) = 7 ∧ (1 : Int) = 0 ∧ (0 ≤ ((a_K A t).1.getD ba (0, 0, [])).2.1 ∧ ((a_K A t).1.getD ba (0, 0, [])).2.1 < 8000) ∧ (lkX 2 1 Y) 321 ((a_K A t).1.getD ba (0, 0, [])).2.1 = ((a_K A t).1.getD ba (0, 0, [])).2.1) ∨ ((8 : Int) = 8 ∧ (1 : Int) = 1 ∧ ((a_K A t).1.getD ba (0, 0, [])).2.1 = ((a_K A t).1.getD ba (0, 0, [])).2.1) := Or.inr ⟨rfl, rfl, rfl⟩
  have nmf : kd ≠ 6 → (0 ≤ nms ∧ nms < 4000) ∧ (lkX 2 1 Y) 282 nms = ((nmT (a_N A) nms).length : Int) ∧ (nmT (a_N A) nms).length ≤ 60 ∧ (∀ x : Nat, x < (nmT (a_N A) nms).length → (lkX 2 1 Y) 281 (60 * nms + (x : Int)) = (nmT (a_N A) nms).getD x 0) ∧ (nmT (a_N A) nms) ∈ a_N A ∧ ixL (a_N A) (nmT (a_N A) nms) = nms := fun k6 => by
    have z7 := i7 (by omega)
    obtain ⟨m1, m2, m3⟩ := hY.1.2.2.2.1.1
    obtain ⟨n1, n2, n3⟩ := m3 nms.toNat (by omega)
    have en9 : ((nms.toNat : Nat) : Int) = nms := by omega
    rw [en9] at n1 n3
    have n4 := nmT_g (A := A) z7.1
    refine ⟨⟨z7.1, by omega⟩, ?_, by rw [n4]; exact n2, fun i hi => ?_, ?_, hix z7.1 (by omega)⟩
    · rw [n4, g 282 _ (by omega) (by omega)]
      exact n1
    · rw [n4] at hi ⊢
      rw [g 281 _ (by omega) (by omega)]
      exact n3 i hi
    · rw [n4, gD_ix (show nms.toNat < (a_N A).length by omega)]
      exact List.getElem_mem _
  by_cases k0 : kd = 0
  · subst k0
    obtain ⟨a1, a2, a3, a4, a5, a6⟩ := nmf (by first | decide | omega)
    exact lhg_241 (d := d + 23) (am := 1) q2 hKR hwH hX a1 a2 a3 a4 hO9 hAb hkk (by first | decide | omega) s0 g305 g174 g175 hg9 y172 hCh (Or.inr rfl)
  by_cases k1 : kd = 1
  · subst k1
    obtain ⟨a1, a2, a3, a4, a5, a6⟩ := nmf (by first | decide | omega)
    have h1 : (ar.map (clO (a_T A))).length = 1 := by
      rw [List.length_map]
      have := h88.2
      rw [if_pos rfl] at this
      omega
    rw [mn_1]
    exact lhs1_241 (d := d + 23) (ct := 0) (am := 1) q2 hKR hwH hX a1 a2 a3 a4 hO9 hAb hkk (by first | decide | omega) s0 g305 g174 g175 hg9 y172 hCh g173 hr9 hcl h80 hes htt hwo h1
  have h06 : (lkX 2 1 Y) 306 s = ((ar.map (clO (a_T A))).length : Int) := by
    rw [g 306 s (by omega) (by omega), s6, List.length_map]
    have := h88.2
    rw [if_neg k1] at this
    exact this.symm
  by_cases k5 : kd = 5
  · subst k5
    obtain ⟨a1, a2, a3, a4, a5, a6⟩ := nmf (by first | decide | omega)
    rw [mn_5 (kd := 5) (Or.inl rfl)]
    exact lhm1_241 (d := d + 23) (ct := 0) (am := 1) q2 hKR hwH hX a1 a2 a3 a4 hO9 hAb hkk (by first | decide | omega) s0 g305 g174 g175 hg9 y172 hCh g173 hr9 hcl h80 hes htt hwo h06 a5 a6
  have k6 : kd = 6 := by omega
  subst k6
  rw [mn_5 (kd := 6) (Or.inr rfl)]
  exact lhn1_241 (d := d + 23) (ct := 0) (am := 1) (W := []) q2 hKR hwH hO9 hAb hkk (by first | decide | omega) s0 g305 g174 g175 hg9 y172 hCh g173 hr9 hcl h80 hes htt hwo h06 rfl (by omega) (hND _ hkk.1 hkk.2)
theorem rkh_241_2 (h : hyA S0 p HT cs ms os X fa n B2 w t A s kd nms ne ec bh ba ar) (hX : w_X xs) (hH : stHo S0 p 241 HT nt cs ms os n) (hO9 : wOs cs os) (hAb : wAb cs) (hND : ∀ c : Int, 0 ≤ c → c < (cs.length : Int) → ∀ m q : Int, m ∈ mIx cs c → q ∈ mIx cs c → (hmR ms m).2.1 = 2 → (hmR ms q).2.1 = 2 → (hmR ms m).2.2.2.2.1 = (hmR ms q).2.2.2.2.1 → m = q) (hwo : a_W A < 10000000) (hix : 0 ≤ nms → nms < ((a_N A).length : Int) → ixL (a_N A) (nmT (a_N A) nms) = nms) (hgk : ((a_K A t).1.getD ba (0, 0, [])).1 = 8) (hkd : kd = 0 ∨ kd = 1 ∨ kd = 5 ∨ kd = 6) (hen : en = -1) (hwh : 0 ≤ (whA HT cs ms os kd 1 (nmT (a_N A) nms) ((a_K A t).1.getD ba (0, 0, [])).2.1 (ar.map (clO (a_T A))))) : ∀ {Sb : wS} (Y : wS), rRun S0 Sb HT cs ms os X mo t A Y → rAim t (a_K A t) ba bh en Y → wJ (pe_GA xs) wY0 (fun _ => False) (d + 90) t_M_looks ((pe_at t_M_looks.bl 0).getD (0, [])).2 [(0, (2, 237)), (1, (0, s)), (2, (0, 1))] [] Y (fun o Z => o = .inl none ∧ w_ML Z ∧ rRun S0 Sb HT cs ms os X mo t (u_Q A (a_H A) (hoC HT cs ms os A mo kd 1 (nmT (a_N A) nms) ((a_K A t).1.getD ba (0, 0, [])).2.1 (ar.map (clO (a_T A)))).1 (hoC HT cs ms os A mo kd 1 (nmT (a_N A) nms) ((a_K A t).1.getD ba (0, 0, [])).2.1 (ar.map (clO (a_T A)))).2 2 0) Z ∧ rAim t (a_K A t) ba bh en Z ∧ (Z 237 166 = ((hoR9 HT cs ms os (a_c A 11) 2 kd (nmT (a_N A) nms) ((a_K A t).1.getD ba (0, 0, [])).2.1 (ar.map (clO (a_T A)))) : aE).1 ∧ Z 237 167 = ((hoR9 HT cs ms os (a_c A 11) 2 kd (nmT (a_N A) nms) ((a_K A t).1.getD ba (0, 0, [])).2.1 (ar.map (clO (a_T A)))) : aE).2.1 ∧ Z 237 177 = ((hoR9 HT cs ms os (a_c A 11) 2 kd (nmT (a_N A) nms) ((a_K A t).1.getD ba (0, 0, [])).2.1 (ar.map (clO (a_T A)))) : aE).2.2.1 ∧ Z 237 169 = ((hoR9 HT cs ms os (a_c A 11) 2 kd (nmT (a_N A) nms) ((a_K A t).1.getD ba (0, 0, [])).2.1 (ar.map (clO (a_T A)))) : aE).2.2.2.1 ∧ Z 237 170 = ((hoR9 HT cs ms os (a_c A 11) 2 kd (nmT (a_N A) nms) ((a_K A t).1.getD ba (0, 0, [])).2.1 (ar.map (clO (a_T A)))) : aE).2.2.2.2.1 ∧ Z 237 171 = ((hoR9 HT cs ms os (a_c A 11) 2 kd (nmT (a_N A) nms) ((a_K A t).1.getD ba (0, 0, [])).2.1 (ar.map (clO (a_T A)))) : aE).2.2.2.2.2.1 ∧ Z 237 81 = ((hoR9 HT cs ms os (a_c A 11) 2 kd (nmT (a_N A) nms) ((a_K A t).1.getD ba (0, 0, [])).2.1 (ar.map (clO (a_T A)))) : aE).2.2.2.2.2.2.1) ∧ Z 237 172 = ((mnA HT cs ms os kd 1 (nmT (a_N A) nms) ((a_K A t).1.getD ba (0, 0, [])).2.1 (ar.map (clO (a_T A)))) : Int)) := fun Y hY ha => by
  have hl9 := hl_A h
  obtain ⟨k0, k4, k5, k6⟩ := s_4 h hY
  obtain ⟨y1, y2, y3, y4, y5, y6⟩ := lx_v (Y := Y) (l := 2)
  have ht := wt_t h.1.2.1
  obtain ⟨q1, q2⟩ := rq_R (l := 2) ht hl9 hY (by first | decide | omega)
  have c2 := hY.1.2.2.2.2.2.2.2.1.2.1
  refine rlk2 (d := d + 82) hY.1.1 k0 k4 ha.2.2.1 hgk (Or.inr rfl) (ak_0 h hY (by first | decide | omega)) (wJ_mono (wJ_ml q2 (rHo_241_2 (d := d) h hX hH hO9 hAb hND hwo hix hgk hkd hY ha)) (fun o Z hz => ?_)) (fun o Z hz => Or.inl hz.1)
  obtain ⟨⟨z1, z2, z3, z4, z5⟩, hMZ⟩ := hz
  obtain ⟨z6, z7, z8⟩ := z1 hwh
  have g : ∀ (j : Nat) (x : Int), ¬ lhM j x → (j ≠ 237 ∨ (x < 166 ∨ 172 < x)) → j ≠ 344 → Z j x = Y j x := fun j x h0 h1 h2 => (z5 j x h0).trans (lx_f j x (by omega) (by omega))
  refine ⟨z6, hMZ, rq_H ht hl9 hY (by first | decide | omega) hMZ (fun j x h1 h2 h3 => (z5 j x h2).trans (lx_f j x (by omega) h1)) z4 ((z5 344 2 (by unfold lhM; omega)).trans y6), rA_k ha (fun j x hj => g j x (by unfold lhM; omega) (by omega) (by omega)), ⟨?_, z3, ?_, ?_, z7, ?_, ?_⟩, z8⟩
  · exact (z5 237 166 (by unfold lhM; omega)).trans y5
  · exact (g 237 177 (by unfold lhM; omega) (by omega) (by omega)).trans (ha.2.2.2.2.2.trans hen)
  · exact (z5 237 169 (by unfold lhM; omega)).trans y1
  · exact (z5 237 171 (by unfold lhM; omega)).trans y3
  · exact (g 237 81 (by unfold lhM; omega) (by omega) (by omega)).trans c2
theorem rkj_241_2 (h : hyA S0 p HT cs ms os X fa n B2 w t A s kd nms ne ec bh ba ar) (hX : w_X xs) (hH : stHo S0 p 241 HT nt cs ms os n) (hO9 : wOs cs os) (hAb : wAb cs) (hND : ∀ c : Int, 0 ≤ c → c < (cs.length : Int) → ∀ m q : Int, m ∈ mIx cs c → q ∈ mIx cs c → (hmR ms m).2.1 = 2 → (hmR ms q).2.1 = 2 → (hmR ms m).2.2.2.2.1 = (hmR ms q).2.2.2.2.1 → m = q) (hwo : a_W A < 10000000) (hix : 0 ≤ nms → nms < ((a_N A).length : Int) → ixL (a_N A) (nmT (a_N A) nms) = nms) (hgk : ((a_K A t).1.getD ba (0, 0, [])).1 = 8) (hkd : kd = 0 ∨ kd = 1 ∨ kd = 5 ∨ kd = 6) (hwh : (whA HT cs ms os kd 1 (nmT (a_N A) nms) ((a_K A t).1.getD ba (0, 0, [])).2.1 (ar.map (clO (a_T A)))) < 0) : ∀ {Sb : wS} (Y : wS), rRun S0 Sb HT cs ms os X mo t A Y → rAim t (a_K A t) ba bh en Y → wJ (pe_GA xs) wY0 (fun _ => False) (d + 90) t_M_looks ((pe_at t_M_looks.bl 0).getD (0, [])).2 [(0, (2, 237)), (1, (0, s)), (2, (0, 1))] [] Y (fun o Z => o = .inr 238 ∧ (((if (whA HT cs ms os kd 1 (nmT (a_N A) nms) ((a_K A t).1.getD ba (0, 0, [])).2.1 (ar.map (clO (a_T A)))) = -1 then 4 else -(whA HT cs ms os kd 1 (nmT (a_N A) nms) ((a_K A t).1.getD ba (0, 0, [])).2.1 (ar.map (clO (a_T A))))) : Int) ≠ 0 ∧ Z 238 5 = (if (whA HT cs ms os kd 1 (nmT (a_N A) nms) ((a_K A t).1.getD ba (0, 0, [])).2.1 (ar.map (clO (a_T A)))) = -1 then 4 else -(whA HT cs ms os kd 1 (nmT (a_N A) nms) ((a_K A t).1.getD ba (0, 0, [])).2.1 (ar.map (clO (a_T A))))) ∧ rRun S0 Sb HT cs ms os X mo t (u_Q A (a_H A) (hoC HT cs ms os A mo kd 1 (nmT (a_N A) nms) ((a_K A t).1.getD ba (0, 0, [])).2.1 (ar.map (clO (a_T A)))).1 (hoC HT cs ms os A mo kd 1 (nmT (a_N A) nms) ((a_K A t).1.getD ba (0, 0, [])).2.1 (ar.map (clO (a_T A)))).2 2 0) Z)) := fun Y hY ha => by
  have hl9 := hl_A h
  obtain ⟨k0, k4, k5, k6⟩ := s_4 h hY
  obtain ⟨y1, y2, y3, y4, y5, y6⟩ := lx_v (Y := Y) (l := 2)
  have ht := wt_t h.1.2.1
  obtain ⟨q1, q2⟩ := rq_R (l := 2) ht hl9 hY (by first | decide | omega)
  have hc0 : (if (whA HT cs ms os kd 1 (nmT (a_N A) nms) ((a_K A t).1.getD ba (0, 0, [])).2.1 (ar.map (clO (a_T A)))) = -1 then 4 else -(whA HT cs ms os kd 1 (nmT (a_N A) nms) ((a_K A t).1.getD ba (0, 0, [])).2.1 (ar.map (clO (a_T A))))) ≠ 0 := by
    by_cases z : (whA HT cs ms os kd 1 (nmT (a_N A) nms) ((a_K A t).1.getD ba (0, 0, [])).2.1 (ar.map (clO (a_T A)))) = -1
    · rw [if_pos z]; decide
    · rw [if_neg z]; omega
  refine rlk2 (d := d + 82) hY.1.1 k0 k4 ha.2.2.1 hgk (Or.inr rfl) (ak_0 h hY (by first | decide | omega)) (wJ_mono (wJ_ml q2 (rHo_241_2 (d := d) h hX hH hO9 hAb hND hwo hix hgk hkd hY ha)) (fun o Z hz => ?_)) (fun o Z hz => Or.inr hz.1)
  obtain ⟨⟨z1, z2, z3, z4, z5⟩, hMZ⟩ := hz
  obtain ⟨z6, z7, z8⟩ := z2 hwh
  exact ⟨z6, hc0, z7, rq_H ht hl9 hY (by first | decide | omega) hMZ (fun j x h1 h2 h3 => (z5 j x h2).trans (lx_f j x (by omega) h1)) z4 ((z5 344 2 (by unfold lhM; omega)).trans y6)⟩

theorem rHo_261_1 (h : hyA S0 p HT cs ms os X fa n B2 w t A s kd nms ne ec bh ba ar) (hX : w_X xs) (hH : stHo S0 p 261 HT nt cs ms os n) (hO9 : wOs cs os) (hAb : wAb cs) (hND : ∀ c : Int, 0 ≤ c → c < (cs.length : Int) → ∀ m q : Int, m ∈ mIx cs c → q ∈ mIx cs c → (hmR ms m).2.1 = 2 → (hmR ms q).2.1 = 2 → (hmR ms m).2.2.2.2.1 = (hmR ms q).2.2.2.2.1 → m = q) (hwo : a_W A < 10000000) (hix : 0 ≤ nms → nms < ((a_N A).length : Int) → ixL (a_N A) (nmT (a_N A) nms) = nms) (hgk : ((a_K A t).1.getD ba (0, 0, [])).1 = 7) (hkd : kd = 0 ∨ kd = 1 ∨ kd = 5) (hY : rRun S0 Sb HT cs ms os X mo t A Y) (ha : rAim t (a_K A t) ba bh en Y) : wJ (pe_GA xs) wY0 (fun _ => False) (d + 89) t_M_looksAtHost ((pe_at t_M_looksAtHost.bl 0).getD (0, [])).2 [(0, (2, 237)), (1, (0, s)), (2, (0, kd)), (3, (0, 1))] [] (lkX 1 1 Y) (lrQ HT cs ms os (a_N A) (hoC HT cs ms os A mo kd 0 (nmT (a_N A) nms) (tO (a_T A) ((a_K A t).1.getD ba (0, 0, [])).2.1).2.2.1 (ar.map (clO (a_T A)))).1 (hoC HT cs ms os A mo kd 0 (nmT (a_N A) nms) (tO (a_T A) ((a_K A t).1.getD ba (0, 0, [])).2.1).2.2.1 (ar.map (clO (a_T A)))).2 mo (tO (a_T A) ((a_K A t).1.getD ba (0, 0, [])).2.1).2.2.1 (whA HT cs ms os kd 0 (nmT (a_N A) nms) (tO (a_T A) ((a_K A t).1.getD ba (0, 0, [])).2.1).2.2.1 (ar.map (clO (a_T A)))) (mnA HT cs ms os kd 0 (nmT (a_N A) nms) (tO (a_T A) ((a_K A t).1.getD ba (0, 0, [])).2.1).2.2.1 (ar.map (clO (a_T A))) : Int) (lkX 1 1 Y)) := by
  have hT8 := hA_T h
  have hl9 := hl_A h
  have hvo := gv_G h
  obtain ⟨s0, s4, s5, s6⟩ := s_4 h hY
  have hba := hA_ba h
  obtain ⟨⟨hp, hw, hx⟩, hA, hB, ⟨hr, ho⟩, hsi, hme⟩ := id h
  have ht := wt_t hw
  obtain ⟨⟨i1, i2, i3, i4⟩, i5, i6, i7, i8⟩ := id hsi
  have hN := hA.2.2.2.2.2.1.1
  have hnc := hH.2.2.2.1.2.2
  have hwH := hH.2.2.2.2.2.2.2.1
  have hv1 := vk_of hA hw
  have hes := es_ok i5 hv1
  have h88 := ec_8 i5
  have htt := cl_t (cs := cs) hA hw hnc i5
  have hkk : 0 ≤ (tO (a_T A) ((a_K A t).1.getD ba (0, 0, [])).2.1).2.2.1 ∧ (tO (a_T A) ((a_K A t).1.getD ba (0, 0, [])).2.1).2.2.1 < (cs.length : Int) := by
    have z1 := (hvo.1.2.2.2.1 hgk).1; have z2 := hvo.2.1 hgk
    omega
  obtain ⟨q1, q2⟩ := rq_R (l := 1) ht hl9 hY (by first | decide | omega)
  have hKR := ho_r (A := (u_Q A (a_H A) (a_C A) (a_W A) 1 0)) hH q1
  obtain ⟨sl, hW⟩ := q1.1.2.2.1.1
  have hCh := q1.1.2.2.2.2.2.2.1.1
  have y172 := (lx_v (l := 1) (Y := Y)).2.2.2.1
  have g : ∀ (j : Nat) (x : Int), (j ≠ 237 ∨ (x < 166 ∨ 172 < x)) → j ≠ 344 → (lkX 1 1 Y) j x = Y j x := fun j x h1 h2 => lx_f j x (by omega) (by omega)
  have g305 : (lkX 1 1 Y) 305 s = nms := (g 305 s (by omega) (by omega)).trans s5
  have g174 : (lkX 1 1 Y) 237 174 = 7 := (g 237 174 (by omega) (by omega)).trans (ha.2.2.1.trans hgk)
  have g175 : (lkX 1 1 Y) 237 175 = ((a_K A t).1.getD ba (0, 0, [])).2.1 := (g 237 175 (by omega) (by omega)).trans (ha.2.2.2.1.trans (gb_r h hY (by omega)))
  have g173 : (lkX 1 1 Y) 237 173 = 2100 * t + (ba : Int) := (g 237 173 (by omega) (by omega)).trans ha.2.1
  have hr9 : 0 ≤ 2100 * t + (ba : Int) ∧ 2100 * t + (ba : Int) + 1 + ((ar.map (clO (a_T A))).length : Int) ≤ 4200 := by
    rw [List.length_map]
    have := i5.2.2.1
    have := i5.2.2.2.1
    omega
  have hcl : rCl (lkX 1 1 Y) (2100 * t + (ba : Int)) (ar.map (clO (a_T A))) := rCl_of ht (rT_of q1.1 ht) hW hT8 hv1 i5
  have h80 : (ar.map (clO (a_T A))).length ≤ 8 := by rw [List.length_map]; exact h88.1
  have hgo := ((gv_G h).1.2.1 (by omega) (by omega)).1
  have hg321 : (lkX 1 1 Y) 321 ((a_K A t).1.getD ba (0, 0, [])).2.1 = (tO (a_T A) ((a_K A t).1.getD ba (0, 0, [])).2.1).2.2.1 := by
    exact ((r_th (T := a_T A) hW.1 hgo.1 hgo.2).2.2.2.1).trans (if_pos (((gv_G h).1.2.1 (by omega) (by omega)).2.trans hgk))
  have hg9 : ((7 : Int) = 7 ∧ (0 : Int) = 0 ∧ (0 ≤ ((a_K A t).1.getD ba (0, 0, [])).2.1 ∧ ((a_K A t).1.getD ba (0, 0, [])).2.1 < 8000) ∧ (lkX 1 1 Y) 321 ((a_K A t).1.getD ba (0, 0, [])).2.1 = (tO (a_T A) ((a_K A t).1.getD ba (0, 0, [])).2.1).2.2.1) ∨ ((7 : Int) = 8 ∧ (0 : Int) = 1 ∧ ((a_K A t).1.getD ba (0, 0, [])).2.1 = (tO (a_T A) ((a_K A t).1.getD ba (0, 0, [])).2.1).2.2.1) := Or.inl ⟨rfl, rfl, ⟨hgo.1, by have := hgo.2; omega⟩, hg321⟩
  have nmf : kd ≠ 6 → (0 ≤ nms ∧ nms < 4000) ∧ (lkX 1 1 Y) 282 nms = ((nmT (a_N A) nms).length : Int) ∧ (nmT (a_N A) nms).length ≤ 60 ∧ (∀ x : Nat, x < (nmT (a_N A) nms).length → (lkX 1 1 Y) 281 (60 * nms + (x : Int)) = (nmT (a_N A) nms).getD x 0) ∧ (nmT (a_N A) nms) ∈ a_N A ∧ ixL (a_N A) (nmT (a_N A) nms) = nms := fun k6 => by
    have z7 := i7 (by omega)
    obtain ⟨m1, m2, m3⟩ := hY.1.2.2.2.1.1
    obtain ⟨n1, n2, n3⟩ := m3 nms.toNat (by omega)
    have en9 : ((nms.toNat : Nat) : Int) = nms := by omega
    rw [en9] at n1 n3
    have n4 := nmT_g (A := A) z7.1
    refine ⟨⟨z7.1, by omega⟩, ?_, by rw [n4]; exact n2, fun i hi => ?_, ?_, hix z7.1 (by omega)⟩
    · rw [n4, g 282 _ (by omega) (by omega)]
      exact n1
    · rw [n4] at hi ⊢
      rw [g 281 _ (by omega) (by omega)]
      exact n3 i hi
    · rw [n4, gD_ix (show nms.toNat < (a_N A).length by omega)]
      exact List.getElem_mem _
  by_cases k0 : kd = 0
  · subst k0
    obtain ⟨a1, a2, a3, a4, a5, a6⟩ := nmf (by first | decide | omega)
    exact lhg_261 (d := d + 23) (am := 0) q2 hKR hwH hX a1 a2 a3 a4 hO9 hAb hkk (by first | decide | omega) s0 g305 g174 g175 hg9 y172 hCh (Or.inr rfl)
  by_cases k1 : kd = 1
  · subst k1
    obtain ⟨a1, a2, a3, a4, a5, a6⟩ := nmf (by first | decide | omega)
    have h1 : (ar.map (clO (a_T A))).length = 1 := by
      rw [List.length_map]
      have := h88.2
      rw [if_pos rfl] at this
      omega
    rw [mn_1]
    exact lhs1_261 (d := d + 23) (ct := 0) (am := 0) q2 hKR hwH hX a1 a2 a3 a4 hO9 hAb hkk (by first | decide | omega) s0 g305 g174 g175 hg9 y172 hCh g173 hr9 hcl h80 hes htt hwo h1
  have h06 : (lkX 1 1 Y) 306 s = ((ar.map (clO (a_T A))).length : Int) := by
    rw [g 306 s (by omega) (by omega), s6, List.length_map]
    have := h88.2
    rw [if_neg k1] at this
    exact this.symm
  by_cases k5 : kd = 5
  · subst k5
    obtain ⟨a1, a2, a3, a4, a5, a6⟩ := nmf (by first | decide | omega)
    rw [mn_5 (kd := 5) (Or.inl rfl)]
    exact lhm1_261 (d := d + 23) (ct := 0) (am := 0) q2 hKR hwH hX a1 a2 a3 a4 hO9 hAb hkk (by first | decide | omega) s0 g305 g174 g175 hg9 y172 hCh g173 hr9 hcl h80 hes htt hwo h06 a5 a6
  omega
theorem rkh_261_1 (h : hyA S0 p HT cs ms os X fa n B2 w t A s kd nms ne ec bh ba ar) (hX : w_X xs) (hH : stHo S0 p 261 HT nt cs ms os n) (hO9 : wOs cs os) (hAb : wAb cs) (hND : ∀ c : Int, 0 ≤ c → c < (cs.length : Int) → ∀ m q : Int, m ∈ mIx cs c → q ∈ mIx cs c → (hmR ms m).2.1 = 2 → (hmR ms q).2.1 = 2 → (hmR ms m).2.2.2.2.1 = (hmR ms q).2.2.2.2.1 → m = q) (hwo : a_W A < 10000000) (hix : 0 ≤ nms → nms < ((a_N A).length : Int) → ixL (a_N A) (nmT (a_N A) nms) = nms) (hgk : ((a_K A t).1.getD ba (0, 0, [])).1 = 7) (hkd : kd = 0 ∨ kd = 1 ∨ kd = 5) (hen : en = -1) (hwh : 0 ≤ (whA HT cs ms os kd 0 (nmT (a_N A) nms) (tO (a_T A) ((a_K A t).1.getD ba (0, 0, [])).2.1).2.2.1 (ar.map (clO (a_T A))))) : ∀ {Sb : wS} (Y : wS), rRun S0 Sb HT cs ms os X mo t A Y → rAim t (a_K A t) ba bh en Y → wJ (pe_GA xs) wY0 (fun _ => False) (d + 90) t_M_looks ((pe_at t_M_looks.bl 0).getD (0, [])).2 [(0, (2, 237)), (1, (0, s)), (2, (0, 1))] [] Y (fun o Z => o = .inl none ∧ w_ML Z ∧ rRun S0 Sb HT cs ms os X mo t (u_Q A (a_H A) (hoC HT cs ms os A mo kd 0 (nmT (a_N A) nms) (tO (a_T A) ((a_K A t).1.getD ba (0, 0, [])).2.1).2.2.1 (ar.map (clO (a_T A)))).1 (hoC HT cs ms os A mo kd 0 (nmT (a_N A) nms) (tO (a_T A) ((a_K A t).1.getD ba (0, 0, [])).2.1).2.2.1 (ar.map (clO (a_T A)))).2 1 0) Z ∧ rAim t (a_K A t) ba bh en Z ∧ (Z 237 166 = ((hoR9 HT cs ms os (a_c A 11) 1 kd (nmT (a_N A) nms) (tO (a_T A) ((a_K A t).1.getD ba (0, 0, [])).2.1).2.2.1 (ar.map (clO (a_T A)))) : aE).1 ∧ Z 237 167 = ((hoR9 HT cs ms os (a_c A 11) 1 kd (nmT (a_N A) nms) (tO (a_T A) ((a_K A t).1.getD ba (0, 0, [])).2.1).2.2.1 (ar.map (clO (a_T A)))) : aE).2.1 ∧ Z 237 177 = ((hoR9 HT cs ms os (a_c A 11) 1 kd (nmT (a_N A) nms) (tO (a_T A) ((a_K A t).1.getD ba (0, 0, [])).2.1).2.2.1 (ar.map (clO (a_T A)))) : aE).2.2.1 ∧ Z 237 169 = ((hoR9 HT cs ms os (a_c A 11) 1 kd (nmT (a_N A) nms) (tO (a_T A) ((a_K A t).1.getD ba (0, 0, [])).2.1).2.2.1 (ar.map (clO (a_T A)))) : aE).2.2.2.1 ∧ Z 237 170 = ((hoR9 HT cs ms os (a_c A 11) 1 kd (nmT (a_N A) nms) (tO (a_T A) ((a_K A t).1.getD ba (0, 0, [])).2.1).2.2.1 (ar.map (clO (a_T A)))) : aE).2.2.2.2.1 ∧ Z 237 171 = ((hoR9 HT cs ms os (a_c A 11) 1 kd (nmT (a_N A) nms) (tO (a_T A) ((a_K A t).1.getD ba (0, 0, [])).2.1).2.2.1 (ar.map (clO (a_T A)))) : aE).2.2.2.2.2.1 ∧ Z 237 81 = ((hoR9 HT cs ms os (a_c A 11) 1 kd (nmT (a_N A) nms) (tO (a_T A) ((a_K A t).1.getD ba (0, 0, [])).2.1).2.2.1 (ar.map (clO (a_T A)))) : aE).2.2.2.2.2.2.1) ∧ Z 237 172 = ((mnA HT cs ms os kd 0 (nmT (a_N A) nms) (tO (a_T A) ((a_K A t).1.getD ba (0, 0, [])).2.1).2.2.1 (ar.map (clO (a_T A)))) : Int)) := fun Y hY ha => by
  have hl9 := hl_A h
  obtain ⟨k0, k4, k5, k6⟩ := s_4 h hY
  obtain ⟨y1, y2, y3, y4, y5, y6⟩ := lx_v (Y := Y) (l := 1)
  have ht := wt_t h.1.2.1
  obtain ⟨q1, q2⟩ := rq_R (l := 1) ht hl9 hY (by first | decide | omega)
  have c2 := hY.1.2.2.2.2.2.2.2.1.2.1
  refine rlk1 (d := d + 82) hY.1.1 k0 k4 ha.2.2.1 hgk (Or.inr rfl) (ak_0 h hY (by first | decide | omega)) (wJ_mono (wJ_ml q2 (rHo_261_1 (d := d) h hX hH hO9 hAb hND hwo hix hgk hkd hY ha)) (fun o Z hz => ?_)) (fun o Z hz => Or.inl hz.1)
  obtain ⟨⟨z1, z2, z3, z4, z5⟩, hMZ⟩ := hz
  obtain ⟨z6, z7, z8⟩ := z1 hwh
  have g : ∀ (j : Nat) (x : Int), ¬ lhM j x → (j ≠ 237 ∨ (x < 166 ∨ 172 < x)) → j ≠ 344 → Z j x = Y j x := fun j x h0 h1 h2 => (z5 j x h0).trans (lx_f j x (by omega) (by omega))
  refine ⟨z6, hMZ, rq_H ht hl9 hY (by first | decide | omega) hMZ (fun j x h1 h2 h3 => (z5 j x h2).trans (lx_f j x (by omega) h1)) z4 ((z5 344 1 (by unfold lhM; omega)).trans y6), rA_k ha (fun j x hj => g j x (by unfold lhM; omega) (by omega) (by omega)), ⟨?_, z3, ?_, ?_, z7, ?_, ?_⟩, z8⟩
  · exact (z5 237 166 (by unfold lhM; omega)).trans y5
  · exact (g 237 177 (by unfold lhM; omega) (by omega) (by omega)).trans (ha.2.2.2.2.2.trans hen)
  · exact (z5 237 169 (by unfold lhM; omega)).trans y1
  · exact (z5 237 171 (by unfold lhM; omega)).trans y3
  · exact (g 237 81 (by unfold lhM; omega) (by omega) (by omega)).trans c2
theorem rkj_261_1 (h : hyA S0 p HT cs ms os X fa n B2 w t A s kd nms ne ec bh ba ar) (hX : w_X xs) (hH : stHo S0 p 261 HT nt cs ms os n) (hO9 : wOs cs os) (hAb : wAb cs) (hND : ∀ c : Int, 0 ≤ c → c < (cs.length : Int) → ∀ m q : Int, m ∈ mIx cs c → q ∈ mIx cs c → (hmR ms m).2.1 = 2 → (hmR ms q).2.1 = 2 → (hmR ms m).2.2.2.2.1 = (hmR ms q).2.2.2.2.1 → m = q) (hwo : a_W A < 10000000) (hix : 0 ≤ nms → nms < ((a_N A).length : Int) → ixL (a_N A) (nmT (a_N A) nms) = nms) (hgk : ((a_K A t).1.getD ba (0, 0, [])).1 = 7) (hkd : kd = 0 ∨ kd = 1 ∨ kd = 5) (hwh : (whA HT cs ms os kd 0 (nmT (a_N A) nms) (tO (a_T A) ((a_K A t).1.getD ba (0, 0, [])).2.1).2.2.1 (ar.map (clO (a_T A)))) < 0) : ∀ {Sb : wS} (Y : wS), rRun S0 Sb HT cs ms os X mo t A Y → rAim t (a_K A t) ba bh en Y → wJ (pe_GA xs) wY0 (fun _ => False) (d + 90) t_M_looks ((pe_at t_M_looks.bl 0).getD (0, [])).2 [(0, (2, 237)), (1, (0, s)), (2, (0, 1))] [] Y (fun o Z => o = .inr 238 ∧ (((if (whA HT cs ms os kd 0 (nmT (a_N A) nms) (tO (a_T A) ((a_K A t).1.getD ba (0, 0, [])).2.1).2.2.1 (ar.map (clO (a_T A)))) = -1 then 4 else -(whA HT cs ms os kd 0 (nmT (a_N A) nms) (tO (a_T A) ((a_K A t).1.getD ba (0, 0, [])).2.1).2.2.1 (ar.map (clO (a_T A))))) : Int) ≠ 0 ∧ Z 238 5 = (if (whA HT cs ms os kd 0 (nmT (a_N A) nms) (tO (a_T A) ((a_K A t).1.getD ba (0, 0, [])).2.1).2.2.1 (ar.map (clO (a_T A)))) = -1 then 4 else -(whA HT cs ms os kd 0 (nmT (a_N A) nms) (tO (a_T A) ((a_K A t).1.getD ba (0, 0, [])).2.1).2.2.1 (ar.map (clO (a_T A))))) ∧ rRun S0 Sb HT cs ms os X mo t (u_Q A (a_H A) (hoC HT cs ms os A mo kd 0 (nmT (a_N A) nms) (tO (a_T A) ((a_K A t).1.getD ba (0, 0, [])).2.1).2.2.1 (ar.map (clO (a_T A)))).1 (hoC HT cs ms os A mo kd 0 (nmT (a_N A) nms) (tO (a_T A) ((a_K A t).1.getD ba (0, 0, [])).2.1).2.2.1 (ar.map (clO (a_T A)))).2 1 0) Z)) := fun Y hY ha => by
  have hl9 := hl_A h
  obtain ⟨k0, k4, k5, k6⟩ := s_4 h hY
  obtain ⟨y1, y2, y3, y4, y5, y6⟩ := lx_v (Y := Y) (l := 1)
  have ht := wt_t h.1.2.1
  obtain ⟨q1, q2⟩ := rq_R (l := 1) ht hl9 hY (by first | decide | omega)
  have hc0 : (if (whA HT cs ms os kd 0 (nmT (a_N A) nms) (tO (a_T A) ((a_K A t).1.getD ba (0, 0, [])).2.1).2.2.1 (ar.map (clO (a_T A)))) = -1 then 4 else -(whA HT cs ms os kd 0 (nmT (a_N A) nms) (tO (a_T A) ((a_K A t).1.getD ba (0, 0, [])).2.1).2.2.1 (ar.map (clO (a_T A))))) ≠ 0 := by
    by_cases z : (whA HT cs ms os kd 0 (nmT (a_N A) nms) (tO (a_T A) ((a_K A t).1.getD ba (0, 0, [])).2.1).2.2.1 (ar.map (clO (a_T A)))) = -1
    · rw [if_pos z]; decide
    · rw [if_neg z]; omega
  refine rlk1 (d := d + 82) hY.1.1 k0 k4 ha.2.2.1 hgk (Or.inr rfl) (ak_0 h hY (by first | decide | omega)) (wJ_mono (wJ_ml q2 (rHo_261_1 (d := d) h hX hH hO9 hAb hND hwo hix hgk hkd hY ha)) (fun o Z hz => ?_)) (fun o Z hz => Or.inr hz.1)
  obtain ⟨⟨z1, z2, z3, z4, z5⟩, hMZ⟩ := hz
  obtain ⟨z6, z7, z8⟩ := z2 hwh
  exact ⟨z6, hc0, z7, rq_H ht hl9 hY (by first | decide | omega) hMZ (fun j x h1 h2 h3 => (z5 j x h2).trans (lx_f j x (by omega) h1)) z4 ((z5 344 1 (by unfold lhM; omega)).trans y6)⟩

theorem rHo_261_2 (h : hyA S0 p HT cs ms os X fa n B2 w t A s kd nms ne ec bh ba ar) (hX : w_X xs) (hH : stHo S0 p 261 HT nt cs ms os n) (hO9 : wOs cs os) (hAb : wAb cs) (hND : ∀ c : Int, 0 ≤ c → c < (cs.length : Int) → ∀ m q : Int, m ∈ mIx cs c → q ∈ mIx cs c → (hmR ms m).2.1 = 2 → (hmR ms q).2.1 = 2 → (hmR ms m).2.2.2.2.1 = (hmR ms q).2.2.2.2.1 → m = q) (hwo : a_W A < 10000000) (hix : 0 ≤ nms → nms < ((a_N A).length : Int) → ixL (a_N A) (nmT (a_N A) nms) = nms) (hgk : ((a_K A t).1.getD ba (0, 0, [])).1 = 8) (hkd : kd = 0 ∨ kd = 1 ∨ kd = 5 ∨ kd = 6) (hY : rRun S0 Sb HT cs ms os X mo t A Y) (ha : rAim t (a_K A t) ba bh en Y) : wJ (pe_GA xs) wY0 (fun _ => False) (d + 89) t_M_looksAtHost ((pe_at t_M_looksAtHost.bl 0).getD (0, [])).2 [(0, (2, 237)), (1, (0, s)), (2, (0, kd)), (3, (0, 1))] [] (lkX 2 1 Y) (lrQ HT cs ms os (a_N A) (hoC HT cs ms os A mo kd 1 (nmT (a_N A) nms) ((a_K A t).1.getD ba (0, 0, [])).2.1 (ar.map (clO (a_T A)))).1 (hoC HT cs ms os A mo kd 1 (nmT (a_N A) nms) ((a_K A t).1.getD ba (0, 0, [])).2.1 (ar.map (clO (a_T A)))).2 mo ((a_K A t).1.getD ba (0, 0, [])).2.1 (whA HT cs ms os kd 1 (nmT (a_N A) nms) ((a_K A t).1.getD ba (0, 0, [])).2.1 (ar.map (clO (a_T A)))) (mnA HT cs ms os kd 1 (nmT (a_N A) nms) ((a_K A t).1.getD ba (0, 0, [])).2.1 (ar.map (clO (a_T A))) : Int) (lkX 2 1 Y)) := by
  have hT8 := hA_T h
  have hl9 := hl_A h
  have hvo := gv_G h
  obtain ⟨s0, s4, s5, s6⟩ := s_4 h hY
  have hba := hA_ba h
  obtain ⟨⟨hp, hw, hx⟩, hA, hB, ⟨hr, ho⟩, hsi, hme⟩ := id h
  have ht := wt_t hw
  obtain ⟨⟨i1, i2, i3, i4⟩, i5, i6, i7, i8⟩ := id hsi
  have hN := hA.2.2.2.2.2.1.1
  have hnc := hH.2.2.2.1.2.2
  have hwH := hH.2.2.2.2.2.2.2.1
  have hv1 := vk_of hA hw
  have hes := es_ok i5 hv1
  have h88 := ec_8 i5
  have htt := cl_t (cs := cs) hA hw hnc i5
  have hkk : 0 ≤ ((a_K A t).1.getD ba (0, 0, [])).2.1 ∧ ((a_K A t).1.getD ba (0, 0, [])).2.1 < (cs.length : Int) := by
    have z1 := (hvo.1.2.2.1 hgk).1; have z2 := hvo.2.2.1 hgk
    omega
  obtain ⟨q1, q2⟩ := rq_R (l := 2) ht hl9 hY (by first | decide | omega)
  have hKR := ho_r (A := (u_Q A (a_H A) (a_C A) (a_W A) 2 0)) hH q1
  obtain ⟨sl, hW⟩ := q1.1.2.2.1.1
  have hCh := q1.1.2.2.2.2.2.2.1.1
  have y172 := (lx_v (l := 2) (Y := Y)).2.2.2.1
  have g : ∀ (j : Nat) (x : Int), (j ≠ 237 ∨ (x < 166 ∨ 172 < x)) → j ≠ 344 → (lkX 2 1 Y) j x = Y j x := fun j x h1 h2 => lx_f j x (by omega) (by omega)
  have g305 : (lkX 2 1 Y) 305 s = nms := (g 305 s (by omega) (by omega)).trans s5
  have g174 : (lkX 2 1 Y) 237 174 = 8 := (g 237 174 (by omega) (by omega)).trans (ha.2.2.1.trans hgk)
  have g175 : (lkX 2 1 Y) 237 175 = ((a_K A t).1.getD ba (0, 0, [])).2.1 := (g 237 175 (by omega) (by omega)).trans (ha.2.2.2.1.trans (gb_r h hY (by omega)))
  have g173 : (lkX 2 1 Y) 237 173 = 2100 * t + (ba : Int) := (g 237 173 (by omega) (by omega)).trans ha.2.1
  have hr9 : 0 ≤ 2100 * t + (ba : Int) ∧ 2100 * t + (ba : Int) + 1 + ((ar.map (clO (a_T A))).length : Int) ≤ 4200 := by
    rw [List.length_map]
    have := i5.2.2.1
    have := i5.2.2.2.1
    omega
  have hcl : rCl (lkX 2 1 Y) (2100 * t + (ba : Int)) (ar.map (clO (a_T A))) := rCl_of ht (rT_of q1.1 ht) hW hT8 hv1 i5
  have h80 : (ar.map (clO (a_T A))).length ≤ 8 := by rw [List.length_map]; exact h88.1
  have hg9 : ((8 : Int) = 7 ∧ (1 : Int) = 0 ∧ (0 ≤ ((a_K A t).1.getD ba (0, 0, [])).2.1 ∧ ((a_K A t).1.getD ba (0, 0, [])).2.1 < 8000) ∧ (lkX 2 1 Y) 321 ((a_K A t).1.getD ba (0, 0, [])).2.1 = ((a_K A t).1.getD ba (0, 0, [])).2.1) ∨ ((8 : Int) = 8 ∧ (1 : Int) = 1 ∧ ((a_K A t).1.getD ba (0, 0, [])).2.1 = ((a_K A t).1.getD ba (0, 0, [])).2.1) := Or.inr ⟨rfl, rfl, rfl⟩
  have nmf : kd ≠ 6 → (0 ≤ nms ∧ nms < 4000) ∧ (lkX 2 1 Y) 282 nms = ((nmT (a_N A) nms).length : Int) ∧ (nmT (a_N A) nms).length ≤ 60 ∧ (∀ x : Nat, x < (nmT (a_N A) nms).length → (lkX 2 1 Y) 281 (60 * nms + (x : Int)) = (nmT (a_N A) nms).getD x 0) ∧ (nmT (a_N A) nms) ∈ a_N A ∧ ixL (a_N A) (nmT (a_N A) nms) = nms := fun k6 => by
    have z7 := i7 (by omega)
    obtain ⟨m1, m2, m3⟩ := hY.1.2.2.2.1.1
    obtain ⟨n1, n2, n3⟩ := m3 nms.toNat (by omega)
    have en9 : ((nms.toNat : Nat) : Int) = nms := by omega
    rw [en9] at n1 n3
    have n4 := nmT_g (A := A) z7.1
    refine ⟨⟨z7.1, by omega⟩, ?_, by rw [n4]; exact n2, fun i hi => ?_, ?_, hix z7.1 (by omega)⟩
    · rw [n4, g 282 _ (by omega) (by omega)]
      exact n1
    · rw [n4] at hi ⊢
      rw [g 281 _ (by omega) (by omega)]
      exact n3 i hi
    · rw [n4, gD_ix (show nms.toNat < (a_N A).length by omega)]
      exact List.getElem_mem _
  by_cases k0 : kd = 0
  · subst k0
    obtain ⟨a1, a2, a3, a4, a5, a6⟩ := nmf (by first | decide | omega)
    exact lhg_261 (d := d + 23) (am := 1) q2 hKR hwH hX a1 a2 a3 a4 hO9 hAb hkk (by first | decide | omega) s0 g305 g174 g175 hg9 y172 hCh (Or.inr rfl)
  by_cases k1 : kd = 1
  · subst k1
    obtain ⟨a1, a2, a3, a4, a5, a6⟩ := nmf (by first | decide | omega)
    have h1 : (ar.map (clO (a_T A))).length = 1 := by
      rw [List.length_map]
      have := h88.2
      rw [if_pos rfl] at this
      omega
    rw [mn_1]
    exact lhs1_261 (d := d + 23) (ct := 0) (am := 1) q2 hKR hwH hX a1 a2 a3 a4 hO9 hAb hkk (by first | decide | omega) s0 g305 g174 g175 hg9 y172 hCh g173 hr9 hcl h80 hes htt hwo h1
  have h06 : (lkX 2 1 Y) 306 s = ((ar.map (clO (a_T A))).length : Int) := by
    rw [g 306 s (by omega) (by omega), s6, List.length_map]
    have := h88.2
    rw [if_neg k1] at this
    exact this.symm
  by_cases k5 : kd = 5
  · subst k5
    obtain ⟨a1, a2, a3, a4, a5, a6⟩ := nmf (by first | decide | omega)
    rw [mn_5 (kd := 5) (Or.inl rfl)]
    exact lhm1_261 (d := d + 23) (ct := 0) (am := 1) q2 hKR hwH hX a1 a2 a3 a4 hO9 hAb hkk (by first | decide | omega) s0 g305 g174 g175 hg9 y172 hCh g173 hr9 hcl h80 hes htt hwo h06 a5 a6
  have k6 : kd = 6 := by omega
  subst k6
  rw [mn_5 (kd := 6) (Or.inr rfl)]
  exact lhn1_261 (d := d + 23) (ct := 0) (am := 1) (W := []) q2 hKR hwH hO9 hAb hkk (by first | decide | omega) s0 g305 g174 g175 hg9 y172 hCh g173 hr9 hcl h80 hes htt hwo h06 rfl (by omega) (hND _ hkk.1 hkk.2)
theorem rkh_261_2 (h : hyA S0 p HT cs ms os X fa n B2 w t A s kd nms ne ec bh ba ar) (hX : w_X xs) (hH : stHo S0 p 261 HT nt cs ms os n) (hO9 : wOs cs os) (hAb : wAb cs) (hND : ∀ c : Int, 0 ≤ c → c < (cs.length : Int) → ∀ m q : Int, m ∈ mIx cs c → q ∈ mIx cs c → (hmR ms m).2.1 = 2 → (hmR ms q).2.1 = 2 → (hmR ms m).2.2.2.2.1 = (hmR ms q).2.2.2.2.1 → m = q) (hwo : a_W A < 10000000) (hix : 0 ≤ nms → nms < ((a_N A).length : Int) → ixL (a_N A) (nmT (a_N A) nms) = nms) (hgk : ((a_K A t).1.getD ba (0, 0, [])).1 = 8) (hkd : kd = 0 ∨ kd = 1 ∨ kd = 5 ∨ kd = 6) (hen : en = -1) (hwh : 0 ≤ (whA HT cs ms os kd 1 (nmT (a_N A) nms) ((a_K A t).1.getD ba (0, 0, [])).2.1 (ar.map (clO (a_T A))))) : ∀ {Sb : wS} (Y : wS), rRun S0 Sb HT cs ms os X mo t A Y → rAim t (a_K A t) ba bh en Y → wJ (pe_GA xs) wY0 (fun _ => False) (d + 90) t_M_looks ((pe_at t_M_looks.bl 0).getD (0, [])).2 [(0, (2, 237)), (1, (0, s)), (2, (0, 1))] [] Y (fun o Z => o = .inl none ∧ w_ML Z ∧ rRun S0 Sb HT cs ms os X mo t (u_Q A (a_H A) (hoC HT cs ms os A mo kd 1 (nmT (a_N A) nms) ((a_K A t).1.getD ba (0, 0, [])).2.1 (ar.map (clO (a_T A)))).1 (hoC HT cs ms os A mo kd 1 (nmT (a_N A) nms) ((a_K A t).1.getD ba (0, 0, [])).2.1 (ar.map (clO (a_T A)))).2 2 0) Z ∧ rAim t (a_K A t) ba bh en Z ∧ (Z 237 166 = ((hoR9 HT cs ms os (a_c A 11) 2 kd (nmT (a_N A) nms) ((a_K A t).1.getD ba (0, 0, [])).2.1 (ar.map (clO (a_T A)))) : aE).1 ∧ Z 237 167 = ((hoR9 HT cs ms os (a_c A 11) 2 kd (nmT (a_N A) nms) ((a_K A t).1.getD ba (0, 0, [])).2.1 (ar.map (clO (a_T A)))) : aE).2.1 ∧ Z 237 177 = ((hoR9 HT cs ms os (a_c A 11) 2 kd (nmT (a_N A) nms) ((a_K A t).1.getD ba (0, 0, [])).2.1 (ar.map (clO (a_T A)))) : aE).2.2.1 ∧ Z 237 169 = ((hoR9 HT cs ms os (a_c A 11) 2 kd (nmT (a_N A) nms) ((a_K A t).1.getD ba (0, 0, [])).2.1 (ar.map (clO (a_T A)))) : aE).2.2.2.1 ∧ Z 237 170 = ((hoR9 HT cs ms os (a_c A 11) 2 kd (nmT (a_N A) nms) ((a_K A t).1.getD ba (0, 0, [])).2.1 (ar.map (clO (a_T A)))) : aE).2.2.2.2.1 ∧ Z 237 171 = ((hoR9 HT cs ms os (a_c A 11) 2 kd (nmT (a_N A) nms) ((a_K A t).1.getD ba (0, 0, [])).2.1 (ar.map (clO (a_T A)))) : aE).2.2.2.2.2.1 ∧ Z 237 81 = ((hoR9 HT cs ms os (a_c A 11) 2 kd (nmT (a_N A) nms) ((a_K A t).1.getD ba (0, 0, [])).2.1 (ar.map (clO (a_T A)))) : aE).2.2.2.2.2.2.1) ∧ Z 237 172 = ((mnA HT cs ms os kd 1 (nmT (a_N A) nms) ((a_K A t).1.getD ba (0, 0, [])).2.1 (ar.map (clO (a_T A)))) : Int)) := fun Y hY ha => by
  have hl9 := hl_A h
  obtain ⟨k0, k4, k5, k6⟩ := s_4 h hY
  obtain ⟨y1, y2, y3, y4, y5, y6⟩ := lx_v (Y := Y) (l := 2)
  have ht := wt_t h.1.2.1
  obtain ⟨q1, q2⟩ := rq_R (l := 2) ht hl9 hY (by first | decide | omega)
  have c2 := hY.1.2.2.2.2.2.2.2.1.2.1
  refine rlk2 (d := d + 82) hY.1.1 k0 k4 ha.2.2.1 hgk (Or.inr rfl) (ak_0 h hY (by first | decide | omega)) (wJ_mono (wJ_ml q2 (rHo_261_2 (d := d) h hX hH hO9 hAb hND hwo hix hgk hkd hY ha)) (fun o Z hz => ?_)) (fun o Z hz => Or.inl hz.1)
  obtain ⟨⟨z1, z2, z3, z4, z5⟩, hMZ⟩ := hz
  obtain ⟨z6, z7, z8⟩ := z1 hwh
  have g : ∀ (j : Nat) (x : Int), ¬ lhM j x → (j ≠ 237 ∨ (x < 166 ∨ 172 < x)) → j ≠ 344 → Z j x = Y j x := fun j x h0 h1 h2 => (z5 j x h0).trans (lx_f j x (by omega) (by omega))
  refine ⟨z6, hMZ, rq_H ht hl9 hY (by first | decide | omega) hMZ (fun j x h1 h2 h3 => (z5 j x h2).trans (lx_f j x (by omega) h1)) z4 ((z5 344 2 (by unfold lhM; omega)).trans y6), rA_k ha (fun j x hj => g j x (by unfold lhM; omega) (by omega) (by omega)), ⟨?_, z3, ?_, ?_, z7, ?_, ?_⟩, z8⟩
  · exact (z5 237 166 (by unfold lhM; omega)).trans y5
  · exact (g 237 177 (by unfold lhM; omega) (by omega) (by omega)).trans (ha.2.2.2.2.2.trans hen)
  · exact (z5 237 169 (by unfold lhM; omega)).trans y1
  · exact (z5 237 171 (by unfold lhM; omega)).trans y3
  · exact (g 237 81 (by unfold lhM; omega) (by omega) (by omega)).trans c2
theorem rkj_261_2 (h : hyA S0 p HT cs ms os X fa n B2 w t A s kd nms ne ec bh ba ar) (hX : w_X xs) (hH : stHo S0 p 261 HT nt cs ms os n) (hO9 : wOs cs os) (hAb : wAb cs) (hND : ∀ c : Int, 0 ≤ c → c < (cs.length : Int) → ∀ m q : Int, m ∈ mIx cs c → q ∈ mIx cs c → (hmR ms m).2.1 = 2 → (hmR ms q).2.1 = 2 → (hmR ms m).2.2.2.2.1 = (hmR ms q).2.2.2.2.1 → m = q) (hwo : a_W A < 10000000) (hix : 0 ≤ nms → nms < ((a_N A).length : Int) → ixL (a_N A) (nmT (a_N A) nms) = nms) (hgk : ((a_K A t).1.getD ba (0, 0, [])).1 = 8) (hkd : kd = 0 ∨ kd = 1 ∨ kd = 5 ∨ kd = 6) (hwh : (whA HT cs ms os kd 1 (nmT (a_N A) nms) ((a_K A t).1.getD ba (0, 0, [])).2.1 (ar.map (clO (a_T A)))) < 0) : ∀ {Sb : wS} (Y : wS), rRun S0 Sb HT cs ms os X mo t A Y → rAim t (a_K A t) ba bh en Y → wJ (pe_GA xs) wY0 (fun _ => False) (d + 90) t_M_looks ((pe_at t_M_looks.bl 0).getD (0, [])).2 [(0, (2, 237)), (1, (0, s)), (2, (0, 1))] [] Y (fun o Z => o = .inr 238 ∧ (((if (whA HT cs ms os kd 1 (nmT (a_N A) nms) ((a_K A t).1.getD ba (0, 0, [])).2.1 (ar.map (clO (a_T A)))) = -1 then 4 else -(whA HT cs ms os kd 1 (nmT (a_N A) nms) ((a_K A t).1.getD ba (0, 0, [])).2.1 (ar.map (clO (a_T A))))) : Int) ≠ 0 ∧ Z 238 5 = (if (whA HT cs ms os kd 1 (nmT (a_N A) nms) ((a_K A t).1.getD ba (0, 0, [])).2.1 (ar.map (clO (a_T A)))) = -1 then 4 else -(whA HT cs ms os kd 1 (nmT (a_N A) nms) ((a_K A t).1.getD ba (0, 0, [])).2.1 (ar.map (clO (a_T A))))) ∧ rRun S0 Sb HT cs ms os X mo t (u_Q A (a_H A) (hoC HT cs ms os A mo kd 1 (nmT (a_N A) nms) ((a_K A t).1.getD ba (0, 0, [])).2.1 (ar.map (clO (a_T A)))).1 (hoC HT cs ms os A mo kd 1 (nmT (a_N A) nms) ((a_K A t).1.getD ba (0, 0, [])).2.1 (ar.map (clO (a_T A)))).2 2 0) Z)) := fun Y hY ha => by
  have hl9 := hl_A h
  obtain ⟨k0, k4, k5, k6⟩ := s_4 h hY
  obtain ⟨y1, y2, y3, y4, y5, y6⟩ := lx_v (Y := Y) (l := 2)
  have ht := wt_t h.1.2.1
  obtain ⟨q1, q2⟩ := rq_R (l := 2) ht hl9 hY (by first | decide | omega)
  have hc0 : (if (whA HT cs ms os kd 1 (nmT (a_N A) nms) ((a_K A t).1.getD ba (0, 0, [])).2.1 (ar.map (clO (a_T A)))) = -1 then 4 else -(whA HT cs ms os kd 1 (nmT (a_N A) nms) ((a_K A t).1.getD ba (0, 0, [])).2.1 (ar.map (clO (a_T A))))) ≠ 0 := by
    by_cases z : (whA HT cs ms os kd 1 (nmT (a_N A) nms) ((a_K A t).1.getD ba (0, 0, [])).2.1 (ar.map (clO (a_T A)))) = -1
    · rw [if_pos z]; decide
    · rw [if_neg z]; omega
  refine rlk2 (d := d + 82) hY.1.1 k0 k4 ha.2.2.1 hgk (Or.inr rfl) (ak_0 h hY (by first | decide | omega)) (wJ_mono (wJ_ml q2 (rHo_261_2 (d := d) h hX hH hO9 hAb hND hwo hix hgk hkd hY ha)) (fun o Z hz => ?_)) (fun o Z hz => Or.inr hz.1)
  obtain ⟨⟨z1, z2, z3, z4, z5⟩, hMZ⟩ := hz
  obtain ⟨z6, z7, z8⟩ := z2 hwh
  exact ⟨z6, hc0, z7, rq_H ht hl9 hY (by first | decide | omega) hMZ (fun j x h1 h2 h3 => (z5 j x h2).trans (lx_f j x (by omega) h1)) z4 ((z5 344 2 (by unfold lhM; omega)).trans y6)⟩

end Wma
