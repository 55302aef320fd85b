/-! PART lz: looking at what is a host's: the class, joined; what the reference holds then. -/
section Wlz
variable {Sb : wS} {xs : List (Nat × List Int32)} {d : Nat} {S0 S Z : wS} {p w m : Nat} {HT : Int → Int} {cs : List hCR} {ms : List hMR} {os : Int → List Int} {X : List (List Int)} {mo t n B B2 oq : Int} {fa : Int → Int} {WE : aA → Prop} {A A2 : aA} {K2 : aK} {ml : List Nat} {k c s kd nms ne ec bh nm en : Int} {b ba : Nat} {ar : List aV} {e : aE} {V Z2 Y : wS} {o : wO} {dn : Int} {H2 : List aH} {N2 : List (List Int)} {E2 : Int → List aE} {C2 : List aQ} {W2 : Int} {c2 : Int → Int} {k2 : Int → Int → Int} {mk rk : Nat → Int → Prop} {K : aK} {T : List aO} {H : List aH} {E : Int → List aE} {gk gb es lo hi a : Int} {r : List aE × Int × Option aE} {A1 : aA} {tl cl : List Int} {sl : Nat → List Int} {L : List aC} {G : Int → aV} {u : aV} {x : List Int} {T2 : List aO} {L2 : List aC} {G2 : Int → aV} {H2 : List aH} {c2 : Int → Int} {y : Int} {Q : wO → wS → Prop} {ps : List (Int × aV)} {k hd wh : Int} {f a9 pn fn md : Int} {vn m9 : Nat} {th : aV} {g : Int} {lp : List aV} {l ds fo g : Int} {mk : Nat → Int → Prop} {C2 : List aQ} {W2 : Int} {RZ : wS → Prop} {N3 : Nat} {SB : wS} {r r0 : Int} {sh : Int} {K9 : aK} {nt : Int}
/-- the reference was asked for what is a host's -/
theorem rq_H (ht : t = 0 ∨ t = 1) (hl9 : kLn (a_K A 0) ∧ kLn (a_K A 1)) (hY : rRun S0 Sb HT cs ms os X mo t A Y) (hl : 0 ≤ l ∧ l ≤ 3) (hM : w_ML V) (f : ∀ (j : Nat) (x : Int), ¬ (j = 344 ∧ x = l) → ¬ lhM j x → ¬ (j = 237 ∧ (166 ≤ x ∧ x ≤ 172)) → V j x = Y j x) (hCh : rCh HT cs ms os (a_N A) C2 W2 mo V) (h344 : V 344 l = Y 344 l + 1) : rRun S0 Sb HT cs ms os X mo t (u_Q A (a_H A) C2 W2 l 0) V := by
  have hF : rTm t (fun j x => (j = 344 ∧ x = l) ∨ (346 ≤ j ∧ j ≤ 351) ∨ (j = 237 ∧ (x = 67 ∨ x = 114 ∨ x = 115))) Y V := fun j x o hm => by
    have h1 : ¬ (j = 344 ∧ x = l) := fun z => hm (Or.inl z)
    have h2 : ¬ (346 ≤ j ∧ j ≤ 351) := fun z => hm (Or.inr (Or.inl z))
    have h3 : ¬ (j = 237 ∧ (x = 67 ∨ x = 114 ∨ x = 115)) := fun z => hm (Or.inr (Or.inr z))
    have o4 := o.2.2.2.1
    by_cases e : j = 237
    · have o1 := o.1 e
      exact f j x h1 (fun z => by unfold lhM at z; omega) (by omega)
    · by_cases e2 : j = 238
      · have o2 := o.2.1 e2
        exact f j x h1 (fun z => by unfold lhM at z; omega) (by omega)
      · exact f j x h1 (fun z => by unfold lhM at z; omega) (by omega)
  have g : ∀ (j : Nat) (x : Int), j ≠ 344 → (j < 346 ∨ 355 < j) → j ≠ 238 → (j ≠ 237 ∨ (x < 67 ∨ (67 < x ∧ x < 114) ∨ (115 < x ∧ x < 122) ∨ (128 < x ∧ x < 166) ∨ 172 < x)) → V j x = Y j x := fun j x h1 h2 h3 h4 => f j x (by omega) (fun z => by unfold lhM at z; omega) (by omega)
  refine rRel_L hY ht hl9 hF (fun j x hm => by unfold rLk; omega) hM (rTk_e (rT_of hY.1 ht) (fun j x hj => g j x (by omega) (by omega) (by omega) (by omega))) (rR_W hY.1 hF (tf_tx hF (fun j x hj hm => by omega)) (fun j x hj hm => by unfold rWo at hj; omega)) (rR_H hY.1 hF (fun j x hj hm => by omega)) (rR_N hY.1 hF (fun j x hj hm => by omega)) (rR_E hY.1 hF (fun j x hj hm => by omega)) hCh ?_
  obtain ⟨c1, c2, c3, c4, c5, c6⟩ := hY.1.2.2.2.2.2.2.2.1
  refine ⟨fun i hi => ?_, ?_, ?_, fun i hi => ?_, fun q q0 q1 => ?_, ?_⟩
  · show V 237 (62 + (i : Int)) = (fUp (fUp (a_c A) (20 + l) (a_c A (20 + l) + 1)) 4 (a_c A 4 + 0)) (i : Int)
    by_cases e : (i : Int) = 4
    · rw [e, cq_4, g 237 _ (by omega) (by omega) (by omega) (by omega)]
      have z := c1 i hi
      rw [e] at z
      rw [z]
      omega
    · rw [cq_n e (by omega), g 237 _ (by omega) (by omega) (by omega) (by omega)]
      exact c1 i hi
  · show V 237 81 = (fUp (fUp (a_c A) (20 + l) (a_c A (20 + l) + 1)) 4 (a_c A 4 + 0)) 11
    rw [cq_n (by first | decide | omega) (by omega), g 237 81 (by omega) (by omega) (by omega) (by omega)]
    exact c2
  · show V 237 108 = (fUp (fUp (a_c A) (20 + l) (a_c A (20 + l) + 1)) 4 (a_c A 4 + 0)) 19
    rw [cq_n (by first | decide | omega) (by omega), g 237 108 (by omega) (by omega) (by omega) (by omega)]
    exact c3
  · show V 344 (i : Int) = (fUp (fUp (a_c A) (20 + l) (a_c A (20 + l) + 1)) 4 (a_c A 4 + 0)) (20 + (i : Int))
    by_cases e : (i : Int) = l
    · rw [e, cq_l hl.1, h344]
      have z := c4 i hi
      rw [e] at z
      omega
    · rw [cq_n (by omega) (by omega), f 344 i (by omega) (fun z => by unfold lhM at z; omega) (by omega)]
      exact c4 i hi
  · rw [g 237 47 (by omega) (by omega) (by omega) (by omega)] at q1
    rw [g 310 q (by omega) (by omega) (by omega) (by omega), g 311 q (by omega) (by omega) (by omega) (by omega), g 312 q (by omega) (by omega) (by omega) (by omega), g 313 q (by omega) (by omega) (by omega) (by omega)]
    exact c5 q q0 q1
  · rw [g 237 82 (by omega) (by omega) (by omega) (by omega), g 237 94 (by omega) (by omega) (by omega) (by omega), g 237 63 (by omega) (by omega) (by omega) (by omega)]
    exact c6

theorem ckh_73_215_1 (h : hyA S0 73 HT cs ms os X fa n B2 215 0 A s kd nms ne ec bh ba ar) (hL9 : stL S0) (hH : stHo S0 73 241 HT nt cs ms os n) (hC9 : stHc S0 73 HT cs ms os) (hX : w_X xs) (hb : a_c A (20 + 1) + 1 ≤ B2) (hwo : a_W A < 10000000) (hgk : ((a_K A 0).1.getD ba (0, 0, [])).1 = 7) (hnm : nm = nms) (hkd : kd = 0 ∨ kd = 1 ∨ kd = 5) (hwh : 0 ≤ (whA HT cs ms os kd 0 (nmT (a_N A) nms) (tO (a_T A) ((a_K A 0).1.getD ba (0, 0, [])).2.1).2.2.1 (ar.map (clO (a_T A))))) (hact : cAct xs d S0 73 HT cs ms os X mo 215 (u_N (u_Q A (a_H A) (hoC HT cs ms os A mo kd 0 (nmT (a_N A) nms) (tO (a_T A) ((a_K A 0).1.getD ba (0, 0, [])).2.1).2.2.1 (ar.map (clO (a_T A)))).1 (hoC HT cs ms os A mo kd 0 (nmT (a_N A) nms) (tO (a_T A) ((a_K A 0).1.getD ba (0, 0, [])).2.1).2.2.1 (ar.map (clO (a_T A)))).2 1 0) s (hoR9 HT cs ms os (a_c A 11) 1 kd (nmT (a_N A) nms) (tO (a_T A) ((a_K A 0).1.getD ba (0, 0, [])).2.1).2.2.1 (ar.map (clO (a_T A))))) s kd nms ec ba ((a_K A 0).1.getD ba (0, 0, [])).1 nm (esV (ar.map (clO (a_T A)))) (hoR9 HT cs ms os (a_c A 11) 1 kd (nmT (a_N A) nms) (tO (a_T A) ((a_K A 0).1.getD ba (0, 0, [])).2.1).2.2.1 (ar.map (clO (a_T A)))) c A2) : cLook xs d S0 73 HT cs ms os X mo 215 A s kd ec ba ((a_K A 0).1.getD ba (0, 0, [])).1 nm (esV (ar.map (clO (a_T A)))) c A2 := fun Y hY ha => by
  obtain ⟨⟨hp, hw, hx⟩, hA, hB, ⟨hr, ho⟩, hsi, hme⟩ := id h
  obtain ⟨ix, fl, ow, hE⟩ := hY.2.2.2.2.1
  have hfo : 0 ≤ Y 158 14 := by
    have z1 := hE.2.2.2.1
    omega
  refine cLk1_215 (mk := mkH 73) (RZ := fun Z => lhQ 73 (73 + 47) (73 + 48) (73 + 1) 215 HT cs ms os (hoC HT cs ms os A mo kd 0 (nmT (a_N A) nms) (tO (a_T A) ((a_K A 0).1.getD ba (0, 0, [])).2.1).2.2.1 (ar.map (clO (a_T A)))).1 (hoC HT cs ms os A mo kd 0 (nmT (a_N A) nms) (tO (a_T A) ((a_K A 0).1.getD ba (0, 0, [])).2.1).2.2.1 (ar.map (clO (a_T A)))).2 mo kd nms (Y 158 14) (whA HT cs ms os kd 0 (nmT (a_N A) nms) (tO (a_T A) ((a_K A 0).1.getD ba (0, 0, [])).2.1).2.2.1 (ar.map (clO (a_T A)))) (hoR9 HT cs ms os (a_c A 11) 1 kd (nmT (a_N A) nms) (tO (a_T A) ((a_K A 0).1.getD ba (0, 0, [])).2.1).2.2.1 (ar.map (clO (a_T A)))) (bkZ (Y 158 14) 1 (w_up Y 160 1 (Y 160 1 + 1))) (.inl none) Z ∧ w_CL Z) (A1 := (u_Q A (a_H A) (hoC HT cs ms os A mo kd 0 (nmT (a_N A) nms) (tO (a_T A) ((a_K A 0).1.getD ba (0, 0, [])).2.1).2.2.1 (ar.map (clO (a_T A)))).1 (hoC HT cs ms os A mo kd 0 (nmT (a_N A) nms) (tO (a_T A) ((a_K A 0).1.getD ba (0, 0, [])).2.1).2.2.1 (ar.map (clO (a_T A)))).2 1 0)) (e := (hoR9 HT cs ms os (a_c A 11) 1 kd (nmT (a_N A) nms) (tO (a_T A) ((a_K A 0).1.getD ba (0, 0, [])).2.1).2.2.1 (ar.map (clO (a_T A))))) h hL9 hgk (mkH_L hp) hY ha (wJ_mono (cHo_73_215_1 h hL9 hH hC9 hX hb hwo hgk hnm hkd hY ha) (fun o Z hz => ⟨hz.1.1, ?_⟩)) (fun Z hz => ?_) rfl rfl (fun _ => hact)
  · have z0 := hz.1.1
    subst z0
    exact hz
  · obtain ⟨r1, r2⟩ := lk_ho (l := 1) hp hw hY (by first | decide | omega) hfo hz.2 hz.1
    obtain ⟨z1, z2⟩ := hz.1.2.1 hwh
    exact ⟨r1, hz.2, Or.inl ⟨z2.trans ((bk_f 215 16 (by omega) (by omega)).trans ha.2), z1, r2⟩⟩
theorem ckj_73_215_1 (h : hyA S0 73 HT cs ms os X fa n B2 215 0 A s kd nms ne ec bh ba ar) (hL9 : stL S0) (hH : stHo S0 73 241 HT nt cs ms os n) (hC9 : stHc S0 73 HT cs ms os) (hX : w_X xs) (hb : a_c A (20 + 1) + 1 ≤ B2) (hwo : a_W A < 10000000) (hgk : ((a_K A 0).1.getD ba (0, 0, [])).1 = 7) (hnm : nm = nms) (hkd : kd = 0 ∨ kd = 1 ∨ kd = 5) (hwh : (whA HT cs ms os kd 0 (nmT (a_N A) nms) (tO (a_T A) ((a_K A 0).1.getD ba (0, 0, [])).2.1).2.2.1 (ar.map (clO (a_T A)))) < 0) : cLook xs d S0 73 HT cs ms os X mo 215 A s kd ec ba ((a_K A 0).1.getD ba (0, 0, [])).1 nm (esV (ar.map (clO (a_T A)))) (if (whA HT cs ms os kd 0 (nmT (a_N A) nms) (tO (a_T A) ((a_K A 0).1.getD ba (0, 0, [])).2.1).2.2.1 (ar.map (clO (a_T A)))) = -1 then 4 else -(whA HT cs ms os kd 0 (nmT (a_N A) nms) (tO (a_T A) ((a_K A 0).1.getD ba (0, 0, [])).2.1).2.2.1 (ar.map (clO (a_T A))))) (u_Q A (a_H A) (hoC HT cs ms os A mo kd 0 (nmT (a_N A) nms) (tO (a_T A) ((a_K A 0).1.getD ba (0, 0, [])).2.1).2.2.1 (ar.map (clO (a_T A)))).1 (hoC HT cs ms os A mo kd 0 (nmT (a_N A) nms) (tO (a_T A) ((a_K A 0).1.getD ba (0, 0, [])).2.1).2.2.1 (ar.map (clO (a_T A)))).2 1 0) := fun Y hY ha => by
  obtain ⟨⟨hp, hw, hx⟩, hA, hB, ⟨hr, ho⟩, hsi, hme⟩ := id h
  obtain ⟨ix, fl, ow, hE⟩ := hY.2.2.2.2.1
  have hfo : 0 ≤ Y 158 14 := by
    have z1 := hE.2.2.2.1
    omega
  have hc0 : (if (whA HT cs ms os kd 0 (nmT (a_N A) nms) (tO (a_T A) ((a_K A 0).1.getD ba (0, 0, [])).2.1).2.2.1 (ar.map (clO (a_T A)))) = -1 then 4 else -(whA HT cs ms os kd 0 (nmT (a_N A) nms) (tO (a_T A) ((a_K A 0).1.getD ba (0, 0, [])).2.1).2.2.1 (ar.map (clO (a_T A))))) ≠ 0 := by
    by_cases z : (whA HT cs ms os kd 0 (nmT (a_N A) nms) (tO (a_T A) ((a_K A 0).1.getD ba (0, 0, [])).2.1).2.2.1 (ar.map (clO (a_T A)))) = -1
    · rw [if_pos z]; decide
    · rw [if_neg z]; omega
  refine cLk1_215 (mk := mkH 73) (RZ := fun Z => lhQ 73 (73 + 47) (73 + 48) (73 + 1) 215 HT cs ms os (hoC HT cs ms os A mo kd 0 (nmT (a_N A) nms) (tO (a_T A) ((a_K A 0).1.getD ba (0, 0, [])).2.1).2.2.1 (ar.map (clO (a_T A)))).1 (hoC HT cs ms os A mo kd 0 (nmT (a_N A) nms) (tO (a_T A) ((a_K A 0).1.getD ba (0, 0, [])).2.1).2.2.1 (ar.map (clO (a_T A)))).2 mo kd nms (Y 158 14) (whA HT cs ms os kd 0 (nmT (a_N A) nms) (tO (a_T A) ((a_K A 0).1.getD ba (0, 0, [])).2.1).2.2.1 (ar.map (clO (a_T A)))) (hoR9 HT cs ms os (a_c A 11) 1 kd (nmT (a_N A) nms) (tO (a_T A) ((a_K A 0).1.getD ba (0, 0, [])).2.1).2.2.1 (ar.map (clO (a_T A)))) (bkZ (Y 158 14) 1 (w_up Y 160 1 (Y 160 1 + 1))) (.inl none) Z ∧ w_CL Z) (A1 := A) (e := ((0 : Int), (0 : Int), (0 : Int), (0 : Int), (0 : Int), (0 : Int), (0 : Int), (0 : Int), (0 : Int))) (nms := nms) h hL9 hgk (mkH_L hp) hY ha (wJ_mono (cHo_73_215_1 h hL9 hH hC9 hX hb hwo hgk hnm hkd hY ha) (fun o Z hz => ⟨hz.1.1, ?_⟩)) (fun Z hz => ?_) rfl rfl (fun z => ?_)
  · have z0 := hz.1.1
    subst z0
    exact hz
  · obtain ⟨r1, r2⟩ := lk_ho (l := 1) hp hw hY (by first | decide | omega) hfo hz.2 hz.1
    have z1 := hz.1.2.2.1 hwh
    exact ⟨r1, hz.2, Or.inr ⟨by rw [z1]; exact hc0, z1, r2⟩⟩
  · obtain ⟨Z, z1, z2⟩ := z
    rw [z1.1.2.2.1 hwh] at z2
    exact absurd z2 hc0

theorem ckh_73_215_2 (h : hyA S0 73 HT cs ms os X fa n B2 215 0 A s kd nms ne ec bh ba ar) (hL9 : stL S0) (hH : stHo S0 73 241 HT nt cs ms os n) (hC9 : stHc S0 73 HT cs ms os) (hX : w_X xs) (hb : a_c A (20 + 2) + 1 ≤ B2) (hwo : a_W A < 10000000) (hgk : ((a_K A 0).1.getD ba (0, 0, [])).1 = 8) (hnm : nm = nms) (hkd : kd = 0 ∨ kd = 1 ∨ kd = 5 ∨ kd = 6) (hwh : 0 ≤ (whA HT cs ms os kd 1 (nmT (a_N A) nms) ((a_K A 0).1.getD ba (0, 0, [])).2.1 (ar.map (clO (a_T A))))) (hact : cAct xs d S0 73 HT cs ms os X mo 215 (u_N (u_Q A (a_H A) (hoC HT cs ms os A mo kd 1 (nmT (a_N A) nms) ((a_K A 0).1.getD ba (0, 0, [])).2.1 (ar.map (clO (a_T A)))).1 (hoC HT cs ms os A mo kd 1 (nmT (a_N A) nms) ((a_K A 0).1.getD ba (0, 0, [])).2.1 (ar.map (clO (a_T A)))).2 2 0) s (hoR9 HT cs ms os (a_c A 11) 2 kd (nmT (a_N A) nms) ((a_K A 0).1.getD ba (0, 0, [])).2.1 (ar.map (clO (a_T A))))) s kd nms ec ba ((a_K A 0).1.getD ba (0, 0, [])).1 nm (esV (ar.map (clO (a_T A)))) (hoR9 HT cs ms os (a_c A 11) 2 kd (nmT (a_N A) nms) ((a_K A 0).1.getD ba (0, 0, [])).2.1 (ar.map (clO (a_T A)))) c A2) : cLook xs d S0 73 HT cs ms os X mo 215 A s kd ec ba ((a_K A 0).1.getD ba (0, 0, [])).1 nm (esV (ar.map (clO (a_T A)))) c A2 := fun Y hY ha => by
  obtain ⟨⟨hp, hw, hx⟩, hA, hB, ⟨hr, ho⟩, hsi, hme⟩ := id h
  obtain ⟨ix, fl, ow, hE⟩ := hY.2.2.2.2.1
  have hfo : 0 ≤ Y 158 14 := by
    have z1 := hE.2.2.2.1
    omega
  refine cLk2_215 (mk := mkH 73) (RZ := fun Z => lhQ 73 (73 + 47) (73 + 48) (73 + 1) 215 HT cs ms os (hoC HT cs ms os A mo kd 1 (nmT (a_N A) nms) ((a_K A 0).1.getD ba (0, 0, [])).2.1 (ar.map (clO (a_T A)))).1 (hoC HT cs ms os A mo kd 1 (nmT (a_N A) nms) ((a_K A 0).1.getD ba (0, 0, [])).2.1 (ar.map (clO (a_T A)))).2 mo kd nms (Y 158 14) (whA HT cs ms os kd 1 (nmT (a_N A) nms) ((a_K A 0).1.getD ba (0, 0, [])).2.1 (ar.map (clO (a_T A)))) (hoR9 HT cs ms os (a_c A 11) 2 kd (nmT (a_N A) nms) ((a_K A 0).1.getD ba (0, 0, [])).2.1 (ar.map (clO (a_T A)))) (bkZ (Y 158 14) 2 (w_up Y 160 2 (Y 160 2 + 1))) (.inl none) Z ∧ w_CL Z) (A1 := (u_Q A (a_H A) (hoC HT cs ms os A mo kd 1 (nmT (a_N A) nms) ((a_K A 0).1.getD ba (0, 0, [])).2.1 (ar.map (clO (a_T A)))).1 (hoC HT cs ms os A mo kd 1 (nmT (a_N A) nms) ((a_K A 0).1.getD ba (0, 0, [])).2.1 (ar.map (clO (a_T A)))).2 2 0)) (e := (hoR9 HT cs ms os (a_c A 11) 2 kd (nmT (a_N A) nms) ((a_K A 0).1.getD ba (0, 0, [])).2.1 (ar.map (clO (a_T A))))) h hL9 hgk (mkH_L hp) hY ha (wJ_mono (cHo_73_215_2 h hL9 hH hC9 hX hb hwo hgk hnm hkd hY ha) (fun o Z hz => ⟨hz.1.1, ?_⟩)) (fun Z hz => ?_) rfl rfl (fun _ => hact)
  · have z0 := hz.1.1
    subst z0
    exact hz
  · obtain ⟨r1, r2⟩ := lk_ho (l := 2) hp hw hY (by first | decide | omega) hfo hz.2 hz.1
    obtain ⟨z1, z2⟩ := hz.1.2.1 hwh
    exact ⟨r1, hz.2, Or.inl ⟨z2.trans ((bk_f 215 16 (by omega) (by omega)).trans ha.2), z1, r2⟩⟩
theorem ckj_73_215_2 (h : hyA S0 73 HT cs ms os X fa n B2 215 0 A s kd nms ne ec bh ba ar) (hL9 : stL S0) (hH : stHo S0 73 241 HT nt cs ms os n) (hC9 : stHc S0 73 HT cs ms os) (hX : w_X xs) (hb : a_c A (20 + 2) + 1 ≤ B2) (hwo : a_W A < 10000000) (hgk : ((a_K A 0).1.getD ba (0, 0, [])).1 = 8) (hnm : nm = nms) (hkd : kd = 0 ∨ kd = 1 ∨ kd = 5 ∨ kd = 6) (hwh : (whA HT cs ms os kd 1 (nmT (a_N A) nms) ((a_K A 0).1.getD ba (0, 0, [])).2.1 (ar.map (clO (a_T A)))) < 0) : cLook xs d S0 73 HT cs ms os X mo 215 A s kd ec ba ((a_K A 0).1.getD ba (0, 0, [])).1 nm (esV (ar.map (clO (a_T A)))) (if (whA HT cs ms os kd 1 (nmT (a_N A) nms) ((a_K A 0).1.getD ba (0, 0, [])).2.1 (ar.map (clO (a_T A)))) = -1 then 4 else -(whA HT cs ms os kd 1 (nmT (a_N A) nms) ((a_K A 0).1.getD ba (0, 0, [])).2.1 (ar.map (clO (a_T A))))) (u_Q A (a_H A) (hoC HT cs ms os A mo kd 1 (nmT (a_N A) nms) ((a_K A 0).1.getD ba (0, 0, [])).2.1 (ar.map (clO (a_T A)))).1 (hoC HT cs ms os A mo kd 1 (nmT (a_N A) nms) ((a_K A 0).1.getD ba (0, 0, [])).2.1 (ar.map (clO (a_T A)))).2 2 0) := fun Y hY ha => by
  obtain ⟨⟨hp, hw, hx⟩, hA, hB, ⟨hr, ho⟩, hsi, hme⟩ := id h
  obtain ⟨ix, fl, ow, hE⟩ := hY.2.2.2.2.1
  have hfo : 0 ≤ Y 158 14 := by
    have z1 := hE.2.2.2.1
    omega
  have hc0 : (if (whA HT cs ms os kd 1 (nmT (a_N A) nms) ((a_K A 0).1.getD ba (0, 0, [])).2.1 (ar.map (clO (a_T A)))) = -1 then 4 else -(whA HT cs ms os kd 1 (nmT (a_N A) nms) ((a_K A 0).1.getD ba (0, 0, [])).2.1 (ar.map (clO (a_T A))))) ≠ 0 := by
    by_cases z : (whA HT cs ms os kd 1 (nmT (a_N A) nms) ((a_K A 0).1.getD ba (0, 0, [])).2.1 (ar.map (clO (a_T A)))) = -1
    · rw [if_pos z]; decide
    · rw [if_neg z]; omega
  refine cLk2_215 (mk := mkH 73) (RZ := fun Z => lhQ 73 (73 + 47) (73 + 48) (73 + 1) 215 HT cs ms os (hoC HT cs ms os A mo kd 1 (nmT (a_N A) nms) ((a_K A 0).1.getD ba (0, 0, [])).2.1 (ar.map (clO (a_T A)))).1 (hoC HT cs ms os A mo kd 1 (nmT (a_N A) nms) ((a_K A 0).1.getD ba (0, 0, [])).2.1 (ar.map (clO (a_T A)))).2 mo kd nms (Y 158 14) (whA HT cs ms os kd 1 (nmT (a_N A) nms) ((a_K A 0).1.getD ba (0, 0, [])).2.1 (ar.map (clO (a_T A)))) (hoR9 HT cs ms os (a_c A 11) 2 kd (nmT (a_N A) nms) ((a_K A 0).1.getD ba (0, 0, [])).2.1 (ar.map (clO (a_T A)))) (bkZ (Y 158 14) 2 (w_up Y 160 2 (Y 160 2 + 1))) (.inl none) Z ∧ w_CL Z) (A1 := A) (e := ((0 : Int), (0 : Int), (0 : Int), (0 : Int), (0 : Int), (0 : Int), (0 : Int), (0 : Int), (0 : Int))) (nms := nms) h hL9 hgk (mkH_L hp) hY ha (wJ_mono (cHo_73_215_2 h hL9 hH hC9 hX hb hwo hgk hnm hkd hY ha) (fun o Z hz => ⟨hz.1.1, ?_⟩)) (fun Z hz => ?_) rfl rfl (fun z => ?_)
  · have z0 := hz.1.1
    subst z0
    exact hz
  · obtain ⟨r1, r2⟩ := lk_ho (l := 2) hp hw hY (by first | decide | omega) hfo hz.2 hz.1
    have z1 := hz.1.2.2.1 hwh
    exact ⟨r1, hz.2, Or.inr ⟨by rw [z1]; exact hc0, z1, r2⟩⟩
  · obtain ⟨Z, z1, z2⟩ := z
    rw [z1.1.2.2.1 hwh] at z2
    exact absurd z2 hc0

theorem ckh_73_226_1 (h : hyA S0 73 HT cs ms os X fa n B2 226 1 A s kd nms ne ec bh ba ar) (hL9 : stL S0) (hH : stHo S0 73 241 HT nt cs ms os n) (hC9 : stHc S0 73 HT cs ms os) (hX : w_X xs) (hb : a_c A (20 + 1) + 1 ≤ B2) (hwo : a_W A < 10000000) (hgk : ((a_K A 1).1.getD ba (0, 0, [])).1 = 7) (hnm : nm = nms) (hkd : kd = 0 ∨ kd = 1 ∨ kd = 5) (hwh : 0 ≤ (whA HT cs ms os kd 0 (nmT (a_N A) nms) (tO (a_T A) ((a_K A 1).1.getD ba (0, 0, [])).2.1).2.2.1 (ar.map (clO (a_T A))))) (hact : cAct xs d S0 73 HT cs ms os X mo 226 (u_N (u_Q A (a_H A) (hoC HT cs ms os A mo kd 0 (nmT (a_N A) nms) (tO (a_T A) ((a_K A 1).1.getD ba (0, 0, [])).2.1).2.2.1 (ar.map (clO (a_T A)))).1 (hoC HT cs ms os A mo kd 0 (nmT (a_N A) nms) (tO (a_T A) ((a_K A 1).1.getD ba (0, 0, [])).2.1).2.2.1 (ar.map (clO (a_T A)))).2 1 0) s (hoR9 HT cs ms os (a_c A 11) 1 kd (nmT (a_N A) nms) (tO (a_T A) ((a_K A 1).1.getD ba (0, 0, [])).2.1).2.2.1 (ar.map (clO (a_T A))))) s kd nms ec ba ((a_K A 1).1.getD ba (0, 0, [])).1 nm (esV (ar.map (clO (a_T A)))) (hoR9 HT cs ms os (a_c A 11) 1 kd (nmT (a_N A) nms) (tO (a_T A) ((a_K A 1).1.getD ba (0, 0, [])).2.1).2.2.1 (ar.map (clO (a_T A)))) c A2) : cLook xs d S0 73 HT cs ms os X mo 226 A s kd ec ba ((a_K A 1).1.getD ba (0, 0, [])).1 nm (esV (ar.map (clO (a_T A)))) c A2 := fun Y hY ha => by
  obtain ⟨⟨hp, hw, hx⟩, hA, hB, ⟨hr, ho⟩, hsi, hme⟩ := id h
  obtain ⟨ix, fl, ow, hE⟩ := hY.2.2.2.2.1
  have hfo : 0 ≤ Y 158 14 := by
    have z1 := hE.2.2.2.1
    omega
  refine cLk1_226 (mk := mkH 73) (RZ := fun Z => lhQ 73 (73 + 47) (73 + 48) (73 + 1) 226 HT cs ms os (hoC HT cs ms os A mo kd 0 (nmT (a_N A) nms) (tO (a_T A) ((a_K A 1).1.getD ba (0, 0, [])).2.1).2.2.1 (ar.map (clO (a_T A)))).1 (hoC HT cs ms os A mo kd 0 (nmT (a_N A) nms) (tO (a_T A) ((a_K A 1).1.getD ba (0, 0, [])).2.1).2.2.1 (ar.map (clO (a_T A)))).2 mo kd nms (Y 158 14) (whA HT cs ms os kd 0 (nmT (a_N A) nms) (tO (a_T A) ((a_K A 1).1.getD ba (0, 0, [])).2.1).2.2.1 (ar.map (clO (a_T A)))) (hoR9 HT cs ms os (a_c A 11) 1 kd (nmT (a_N A) nms) (tO (a_T A) ((a_K A 1).1.getD ba (0, 0, [])).2.1).2.2.1 (ar.map (clO (a_T A)))) (bkZ (Y 158 14) 1 (w_up Y 160 1 (Y 160 1 + 1))) (.inl none) Z ∧ w_CL Z) (A1 := (u_Q A (a_H A) (hoC HT cs ms os A mo kd 0 (nmT (a_N A) nms) (tO (a_T A) ((a_K A 1).1.getD ba (0, 0, [])).2.1).2.2.1 (ar.map (clO (a_T A)))).1 (hoC HT cs ms os A mo kd 0 (nmT (a_N A) nms) (tO (a_T A) ((a_K A 1).1.getD ba (0, 0, [])).2.1).2.2.1 (ar.map (clO (a_T A)))).2 1 0)) (e := (hoR9 HT cs ms os (a_c A 11) 1 kd (nmT (a_N A) nms) (tO (a_T A) ((a_K A 1).1.getD ba (0, 0, [])).2.1).2.2.1 (ar.map (clO (a_T A))))) h hL9 hgk (mkH_L hp) hY ha (wJ_mono (cHo_73_226_1 h hL9 hH hC9 hX hb hwo hgk hnm hkd hY ha) (fun o Z hz => ⟨hz.1.1, ?_⟩)) (fun Z hz => ?_) rfl rfl (fun _ => hact)
  · have z0 := hz.1.1
    subst z0
    exact hz
  · obtain ⟨r1, r2⟩ := lk_ho (l := 1) hp hw hY (by first | decide | omega) hfo hz.2 hz.1
    obtain ⟨z1, z2⟩ := hz.1.2.1 hwh
    exact ⟨r1, hz.2, Or.inl ⟨z2.trans ((bk_f 226 16 (by omega) (by omega)).trans ha.2), z1, r2⟩⟩
theorem ckj_73_226_1 (h : hyA S0 73 HT cs ms os X fa n B2 226 1 A s kd nms ne ec bh ba ar) (hL9 : stL S0) (hH : stHo S0 73 241 HT nt cs ms os n) (hC9 : stHc S0 73 HT cs ms os) (hX : w_X xs) (hb : a_c A (20 + 1) + 1 ≤ B2) (hwo : a_W A < 10000000) (hgk : ((a_K A 1).1.getD ba (0, 0, [])).1 = 7) (hnm : nm = nms) (hkd : kd = 0 ∨ kd = 1 ∨ kd = 5) (hwh : (whA HT cs ms os kd 0 (nmT (a_N A) nms) (tO (a_T A) ((a_K A 1).1.getD ba (0, 0, [])).2.1).2.2.1 (ar.map (clO (a_T A)))) < 0) : cLook xs d S0 73 HT cs ms os X mo 226 A s kd ec ba ((a_K A 1).1.getD ba (0, 0, [])).1 nm (esV (ar.map (clO (a_T A)))) (if (whA HT cs ms os kd 0 (nmT (a_N A) nms) (tO (a_T A) ((a_K A 1).1.getD ba (0, 0, [])).2.1).2.2.1 (ar.map (clO (a_T A)))) = -1 then 4 else -(whA HT cs ms os kd 0 (nmT (a_N A) nms) (tO (a_T A) ((a_K A 1).1.getD ba (0, 0, [])).2.1).2.2.1 (ar.map (clO (a_T A))))) (u_Q A (a_H A) (hoC HT cs ms os A mo kd 0 (nmT (a_N A) nms) (tO (a_T A) ((a_K A 1).1.getD ba (0, 0, [])).2.1).2.2.1 (ar.map (clO (a_T A)))).1 (hoC HT cs ms os A mo kd 0 (nmT (a_N A) nms) (tO (a_T A) ((a_K A 1).1.getD ba (0, 0, [])).2.1).2.2.1 (ar.map (clO (a_T A)))).2 1 0) := fun Y hY ha => by
  obtain ⟨⟨hp, hw, hx⟩, hA, hB, ⟨hr, ho⟩, hsi, hme⟩ := id h
  obtain ⟨ix, fl, ow, hE⟩ := hY.2.2.2.2.1
  have hfo : 0 ≤ Y 158 14 := by
    have z1 := hE.2.2.2.1
    omega
  have hc0 : (if (whA HT cs ms os kd 0 (nmT (a_N A) nms) (tO (a_T A) ((a_K A 1).1.getD ba (0, 0, [])).2.1).2.2.1 (ar.map (clO (a_T A)))) = -1 then 4 else -(whA HT cs ms os kd 0 (nmT (a_N A) nms) (tO (a_T A) ((a_K A 1).1.getD ba (0, 0, [])).2.1).2.2.1 (ar.map (clO (a_T A))))) ≠ 0 := by
    by_cases z : (whA HT cs ms os kd 0 (nmT (a_N A) nms) (tO (a_T A) ((a_K A 1).1.getD ba (0, 0, [])).2.1).2.2.1 (ar.map (clO (a_T A)))) = -1
    · rw [if_pos z]; decide
    · rw [if_neg z]; omega
  refine cLk1_226 (mk := mkH 73) (RZ := fun Z => lhQ 73 (73 + 47) (73 + 48) (73 + 1) 226 HT cs ms os (hoC HT cs ms os A mo kd 0 (nmT (a_N A) nms) (tO (a_T A) ((a_K A 1).1.getD ba (0, 0, [])).2.1).2.2.1 (ar.map (clO (a_T A)))).1 (hoC HT cs ms os A mo kd 0 (nmT (a_N A) nms) (tO (a_T A) ((a_K A 1).1.getD ba (0, 0, [])).2.1).2.2.1 (ar.map (clO (a_T A)))).2 mo kd nms (Y 158 14) (whA HT cs ms os kd 0 (nmT (a_N A) nms) (tO (a_T A) ((a_K A 1).1.getD ba (0, 0, [])).2.1).2.2.1 (ar.map (clO (a_T A)))) (hoR9 HT cs ms os (a_c A 11) 1 kd (nmT (a_N A) nms) (tO (a_T A) ((a_K A 1).1.getD ba (0, 0, [])).2.1).2.2.1 (ar.map (clO (a_T A)))) (bkZ (Y 158 14) 1 (w_up Y 160 1 (Y 160 1 + 1))) (.inl none) Z ∧ w_CL Z) (A1 := A) (e := ((0 : Int), (0 : Int), (0 : Int), (0 : Int), (0 : Int), (0 : Int), (0 : Int), (0 : Int), (0 : Int))) (nms := nms) h hL9 hgk (mkH_L hp) hY ha (wJ_mono (cHo_73_226_1 h hL9 hH hC9 hX hb hwo hgk hnm hkd hY ha) (fun o Z hz => ⟨hz.1.1, ?_⟩)) (fun Z hz => ?_) rfl rfl (fun z => ?_)
  · have z0 := hz.1.1
    subst z0
    exact hz
  · obtain ⟨r1, r2⟩ := lk_ho (l := 1) hp hw hY (by first | decide | omega) hfo hz.2 hz.1
    have z1 := hz.1.2.2.1 hwh
    exact ⟨r1, hz.2, Or.inr ⟨by rw [z1]; exact hc0, z1, r2⟩⟩
  · obtain ⟨Z, z1, z2⟩ := z
    rw [z1.1.2.2.1 hwh] at z2
    exact absurd z2 hc0

theorem ckh_73_226_2 (h : hyA S0 73 HT cs ms os X fa n B2 226 1 A s kd nms ne ec bh ba ar) (hL9 : stL S0) (hH : stHo S0 73 241 HT nt cs ms os n) (hC9 : stHc S0 73 HT cs ms os) (hX : w_X xs) (hb : a_c A (20 + 2) + 1 ≤ B2) (hwo : a_W A < 10000000) (hgk : ((a_K A 1).1.getD ba (0, 0, [])).1 = 8) (hnm : nm = nms) (hkd : kd = 0 ∨ kd = 1 ∨ kd = 5 ∨ kd = 6) (hwh : 0 ≤ (whA HT cs ms os kd 1 (nmT (a_N A) nms) ((a_K A 1).1.getD ba (0, 0, [])).2.1 (ar.map (clO (a_T A))))) (hact : cAct xs d S0 73 HT cs ms os X mo 226 (u_N (u_Q A (a_H A) (hoC HT cs ms os A mo kd 1 (nmT (a_N A) nms) ((a_K A 1).1.getD ba (0, 0, [])).2.1 (ar.map (clO (a_T A)))).1 (hoC HT cs ms os A mo kd 1 (nmT (a_N A) nms) ((a_K A 1).1.getD ba (0, 0, [])).2.1 (ar.map (clO (a_T A)))).2 2 0) s (hoR9 HT cs ms os (a_c A 11) 2 kd (nmT (a_N A) nms) ((a_K A 1).1.getD ba (0, 0, [])).2.1 (ar.map (clO (a_T A))))) s kd nms ec ba ((a_K A 1).1.getD ba (0, 0, [])).1 nm (esV (ar.map (clO (a_T A)))) (hoR9 HT cs ms os (a_c A 11) 2 kd (nmT (a_N A) nms) ((a_K A 1).1.getD ba (0, 0, [])).2.1 (ar.map (clO (a_T A)))) c A2) : cLook xs d S0 73 HT cs ms os X mo 226 A s kd ec ba ((a_K A 1).1.getD ba (0, 0, [])).1 nm (esV (ar.map (clO (a_T A)))) c A2 := fun Y hY ha => by
  obtain ⟨⟨hp, hw, hx⟩, hA, hB, ⟨hr, ho⟩, hsi, hme⟩ := id h
  obtain ⟨ix, fl, ow, hE⟩ := hY.2.2.2.2.1
  have hfo : 0 ≤ Y 158 14 := by
    have z1 := hE.2.2.2.1
    omega
  refine cLk2_226 (mk := mkH 73) (RZ := fun Z => lhQ 73 (73 + 47) (73 + 48) (73 + 1) 226 HT cs ms os (hoC HT cs ms os A mo kd 1 (nmT (a_N A) nms) ((a_K A 1).1.getD ba (0, 0, [])).2.1 (ar.map (clO (a_T A)))).1 (hoC HT cs ms os A mo kd 1 (nmT (a_N A) nms) ((a_K A 1).1.getD ba (0, 0, [])).2.1 (ar.map (clO (a_T A)))).2 mo kd nms (Y 158 14) (whA HT cs ms os kd 1 (nmT (a_N A) nms) ((a_K A 1).1.getD ba (0, 0, [])).2.1 (ar.map (clO (a_T A)))) (hoR9 HT cs ms os (a_c A 11) 2 kd (nmT (a_N A) nms) ((a_K A 1).1.getD ba (0, 0, [])).2.1 (ar.map (clO (a_T A)))) (bkZ (Y 158 14) 2 (w_up Y 160 2 (Y 160 2 + 1))) (.inl none) Z ∧ w_CL Z) (A1 := (u_Q A (a_H A) (hoC HT cs ms os A mo kd 1 (nmT (a_N A) nms) ((a_K A 1).1.getD ba (0, 0, [])).2.1 (ar.map (clO (a_T A)))).1 (hoC HT cs ms os A mo kd 1 (nmT (a_N A) nms) ((a_K A 1).1.getD ba (0, 0, [])).2.1 (ar.map (clO (a_T A)))).2 2 0)) (e := (hoR9 HT cs ms os (a_c A 11) 2 kd (nmT (a_N A) nms) ((a_K A 1).1.getD ba (0, 0, [])).2.1 (ar.map (clO (a_T A))))) h hL9 hgk (mkH_L hp) hY ha (wJ_mono (cHo_73_226_2 h hL9 hH hC9 hX hb hwo hgk hnm hkd hY ha) (fun o Z hz => ⟨hz.1.1, ?_⟩)) (fun Z hz => ?_) rfl rfl (fun _ => hact)
  · have z0 := hz.1.1
    subst z0
    exact hz
  · obtain ⟨r1, r2⟩ := lk_ho (l := 2) hp hw hY (by first | decide | omega) hfo hz.2 hz.1
    obtain ⟨z1, z2⟩ := hz.1.2.1 hwh
    exact ⟨r1, hz.2, Or.inl ⟨z2.trans ((bk_f 226 16 (by omega) (by omega)).trans ha.2), z1, r2⟩⟩
theorem ckj_73_226_2 (h : hyA S0 73 HT cs ms os X fa n B2 226 1 A s kd nms ne ec bh ba ar) (hL9 : stL S0) (hH : stHo S0 73 241 HT nt cs ms os n) (hC9 : stHc S0 73 HT cs ms os) (hX : w_X xs) (hb : a_c A (20 + 2) + 1 ≤ B2) (hwo : a_W A < 10000000) (hgk : ((a_K A 1).1.getD ba (0, 0, [])).1 = 8) (hnm : nm = nms) (hkd : kd = 0 ∨ kd = 1 ∨ kd = 5 ∨ kd = 6) (hwh : (whA HT cs ms os kd 1 (nmT (a_N A) nms) ((a_K A 1).1.getD ba (0, 0, [])).2.1 (ar.map (clO (a_T A)))) < 0) : cLook xs d S0 73 HT cs ms os X mo 226 A s kd ec ba ((a_K A 1).1.getD ba (0, 0, [])).1 nm (esV (ar.map (clO (a_T A)))) (if (whA HT cs ms os kd 1 (nmT (a_N A) nms) ((a_K A 1).1.getD ba (0, 0, [])).2.1 (ar.map (clO (a_T A)))) = -1 then 4 else -(whA HT cs ms os kd 1 (nmT (a_N A) nms) ((a_K A 1).1.getD ba (0, 0, [])).2.1 (ar.map (clO (a_T A))))) (u_Q A (a_H A) (hoC HT cs ms os A mo kd 1 (nmT (a_N A) nms) ((a_K A 1).1.getD ba (0, 0, [])).2.1 (ar.map (clO (a_T A)))).1 (hoC HT cs ms os A mo kd 1 (nmT (a_N A) nms) ((a_K A 1).1.getD ba (0, 0, [])).2.1 (ar.map (clO (a_T A)))).2 2 0) := fun Y hY ha => by
  obtain ⟨⟨hp, hw, hx⟩, hA, hB, ⟨hr, ho⟩, hsi, hme⟩ := id h
  obtain ⟨ix, fl, ow, hE⟩ := hY.2.2.2.2.1
  have hfo : 0 ≤ Y 158 14 := by
    have z1 := hE.2.2.2.1
    omega
  have hc0 : (if (whA HT cs ms os kd 1 (nmT (a_N A) nms) ((a_K A 1).1.getD ba (0, 0, [])).2.1 (ar.map (clO (a_T A)))) = -1 then 4 else -(whA HT cs ms os kd 1 (nmT (a_N A) nms) ((a_K A 1).1.getD ba (0, 0, [])).2.1 (ar.map (clO (a_T A))))) ≠ 0 := by
    by_cases z : (whA HT cs ms os kd 1 (nmT (a_N A) nms) ((a_K A 1).1.getD ba (0, 0, [])).2.1 (ar.map (clO (a_T A)))) = -1
    · rw [if_pos z]; decide
    · rw [if_neg z]; omega
  refine cLk2_226 (mk := mkH 73) (RZ := fun Z => lhQ 73 (73 + 47) (73 + 48) (73 + 1) 226 HT cs ms os (hoC HT cs ms os A mo kd 1 (nmT (a_N A) nms) ((a_K A 1).1.getD ba (0, 0, [])).2.1 (ar.map (clO (a_T A)))).1 (hoC HT cs ms os A mo kd 1 (nmT (a_N A) nms) ((a_K A 1).1.getD ba (0, 0, [])).2.1 (ar.map (clO (a_T A)))).2 mo kd nms (Y 158 14) (whA HT cs ms os kd 1 (nmT (a_N A) nms) ((a_K A 1).1.getD ba (0, 0, [])).2.1 (ar.map (clO (a_T A)))) (hoR9 HT cs ms os (a_c A 11) 2 kd (nmT (a_N A) nms) ((a_K A 1).1.getD ba (0, 0, [])).2.1 (ar.map (clO (a_T A)))) (bkZ (Y 158 14) 2 (w_up Y 160 2 (Y 160 2 + 1))) (.inl none) Z ∧ w_CL Z) (A1 := A) (e := ((0 : Int), (0 : Int), (0 : Int), (0 : Int), (0 : Int), (0 : Int), (0 : Int), (0 : Int), (0 : Int))) (nms := nms) h hL9 hgk (mkH_L hp) hY ha (wJ_mono (cHo_73_226_2 h hL9 hH hC9 hX hb hwo hgk hnm hkd hY ha) (fun o Z hz => ⟨hz.1.1, ?_⟩)) (fun Z hz => ?_) rfl rfl (fun z => ?_)
  · have z0 := hz.1.1
    subst z0
    exact hz
  · obtain ⟨r1, r2⟩ := lk_ho (l := 2) hp hw hY (by first | decide | omega) hfo hz.2 hz.1
    have z1 := hz.1.2.2.1 hwh
    exact ⟨r1, hz.2, Or.inr ⟨by rw [z1]; exact hc0, z1, r2⟩⟩
  · obtain ⟨Z, z1, z2⟩ := z
    rw [z1.1.2.2.1 hwh] at z2
    exact absurd z2 hc0

theorem ckh_162_215_1 (h : hyA S0 162 HT cs ms os X fa n B2 215 0 A s kd nms ne ec bh ba ar) (hL9 : stL S0) (hH : stHo S0 162 261 HT nt cs ms os n) (hC9 : stHc S0 162 HT cs ms os) (hX : w_X xs) (hb : a_c A (20 + 1) + 1 ≤ B2) (hwo : a_W A < 10000000) (hgk : ((a_K A 0).1.getD ba (0, 0, [])).1 = 7) (hnm : nm = nms) (hkd : kd = 0 ∨ kd = 1 ∨ kd = 5) (hwh : 0 ≤ (whA HT cs ms os kd 0 (nmT (a_N A) nms) (tO (a_T A) ((a_K A 0).1.getD ba (0, 0, [])).2.1).2.2.1 (ar.map (clO (a_T A))))) (hact : cAct xs d S0 162 HT cs ms os X mo 215 (u_N (u_Q A (a_H A) (hoC HT cs ms os A mo kd 0 (nmT (a_N A) nms) (tO (a_T A) ((a_K A 0).1.getD ba (0, 0, [])).2.1).2.2.1 (ar.map (clO (a_T A)))).1 (hoC HT cs ms os A mo kd 0 (nmT (a_N A) nms) (tO (a_T A) ((a_K A 0).1.getD ba (0, 0, [])).2.1).2.2.1 (ar.map (clO (a_T A)))).2 1 0) s (hoR9 HT cs ms os (a_c A 11) 1 kd (nmT (a_N A) nms) (tO (a_T A) ((a_K A 0).1.getD ba (0, 0, [])).2.1).2.2.1 (ar.map (clO (a_T A))))) s kd nms ec ba ((a_K A 0).1.getD ba (0, 0, [])).1 nm (esV (ar.map (clO (a_T A)))) (hoR9 HT cs ms os (a_c A 11) 1 kd (nmT (a_N A) nms) (tO (a_T A) ((a_K A 0).1.getD ba (0, 0, [])).2.1).2.2.1 (ar.map (clO (a_T A)))) c A2) : cLook xs d S0 162 HT cs ms os X mo 215 A s kd ec ba ((a_K A 0).1.getD ba (0, 0, [])).1 nm (esV (ar.map (clO (a_T A)))) c A2 := fun Y hY ha => by
  obtain ⟨⟨hp, hw, hx⟩, hA, hB, ⟨hr, ho⟩, hsi, hme⟩ := id h
  obtain ⟨ix, fl, ow, hE⟩ := hY.2.2.2.2.1
  have hfo : 0 ≤ Y 158 14 := by
    have z1 := hE.2.2.2.1
    omega
  refine cLk1_215 (mk := mkH 162) (RZ := fun Z => lhQ 162 (162 + 47) (162 + 48) (162 + 1) 215 HT cs ms os (hoC HT cs ms os A mo kd 0 (nmT (a_N A) nms) (tO (a_T A) ((a_K A 0).1.getD ba (0, 0, [])).2.1).2.2.1 (ar.map (clO (a_T A)))).1 (hoC HT cs ms os A mo kd 0 (nmT (a_N A) nms) (tO (a_T A) ((a_K A 0).1.getD ba (0, 0, [])).2.1).2.2.1 (ar.map (clO (a_T A)))).2 mo kd nms (Y 158 14) (whA HT cs ms os kd 0 (nmT (a_N A) nms) (tO (a_T A) ((a_K A 0).1.getD ba (0, 0, [])).2.1).2.2.1 (ar.map (clO (a_T A)))) (hoR9 HT cs ms os (a_c A 11) 1 kd (nmT (a_N A) nms) (tO (a_T A) ((a_K A 0).1.getD ba (0, 0, [])).2.1).2.2.1 (ar.map (clO (a_T A)))) (bkZ (Y 158 14) 1 (w_up Y 160 1 (Y 160 1 + 1))) (.inl none) Z ∧ w_CL Z) (A1 := (u_Q A (a_H A) (hoC HT cs ms os A mo kd 0 (nmT (a_N A) nms) (tO (a_T A) ((a_K A 0).1.getD ba (0, 0, [])).2.1).2.2.1 (ar.map (clO (a_T A)))).1 (hoC HT cs ms os A mo kd 0 (nmT (a_N A) nms) (tO (a_T A) ((a_K A 0).1.getD ba (0, 0, [])).2.1).2.2.1 (ar.map (clO (a_T A)))).2 1 0)) (e := (hoR9 HT cs ms os (a_c A 11) 1 kd (nmT (a_N A) nms) (tO (a_T A) ((a_K A 0).1.getD ba (0, 0, [])).2.1).2.2.1 (ar.map (clO (a_T A))))) h hL9 hgk (mkH_L hp) hY ha (wJ_mono (cHo_162_215_1 h hL9 hH hC9 hX hb hwo hgk hnm hkd hY ha) (fun o Z hz => ⟨hz.1.1, ?_⟩)) (fun Z hz => ?_) rfl rfl (fun _ => hact)
  · have z0 := hz.1.1
    subst z0
    exact hz
  · obtain ⟨r1, r2⟩ := lk_ho (l := 1) hp hw hY (by first | decide | omega) hfo hz.2 hz.1
    obtain ⟨z1, z2⟩ := hz.1.2.1 hwh
    exact ⟨r1, hz.2, Or.inl ⟨z2.trans ((bk_f 215 16 (by omega) (by omega)).trans ha.2), z1, r2⟩⟩
theorem ckj_162_215_1 (h : hyA S0 162 HT cs ms os X fa n B2 215 0 A s kd nms ne ec bh ba ar) (hL9 : stL S0) (hH : stHo S0 162 261 HT nt cs ms os n) (hC9 : stHc S0 162 HT cs ms os) (hX : w_X xs) (hb : a_c A (20 + 1) + 1 ≤ B2) (hwo : a_W A < 10000000) (hgk : ((a_K A 0).1.getD ba (0, 0, [])).1 = 7) (hnm : nm = nms) (hkd : kd = 0 ∨ kd = 1 ∨ kd = 5) (hwh : (whA HT cs ms os kd 0 (nmT (a_N A) nms) (tO (a_T A) ((a_K A 0).1.getD ba (0, 0, [])).2.1).2.2.1 (ar.map (clO (a_T A)))) < 0) : cLook xs d S0 162 HT cs ms os X mo 215 A s kd ec ba ((a_K A 0).1.getD ba (0, 0, [])).1 nm (esV (ar.map (clO (a_T A)))) (if (whA HT cs ms os kd 0 (nmT (a_N A) nms) (tO (a_T A) ((a_K A 0).1.getD ba (0, 0, [])).2.1).2.2.1 (ar.map (clO (a_T A)))) = -1 then 4 else -(whA HT cs ms os kd 0 (nmT (a_N A) nms) (tO (a_T A) ((a_K A 0).1.getD ba (0, 0, [])).2.1).2.2.1 (ar.map (clO (a_T A))))) (u_Q A (a_H A) (hoC HT cs ms os A mo kd 0 (nmT (a_N A) nms) (tO (a_T A) ((a_K A 0).1.getD ba (0, 0, [])).2.1).2.2.1 (ar.map (clO (a_T A)))).1 (hoC HT cs ms os A mo kd 0 (nmT (a_N A) nms) (tO (a_T A) ((a_K A 0).1.getD ba (0, 0, [])).2.1).2.2.1 (ar.map (clO (a_T A)))).2 1 0) := fun Y hY ha => by
  obtain ⟨⟨hp, hw, hx⟩, hA, hB, ⟨hr, ho⟩, hsi, hme⟩ := id h
  obtain ⟨ix, fl, ow, hE⟩ := hY.2.2.2.2.1
  have hfo : 0 ≤ Y 158 14 := by
    have z1 := hE.2.2.2.1
    omega
  have hc0 : (if (whA HT cs ms os kd 0 (nmT (a_N A) nms) (tO (a_T A) ((a_K A 0).1.getD ba (0, 0, [])).2.1).2.2.1 (ar.map (clO (a_T A)))) = -1 then 4 else -(whA HT cs ms os kd 0 (nmT (a_N A) nms) (tO (a_T A) ((a_K A 0).1.getD ba (0, 0, [])).2.1).2.2.1 (ar.map (clO (a_T A))))) ≠ 0 := by
    by_cases z : (whA HT cs ms os kd 0 (nmT (a_N A) nms) (tO (a_T A) ((a_K A 0).1.getD ba (0, 0, [])).2.1).2.2.1 (ar.map (clO (a_T A)))) = -1
    · rw [if_pos z]; decide
    · rw [if_neg z]; omega
  refine cLk1_215 (mk := mkH 162) (RZ := fun Z => lhQ 162 (162 + 47) (162 + 48) (162 + 1) 215 HT cs ms os (hoC HT cs ms os A mo kd 0 (nmT (a_N A) nms) (tO (a_T A) ((a_K A 0).1.getD ba (0, 0, [])).2.1).2.2.1 (ar.map (clO (a_T A)))).1 (hoC HT cs ms os A mo kd 0 (nmT (a_N A) nms) (tO (a_T A) ((a_K A 0).1.getD ba (0, 0, [])).2.1).2.2.1 (ar.map (clO (a_T A)))).2 mo kd nms (Y 158 14) (whA HT cs ms os kd 0 (nmT (a_N A) nms) (tO (a_T A) ((a_K A 0).1.getD ba (0, 0, [])).2.1).2.2.1 (ar.map (clO (a_T A)))) (hoR9 HT cs ms os (a_c A 11) 1 kd (nmT (a_N A) nms) (tO (a_T A) ((a_K A 0).1.getD ba (0, 0, [])).2.1).2.2.1 (ar.map (clO (a_T A)))) (bkZ (Y 158 14) 1 (w_up Y 160 1 (Y 160 1 + 1))) (.inl none) Z ∧ w_CL Z) (A1 := A) (e := ((0 : Int), (0 : Int), (0 : Int), (0 : Int), (0 : Int), (0 : Int), (0 : Int), (0 : Int), (0 : Int))) (nms := nms) h hL9 hgk (mkH_L hp) hY ha (wJ_mono (cHo_162_215_1 h hL9 hH hC9 hX hb hwo hgk hnm hkd hY ha) (fun o Z hz => ⟨hz.1.1, ?_⟩)) (fun Z hz => ?_) rfl rfl (fun z => ?_)
  · have z0 := hz.1.1
    subst z0
    exact hz
  · obtain ⟨r1, r2⟩ := lk_ho (l := 1) hp hw hY (by first | decide | omega) hfo hz.2 hz.1
    have z1 := hz.1.2.2.1 hwh
    exact ⟨r1, hz.2, Or.inr ⟨by rw [z1]; exact hc0, z1, r2⟩⟩
  · obtain ⟨Z, z1, z2⟩ := z
    rw [z1.1.2.2.1 hwh] at z2
    exact absurd z2 hc0

theorem ckh_162_215_2 (h : hyA S0 162 HT cs ms os X fa n B2 215 0 A s kd nms ne ec bh ba ar) (hL9 : stL S0) (hH : stHo S0 162 261 HT nt cs ms os n) (hC9 : stHc S0 162 HT cs ms os) (hX : w_X xs) (hb : a_c A (20 + 2) + 1 ≤ B2) (hwo : a_W A < 10000000) (hgk : ((a_K A 0).1.getD ba (0, 0, [])).1 = 8) (hnm : nm = nms) (hkd : kd = 0 ∨ kd = 1 ∨ kd = 5 ∨ kd = 6) (hwh : 0 ≤ (whA HT cs ms os kd 1 (nmT (a_N A) nms) ((a_K A 0).1.getD ba (0, 0, [])).2.1 (ar.map (clO (a_T A))))) (hact : cAct xs d S0 162 HT cs ms os X mo 215 (u_N (u_Q A (a_H A) (hoC HT cs ms os A mo kd 1 (nmT (a_N A) nms) ((a_K A 0).1.getD ba (0, 0, [])).2.1 (ar.map (clO (a_T A)))).1 (hoC HT cs ms os A mo kd 1 (nmT (a_N A) nms) ((a_K A 0).1.getD ba (0, 0, [])).2.1 (ar.map (clO (a_T A)))).2 2 0) s (hoR9 HT cs ms os (a_c A 11) 2 kd (nmT (a_N A) nms) ((a_K A 0).1.getD ba (0, 0, [])).2.1 (ar.map (clO (a_T A))))) s kd nms ec ba ((a_K A 0).1.getD ba (0, 0, [])).1 nm (esV (ar.map (clO (a_T A)))) (hoR9 HT cs ms os (a_c A 11) 2 kd (nmT (a_N A) nms) ((a_K A 0).1.getD ba (0, 0, [])).2.1 (ar.map (clO (a_T A)))) c A2) : cLook xs d S0 162 HT cs ms os X mo 215 A s kd ec ba ((a_K A 0).1.getD ba (0, 0, [])).1 nm (esV (ar.map (clO (a_T A)))) c A2 := fun Y hY ha => by
  obtain ⟨⟨hp, hw, hx⟩, hA, hB, ⟨hr, ho⟩, hsi, hme⟩ := id h
  obtain ⟨ix, fl, ow, hE⟩ := hY.2.2.2.2.1
  have hfo : 0 ≤ Y 158 14 := by
    have z1 := hE.2.2.2.1
    omega
  refine cLk2_215 (mk := mkH 162) (RZ := fun Z => lhQ 162 (162 + 47) (162 + 48) (162 + 1) 215 HT cs ms os (hoC HT cs ms os A mo kd 1 (nmT (a_N A) nms) ((a_K A 0).1.getD ba (0, 0, [])).2.1 (ar.map (clO (a_T A)))).1 (hoC HT cs ms os A mo kd 1 (nmT (a_N A) nms) ((a_K A 0).1.getD ba (0, 0, [])).2.1 (ar.map (clO (a_T A)))).2 mo kd nms (Y 158 14) (whA HT cs ms os kd 1 (nmT (a_N A) nms) ((a_K A 0).1.getD ba (0, 0, [])).2.1 (ar.map (clO (a_T A)))) (hoR9 HT cs ms os (a_c A 11) 2 kd (nmT (a_N A) nms) ((a_K A 0).1.getD ba (0, 0, [])).2.1 (ar.map (clO (a_T A)))) (bkZ (Y 158 14) 2 (w_up Y 160 2 (Y 160 2 + 1))) (.inl none) Z ∧ w_CL Z) (A1 := (u_Q A (a_H A) (hoC HT cs ms os A mo kd 1 (nmT (a_N A) nms) ((a_K A 0).1.getD ba (0, 0, [])).2.1 (ar.map (clO (a_T A)))).1 (hoC HT cs ms os A mo kd 1 (nmT (a_N A) nms) ((a_K A 0).1.getD ba (0, 0, [])).2.1 (ar.map (clO (a_T A)))).2 2 0)) (e := (hoR9 HT cs ms os (a_c A 11) 2 kd (nmT (a_N A) nms) ((a_K A 0).1.getD ba (0, 0, [])).2.1 (ar.map (clO (a_T A))))) h hL9 hgk (mkH_L hp) hY ha (wJ_mono (cHo_162_215_2 h hL9 hH hC9 hX hb hwo hgk hnm hkd hY ha) (fun o Z hz => ⟨hz.1.1, ?_⟩)) (fun Z hz => ?_) rfl rfl (fun _ => hact)
  · have z0 := hz.1.1
    subst z0
    exact hz
  · obtain ⟨r1, r2⟩ := lk_ho (l := 2) hp hw hY (by first | decide | omega) hfo hz.2 hz.1
    obtain ⟨z1, z2⟩ := hz.1.2.1 hwh
    exact ⟨r1, hz.2, Or.inl ⟨z2.trans ((bk_f 215 16 (by omega) (by omega)).trans ha.2), z1, r2⟩⟩
theorem ckj_162_215_2 (h : hyA S0 162 HT cs ms os X fa n B2 215 0 A s kd nms ne ec bh ba ar) (hL9 : stL S0) (hH : stHo S0 162 261 HT nt cs ms os n) (hC9 : stHc S0 162 HT cs ms os) (hX : w_X xs) (hb : a_c A (20 + 2) + 1 ≤ B2) (hwo : a_W A < 10000000) (hgk : ((a_K A 0).1.getD ba (0, 0, [])).1 = 8) (hnm : nm = nms) (hkd : kd = 0 ∨ kd = 1 ∨ kd = 5 ∨ kd = 6) (hwh : (whA HT cs ms os kd 1 (nmT (a_N A) nms) ((a_K A 0).1.getD ba (0, 0, [])).2.1 (ar.map (clO (a_T A)))) < 0) : cLook xs d S0 162 HT cs ms os X mo 215 A s kd ec ba ((a_K A 0).1.getD ba (0, 0, [])).1 nm (esV (ar.map (clO (a_T A)))) (if (whA HT cs ms os kd 1 (nmT (a_N A) nms) ((a_K A 0).1.getD ba (0, 0, [])).2.1 (ar.map (clO (a_T A)))) = -1 then 4 else -(whA HT cs ms os kd 1 (nmT (a_N A) nms) ((a_K A 0).1.getD ba (0, 0, [])).2.1 (ar.map (clO (a_T A))))) (u_Q A (a_H A) (hoC HT cs ms os A mo kd 1 (nmT (a_N A) nms) ((a_K A 0).1.getD ba (0, 0, [])).2.1 (ar.map (clO (a_T A)))).1 (hoC HT cs ms os A mo kd 1 (nmT (a_N A) nms) ((a_K A 0).1.getD ba (0, 0, [])).2.1 (ar.map (clO (a_T A)))).2 2 0) := fun Y hY ha => by
  obtain ⟨⟨hp, hw, hx⟩, hA, hB, ⟨hr, ho⟩, hsi, hme⟩ := id h
  obtain ⟨ix, fl, ow, hE⟩ := hY.2.2.2.2.1
  have hfo : 0 ≤ Y 158 14 := by
    have z1 := hE.2.2.2.1
    omega
  have hc0 : (if (whA HT cs ms os kd 1 (nmT (a_N A) nms) ((a_K A 0).1.getD ba (0, 0, [])).2.1 (ar.map (clO (a_T A)))) = -1 then 4 else -(whA HT cs ms os kd 1 (nmT (a_N A) nms) ((a_K A 0).1.getD ba (0, 0, [])).2.1 (ar.map (clO (a_T A))))) ≠ 0 := by
    by_cases z : (whA HT cs ms os kd 1 (nmT (a_N A) nms) ((a_K A 0).1.getD ba (0, 0, [])).2.1 (ar.map (clO (a_T A)))) = -1
    · rw [if_pos z]; decide
    · rw [if_neg z]; omega
  refine cLk2_215 (mk := mkH 162) (RZ := fun Z => lhQ 162 (162 + 47) (162 + 48) (162 + 1) 215 HT cs ms os (hoC HT cs ms os A mo kd 1 (nmT (a_N A) nms) ((a_K A 0).1.getD ba (0, 0, [])).2.1 (ar.map (clO (a_T A)))).1 (hoC HT cs ms os A mo kd 1 (nmT (a_N A) nms) ((a_K A 0).1.getD ba (0, 0, [])).2.1 (ar.map (clO (a_T A)))).2 mo kd nms (Y 158 14) (whA HT cs ms os kd 1 (nmT (a_N A) nms) ((a_K A 0).1.getD ba (0, 0, [])).2.1 (ar.map (clO (a_T A)))) (hoR9 HT cs ms os (a_c A 11) 2 kd (nmT (a_N A) nms) ((a_K A 0).1.getD ba (0, 0, [])).2.1 (ar.map (clO (a_T A)))) (bkZ (Y 158 14) 2 (w_up Y 160 2 (Y 160 2 + 1))) (.inl none) Z ∧ w_CL Z) (A1 := A) (e := ((0 : Int), (0 : Int), (0 : Int), (0 : Int), (0 : Int), (0 : Int), (0 : Int), (0 : Int), (0 : Int))) (nms := nms) h hL9 hgk (mkH_L hp) hY ha (wJ_mono (cHo_162_215_2 h hL9 hH hC9 hX hb hwo hgk hnm hkd hY ha) (fun o Z hz => ⟨hz.1.1, ?_⟩)) (fun Z hz => ?_) rfl rfl (fun z => ?_)
  · have z0 := hz.1.1
    subst z0
    exact hz
  · obtain ⟨r1, r2⟩ := lk_ho (l := 2) hp hw hY (by first | decide | omega) hfo hz.2 hz.1
    have z1 := hz.1.2.2.1 hwh
    exact ⟨r1, hz.2, Or.inr ⟨by rw [z1]; exact hc0, z1, r2⟩⟩
  · obtain ⟨Z, z1, z2⟩ := z
    rw [z1.1.2.2.1 hwh] at z2
    exact absurd z2 hc0

theorem ckh_162_226_1 (h : hyA S0 162 HT cs ms os X fa n B2 226 1 A s kd nms ne ec bh ba ar) (hL9 : stL S0) (hH : stHo S0 162 261 HT nt cs ms os n) (hC9 : stHc S0 162 HT cs ms os) (hX : w_X xs) (hb : a_c A (20 + 1) + 1 ≤ B2) (hwo : a_W A < 10000000) (hgk : ((a_K A 1).1.getD ba (0, 0, [])).1 = 7) (hnm : nm = nms) (hkd : kd = 0 ∨ kd = 1 ∨ kd = 5) (hwh : 0 ≤ (whA HT cs ms os kd 0 (nmT (a_N A) nms) (tO (a_T A) ((a_K A 1).1.getD ba (0, 0, [])).2.1).2.2.1 (ar.map (clO (a_T A))))) (hact : cAct xs d S0 162 HT cs ms os X mo 226 (u_N (u_Q A (a_H A) (hoC HT cs ms os A mo kd 0 (nmT (a_N A) nms) (tO (a_T A) ((a_K A 1).1.getD ba (0, 0, [])).2.1).2.2.1 (ar.map (clO (a_T A)))).1 (hoC HT cs ms os A mo kd 0 (nmT (a_N A) nms) (tO (a_T A) ((a_K A 1).1.getD ba (0, 0, [])).2.1).2.2.1 (ar.map (clO (a_T A)))).2 1 0) s (hoR9 HT cs ms os (a_c A 11) 1 kd (nmT (a_N A) nms) (tO (a_T A) ((a_K A 1).1.getD ba (0, 0, [])).2.1).2.2.1 (ar.map (clO (a_T A))))) s kd nms ec ba ((a_K A 1).1.getD ba (0, 0, [])).1 nm (esV (ar.map (clO (a_T A)))) (hoR9 HT cs ms os (a_c A 11) 1 kd (nmT (a_N A) nms) (tO (a_T A) ((a_K A 1).1.getD ba (0, 0, [])).2.1).2.2.1 (ar.map (clO (a_T A)))) c A2) : cLook xs d S0 162 HT cs ms os X mo 226 A s kd ec ba ((a_K A 1).1.getD ba (0, 0, [])).1 nm (esV (ar.map (clO (a_T A)))) c A2 := fun Y hY ha => by
  obtain ⟨⟨hp, hw, hx⟩, hA, hB, ⟨hr, ho⟩, hsi, hme⟩ := id h
  obtain ⟨ix, fl, ow, hE⟩ := hY.2.2.2.2.1
  have hfo : 0 ≤ Y 158 14 := by
    have z1 := hE.2.2.2.1
    omega
  refine cLk1_226 (mk := mkH 162) (RZ := fun Z => lhQ 162 (162 + 47) (162 + 48) (162 + 1) 226 HT cs ms os (hoC HT cs ms os A mo kd 0 (nmT (a_N A) nms) (tO (a_T A) ((a_K A 1).1.getD ba (0, 0, [])).2.1).2.2.1 (ar.map (clO (a_T A)))).1 (hoC HT cs ms os A mo kd 0 (nmT (a_N A) nms) (tO (a_T A) ((a_K A 1).1.getD ba (0, 0, [])).2.1).2.2.1 (ar.map (clO (a_T A)))).2 mo kd nms (Y 158 14) (whA HT cs ms os kd 0 (nmT (a_N A) nms) (tO (a_T A) ((a_K A 1).1.getD ba (0, 0, [])).2.1).2.2.1 (ar.map (clO (a_T A)))) (hoR9 HT cs ms os (a_c A 11) 1 kd (nmT (a_N A) nms) (tO (a_T A) ((a_K A 1).1.getD ba (0, 0, [])).2.1).2.2.1 (ar.map (clO (a_T A)))) (bkZ (Y 158 14) 1 (w_up Y 160 1 (Y 160 1 + 1))) (.inl none) Z ∧ w_CL Z) (A1 := (u_Q A (a_H A) (hoC HT cs ms os A mo kd 0 (nmT (a_N A) nms) (tO (a_T A) ((a_K A 1).1.getD ba (0, 0, [])).2.1).2.2.1 (ar.map (clO (a_T A)))).1 (hoC HT cs ms os A mo kd 0 (nmT (a_N A) nms) (tO (a_T A) ((a_K A 1).1.getD ba (0, 0, [])).2.1).2.2.1 (ar.map (clO (a_T A)))).2 1 0)) (e := (hoR9 HT cs ms os (a_c A 11) 1 kd (nmT (a_N A) nms) (tO (a_T A) ((a_K A 1).1.getD ba (0, 0, [])).2.1).2.2.1 (ar.map (clO (a_T A))))) h hL9 hgk (mkH_L hp) hY ha (wJ_mono (cHo_162_226_1 h hL9 hH hC9 hX hb hwo hgk hnm hkd hY ha) (fun o Z hz => ⟨hz.1.1, ?_⟩)) (fun Z hz => ?_) rfl rfl (fun _ => hact)
  · have z0 := hz.1.1
    subst z0
    exact hz
  · obtain ⟨r1, r2⟩ := lk_ho (l := 1) hp hw hY (by first | decide | omega) hfo hz.2 hz.1
    obtain ⟨z1, z2⟩ := hz.1.2.1 hwh
    exact ⟨r1, hz.2, Or.inl ⟨z2.trans ((bk_f 226 16 (by omega) (by omega)).trans ha.2), z1, r2⟩⟩
theorem ckj_162_226_1 (h : hyA S0 162 HT cs ms os X fa n B2 226 1 A s kd nms ne ec bh ba ar) (hL9 : stL S0) (hH : stHo S0 162 261 HT nt cs ms os n) (hC9 : stHc S0 162 HT cs ms os) (hX : w_X xs) (hb : a_c A (20 + 1) + 1 ≤ B2) (hwo : a_W A < 10000000) (hgk : ((a_K A 1).1.getD ba (0, 0, [])).1 = 7) (hnm : nm = nms) (hkd : kd = 0 ∨ kd = 1 ∨ kd = 5) (hwh : (whA HT cs ms os kd 0 (nmT (a_N A) nms) (tO (a_T A) ((a_K A 1).1.getD ba (0, 0, [])).2.1).2.2.1 (ar.map (clO (a_T A)))) < 0) : cLook xs d S0 162 HT cs ms os X mo 226 A s kd ec ba ((a_K A 1).1.getD ba (0, 0, [])).1 nm (esV (ar.map (clO (a_T A)))) (if (whA HT cs ms os kd 0 (nmT (a_N A) nms) (tO (a_T A) ((a_K A 1).1.getD ba (0, 0, [])).2.1).2.2.1 (ar.map (clO (a_T A)))) = -1 then 4 else -(whA HT cs ms os kd 0 (nmT (a_N A) nms) (tO (a_T A) ((a_K A 1).1.getD ba (0, 0, [])).2.1).2.2.1 (ar.map (clO (a_T A))))) (u_Q A (a_H A) (hoC HT cs ms os A mo kd 0 (nmT (a_N A) nms) (tO (a_T A) ((a_K A 1).1.getD ba (0, 0, [])).2.1).2.2.1 (ar.map (clO (a_T A)))).1 (hoC HT cs ms os A mo kd 0 (nmT (a_N A) nms) (tO (a_T A) ((a_K A 1).1.getD ba (0, 0, [])).2.1).2.2.1 (ar.map (clO (a_T A)))).2 1 0) := fun Y hY ha => by
  obtain ⟨⟨hp, hw, hx⟩, hA, hB, ⟨hr, ho⟩, hsi, hme⟩ := id h
  obtain ⟨ix, fl, ow, hE⟩ := hY.2.2.2.2.1
  have hfo : 0 ≤ Y 158 14 := by
    have z1 := hE.2.2.2.1
    omega
  have hc0 : (if (whA HT cs ms os kd 0 (nmT (a_N A) nms) (tO (a_T A) ((a_K A 1).1.getD ba (0, 0, [])).2.1).2.2.1 (ar.map (clO (a_T A)))) = -1 then 4 else -(whA HT cs ms os kd 0 (nmT (a_N A) nms) (tO (a_T A) ((a_K A 1).1.getD ba (0, 0, [])).2.1).2.2.1 (ar.map (clO (a_T A))))) ≠ 0 := by
    by_cases z : (whA HT cs ms os kd 0 (nmT (a_N A) nms) (tO (a_T A) ((a_K A 1).1.getD ba (0, 0, [])).2.1).2.2.1 (ar.map (clO (a_T A)))) = -1
    · rw [if_pos z]; decide
    · rw [if_neg z]; omega
  refine cLk1_226 (mk := mkH 162) (RZ := fun Z => lhQ 162 (162 + 47) (162 + 48) (162 + 1) 226 HT cs ms os (hoC HT cs ms os A mo kd 0 (nmT (a_N A) nms) (tO (a_T A) ((a_K A 1).1.getD ba (0, 0, [])).2.1).2.2.1 (ar.map (clO (a_T A)))).1 (hoC HT cs ms os A mo kd 0 (nmT (a_N A) nms) (tO (a_T A) ((a_K A 1).1.getD ba (0, 0, [])).2.1).2.2.1 (ar.map (clO (a_T A)))).2 mo kd nms (Y 158 14) (whA HT cs ms os kd 0 (nmT (a_N A) nms) (tO (a_T A) ((a_K A 1).1.getD ba (0, 0, [])).2.1).2.2.1 (ar.map (clO (a_T A)))) (hoR9 HT cs ms os (a_c A 11) 1 kd (nmT (a_N A) nms) (tO (a_T A) ((a_K A 1).1.getD ba (0, 0, [])).2.1).2.2.1 (ar.map (clO (a_T A)))) (bkZ (Y 158 14) 1 (w_up Y 160 1 (Y 160 1 + 1))) (.inl none) Z ∧ w_CL Z) (A1 := A) (e := ((0 : Int), (0 : Int), (0 : Int), (0 : Int), (0 : Int), (0 : Int), (0 : Int), (0 : Int), (0 : Int))) (nms := nms) h hL9 hgk (mkH_L hp) hY ha (wJ_mono (cHo_162_226_1 h hL9 hH hC9 hX hb hwo hgk hnm hkd hY ha) (fun o Z hz => ⟨hz.1.1, ?_⟩)) (fun Z hz => ?_) rfl rfl (fun z => ?_)
  · have z0 := hz.1.1
    subst z0
    exact hz
  · obtain ⟨r1, r2⟩ := lk_ho (l := 1) hp hw hY (by first | decide | omega) hfo hz.2 hz.1
    have z1 := hz.1.2.2.1 hwh
    exact ⟨r1, hz.2, Or.inr ⟨by rw [z1]; exact hc0, z1, r2⟩⟩
  · obtain ⟨Z, z1, z2⟩ := z
    rw [z1.1.2.2.1 hwh] at z2
    exact absurd z2 hc0

theorem ckh_162_226_2 (h : hyA S0 162 HT cs ms os X fa n B2 226 1 A s kd nms ne ec bh ba ar) (hL9 : stL S0) (hH : stHo S0 162 261 HT nt cs ms os n) (hC9 : stHc S0 162 HT cs ms os) (hX : w_X xs) (hb : a_c A (20 + 2) + 1 ≤ B2) (hwo : a_W A < 10000000) (hgk : ((a_K A 1).1.getD ba (0, 0, [])).1 = 8) (hnm : nm = nms) (hkd : kd = 0 ∨ kd = 1 ∨ kd = 5 ∨ kd = 6) (hwh : 0 ≤ (whA HT cs ms os kd 1 (nmT (a_N A) nms) ((a_K A 1).1.getD ba (0, 0, [])).2.1 (ar.map (clO (a_T A))))) (hact : cAct xs d S0 162 HT cs ms os X mo 226 (u_N (u_Q A (a_H A) (hoC HT cs ms os A mo kd 1 (nmT (a_N A) nms) ((a_K A 1).1.getD ba (0, 0, [])).2.1 (ar.map (clO (a_T A)))).1 (hoC HT cs ms os A mo kd 1 (nmT (a_N A) nms) ((a_K A 1).1.getD ba (0, 0, [])).2.1 (ar.map (clO (a_T A)))).2 2 0) s (hoR9 HT cs ms os (a_c A 11) 2 kd (nmT (a_N A) nms) ((a_K A 1).1.getD ba (0, 0, [])).2.1 (ar.map (clO (a_T A))))) s kd nms ec ba ((a_K A 1).1.getD ba (0, 0, [])).1 nm (esV (ar.map (clO (a_T A)))) (hoR9 HT cs ms os (a_c A 11) 2 kd (nmT (a_N A) nms) ((a_K A 1).1.getD ba (0, 0, [])).2.1 (ar.map (clO (a_T A)))) c A2) : cLook xs d S0 162 HT cs ms os X mo 226 A s kd ec ba ((a_K A 1).1.getD ba (0, 0, [])).1 nm (esV (ar.map (clO (a_T A)))) c A2 := fun Y hY ha => by
  obtain ⟨⟨hp, hw, hx⟩, hA, hB, ⟨hr, ho⟩, hsi, hme⟩ := id h
  obtain ⟨ix, fl, ow, hE⟩ := hY.2.2.2.2.1
  have hfo : 0 ≤ Y 158 14 := by
    have z1 := hE.2.2.2.1
    omega
  refine cLk2_226 (mk := mkH 162) (RZ := fun Z => lhQ 162 (162 + 47) (162 + 48) (162 + 1) 226 HT cs ms os (hoC HT cs ms os A mo kd 1 (nmT (a_N A) nms) ((a_K A 1).1.getD ba (0, 0, [])).2.1 (ar.map (clO (a_T A)))).1 (hoC HT cs ms os A mo kd 1 (nmT (a_N A) nms) ((a_K A 1).1.getD ba (0, 0, [])).2.1 (ar.map (clO (a_T A)))).2 mo kd nms (Y 158 14) (whA HT cs ms os kd 1 (nmT (a_N A) nms) ((a_K A 1).1.getD ba (0, 0, [])).2.1 (ar.map (clO (a_T A)))) (hoR9 HT cs ms os (a_c A 11) 2 kd (nmT (a_N A) nms) ((a_K A 1).1.getD ba (0, 0, [])).2.1 (ar.map (clO (a_T A)))) (bkZ (Y 158 14) 2 (w_up Y 160 2 (Y 160 2 + 1))) (.inl none) Z ∧ w_CL Z) (A1 := (u_Q A (a_H A) (hoC HT cs ms os A mo kd 1 (nmT (a_N A) nms) ((a_K A 1).1.getD ba (0, 0, [])).2.1 (ar.map (clO (a_T A)))).1 (hoC HT cs ms os A mo kd 1 (nmT (a_N A) nms) ((a_K A 1).1.getD ba (0, 0, [])).2.1 (ar.map (clO (a_T A)))).2 2 0)) (e := (hoR9 HT cs ms os (a_c A 11) 2 kd (nmT (a_N A) nms) ((a_K A 1).1.getD ba (0, 0, [])).2.1 (ar.map (clO (a_T A))))) h hL9 hgk (mkH_L hp) hY ha (wJ_mono (cHo_162_226_2 h hL9 hH hC9 hX hb hwo hgk hnm hkd hY ha) (fun o Z hz => ⟨hz.1.1, ?_⟩)) (fun Z hz => ?_) rfl rfl (fun _ => hact)
  · have z0 := hz.1.1
    subst z0
    exact hz
  · obtain ⟨r1, r2⟩ := lk_ho (l := 2) hp hw hY (by first | decide | omega) hfo hz.2 hz.1
    obtain ⟨z1, z2⟩ := hz.1.2.1 hwh
    exact ⟨r1, hz.2, Or.inl ⟨z2.trans ((bk_f 226 16 (by omega) (by omega)).trans ha.2), z1, r2⟩⟩
theorem ckj_162_226_2 (h : hyA S0 162 HT cs ms os X fa n B2 226 1 A s kd nms ne ec bh ba ar) (hL9 : stL S0) (hH : stHo S0 162 261 HT nt cs ms os n) (hC9 : stHc S0 162 HT cs ms os) (hX : w_X xs) (hb : a_c A (20 + 2) + 1 ≤ B2) (hwo : a_W A < 10000000) (hgk : ((a_K A 1).1.getD ba (0, 0, [])).1 = 8) (hnm : nm = nms) (hkd : kd = 0 ∨ kd = 1 ∨ kd = 5 ∨ kd = 6) (hwh : (whA HT cs ms os kd 1 (nmT (a_N A) nms) ((a_K A 1).1.getD ba (0, 0, [])).2.1 (ar.map (clO (a_T A)))) < 0) : cLook xs d S0 162 HT cs ms os X mo 226 A s kd ec ba ((a_K A 1).1.getD ba (0, 0, [])).1 nm (esV (ar.map (clO (a_T A)))) (if (whA HT cs ms os kd 1 (nmT (a_N A) nms) ((a_K A 1).1.getD ba (0, 0, [])).2.1 (ar.map (clO (a_T A)))) = -1 then 4 else -(whA HT cs ms os kd 1 (nmT (a_N A) nms) ((a_K A 1).1.getD ba (0, 0, [])).2.1 (ar.map (clO (a_T A))))) (u_Q A (a_H A) (hoC HT cs ms os A mo kd 1 (nmT (a_N A) nms) ((a_K A 1).1.getD ba (0, 0, [])).2.1 (ar.map (clO (a_T A)))).1 (hoC HT cs ms os A mo kd 1 (nmT (a_N A) nms) ((a_K A 1).1.getD ba (0, 0, [])).2.1 (ar.map (clO (a_T A)))).2 2 0) := fun Y hY ha => by
  obtain ⟨⟨hp, hw, hx⟩, hA, hB, ⟨hr, ho⟩, hsi, hme⟩ := id h
  obtain ⟨ix, fl, ow, hE⟩ := hY.2.2.2.2.1
  have hfo : 0 ≤ Y 158 14 := by
    have z1 := hE.2.2.2.1
    omega
  have hc0 : (if (whA HT cs ms os kd 1 (nmT (a_N A) nms) ((a_K A 1).1.getD ba (0, 0, [])).2.1 (ar.map (clO (a_T A)))) = -1 then 4 else -(whA HT cs ms os kd 1 (nmT (a_N A) nms) ((a_K A 1).1.getD ba (0, 0, [])).2.1 (ar.map (clO (a_T A))))) ≠ 0 := by
    by_cases z : (whA HT cs ms os kd 1 (nmT (a_N A) nms) ((a_K A 1).1.getD ba (0, 0, [])).2.1 (ar.map (clO (a_T A)))) = -1
    · rw [if_pos z]; decide
    · rw [if_neg z]; omega
  refine cLk2_226 (mk := mkH 162) (RZ := fun Z => lhQ 162 (162 + 47) (162 + 48) (162 + 1) 226 HT cs ms os (hoC HT cs ms os A mo kd 1 (nmT (a_N A) nms) ((a_K A 1).1.getD ba (0, 0, [])).2.1 (ar.map (clO (a_T A)))).1 (hoC HT cs ms os A mo kd 1 (nmT (a_N A) nms) ((a_K A 1).1.getD ba (0, 0, [])).2.1 (ar.map (clO (a_T A)))).2 mo kd nms (Y 158 14) (whA HT cs ms os kd 1 (nmT (a_N A) nms) ((a_K A 1).1.getD ba (0, 0, [])).2.1 (ar.map (clO (a_T A)))) (hoR9 HT cs ms os (a_c A 11) 2 kd (nmT (a_N A) nms) ((a_K A 1).1.getD ba (0, 0, [])).2.1 (ar.map (clO (a_T A)))) (bkZ (Y 158 14) 2 (w_up Y 160 2 (Y 160 2 + 1))) (.inl none) Z ∧ w_CL Z) (A1 := A) (e := ((0 : Int), (0 : Int), (0 : Int), (0 : Int), (0 : Int), (0 : Int), (0 : Int), (0 : Int), (0 : Int))) (nms := nms) h hL9 hgk (mkH_L hp) hY ha (wJ_mono (cHo_162_226_2 h hL9 hH hC9 hX hb hwo hgk hnm hkd hY ha) (fun o Z hz => ⟨hz.1.1, ?_⟩)) (fun Z hz => ?_) rfl rfl (fun z => ?_)
  · have z0 := hz.1.1
    subst z0
    exact hz
  · obtain ⟨r1, r2⟩ := lk_ho (l := 2) hp hw hY (by first | decide | omega) hfo hz.2 hz.1
    have z1 := hz.1.2.2.1 hwh
    exact ⟨r1, hz.2, Or.inr ⟨by rw [z1]; exact hc0, z1, r2⟩⟩
  · obtain ⟨Z, z1, z2⟩ := z
    rw [z1.1.2.2.1 hwh] at z2
    exact absurd z2 hc0

end Wlz
