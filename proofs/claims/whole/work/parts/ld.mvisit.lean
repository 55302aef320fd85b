/-! PART ld: a site: the reference visits it. -/
section Wld
variable {Sb : wS} {xs : List (Nat × List Int32)} {d : Nat} {S0 S Z : wS} {p w m : Nat} {HT : Int → Int} {cs : List hCR} {ms : List hMR} {os : Int → List Int} {X : List (List Int)} {mo t n B B2 oq : Int} {fa : Int → Int} {WE : aA → Prop} {A A2 : aA} {K2 : aK} {ml : List Nat} {k c s kd nms ne ec bh nm en : Int} {b ba : Nat} {ar : List aV} {e : aE} {V Z2 Y : wS} {o : wO} {dn : Int} {H2 : List aH} {N2 : List (List Int)} {E2 : Int → List aE} {C2 : List aQ} {W2 : Int} {c2 : Int → Int} {k2 : Int → Int → Int} {mk rk : Nat → Int → Prop} {K : aK} {T : List aO} {H : List aH} {E : Int → List aE} {gk gb es lo hi a : Int} {r : List aE × Int × Option aE} {A1 : aA} {tl cl : List Int} {sl : Nat → List Int} {L : List aC} {G : Int → aV} {u : aV} {x : List Int}
theorem ix_ap {N : List (List Int)} {W : List Int} (h : W ∈ N) : ixL (N ++ [x]) W = ixL N W := by
  unfold ixL
  rw [if_pos (List.mem_append.mpr (Or.inl h)), if_pos h, List.idxOf_append, if_pos h]
theorem rCh_N {N : List (List Int)} {CH : List aQ} {wo : Int} (h : rCh HT cs ms os N CH wo mo S) : rCh HT cs ms os (N ++ [x]) CH wo mo S := by
  obtain ⟨h1, h2, h3⟩ := h
  refine ⟨h1, fun k hk => ?_, h3⟩
  obtain ⟨⟨⟨a1, a2, a3, a4⟩, a5, a6⟩, b1, b2, b3, b4, b5, b6⟩ := h2 k hk
  refine ⟨⟨⟨a1, a2, ?_, a4⟩, a5, a6⟩, b1, b2, b3, b4, fun z1 z2 => List.mem_append.mpr (Or.inl (b5 z1 z2)), b6⟩
  rw [a3]
  unfold qNc
  by_cases e : (CH.getD k (0, 0, 0, [], [])).2.1 = 2
  · rw [if_pos e, if_pos e]
  · rw [if_neg e, if_neg e]
    by_cases e1 : (CH.getD k (0, 0, 0, [], [])).2.2.1 = 1
    · rw [if_pos e1, if_pos e1]
    · rw [if_neg e1, if_neg e1, ix_ap (b5 e (by omega))]
theorem rCl_of (ht : t = 0 ∨ t = 1) (hT : rTk t S K) (hW : rWd S sl T L G) (hT8 : (T.length : Int) ≤ 8000) (hv : ∀ v ∈ K.1, vOk T v) (hg : siG K kd ne ec bh ba ar) : rCl S (2100 * t + (ba : Int)) (ar.map (clO T)) := fun i hi => by
  rw [List.length_map] at hi
  have h1 := hg.2.2.1
  have h3 := hg.2.2.2.1
  have g8 := hg.2.2.2.2 i hi
  have z := r_at hT (i := ba + 1 + i) (by omega) (j := 2100 * t + (ba : Int) + 1 + (i : Int)) (by omega)
  rw [g8] at z
  have hvo : vOk T (ar.getD i (0, 0, [])) := by rw [← g8]; exact vOk_get hv (by omega)
  have hcl : (ar.map (clO T)).getD i 0 = clO T (ar.getD i (0, 0, [])) := by
    rw [List.getD_eq_getElem?_getD, List.getElem?_map, List.getD_eq_getElem?_getD, List.getElem?_eq_getElem hi]; rfl
  refine ⟨by rw [hcl]; exact clR_e z hW.1 hvo, by rw [z.1]; exact hvo.1, fun h7 => ?_⟩
  rw [z.1] at h7
  have hb := (z.2.1 (by omega)).1
  obtain ⟨y1, y2⟩ := hvo.2.1 (by omega) (by omega)
  have y3 := hvo.2.2.2.1 h7
  rw [hb]
  have x3 := (hW.1.2 (ar.getD i (0, 0, [])).2.1.toNat (by omega)).1.2.2.2.1
  rw [show (((ar.getD i (0, 0, [])).2.1.toNat : Nat) : Int) = (ar.getD i (0, 0, [])).2.1 by omega] at x3
  have x4 : S 321 (ar.getD i (0, 0, [])).2.1 = (tO T (ar.getD i (0, 0, [])).2.1).2.2.1 := x3.trans (if_pos (y2.trans h7))
  exact ⟨y1.1, by omega, by rw [x4]; exact y3.1, by rw [x4]; exact y3.2⟩
/-- the reference visits a site that is no element of a thing -/
theorem rv_C (hx : stX S0 fa X) (hw : isWt w t) (hA : wfA S0 fa ms n (WEs S0 HT cs ms os) B A) (hr : (a_K A t).2.2.2.1 = 1) (ho : opI S0 (a_K A t) = 27) (hsi : siH S0 (a_K A t) s kd nms ne ec bh ba ar) (hc : ¬ ((kd = 2 ∨ kd = 3) ∧ (((a_K A t).1.getD ba (0, 0, [])).1 = 4 ∨ ((a_K A t).1.getD ba (0, 0, [])).1 = 5))) (hH : ∀ e : aE, (rHl A (a_K A t) s kd nms nms ba ar).2.2 = some e → ∀ {Sb : wS} (Z : wS) (hit : Int), rRun S0 Sb HT cs ms os X mo t (u_H A s 0 (rHl A (a_K A t) s kd nms nms ba ar)) Z → rAim t (a_K A t) ba bh (-1) Z → (0 ≤ hit ∧ hit < 20000) → rEc Z e hit → rI15 xs d S0 Sb HT cs ms os X mo t s kd hit c A2 Z) (hN : (rHl A (a_K A t) s kd nms nms ba ar).2.2 = none → ∀ {Sb : wS} (Z : wS), rRun S0 Sb HT cs ms os X mo t (u_H A s 0 (rHl A (a_K A t) s kd nms nms ba ar)) Z → rAim t (a_K A t) ba bh (-1) Z → rI15 xs d S0 Sb HT cs ms os X mo t s kd (-1) c A2 Z) (hS : rRun S0 Sb HT cs ms os X mo t A S) : wJ (pe_GA xs) wY0 (fun _ => False) (d + 91) t_M_invokes ((pe_at t_M_invokes.bl 0).getD (0, [])).2 [(0, (2, 237)), (1, (0, opA S0 (a_K A t)))] [] (w_up (w_up S 237 154 (200 * t + ((a_K A t).2.1.length : Int) - 1)) 237 155 (((a_K A t).2.1.getD ((a_K A t).2.1.length - 1) (0, 0, 0, (0, 0, []), 0, 0, 0)).2.1 + 1)) (rOc S0 Sb HT cs ms os X mo t c A2) := by
  have ht := wt_t hw
  have hk := wT_of hA hw
  have hst := (hqo_r hx hk hr hw ho hS).1
  have hct := hA.2.2.2.2.1
  obtain ⟨s0, s1, s2⟩ := hsi.2.2.1.1
  have hT8 : ((a_T A).length : Int) ≤ 8000 := by have := hct.1; omega
  obtain ⟨g1, g2, g3, g4⟩ := si_r hS.1 hsi
  obtain ⟨sl, hW⟩ := hS.1.2.2.1.1
  have hv1 := vk_of hA hw
  have hba : ba < (a_K A t).1.length := by have := hsi.2.1.2.2.1; have := hsi.2.1.2.1; have := hsi.2.1.1; omega
  have hb2 : ba < 2100 := by have := hk.1.1; omega
  have hrv := r_at hst.1 hba (j := 2100 * t + (ba : Int)) rfl
  have hl : kLn (a_K A 0) ∧ kLn (a_K A 1) := ⟨hA.1.1.1, hA.1.2.1⟩
  have hR0 : rRun S0 Sb HT cs ms os X mo t A (ivZ (if kd = 0 then 0 else if kd < 4 then 1 else ne) bh (2100 * t + (ba : Int)) ((a_K A t).1.getD ba (0, 0, [])).1 (S 364 (2100 * t + (ba : Int))) (w_up (w_up S 237 154 (200 * t + ((a_K A t).2.1.length : Int) - 1)) 237 155 (((a_K A t).2.1.getD ((a_K A t).2.1.length - 1) (0, 0, 0, (0, 0, []), 0, 0, 0)).2.1 + 1))) := rRun_s hS ht hl (iv_s ht) (iv_M hS.1.1)
  have ha0 : rAim t (a_K A t) ba bh (-1) (ivZ (if kd = 0 then 0 else if kd < 4 then 1 else ne) bh (2100 * t + (ba : Int)) ((a_K A t).1.getD ba (0, 0, [])).1 (S 364 (2100 * t + (ba : Int))) (w_up (w_up S 237 154 (200 * t + ((a_K A t).2.1.length : Int) - 1)) 237 155 (((a_K A t).2.1.getD ((a_K A t).2.1.length - 1) (0, 0, 0, (0, 0, []), 0, 0, 0)).2.1 + 1))) := ⟨⟨(iv_u 237 154 (by omega)).trans ((w_up_at (by first | decide | omega)).trans (w_up_same _ _ _ _)), (iv_u 237 155 (by omega)).trans (w_up_same _ _ _ _)⟩, rfl, rfl, ((iv_u 364 _ (by omega)).trans ((w_up_slot (by first | decide | omega)).trans (w_up_slot (by first | decide | omega)))).symm, rfl, rfl⟩
  have hrr : (rHl A (a_K A t) s kd nms nms ba ar) = hlF (a_T A) (a_H A) kd nms ((a_K A t).1.getD ba (0, 0, [])).1 (S 364 (2100 * t + (ba : Int))) nms (wb_l2i (esV (ar.map (clO (a_T A))))) (wb_l2i (wb_lushr (esV (ar.map (clO (a_T A)))) 32)) (a_E A s) := by
    unfold rHl
    rw [hl_gr hrv]
  have hnN := hA.2.2.2.2.2.1.1
  have hn4 : (kd = 0 ∨ kd = 1 ∨ kd = 5) → 0 ≤ nms ∧ nms < 4000 := fun z => by
    have := hsi.2.2.2.1 z
    have := hx.2.2.2.2.2.2
    omega
  obtain ⟨c1, c2, c3, c4, c5, c6⟩ := hS.1.2.2.2.2.2.2.2.1
  have f3 := (hct.2.2.2.2.2.2.1 s s0 s1)
  have d3 := (c5 s s0 (by omega)).2.2.1
  have c11 := c1 1 (by first | decide | omega)
  have h82 : S 237 82 ≤ 60000 := by
    have q : S 237 63 = a_c A 1 := c11
    have := hct.2.1
    omega
  rw [hsi.1.1]
  refine rvi (d := d + 87) (K := a_K A t) (T := a_T A) (H := a_H A) (L := a_L A) (G := a_G A) (sl := sl) (E := a_E A) (nms := nms) (lo := wb_l2i (esV (ar.map (clO (a_T A))))) (hi := wb_l2i (wb_lushr (esV (ar.map (clO (a_T A)))) 32)) hst hW hS.1.2.2.1.2 hA.2.1 hT8 h82 hS.1.2.2.2.2.1 ⟨s0, by omega⟩ g2 g4 hsi.2.1 (fun z => hsi.2.2.1.2 (by omega)) hv1 hc (by rw [d3]; omega) (fun e he => ?_) (fun Z hit kk el hq => ?_)
  · refine wEr_of ((hA.2.2.2.2.2.2.1 s s0 s1).2 e he) hsi.1.2.1 hsi.1.2.2.1 hnN.1 hsi.2.1.1.1 hn4 ?_ (es_ok hsi.2.1 hv1) (by rw [List.length_map]; exact (ec_8 hsi.2.1).1) rfl rfl (fun g => ⟨fun z => absurd ⟨z, g⟩ hc, fun _ => ⟨rfl, rfl⟩⟩)
    rw [List.length_map, hsi.1.2.2.2]
    exact (ec_8 hsi.2.1).2
  · obtain ⟨i1, i2⟩ := ivI_A (A1 := A) (K := a_K A t) (bh := bh) (en := -1) (ba := ba) hR0 hl ht s0 rfl ha0 hb2 hq hrr
    rcases hq.2.2.2 with ⟨q1, q2⟩ | ⟨e, q1, q2, q3⟩
    · rw [q2]
      exact hN (by rw [hrr]; exact q1) Z i1 i2 el kk
    · exact hH e (by rw [hrr]; exact q1) Z hit i1 i2 q2 q3 el kk
/-- the reference visits an element of a thing -/
theorem rv_G (hx : stX S0 fa X) (hw : isWt w t) (hA : wfA S0 fa ms n (WEs S0 HT cs ms os) B A) (hr : (a_K A t).2.2.2.1 = 1) (ho : opI S0 (a_K A t) = 27) (hsi : siH S0 (a_K A t) s kd nms ne ec bh ba ar) (hc : ((kd = 2 ∨ kd = 3) ∧ (((a_K A t).1.getD ba (0, 0, [])).1 = 4 ∨ ((a_K A t).1.getD ba (0, 0, [])).1 = 5))) (hA1 : wfA S0 fa ms n (WEs S0 HT cs ms os) B2 A1) (hK1 : a_K A1 t = a_K A t) (hT1 : a_T A1 = a_T A) (hcal : ∀ {Sb : wS} (S : wS) (sl : Nat → List Int), rRun S0 Sb HT cs ms os X mo t A S → rWd S sl (a_T A) (a_L A) (a_G A) → wJ (pe_GA xs) wY0 (fun _ => False) (d + 90) t_M_namesElement ((pe_at t_M_namesElement.bl 0).getD (0, [])).2 [(0, (2, 237))] [] (ivZ (if kd = 0 then 0 else if kd < 4 then 1 else ne) bh (2100 * t + (ba : Int)) ((a_K A t).1.getD ba (0, 0, [])).1 (S 364 (2100 * t + (ba : Int))) (w_up (w_up S 237 154 (200 * t + ((a_K A t).2.1.length : Int) - 1)) 237 155 (((a_K A t).2.1.getD ((a_K A t).2.1.length - 1) (0, 0, 0, (0, 0, []), 0, 0, 0)).2.1 + 1))) (fun o Z => o = .inl none ∧ rRun S0 Sb HT cs ms os X mo t A1 Z ∧ rAim t (a_K A t) ba bh en Z ∧ Z 364 (2100 * t + (ba : Int)) = S 364 (2100 * t + (ba : Int)) ∧ rWd Z sl (a_T A1) (a_L A1) (a_G A1))) (hH : ∀ e : aE, (rHl A1 (a_K A t) s kd nms en ba ar).2.2 = some e → ∀ {Sb : wS} (Z : wS) (hit : Int), rRun S0 Sb HT cs ms os X mo t (u_H A1 s 0 (rHl A1 (a_K A t) s kd nms en ba ar)) Z → rAim t (a_K A t) ba bh en Z → (0 ≤ hit ∧ hit < 20000) → rEc Z e hit → rI15 xs d S0 Sb HT cs ms os X mo t s kd hit c A2 Z) (hN : (rHl A1 (a_K A t) s kd nms en ba ar).2.2 = none → ∀ {Sb : wS} (Z : wS), rRun S0 Sb HT cs ms os X mo t (u_H A1 s 0 (rHl A1 (a_K A t) s kd nms en ba ar)) Z → rAim t (a_K A t) ba bh en Z → rI15 xs d S0 Sb HT cs ms os X mo t s kd (-1) c A2 Z) (hS : rRun S0 Sb HT cs ms os X mo t A S) : wJ (pe_GA xs) wY0 (fun _ => False) (d + 91) t_M_invokes ((pe_at t_M_invokes.bl 0).getD (0, [])).2 [(0, (2, 237)), (1, (0, opA S0 (a_K A t)))] [] (w_up (w_up S 237 154 (200 * t + ((a_K A t).2.1.length : Int) - 1)) 237 155 (((a_K A t).2.1.getD ((a_K A t).2.1.length - 1) (0, 0, 0, (0, 0, []), 0, 0, 0)).2.1 + 1)) (rOc S0 Sb HT cs ms os X mo t c A2) := by
  have ht := wt_t hw
  have hk := wT_of hA hw
  have hst := (hqo_r hx hk hr hw ho hS).1
  have hct := hA.2.2.2.2.1
  obtain ⟨s0, s1, s2⟩ := hsi.2.2.1.1
  have hT8 : ((a_T A).length : Int) ≤ 8000 := by have := hct.1; omega
  obtain ⟨g1, g2, g3, g4⟩ := si_r hS.1 hsi
  obtain ⟨sl, hW⟩ := hS.1.2.2.1.1
  have hv1 := vk_of hA hw
  have hba : ba < (a_K A t).1.length := by have := hsi.2.1.2.2.1; have := hsi.2.1.2.1; have := hsi.2.1.1; omega
  have hb2 : ba < 2100 := by have := hk.1.1; omega
  have hrv := r_at hst.1 hba (j := 2100 * t + (ba : Int)) rfl
  have hl : kLn (a_K A 0) ∧ kLn (a_K A 1) := ⟨hA.1.1.1, hA.1.2.1⟩
  have hR0 : rRun S0 Sb HT cs ms os X mo t A (ivZ (if kd = 0 then 0 else if kd < 4 then 1 else ne) bh (2100 * t + (ba : Int)) ((a_K A t).1.getD ba (0, 0, [])).1 (S 364 (2100 * t + (ba : Int))) (w_up (w_up S 237 154 (200 * t + ((a_K A t).2.1.length : Int) - 1)) 237 155 (((a_K A t).2.1.getD ((a_K A t).2.1.length - 1) (0, 0, 0, (0, 0, []), 0, 0, 0)).2.1 + 1))) := rRun_s hS ht hl (iv_s ht) (iv_M hS.1.1)
  have ha0 : rAim t (a_K A t) ba bh (-1) (ivZ (if kd = 0 then 0 else if kd < 4 then 1 else ne) bh (2100 * t + (ba : Int)) ((a_K A t).1.getD ba (0, 0, [])).1 (S 364 (2100 * t + (ba : Int))) (w_up (w_up S 237 154 (200 * t + ((a_K A t).2.1.length : Int) - 1)) 237 155 (((a_K A t).2.1.getD ((a_K A t).2.1.length - 1) (0, 0, 0, (0, 0, []), 0, 0, 0)).2.1 + 1))) := ⟨⟨(iv_u 237 154 (by omega)).trans ((w_up_at (by first | decide | omega)).trans (w_up_same _ _ _ _)), (iv_u 237 155 (by omega)).trans (w_up_same _ _ _ _)⟩, rfl, rfl, ((iv_u 364 _ (by omega)).trans ((w_up_slot (by first | decide | omega)).trans (w_up_slot (by first | decide | omega)))).symm, rfl, rfl⟩
  have hrr : (rHl A1 (a_K A t) s kd nms en ba ar) = hlF (a_T A1) (a_H A1) kd nms ((a_K A t).1.getD ba (0, 0, [])).1 (S 364 (2100 * t + (ba : Int))) en (wb_l2i (esV (ar.map (clO (a_T A1))))) (wb_l2i (wb_lushr (esV (ar.map (clO (a_T A1)))) 32)) (a_E A1 s) := by
    unfold rHl
    rw [hl_gr hrv]
  have hnN := hA1.2.2.2.2.2.1.1
  have hct1 := hA1.2.2.2.2.1
  have hn4 : (kd = 0 ∨ kd = 1 ∨ kd = 5) → 0 ≤ nms ∧ nms < 4000 := fun z => by
    have := hsi.2.2.2.1 z
    have := hx.2.2.2.2.2.2
    omega
  have hv2 := vk_of hA1 hw
  rw [hK1] at hv2
  have hl1 : kLn (a_K A1 0) ∧ kLn (a_K A1 1) := ⟨hA1.1.1.1, hA1.1.2.1⟩
  rw [hsi.1.1]
  refine rviG (d := d + 85) (K := a_K A t) (T := a_T A1) (H := a_H A1) (L := a_L A1) (G := a_G A1) (sl := sl) (E := a_E A1) (nms := nms) (lo := wb_l2i (esV (ar.map (clO (a_T A1))))) (hi := wb_l2i (wb_lushr (esV (ar.map (clO (a_T A1)))) 32)) (PB := fun Z en2 => en2 = en ∧ rRun S0 Sb HT cs ms os X mo t A1 Z ∧ rAim t (a_K A t) ba bh en Z ∧ Z 364 (2100 * t + (ba : Int)) = S 364 (2100 * t + (ba : Int)) ∧ rWd Z sl (a_T A1) (a_L A1) (a_G A1)) hst hA1.2.1 (by rw [hT1]; exact hT8) ⟨s0, by omega⟩ g2 g4 hsi.2.1 hv2 hc (wJ_mono (hcal S sl hS hW) (fun o Z hz => Or.inl ⟨hz.1, en, rfl, hz.2⟩)) (fun B9 en2 hB => ?_) (fun B9 en2 Z hit kk hB hq => ?_)
  · obtain ⟨rfl, b1, b2, b3, b4⟩ := hB
    obtain ⟨⟨m1, m2⟩, m3, m4, m5, m6, m7⟩ := b2
    obtain ⟨c1, c2, c3, c4, c5, c6⟩ := b1.1.2.2.2.2.2.2.2.1
    have s47 := (si_r b1.1 hsi).1
    have d3 := (c5 s s0 (by omega)).2.2.1
    have f3 := (hct1.2.2.2.2.2.2.1 s s0 s1)
    have c11 := c1 1 (by first | decide | omega)
    refine ⟨⟨⟨b1.1.1, b4, b1.1.2.2.1.2, ?_⟩, ⟨m3, m4, m5.trans b3, m7⟩, ?_, b1.1.2.2.2.2.1, by omega, ?_⟩, fun e he => ?_⟩
    · have q : B9 237 63 = a_c A1 1 := c11
      have := hct1.2.1
      omega
    · have hT9 := rT_of b1.1 ht
      rw [hK1] at hT9
      exact rCl_of ht hT9 b4 (by rw [hT1]; exact hT8) hv2 hsi.2.1
    · rw [d3]
      omega
    · refine wEr_of ((hA1.2.2.2.2.2.2.1 s s0 s1).2 e he) hsi.1.2.1 hsi.1.2.2.1 hnN.1 hsi.2.1.1.1 hn4 ?_ (es_ok hsi.2.1 hv2) (by rw [List.length_map]; exact (ec_8 hsi.2.1).1) rfl rfl (fun g => ⟨fun _ => rfl, fun z => absurd hc.1 z⟩)
      rw [List.length_map, hsi.1.2.2.2]
      exact (ec_8 hsi.2.1).2
  · obtain ⟨rfl, b1, b2, b3, b4⟩ := hB
    obtain ⟨i1, i2⟩ := ivI_A (A1 := A1) (K := a_K A t) (bh := bh) (en := en2) (ba := ba) b1 hl1 ht s0 hK1 b2 hb2 hq hrr
    rcases hq.2.2.2 with ⟨q1, q2⟩ | ⟨e, q1, q2, q3⟩
    · rw [q2]
      exact hN (by rw [hrr]; exact q1) Z i1 i2 1 kk
    · exact hH e (by rw [hrr]; exact q1) Z hit i1 i2 q2 q3 1 kk
theorem key_ba (hsi : siH S0 K s kd nms ne ec bh ba ar) (hk : kd = 2 ∨ kd = 3) : ba + 1 < K.1.length := by
  have h1 := hsi.2.1.2.1.2
  have h2 := hsi.2.1.2.2.1
  rcases hk with z | z
  · rw [if_pos z] at h1
    omega
  · rw [if_neg (by omega), if_pos z] at h1
    omega
/-- its key is no text -/
theorem nsE (hx : stX S0 fa X) (hw : isWt w t) (hA : wfA S0 fa ms n (WEs S0 HT cs ms os) B A) (hr : (a_K A t).2.2.2.1 = 1) (ho : opI S0 (a_K A t) = 27) (hsi : siH S0 (a_K A t) s kd nms ne ec bh ba ar) (hc : ((kd = 2 ∨ kd = 3) ∧ (((a_K A t).1.getD ba (0, 0, [])).1 = 4 ∨ ((a_K A t).1.getD ba (0, 0, [])).1 = 5))) (hk3 : ((a_K A t).1.getD (ba + 1) (0, 0, [])).1 ≠ 3) (hS : rRun S0 Sb HT cs ms os X mo t A S) (hW : rWd S sl (a_T A) (a_L A) (a_G A)) : wJ (pe_GA xs) wY0 (fun _ => False) (d + 90) t_M_namesElement ((pe_at t_M_namesElement.bl 0).getD (0, [])).2 [(0, (2, 237))] [] (ivZ (if kd = 0 then 0 else if kd < 4 then 1 else ne) bh (2100 * t + (ba : Int)) ((a_K A t).1.getD ba (0, 0, [])).1 (S 364 (2100 * t + (ba : Int))) (w_up (w_up S 237 154 (200 * t + ((a_K A t).2.1.length : Int) - 1)) 237 155 (((a_K A t).2.1.getD ((a_K A t).2.1.length - 1) (0, 0, 0, (0, 0, []), 0, 0, 0)).2.1 + 1))) (fun o Z => o = .inl none ∧ rRun S0 Sb HT cs ms os X mo t A Z ∧ rAim t (a_K A t) ba bh (-1) Z ∧ Z 364 (2100 * t + (ba : Int)) = S 364 (2100 * t + (ba : Int)) ∧ rWd Z sl (a_T A) (a_L A) (a_G A)) := by
  have ht := wt_t hw
  have hk := wT_of hA hw
  have hst := (hqo_r hx hk hr hw ho hS).1
  have hct := hA.2.2.2.2.1
  obtain ⟨s0, s1, s2⟩ := hsi.2.2.1.1
  have hT8 : ((a_T A).length : Int) ≤ 8000 := by have := hct.1; omega
  obtain ⟨g1, g2, g3, g4⟩ := si_r hS.1 hsi
  skip
  have hv1 := vk_of hA hw
  have hba : ba < (a_K A t).1.length := by have := hsi.2.1.2.2.1; have := hsi.2.1.2.1; have := hsi.2.1.1; omega
  have hb2 : ba < 2100 := by have := hk.1.1; omega
  have hrv := r_at hst.1 hba (j := 2100 * t + (ba : Int)) rfl
  have hl : kLn (a_K A 0) ∧ kLn (a_K A 1) := ⟨hA.1.1.1, hA.1.2.1⟩
  have hR0 : rRun S0 Sb HT cs ms os X mo t A (ivZ (if kd = 0 then 0 else if kd < 4 then 1 else ne) bh (2100 * t + (ba : Int)) ((a_K A t).1.getD ba (0, 0, [])).1 (S 364 (2100 * t + (ba : Int))) (w_up (w_up S 237 154 (200 * t + ((a_K A t).2.1.length : Int) - 1)) 237 155 (((a_K A t).2.1.getD ((a_K A t).2.1.length - 1) (0, 0, 0, (0, 0, []), 0, 0, 0)).2.1 + 1))) := rRun_s hS ht hl (iv_s ht) (iv_M hS.1.1)
  have ha0 : rAim t (a_K A t) ba bh (-1) (ivZ (if kd = 0 then 0 else if kd < 4 then 1 else ne) bh (2100 * t + (ba : Int)) ((a_K A t).1.getD ba (0, 0, [])).1 (S 364 (2100 * t + (ba : Int))) (w_up (w_up S 237 154 (200 * t + ((a_K A t).2.1.length : Int) - 1)) 237 155 (((a_K A t).2.1.getD ((a_K A t).2.1.length - 1) (0, 0, 0, (0, 0, []), 0, 0, 0)).2.1 + 1))) := ⟨⟨(iv_u 237 154 (by omega)).trans ((w_up_at (by first | decide | omega)).trans (w_up_same _ _ _ _)), (iv_u 237 155 (by omega)).trans (w_up_same _ _ _ _)⟩, rfl, rfl, ((iv_u 364 _ (by omega)).trans ((w_up_slot (by first | decide | omega)).trans (w_up_slot (by first | decide | omega)))).symm, rfl, rfl⟩
  have hb1 := key_ba hsi hc.1
  have hk9 := hk.1.1
  have hz := r_at (rT_of hR0.1 ht) hb1 (j := 2100 * t + (ba : Int) + 1) (by omega)
  refine wJ_mono (nek_ok (d := d + 87) (r := 2100 * t + (ba : Int)) hR0.1.1 ha0.2.1 ⟨by omega, by omega⟩ hz.1 rfl hk3) (fun o Z h9 => ?_)
  obtain ⟨h8, rfl⟩ := h9
  exact ⟨h8, hR0, ha0, (iv_u 364 _ (by omega)).trans ((w_up_slot (by first | decide | omega)).trans (w_up_slot (by first | decide | omega))), rWd_ag hW (rTx_of ((iv_u 237 19 (by omega)).trans ((w_up_at (by first | decide | omega)).trans (w_up_at (by first | decide | omega)))) ((iv_u 237 102 (by omega)).trans ((w_up_at (by first | decide | omega)).trans (w_up_at (by first | decide | omega)))) (fun j y j0 j1 => (iv_u j y (by omega)).trans ((w_up_slot (by omega)).trans (w_up_slot (by omega))))) (fun j y hj => (iv_u j y (by unfold rWo at hj; omega)).trans ((w_up_no (by unfold rWo at hj; omega)).trans (w_up_no (by unfold rWo at hj; omega))))⟩
/-- its key is a text -/
theorem nsT (hx : stX S0 fa X) (hw : isWt w t) (hA : wfA S0 fa ms n (WEs S0 HT cs ms os) B A) (hr : (a_K A t).2.2.2.1 = 1) (ho : opI S0 (a_K A t) = 27) (hsi : siH S0 (a_K A t) s kd nms ne ec bh ba ar) (hc : ((kd = 2 ∨ kd = 3) ∧ (((a_K A t).1.getD ba (0, 0, [])).1 = 4 ∨ ((a_K A t).1.getD ba (0, 0, [])).1 = 5))) (hk3 : ((a_K A t).1.getD (ba + 1) (0, 0, [])).1 = 3) (hx9 : ((a_K A t).1.getD (ba + 1) (0, 0, [])).2.2 = x) (hR : (x.length < 1 ∨ 60 < x.length) ∧ A1 = A ∧ en = -1 ∨ ((1 ≤ x.length ∧ x.length ≤ 60) ∧ ((x ∈ a_N A ∧ A1 = A ∧ en = ixL (a_N A) x) ∨ (x ∉ a_N A ∧ (a_N A).length < 4000 ∧ A1 = (u_L A (a_H A) (a_N A ++ [x]) (a_E A) (a_C A) (a_W A) (a_c A) (a_k A)) ∧ en = ((a_N A).length : Int))))) (hS : rRun S0 Sb HT cs ms os X mo t A S) (hW : rWd S sl (a_T A) (a_L A) (a_G A)) : wJ (pe_GA xs) wY0 (fun _ => False) (d + 90) t_M_namesElement ((pe_at t_M_namesElement.bl 0).getD (0, [])).2 [(0, (2, 237))] [] (ivZ (if kd = 0 then 0 else if kd < 4 then 1 else ne) bh (2100 * t + (ba : Int)) ((a_K A t).1.getD ba (0, 0, [])).1 (S 364 (2100 * t + (ba : Int))) (w_up (w_up S 237 154 (200 * t + ((a_K A t).2.1.length : Int) - 1)) 237 155 (((a_K A t).2.1.getD ((a_K A t).2.1.length - 1) (0, 0, 0, (0, 0, []), 0, 0, 0)).2.1 + 1))) (fun o Z => o = .inl none ∧ rRun S0 Sb HT cs ms os X mo t A1 Z ∧ rAim t (a_K A t) ba bh en Z ∧ Z 364 (2100 * t + (ba : Int)) = S 364 (2100 * t + (ba : Int)) ∧ rWd Z sl (a_T A1) (a_L A1) (a_G A1)) := by
  have ht := wt_t hw
  have hk := wT_of hA hw
  have hst := (hqo_r hx hk hr hw ho hS).1
  have hct := hA.2.2.2.2.1
  obtain ⟨s0, s1, s2⟩ := hsi.2.2.1.1
  have hT8 : ((a_T A).length : Int) ≤ 8000 := by have := hct.1; omega
  obtain ⟨g1, g2, g3, g4⟩ := si_r hS.1 hsi
  skip
  have hv1 := vk_of hA hw
  have hba : ba < (a_K A t).1.length := by have := hsi.2.1.2.2.1; have := hsi.2.1.2.1; have := hsi.2.1.1; omega
  have hb2 : ba < 2100 := by have := hk.1.1; omega
  have hrv := r_at hst.1 hba (j := 2100 * t + (ba : Int)) rfl
  have hl : kLn (a_K A 0) ∧ kLn (a_K A 1) := ⟨hA.1.1.1, hA.1.2.1⟩
  have hR0 : rRun S0 Sb HT cs ms os X mo t A (ivZ (if kd = 0 then 0 else if kd < 4 then 1 else ne) bh (2100 * t + (ba : Int)) ((a_K A t).1.getD ba (0, 0, [])).1 (S 364 (2100 * t + (ba : Int))) (w_up (w_up S 237 154 (200 * t + ((a_K A t).2.1.length : Int) - 1)) 237 155 (((a_K A t).2.1.getD ((a_K A t).2.1.length - 1) (0, 0, 0, (0, 0, []), 0, 0, 0)).2.1 + 1))) := rRun_s hS ht hl (iv_s ht) (iv_M hS.1.1)
  have ha0 : rAim t (a_K A t) ba bh (-1) (ivZ (if kd = 0 then 0 else if kd < 4 then 1 else ne) bh (2100 * t + (ba : Int)) ((a_K A t).1.getD ba (0, 0, [])).1 (S 364 (2100 * t + (ba : Int))) (w_up (w_up S 237 154 (200 * t + ((a_K A t).2.1.length : Int) - 1)) 237 155 (((a_K A t).2.1.getD ((a_K A t).2.1.length - 1) (0, 0, 0, (0, 0, []), 0, 0, 0)).2.1 + 1))) := ⟨⟨(iv_u 237 154 (by omega)).trans ((w_up_at (by first | decide | omega)).trans (w_up_same _ _ _ _)), (iv_u 237 155 (by omega)).trans (w_up_same _ _ _ _)⟩, rfl, rfl, ((iv_u 364 _ (by omega)).trans ((w_up_slot (by first | decide | omega)).trans (w_up_slot (by first | decide | omega)))).symm, rfl, rfl⟩
  have hb1 := key_ba hsi hc.1
  have hk9 := hk.1.1
  have hz := r_at (rT_of hR0.1 ht) hb1 (j := 2100 * t + (ba : Int) + 1) (by omega)
  obtain ⟨z1, z2, z3⟩ := hz
  obtain ⟨z4, z5, z6, z7⟩ := z3 hk3
  rw [hx9] at z6 z7
  have htt := hR0.1.2.2.2.1.2.2.1
  have htt2 := htt.2.2 _ z5
  have htt0 := htt.1
  have htt1 := htt.2.1
  have e0 : (ivZ (if kd = 0 then 0 else if kd < 4 then 1 else ne) bh (2100 * t + (ba : Int)) ((a_K A t).1.getD ba (0, 0, [])).1 (S 364 (2100 * t + (ba : Int))) (w_up (w_up S 237 154 (200 * t + ((a_K A t).2.1.length : Int) - 1)) 237 155 (((a_K A t).2.1.getD ((a_K A t).2.1.length - 1) (0, 0, 0, (0, 0, []), 0, 0, 0)).2.1 + 1))) 364 (2100 * t + (ba : Int)) = S 364 (2100 * t + (ba : Int)) := (iv_u 364 _ (by omega)).trans ((w_up_slot (by first | decide | omega)).trans (w_up_slot (by first | decide | omega)))
  have hW0 : rWd (ivZ (if kd = 0 then 0 else if kd < 4 then 1 else ne) bh (2100 * t + (ba : Int)) ((a_K A t).1.getD ba (0, 0, [])).1 (S 364 (2100 * t + (ba : Int))) (w_up (w_up S 237 154 (200 * t + ((a_K A t).2.1.length : Int) - 1)) 237 155 (((a_K A t).2.1.getD ((a_K A t).2.1.length - 1) (0, 0, 0, (0, 0, []), 0, 0, 0)).2.1 + 1))) sl (a_T A) (a_L A) (a_G A) := rWd_ag hW (rTx_of ((iv_u 237 19 (by omega)).trans ((w_up_at (by first | decide | omega)).trans (w_up_at (by first | decide | omega)))) ((iv_u 237 102 (by omega)).trans ((w_up_at (by first | decide | omega)).trans (w_up_at (by first | decide | omega)))) (fun j y j0 j1 => (iv_u j y (by omega)).trans ((w_up_slot (by omega)).trans (w_up_slot (by omega))))) (fun j y hj => (iv_u j y (by unfold rWo at hj; omega)).trans ((w_up_no (by unfold rWo at hj; omega)).trans (w_up_no (by unfold rWo at hj; omega))))
  generalize hY : (ivZ (if kd = 0 then 0 else if kd < 4 then 1 else ne) bh (2100 * t + (ba : Int)) ((a_K A t).1.getD ba (0, 0, [])).1 (S 364 (2100 * t + (ba : Int))) (w_up (w_up S 237 154 (200 * t + ((a_K A t).2.1.length : Int) - 1)) 237 155 (((a_K A t).2.1.getD ((a_K A t).2.1.length - 1) (0, 0, 0, (0, 0, []), 0, 0, 0)).2.1 + 1))) = Y at *
  refine wJ_mono (net_ok (d := d + 86) (N := a_N A) (x := x) hR0.1.1 ha0.2.1 ⟨by omega, by omega⟩ (z1.trans hk3) rfl (by omega) hR0.1.2.2.2.1.1 rfl z6 ⟨htt2.1, by omega⟩ z7) (fun o Z h9 => ?_)
  have hres : (∃ y : Int, o = .inl none ∧ A1 = A ∧ en = y ∧ (Y = Z ∧ y = -1 ∨ w_up Y 237 177 y = Z)) ∨ (o = .inl none ∧ A1 = (u_L A (a_H A) (a_N A ++ [x]) (a_E A) (a_C A) (a_W A) (a_c A) (a_k A)) ∧ en = ((a_N A).length : Int) ∧ (a_N A).length < 4000 ∧ ∃ V : wS, na_ag (a_N A) x (w_up Y 237 177 (-1)) V ∧ w_up (w_up V 237 177 ((a_N A).length : Int)) 337 ((a_N A).length : Int) 0 = Z) := by
    rcases hR with ⟨y1, y2, y3⟩ | ⟨y1, ⟨y2, y3, y4⟩ | ⟨y2, y3, y4, y5⟩⟩
    · rcases h9 with ⟨w1, w2, w3⟩ | ⟨w1, -⟩
      · exact Or.inl ⟨-1, w2, y2, y3, Or.inl ⟨w3, rfl⟩⟩
      · omega
    · rcases h9 with ⟨w1, -⟩ | ⟨w1, ⟨v1, v2, v3⟩ | ⟨v1, -⟩ | ⟨v1, -⟩⟩
      · omega
      · exact Or.inl ⟨_, v2, y3, y4, Or.inr v3⟩
      · exact absurd y2 v1
      · exact absurd y2 v1
    · rcases h9 with ⟨w1, -⟩ | ⟨w1, ⟨v1, -⟩ | ⟨v1, v2, -⟩ | ⟨v1, v2, v3, v4⟩⟩
      · omega
      · exact absurd v1 y2
      · omega
      · exact Or.inr ⟨v3, y4, y5, y3, v4⟩
  obtain ⟨⟨m1, m2⟩, m3, m4, m5, m6, m7⟩ := ha0
  rcases hres with ⟨y, rfl, rfl, rfl, (⟨rfl, rfl⟩ | rfl)⟩ | ⟨rfl, rfl, rfl, hl4, V, hV, rfl⟩
  · exact ⟨rfl, hR0, ⟨⟨m1, m2⟩, m3, m4, m5, m6, m7⟩, e0, hW0⟩
  · have f : ∀ (j : Nat) (q : Int), ¬ (j = 237 ∧ q = 177) → (w_up Y 237 177 en) j q = Y j q := fun j q hj => w_up_no (by omega)
    refine ⟨rfl, rRun_s hR0 ht hl (fun j q a1 _ _ _ _ => f j q (by omega)) (w_ML_up hR0.1.1 (by first | decide | omega)), ⟨⟨(f 237 154 (by omega)).trans m1, (f 237 155 (by omega)).trans m2⟩, (f 237 173 (by omega)).trans m3, (f 237 174 (by omega)).trans m4, by rw [f 237 175 (by omega), f 364 _ (by omega)]; exact m5, (f 237 176 (by omega)).trans m6, w_up_same _ _ _ _⟩, (f 364 _ (by omega)).trans e0, rWd_ag hW0 (rTx_of (f 237 19 (by omega)) (f 237 102 (by omega)) (fun j q j0 j1 => f j q (by omega))) (fun j q hj => f j q (by unfold rWo at hj; omega))⟩
  · obtain ⟨hV1, hV2⟩ := hV
    have hG0 : (a_G A ((a_N A).length : Int)).1 = -1 := hA.2.2.2.2.2.1.1.2.2 _ (Int.le_refl _)
    have h37 : Y 337 ((a_N A).length : Int) = 0 := by
      rcases hW0.2.2.2.2 ((a_N A).length : Int) (by omega) (by omega) with z | z
      · exact z.1
      · exact absurd hG0 z.2.1
    have fV : ∀ (j : Nat) (q : Int), j ≠ 281 → j ≠ 282 → ¬ (j = 237 ∧ (q = 16 ∨ q = 177)) → V j q = Y j q := fun j q h1 h2 h3 => (hV2 j q (by omega) (by omega) (by omega)).trans (w_up_no (by omega))
    have f : ∀ (j : Nat) (q : Int), j ≠ 281 → j ≠ 282 → ¬ (j = 237 ∧ (q = 16 ∨ q = 177)) → (w_up (w_up V 237 177 ((a_N A).length : Int)) 337 ((a_N A).length : Int) 0) j q = Y j q := fun j q h1 h2 h3 => by
      by_cases e : j = 337 ∧ q = ((a_N A).length : Int)
      · rw [e.1, e.2, w_up_same, h37]
      · rw [w_up_no (by omega), w_up_no (by omega)]
        exact fV j q h1 h2 h3
    have hN2 : mN (a_N A ++ [x]) (w_up (w_up V 237 177 ((a_N A).length : Int)) 337 ((a_N A).length : Int) 0) := mN_ag9 hV1 (fun j q hj => (w_up_no (by omega)).trans (w_up_no (by omega)))
    have hMZ : w_ML (w_up (w_up V 237 177 ((a_N A).length : Int)) 337 ((a_N A).length : Int) 0) := by
      refine w_ML_up (w_ML_up (fun q hq => ?_) (by first | decide | omega)) (by omega)
      exact (hV2 q.1 (-1) (by omega) (by omega) (by omega)).trans ((w_up_at (by first | decide | omega)).trans (hR0.1.1 q hq))
    have eT := rTx_of (f 237 19 (by first | decide | omega) (by first | decide | omega) (by omega)) (f 237 102 (by first | decide | omega) (by first | decide | omega) (by omega)) (fun j q j0 j1 => f j q (by omega) (by omega) (by omega))
    refine ⟨rfl, ?_, ⟨⟨(f 237 154 (by first | decide | omega) (by first | decide | omega) (by omega)).trans m1, (f 237 155 (by first | decide | omega) (by first | decide | omega) (by omega)).trans m2⟩, (f 237 173 (by first | decide | omega) (by first | decide | omega) (by omega)).trans m3, (f 237 174 (by first | decide | omega) (by first | decide | omega) (by omega)).trans m4, by rw [f 237 175 (by first | decide | omega) (by first | decide | omega) (by omega), f 364 _ (by first | decide | omega) (by first | decide | omega) (by omega)]; exact m5, (f 237 176 (by first | decide | omega) (by first | decide | omega) (by omega)).trans m6, (w_up_slot (by first | decide | omega)).trans (w_up_same _ _ _ _)⟩, (f 364 _ (by first | decide | omega) (by first | decide | omega) (by omega)).trans e0, rWd_ag hW0 eT (fun j q hj => f j q (by unfold rWo at hj; omega) (by unfold rWo at hj; omega) (by unfold rWo at hj; omega))⟩
    have hF : rTm t (fun j q => j = 281 ∨ j = 282 ∨ (j = 237 ∧ q = 16)) Y (w_up (w_up V 237 177 ((a_N A).length : Int)) 337 ((a_N A).length : Int) 0) := fun j q o hm => f j q (by omega) (by omega) (fun z => by have o1 := o.1 z.1; omega)
    refine rRel_L hR0 ht hl hF (fun j q hm => by unfold rLk; omega) hMZ (rTk_e (rT_of hR0.1 ht) (fun j q hj => f j q (by omega) (by omega) (by omega))) ⟨sl, rWd_ag hW0 eT (fun j q hj => f j q (by unfold rWo at hj; omega) (by unfold rWo at hj; omega) (by unfold rWo at hj; omega))⟩ (rR_H (A := A) hR0.1 hF (fun j q hj hm => by omega)) hN2 (rR_E (A := A) hR0.1 hF (fun j q hj hm => by omega)) (rCh_N (rCh_ag hR0.1.2.2.2.2.2.2.1.1 (fun j q hj => f j q (by unfold chM at hj; omega) (by unfold chM at hj; omega) (by unfold chM at hj; omega)))) ?_
    exact rR_cn (A := A) hR0.1 hF (fun j q hj hm => by unfold rcD at hj; omega)
/-- no room for a name -/
theorem nsM (hx : stX S0 fa X) (hw : isWt w t) (hA : wfA S0 fa ms n (WEs S0 HT cs ms os) B A) (hr : (a_K A t).2.2.2.1 = 1) (ho : opI S0 (a_K A t) = 27) (hsi : siH S0 (a_K A t) s kd nms ne ec bh ba ar) (hc : ((kd = 2 ∨ kd = 3) ∧ (((a_K A t).1.getD ba (0, 0, [])).1 = 4 ∨ ((a_K A t).1.getD ba (0, 0, [])).1 = 5))) (hk3 : ((a_K A t).1.getD (ba + 1) (0, 0, [])).1 = 3) (hx9 : ((a_K A t).1.getD (ba + 1) (0, 0, [])).2.2 = x) (hR : (1 ≤ x.length ∧ x.length ≤ 60) ∧ x ∉ a_N A ∧ 4000 ≤ (a_N A).length) (hS : rRun S0 Sb HT cs ms os X mo t A S) : wJ (pe_GA xs) wY0 (fun _ => False) (d + 90) t_M_namesElement ((pe_at t_M_namesElement.bl 0).getD (0, [])).2 [(0, (2, 237))] [] (ivZ (if kd = 0 then 0 else if kd < 4 then 1 else ne) bh (2100 * t + (ba : Int)) ((a_K A t).1.getD ba (0, 0, [])).1 (S 364 (2100 * t + (ba : Int))) (w_up (w_up S 237 154 (200 * t + ((a_K A t).2.1.length : Int) - 1)) 237 155 (((a_K A t).2.1.getD ((a_K A t).2.1.length - 1) (0, 0, 0, (0, 0, []), 0, 0, 0)).2.1 + 1))) (fun o Z => o = .inr 238 ∧ rOc S0 Sb HT cs ms os X mo t 99 A (.inr 238) Z) := by
  have ht := wt_t hw
  have hk := wT_of hA hw
  have hst := (hqo_r hx hk hr hw ho hS).1
  have hct := hA.2.2.2.2.1
  obtain ⟨s0, s1, s2⟩ := hsi.2.2.1.1
  have hT8 : ((a_T A).length : Int) ≤ 8000 := by have := hct.1; omega
  obtain ⟨g1, g2, g3, g4⟩ := si_r hS.1 hsi
  obtain ⟨sl, hW⟩ := hS.1.2.2.1.1
  have hv1 := vk_of hA hw
  have hba : ba < (a_K A t).1.length := by have := hsi.2.1.2.2.1; have := hsi.2.1.2.1; have := hsi.2.1.1; omega
  have hb2 : ba < 2100 := by have := hk.1.1; omega
  have hrv := r_at hst.1 hba (j := 2100 * t + (ba : Int)) rfl
  have hl : kLn (a_K A 0) ∧ kLn (a_K A 1) := ⟨hA.1.1.1, hA.1.2.1⟩
  have hR0 : rRun S0 Sb HT cs ms os X mo t A (ivZ (if kd = 0 then 0 else if kd < 4 then 1 else ne) bh (2100 * t + (ba : Int)) ((a_K A t).1.getD ba (0, 0, [])).1 (S 364 (2100 * t + (ba : Int))) (w_up (w_up S 237 154 (200 * t + ((a_K A t).2.1.length : Int) - 1)) 237 155 (((a_K A t).2.1.getD ((a_K A t).2.1.length - 1) (0, 0, 0, (0, 0, []), 0, 0, 0)).2.1 + 1))) := rRun_s hS ht hl (iv_s ht) (iv_M hS.1.1)
  have ha0 : rAim t (a_K A t) ba bh (-1) (ivZ (if kd = 0 then 0 else if kd < 4 then 1 else ne) bh (2100 * t + (ba : Int)) ((a_K A t).1.getD ba (0, 0, [])).1 (S 364 (2100 * t + (ba : Int))) (w_up (w_up S 237 154 (200 * t + ((a_K A t).2.1.length : Int) - 1)) 237 155 (((a_K A t).2.1.getD ((a_K A t).2.1.length - 1) (0, 0, 0, (0, 0, []), 0, 0, 0)).2.1 + 1))) := ⟨⟨(iv_u 237 154 (by omega)).trans ((w_up_at (by first | decide | omega)).trans (w_up_same _ _ _ _)), (iv_u 237 155 (by omega)).trans (w_up_same _ _ _ _)⟩, rfl, rfl, ((iv_u 364 _ (by omega)).trans ((w_up_slot (by first | decide | omega)).trans (w_up_slot (by first | decide | omega)))).symm, rfl, rfl⟩
  have hb1 := key_ba hsi hc.1
  have hk9 := hk.1.1
  have hz := r_at (rT_of hR0.1 ht) hb1 (j := 2100 * t + (ba : Int) + 1) (by omega)
  obtain ⟨z1, z2, z3⟩ := hz
  obtain ⟨z4, z5, z6, z7⟩ := z3 hk3
  rw [hx9] at z6 z7
  have htt := hR0.1.2.2.2.1.2.2.1
  have htt2 := htt.2.2 _ z5
  have htt0 := htt.1
  have htt1 := htt.2.1
  generalize hY : (ivZ (if kd = 0 then 0 else if kd < 4 then 1 else ne) bh (2100 * t + (ba : Int)) ((a_K A t).1.getD ba (0, 0, [])).1 (S 364 (2100 * t + (ba : Int))) (w_up (w_up S 237 154 (200 * t + ((a_K A t).2.1.length : Int) - 1)) 237 155 (((a_K A t).2.1.getD ((a_K A t).2.1.length - 1) (0, 0, 0, (0, 0, []), 0, 0, 0)).2.1 + 1))) = Y at *
  refine wJ_mono (net_ok (d := d + 86) (N := a_N A) (x := x) hR0.1.1 ha0.2.1 ⟨by omega, by omega⟩ (z1.trans hk3) rfl (by omega) hR0.1.2.2.2.1.1 rfl z6 ⟨htt2.1, by omega⟩ z7) (fun o Z h9 => ?_)
  obtain ⟨y1, y2, y3⟩ := hR
  rcases h9 with ⟨w1, -⟩ | ⟨w1, ⟨v1, -⟩ | ⟨v1, v2, v3, rfl⟩ | ⟨v1, v2, -⟩⟩
  · omega
  · exact absurd v1 y2
  · exact ⟨v3, Or.inr ⟨rfl, by decide, hZ_5, rRun_h (rRun_s hR0 ht hl (fun j q a1 _ _ _ _ => w_up_no (by omega)) (w_ML_up hR0.1.1 (by first | decide | omega))) ht hl⟩⟩
  · omega
end Wld
