/-! PART la: a site is visited, on both sides, up to acting or looking. -/
section Wla
variable {Sb : wS} {xs : List (Nat × List Int32)} {d : Nat} {S0 S Z : wS} {p w m : Nat} {HT : Int → Int} {cs : List hCR} {ms : List hMR} {os : Int → List Int} {X : List (List Int)} {mo t n B B2 oq : Int} {fa : Int → Int} {WE : aA → Prop} {A A2 : aA} {K2 : aK} {ml : List Nat} {k c s kd nms ne ec bh nm en : Int} {b ba : Nat} {ar : List aV} {e : aE} {V Z2 Y : wS} {o : wO} {dn : Int} {H2 : List aH} {N2 : List (List Int)} {E2 : Int → List aE} {C2 : List aQ} {W2 : Int} {c2 : Int → Int} {k2 : Int → Int → Int} {mk rk : Nat → Int → Prop} {K : aK} {T : List aO} {H : List aH} {E : Int → List aE} {gk gb es lo hi a : Int} {r : List aE × Int × Option aE} {A1 : aA} {tl cl : List Int} {sl : Nat → List Int} {L : List aC} {G : Int → aV} {u : aV}
theorem gk_w (h : isWt w t) : w = 215 ∨ w = 226 := isWt_w h
theorem ar_m (hg : siG K kd ne ec bh ba ar) (hu : u ∈ ar) : ∃ q : Nat, q < K.1.length ∧ K.1.getD q (0, 0, []) = u := by
  obtain ⟨q, q1, q2⟩ := List.getElem_of_mem hu
  have z := hg.2.2.2.2 q q1
  rw [List.getD_eq_getElem?_getD (l := ar), List.getElem?_eq_getElem q1] at z
  have := hg.2.2.1
  have := hg.2.2.2.1
  exact ⟨ba + 1 + q, by omega, z.trans q2⟩
theorem ar_ok (hg : siG K kd ne ec bh ba ar) (hv : ∀ v ∈ K.1, vOk T v) : ∀ v ∈ ar, vOk T v := fun v hm => by
  obtain ⟨q, q1, q2⟩ := ar_m hg hm
  rw [← q2]
  exact vOk_get hv q1
theorem es_ok (hg : siG K kd ne ec bh ba ar) (hv : ∀ v ∈ K.1, vOk T v) : esOk (ar.map (clO T)) := fun c hcm => by
  obtain ⟨v, v1, v2⟩ := List.mem_map.mp hcm
  rw [← v2]
  exact clO_rg (ar_ok hg hv v v1)
theorem ec_8 (hg : siG K kd ne ec bh ba ar) : ar.length ≤ 8 ∧ (ar.length : Int) = (if kd = 1 then 1 else ne) := by
  have h1 := hg.1.2
  have h2 := hg.2.1.1
  have h3 := hg.2.2.2.1
  rw [h2] at h3
  refine ⟨?_, h3⟩
  split at h3 <;> omega
theorem vk_of (hA : wfA S0 fa ms n WE B A) (hw : isWt w t) : ∀ v ∈ (a_K A t).1, vOk (a_T A) v := fun v hm => ((wV_of hA hw).1 v hm).1
/-- the entries of a site, gone through -/
noncomputable def rHl (A : aA) (K : aK) (s kd nms nm : Int) (ba : Nat) (ar : List aV) : List aE × Int × Option aE := hlF (a_T A) (a_H A) kd nms (K.1.getD ba (0, 0, [])).1 (K.1.getD ba (0, 0, [])).2.1 nm (wb_l2i (esV (ar.map (clO (a_T A))))) (wb_l2i (wb_lushr (esV (ar.map (clO (a_T A)))) 32)) (a_E A s)
theorem no_sM : ¬ mS sML 215 ∧ ¬ mS sML 226 ∧ ¬ mS sML 158 := by
  refine ⟨?_, ?_, ?_⟩ <;> (rintro (z | z) <;> revert z <;> decide)

theorem vi_215 (hp : p = 73 ∨ p = 162) (hx : stX S0 fa X) (hA : wfA S0 fa ms n WE B A) (hr : (a_K A 0).2.2.2.1 = 1) (ho : opI S0 (a_K A 0) = 27) (hsi : siH S0 (a_K A 0) s kd nms ne ec bh ba ar) (hA1 : wfA S0 fa ms n (WEs S0 HT cs ms os) B2 A1) (hK1 : a_K A1 0 = a_K A 0) (hai : ∀ S : wS, cRel S0 p HT cs ms os X mo A S → wJ (pe_GA xs) wY0 (mS sML) (d + 91) t_XL_aim ((pe_at t_XL_aim.bl 0).getD (0, [])).2 [(0, (2, 158)), (1, (2, 215)), (2, (0, s))] [] (w_up S 215 16 0) (fun o Z => o = .inl none ∧ ∃ B : wS, (cRel S0 p HT cs ms os X mo A1 B ∧ B 215 16 = 0 ∧ B 218 (ba : Int) = S 218 (ba : Int)) ∧ amQ 215 s kd ec (ba : Int) ((a_K A 0).1.getD ba (0, 0, [])).1 (S 218 (ba : Int)) nm (esV (ar.map (clO (a_T A1)))) B Z)) (hH : ∀ e : aE, (rHl A1 (a_K A 0) s kd nms nm ba ar).2.2 = some e → cAct xs d S0 p HT cs ms os X mo 215 (u_H A1 s 1 (rHl A1 (a_K A 0) s kd nms nm ba ar)) s kd nms ec ba ((a_K A 0).1.getD ba (0, 0, [])).1 nm (esV (ar.map (clO (a_T A1)))) e c A2) (hN : (rHl A1 (a_K A 0) s kd nms nm ba ar).2.2 = none → cLook xs d S0 p HT cs ms os X mo 215 (u_H A1 s 0 (rHl A1 (a_K A 0) s kd nms nm ba ar)) s kd ec ba ((a_K A 0).1.getD ba (0, 0, [])).1 nm (esV (ar.map (clO (a_T A1)))) c A2) (hk2 : c ≠ 0 → wTk fa S0 (a_K A2 0) ∧ (a_K A2 0).2.2.2.1 = 1) (hS : cRel S0 p HT cs ms os X mo A S) : wJ (pe_GA xs) wY0 (mS sML) (d + 92) t_XK_step ((pe_at t_XK_step.bl 0).getD (0, [])).2 [(0, (2, 215))] [] S (fun o Z2 => ∃ Z : wS, (Z 215 16 = c ∧ cRel S0 p HT cs ms os X mo A2 Z) ∧ sR 215 Z o Z2) := by
  have hw : isWt 215 0 := Or.inl ⟨rfl, rfl⟩
  have hk := wT_of hA hw
  have hst := hco_c hx hk hr hw ho hS
  have hk1 := wT_of hA1 hw
  have hv1 := vk_of hA1 hw
  rw [hK1] at hk1 hv1
  have hct := hA1.2.2.2.2.1
  have hba : ba < (a_K A 0).1.length := by have := hsi.2.1.2.2.1; have := hsi.2.1.2.1; have := hsi.2.1.1; omega
  obtain ⟨s0, s1, s2⟩ := hsi.2.2.1.1
  have hT8 : ((a_T A1).length : Int) ≤ 8000 := by have := hct.1; omega
  have hcv := c_at hst.1.1 hba (j := (ba : Int)) rfl
  have hge : ∀ q : Int, (((a_K A 0).1.getD ba (0, 0, [])).1 = 4 ∨ ((a_K A 0).1.getD ba (0, 0, [])).1 = 5) → q = S 218 (ba : Int) → isO (a_T A1) q := fun q hq he => by
    have z := hv1 _ (tq_m hba)
    have z2 := z.2.1 (by omega) (by omega)
    rw [he, (hcv.2.1 (by omega)).1]
    exact ⟨z2.1, by rw [z2.2]; exact hq⟩
  have hnN := hA1.2.2.2.2.2.1.1
  have hn4 : (kd = 0 ∨ kd = 1 ∨ kd = 5) → 0 ≤ nms ∧ nms < 4000 := fun z => by
    have := hsi.2.2.2.1 z
    have := hx.2.2.2.2.2.2
    omega
  have hWE := fun (e : aE) (he : e ∈ a_E A1 s) => (hA1.2.2.2.2.2.2.1 s s0 s1).2 e he
  refine viG_215 (d := d + 80) (K := a_K A 0) (T := a_T A1) (H := a_H A1) (L := a_L A1) (G := a_G A1) (E := a_E A1) (ml := sML) (nms := nms) (kd := kd) (ec := ec) (ba := ba) (ar := ar) (R := fun Z => Z 215 16 = c ∧ cRel S0 p HT cs ms os X mo A2 Z) (PB := fun B nm2 => nm2 = nm ∧ cRel S0 p HT cs ms os X mo A1 B ∧ B 215 16 = 0 ∧ B 218 (ba : Int) = S 218 (ba : Int)) hst.1 (by have z := hst.2; rw [hsi.1.1] at z; exact z) hA1.2.1 hT8 hba hv1 (wJ_mono (hai S hS) (fun o Z hz => ?_)) (fun B nm2 hB => ?_) rfl rfl (fun e he => wEn_of (hWE e he) hsi.1.2.1 hsi.1.2.2.1 hnN.1 hsi.2.1.1.1 hn4) (by first | decide | omega) no_sM.1 no_sM.2.2 (fun B nm2 Y y e hB hv hso hec hy h42 h19 => ?_) (fun B nm2 Y hB hv hno h42 h19 => ?_) (fun Z hz h0 h9 => xR_c hz.2 hw (hk2 (by have := hz.1; omega)).1 (hk2 (by have := hz.1; omega)).2)
  · obtain ⟨z1, B, ⟨b1, b2, b3⟩, z2⟩ := hz
    exact ⟨z1, Or.inr ⟨B, nm, ⟨rfl, b1, b2, b3⟩, z2⟩⟩
  · obtain ⟨-, b1, b2, b3⟩ := hB
    obtain ⟨g1, g2, g3, g4⟩ := si_c hx b1 hsi
    obtain ⟨c1, ⟨c2, c3⟩, c4, c5, c6⟩ := b1.2.2.2.2.2.2.2.1
    obtain ⟨d1, d2, d3, d4⟩ := c6 s s0 (by omega)
    obtain ⟨-, -, -, -, -, ⟨e1, e2, -⟩, e3, e4, e5⟩ := hct
    obtain ⟨f1, f2, f3, f4⟩ := e3 s s0 s1
    refine ⟨⟨b1.1.1, b1.2.2.1.1, b1.2.2.1.2.1, b1.2.2.2.2.1⟩, ⟨⟨s0, by omega⟩, g2, g3, b2⟩, fun k hk => ?_, ?_, ?_, ?_⟩
    · rw [c2]
      exact (e4 k hk.1.1 hk.1.2).2.2
    · rw [d3]
      omega
    · rw [d2]
      omega
    · rw [c4]
      omega
  · obtain ⟨hn2, b1, b2, b3⟩ := hB
    subst hn2
    have hsB : stC 215 B (a_K A1 0) := (stt_c hx (wT_of hA1 hw) (by rw [hK1]; exact hr) hw b1).1
    obtain ⟨i1, i2, i3⟩ := hlF_so _ hso
    have hir := ir_of hA1.2.1 (hWE e i1) hsi.1.2.1 hsi.1.2.2.1 hsi.2.1.1.1 i2 (fun q => hge _ q rfl) i3
    rw [if_pos hir] at h19
    have hrr : (rHl A1 (a_K A 0) s kd nms nm2 ba ar) = hlF (a_T A1) (a_H A1) kd nms ((a_K A 0).1.getD ba (0, 0, [])).1 (S 218 (ba : Int)) nm2 (wb_l2i (esV (ar.map (clO (a_T A1))))) (wb_l2i (wb_lushr (esV (ar.map (clO (a_T A1)))) 32)) (a_E A1 s) := by
      unfold rHl
      rw [hl_gc hcv]
    refine hH e (by rw [hrr]; exact hso) Y y (vsC_R hp hw b1 hsB s0 hv h42 (by omega) hrr) (vsC_A hw hv b3.symm) hec hy
  · obtain ⟨hn2, b1, b2, b3⟩ := hB
    subst hn2
    have hsB : stC 215 B (a_K A1 0) := (stt_c hx (wT_of hA1 hw) (by rw [hK1]; exact hr) hw b1).1
    have hrr : (rHl A1 (a_K A 0) s kd nms nm2 ba ar) = hlF (a_T A1) (a_H A1) kd nms ((a_K A 0).1.getD ba (0, 0, [])).1 (S 218 (ba : Int)) nm2 (wb_l2i (esV (ar.map (clO (a_T A1))))) (wb_l2i (wb_lushr (esV (ar.map (clO (a_T A1)))) 32)) (a_E A1 s) := by
      unfold rHl
      rw [hl_gc hcv]
    refine hN (by rw [hrr]; exact hno) Y (vsC_R hp hw b1 hsB s0 hv (by omega) h19 hrr) (vsC_A hw hv b3.symm)

theorem vi_226 (hp : p = 73 ∨ p = 162) (hx : stX S0 fa X) (hA : wfA S0 fa ms n WE B A) (hr : (a_K A 1).2.2.2.1 = 1) (ho : opI S0 (a_K A 1) = 27) (hsi : siH S0 (a_K A 1) s kd nms ne ec bh ba ar) (hA1 : wfA S0 fa ms n (WEs S0 HT cs ms os) B2 A1) (hK1 : a_K A1 1 = a_K A 1) (hai : ∀ S : wS, cRel S0 p HT cs ms os X mo A S → wJ (pe_GA xs) wY0 (mS sML) (d + 91) t_XL_aim ((pe_at t_XL_aim.bl 0).getD (0, [])).2 [(0, (2, 158)), (1, (2, 226)), (2, (0, s))] [] (w_up S 226 16 0) (fun o Z => o = .inl none ∧ ∃ B : wS, (cRel S0 p HT cs ms os X mo A1 B ∧ B 226 16 = 0 ∧ B 229 (ba : Int) = S 229 (ba : Int)) ∧ amQ 226 s kd ec (ba : Int) ((a_K A 1).1.getD ba (0, 0, [])).1 (S 229 (ba : Int)) nm (esV (ar.map (clO (a_T A1)))) B Z)) (hH : ∀ e : aE, (rHl A1 (a_K A 1) s kd nms nm ba ar).2.2 = some e → cAct xs d S0 p HT cs ms os X mo 226 (u_H A1 s 1 (rHl A1 (a_K A 1) s kd nms nm ba ar)) s kd nms ec ba ((a_K A 1).1.getD ba (0, 0, [])).1 nm (esV (ar.map (clO (a_T A1)))) e c A2) (hN : (rHl A1 (a_K A 1) s kd nms nm ba ar).2.2 = none → cLook xs d S0 p HT cs ms os X mo 226 (u_H A1 s 0 (rHl A1 (a_K A 1) s kd nms nm ba ar)) s kd ec ba ((a_K A 1).1.getD ba (0, 0, [])).1 nm (esV (ar.map (clO (a_T A1)))) c A2) (hk2 : c ≠ 0 → wTk fa S0 (a_K A2 1) ∧ (a_K A2 1).2.2.2.1 = 1) (hS : cRel S0 p HT cs ms os X mo A S) : wJ (pe_GA xs) wY0 (mS sML) (d + 92) t_XK_step ((pe_at t_XK_step.bl 0).getD (0, [])).2 [(0, (2, 226))] [] S (fun o Z2 => ∃ Z : wS, (Z 226 16 = c ∧ cRel S0 p HT cs ms os X mo A2 Z) ∧ sR 226 Z o Z2) := by
  have hw : isWt 226 1 := Or.inr ⟨rfl, rfl⟩
  have hk := wT_of hA hw
  have hst := hco_c hx hk hr hw ho hS
  have hk1 := wT_of hA1 hw
  have hv1 := vk_of hA1 hw
  rw [hK1] at hk1 hv1
  have hct := hA1.2.2.2.2.1
  have hba : ba < (a_K A 1).1.length := by have := hsi.2.1.2.2.1; have := hsi.2.1.2.1; have := hsi.2.1.1; omega
  obtain ⟨s0, s1, s2⟩ := hsi.2.2.1.1
  have hT8 : ((a_T A1).length : Int) ≤ 8000 := by have := hct.1; omega
  have hcv := c_at hst.1.1 hba (j := (ba : Int)) rfl
  have hge : ∀ q : Int, (((a_K A 1).1.getD ba (0, 0, [])).1 = 4 ∨ ((a_K A 1).1.getD ba (0, 0, [])).1 = 5) → q = S 229 (ba : Int) → isO (a_T A1) q := fun q hq he => by
    have z := hv1 _ (tq_m hba)
    have z2 := z.2.1 (by omega) (by omega)
    rw [he, (hcv.2.1 (by omega)).1]
    exact ⟨z2.1, by rw [z2.2]; exact hq⟩
  have hnN := hA1.2.2.2.2.2.1.1
  have hn4 : (kd = 0 ∨ kd = 1 ∨ kd = 5) → 0 ≤ nms ∧ nms < 4000 := fun z => by
    have := hsi.2.2.2.1 z
    have := hx.2.2.2.2.2.2
    omega
  have hWE := fun (e : aE) (he : e ∈ a_E A1 s) => (hA1.2.2.2.2.2.2.1 s s0 s1).2 e he
  refine viG_226 (d := d + 80) (K := a_K A 1) (T := a_T A1) (H := a_H A1) (L := a_L A1) (G := a_G A1) (E := a_E A1) (ml := sML) (nms := nms) (kd := kd) (ec := ec) (ba := ba) (ar := ar) (R := fun Z => Z 226 16 = c ∧ cRel S0 p HT cs ms os X mo A2 Z) (PB := fun B nm2 => nm2 = nm ∧ cRel S0 p HT cs ms os X mo A1 B ∧ B 226 16 = 0 ∧ B 229 (ba : Int) = S 229 (ba : Int)) hst.1 (by have z := hst.2; rw [hsi.1.1] at z; exact z) hA1.2.1 hT8 hba hv1 (wJ_mono (hai S hS) (fun o Z hz => ?_)) (fun B nm2 hB => ?_) rfl rfl (fun e he => wEn_of (hWE e he) hsi.1.2.1 hsi.1.2.2.1 hnN.1 hsi.2.1.1.1 hn4) (by first | decide | omega) no_sM.2.1 no_sM.2.2 (fun B nm2 Y y e hB hv hso hec hy h42 h19 => ?_) (fun B nm2 Y hB hv hno h42 h19 => ?_) (fun Z hz h0 h9 => xR_c hz.2 hw (hk2 (by have := hz.1; omega)).1 (hk2 (by have := hz.1; omega)).2)
  · obtain ⟨z1, B, ⟨b1, b2, b3⟩, z2⟩ := hz
    exact ⟨z1, Or.inr ⟨B, nm, ⟨rfl, b1, b2, b3⟩, z2⟩⟩
  · obtain ⟨-, b1, b2, b3⟩ := hB
    obtain ⟨g1, g2, g3, g4⟩ := si_c hx b1 hsi
    obtain ⟨c1, ⟨c2, c3⟩, c4, c5, c6⟩ := b1.2.2.2.2.2.2.2.1
    obtain ⟨d1, d2, d3, d4⟩ := c6 s s0 (by omega)
    obtain ⟨-, -, -, -, -, ⟨e1, e2, -⟩, e3, e4, e5⟩ := hct
    obtain ⟨f1, f2, f3, f4⟩ := e3 s s0 s1
    refine ⟨⟨b1.1.1, b1.2.2.1.1, b1.2.2.1.2.1, b1.2.2.2.2.1⟩, ⟨⟨s0, by omega⟩, g2, g3, b2⟩, fun k hk => ?_, ?_, ?_, ?_⟩
    · rw [c2]
      exact (e4 k hk.1.1 hk.1.2).2.2
    · rw [d3]
      omega
    · rw [d2]
      omega
    · rw [c4]
      omega
  · obtain ⟨hn2, b1, b2, b3⟩ := hB
    subst hn2
    have hsB : stC 226 B (a_K A1 1) := (stt_c hx (wT_of hA1 hw) (by rw [hK1]; exact hr) hw b1).1
    obtain ⟨i1, i2, i3⟩ := hlF_so _ hso
    have hir := ir_of hA1.2.1 (hWE e i1) hsi.1.2.1 hsi.1.2.2.1 hsi.2.1.1.1 i2 (fun q => hge _ q rfl) i3
    rw [if_pos hir] at h19
    have hrr : (rHl A1 (a_K A 1) s kd nms nm2 ba ar) = hlF (a_T A1) (a_H A1) kd nms ((a_K A 1).1.getD ba (0, 0, [])).1 (S 229 (ba : Int)) nm2 (wb_l2i (esV (ar.map (clO (a_T A1))))) (wb_l2i (wb_lushr (esV (ar.map (clO (a_T A1)))) 32)) (a_E A1 s) := by
      unfold rHl
      rw [hl_gc hcv]
    refine hH e (by rw [hrr]; exact hso) Y y (vsC_R hp hw b1 hsB s0 hv h42 (by omega) hrr) (vsC_A hw hv b3.symm) hec hy
  · obtain ⟨hn2, b1, b2, b3⟩ := hB
    subst hn2
    have hsB : stC 226 B (a_K A1 1) := (stt_c hx (wT_of hA1 hw) (by rw [hK1]; exact hr) hw b1).1
    have hrr : (rHl A1 (a_K A 1) s kd nms nm2 ba ar) = hlF (a_T A1) (a_H A1) kd nms ((a_K A 1).1.getD ba (0, 0, [])).1 (S 229 (ba : Int)) nm2 (wb_l2i (esV (ar.map (clO (a_T A1))))) (wb_l2i (wb_lushr (esV (ar.map (clO (a_T A1)))) 32)) (a_E A1 s) := by
      unfold rHl
      rw [hl_gc hcv]
    refine hN (by rw [hrr]; exact hno) Y (vsC_R hp hw b1 hsB s0 hv (by omega) h19 hrr) (vsC_A hw hv b3.symm)

/-- what the reference has taken -/
def rAim (t : Int) (K : aK) (ba : Nat) (es en : Int) (Y : wS) : Prop := (Y 237 154 = 200 * t + (K.2.1.length : Int) - 1 ∧ Y 237 155 = (K.2.1.getD (K.2.1.length - 1) (0, 0, 0, (0, 0, []), 0, 0, 0)).2.1 + 1) ∧ Y 237 173 = 2100 * t + (ba : Int) ∧ Y 237 174 = (K.1.getD ba (0, 0, [])).1 ∧ Y 237 175 = Y 364 (2100 * t + (ba : Int)) ∧ Y 237 176 = es ∧ Y 237 177 = en
theorem rTk_e (h : rTk t S K) (f : ∀ (j : Nat) (x : Int), (357 ≤ j ∧ j ≤ 375) ∨ (283 ≤ j ∧ j ≤ 285) ∨ (j = 237 ∧ (x = 19 ∨ x = 102)) → Z j x = S j x) : rTk t Z K := rTk_ag h (rTx_of (f 237 19 (by omega)) (f 237 102 (by omega)) (fun j i j0 j1 => f j i (by omega))) ⟨fun j hj => f j t (by omega), fun j i j0 j1 _ _ => f j i (by omega), fun j i j0 j1 _ _ => f j i (by omega)⟩ (f 359 t (by omega)) (fun i _ _ => ⟨f 363 i (by omega), f 364 i (by omega)⟩)
/-- the reference has gone through the entries of a site -/
theorem hl_R (h : rRun S0 Sb HT cs ms os X mo t A S) (ht : t = 0 ∨ t = 1) (hl : kLn (a_K A 0) ∧ kLn (a_K A 1)) (hs : 0 ≤ s) (hM : w_ML Z) (hF : rTm t (fun j x => (376 ≤ j ∧ j ≤ 385) ∨ ((j = 311 ∨ j = 312) ∧ x = s) ∨ chM j x) S Z) (hT : rTk t Z (a_K A t)) (hE : rSe Z (fUp (a_E A) s r.1)) (hC : rCh HT cs ms os (a_N A) (a_C A) (a_W A) mo Z) (h312 : Z 312 s = S 312 s + r.2.1) (h311 : Z 311 s = S 311 s + a) : rRun S0 Sb HT cs ms os X mo t (u_H A s a r) Z := by
  have hx := tf_tx hF (fun j x hj hm => by unfold chM at hm; omega)
  have g : ∀ (j : Nat) (x : Int), rKp j x → ¬ (376 ≤ j ∧ j ≤ 385) → ¬ ((j = 311 ∨ j = 312) ∧ x = s) → ¬ chM j x → Z j x = S j x := fun j x k n1 n2 n3 => tmG hF j x k (fun hm => by rcases hm with z | z | z; exact n1 z; exact n2 z; exact n3 z)
  refine rRel_L h ht hl hF (fun j x hm => by unfold chM at hm; unfold rLk; omega) hM hT (rR_W (A := A) h.1 hF hx (fun j x hj hm => by unfold rWo at hj; unfold chM at hm; omega)) (rR_H (A := A) h.1 hF (fun j x hj hm => by unfold chM at hm; omega)) (rR_N (A := A) h.1 hF (fun j x hj hm => by unfold chM at hm; omega)) hE hC ?_
  obtain ⟨c1, c2, c3, c4, c5, c6⟩ := h.1.2.2.2.2.2.2.2.1
  have gc : ∀ x : Int, (62 ≤ x ∧ x ≤ 66) ∨ x = 81 ∨ x = 108 ∨ x = 82 ∨ x = 94 ∨ x = 47 → Z 237 x = S 237 x := fun x hx => g 237 x (by unfold rKp; omega) (by omega) (by omega) (by unfold chM; omega)
  refine ⟨fun i hi => (gc _ (by omega)).trans (c1 i hi), (gc 81 (by omega)).trans c2, (gc 108 (by omega)).trans c3, fun i hi => (g 344 i (by unfold rKp; omega) (by omega) (by omega) (by unfold chM; omega)).trans (c4 i hi), fun q q0 q1 => ?_, by rw [gc 82 (by omega), gc 94 (by omega), gc 63 (by omega)]; exact c6⟩
  rw [gc 47 (by omega)] at q1
  obtain ⟨d1, d2, d3, d4⟩ := c5 q q0 q1
  have g1 : ∀ j : Nat, j = 310 ∨ j = 313 → Z j q = S j q := fun j hj => g j q (by unfold rKp; omega) (by omega) (by omega) (by unfold chM; omega)
  rw [g1 310 (by omega), g1 313 (by omega)]
  show S 310 q = kHl (a_k A) s a _ q 0 ∧ Z 311 q = kHl (a_k A) s a _ q 1 ∧ Z 312 q = kHl (a_k A) s a _ q 2 ∧ S 313 q = kHl (a_k A) s a _ q 3
  by_cases e : q = s
  · subst e
    rw [kHl_0, kHl_1, kHl_2, kHl_3, h311, h312, d2, d3]
    exact ⟨d1, rfl, rfl, d4⟩
  · rw [kHl_n e, g 311 q (by unfold rKp; omega) (by omega) (by omega) (by unfold chM; omega), g 312 q (by unfold rKp; omega) (by omega) (by omega) (by unfold chM; omega)]
    exact ⟨d1, d2, d3, d4⟩
/-- from block 15 of invokes on -/
def rI15 (xs : List (Nat × List Int32)) (d : Nat) (S0 Sb : wS) (HT : Int → Int) (cs : List hCR) (ms : List hMR) (os : Int → List Int) (X : List (List Int)) (mo : Int) (t s kd : Int) (hit : Int) (c : Int) (A2 : aA) (Z : wS) : Prop := ∀ el kk : Int, wJ (pe_GA xs) wY0 (fun _ => False) (d + 91) t_M_invokes ((pe_at t_M_invokes.bl 15).getD (0, [])).2 [(0, (2, 237)), (1, (0, s)), (2, (0, kd)), (3, (0, el)), (4, (0, hit)), (5, (0, kk))] [] Z (rOc S0 Sb HT cs ms os X mo t c A2)
theorem iv_u {e0 es rr gkk gbb : Int} (j : Nat) (x : Int) (h : j ≠ 237 ∨ x < 173 ∨ 177 < x) : ivZ e0 es rr gkk gbb S j x = S j x := by
  unfold ivZ
  rw [w_up_no (by omega), w_up_no (by omega), w_up_no (by omega), w_up_no (by omega), w_up_no (by omega), w_up_no (by omega)]
theorem iv_s (ht : t = 0 ∨ t = 1) {e0 es rr gkk gbb p1 p2 : Int} : rSc S (ivZ e0 es rr gkk gbb (w_up (w_up S 237 154 p1) 237 155 p2)) := fun j x h1 _ _ _ _ => by
  rw [iv_u j x (by omega), w_up_no (by omega), w_up_no (by omega)]
theorem iv_M {e0 es rr gkk gbb p1 p2 : Int} (h : w_ML S) : w_ML (ivZ e0 es rr gkk gbb (w_up (w_up S 237 154 p1) 237 155 p2)) := fun q hq => by
  rw [iv_u q.1 (-1) (by omega), w_up_no (by omega), w_up_no (by omega)]
  exact h q hq
theorem ivI_A {W0 : wS} (hR : rRun S0 Sb HT cs ms os X mo t A1 W0) (hA1 : kLn (a_K A1 0) ∧ kLn (a_K A1 1)) (ht : t = 0 ∨ t = 1) (hs : 0 ≤ s) (hK1 : a_K A1 t = K) (ha : rAim t K ba bh en W0) (hba : ba < 2100) {rr : Int} {hit : Int} (hq : ivR s kd nms (K.1.getD ba (0, 0, [])).1 gb nm en lo hi rr T H sl L G cl (a_E A1) [] (a_E A1 s) W0 W0 hit Z) (hr : r = hlF T H kd nms (K.1.getD ba (0, 0, [])).1 gb nm lo hi (a_E A1 s)) : rRun S0 Sb HT cs ms os X mo t (u_H A1 s 0 r) Z ∧ rAim t K ba bh en Z := by
  obtain ⟨q1, q2, ⟨⟨m1, m2, m3, m4⟩, m5, m6, m7⟩, q4⟩ := hq
  subst hr
  have g : ∀ (j : Nat) (x : Int), ¬ (376 ≤ j ∧ j ≤ 385) → ¬ (j = 312 ∧ x = s) → Z j x = W0 j x := fun j x n1 n2 => by
    rcases m7 j x with z | z | z
    · exact absurd z n1
    · exact absurd z n2
    · exact z
  refine ⟨hl_R hR ht hA1 hs m1 (fun j x _ hm => g j x (fun z => hm (Or.inl z)) (fun z => hm (Or.inr (Or.inl ⟨Or.inr z.1, z.2⟩)))) ?_ q1 (rCh_ag hR.1.2.2.2.2.2.2.1.1 (fun j x hj => g j x (by unfold chM at hj; omega) (by unfold chM at hj; omega))) q2 (by rw [g 311 s (by omega) (by omega)]; omega), ?_⟩
  · exact rTk_e (rT_of hR.1 ht) (fun j x hj => g j x (by omega) (by omega))
  · obtain ⟨⟨a1, a2⟩, a3, a4, a5, a6, a7⟩ := ha
    exact ⟨⟨(g 237 154 (by omega) (by omega)).trans a1, (g 237 155 (by omega) (by omega)).trans a2⟩, (g 237 173 (by omega) (by omega)).trans a3, (g 237 174 (by omega) (by omega)).trans a4, by rw [g 237 175 (by omega) (by omega), g 364 _ (by omega) (by omega)]; exact a5, (g 237 176 (by omega) (by omega)).trans a6, (g 237 177 (by omega) (by omega)).trans a7⟩

end Wla
