/-! PART lg: acting on things: reading, setting what is there, no method. -/
section Wlg
variable {Sb : wS} {xs : List (Nat × List Int32)} {d : Nat} {S0 S Z : wS} {p w m : Nat} {HT : Int → Int} {cs : List hCR} {ms : List hMR} {os : Int → List Int} {X : List (List Int)} {mo t n B B2 oq : Int} {fa : Int → Int} {WE : aA → Prop} {A A2 : aA} {K2 : aK} {ml : List Nat} {k c s kd nms ne ec bh nm en : Int} {b ba : Nat} {ar : List aV} {e : aE} {V Z2 Y : wS} {o : wO} {dn : Int} {H2 : List aH} {N2 : List (List Int)} {E2 : Int → List aE} {C2 : List aQ} {W2 : Int} {c2 : Int → Int} {k2 : Int → Int → Int} {mk rk : Nat → Int → Prop} {K : aK} {T : List aO} {H : List aH} {E : Int → List aE} {gk gb es lo hi a : Int} {r : List aE × Int × Option aE} {A1 : aA} {tl cl : List Int} {sl : Nat → List Int} {L : List aC} {G : Int → aV} {u : aV} {x : List Int} {T2 : List aO} {L2 : List aC} {G2 : Int → aV} {H2 : List aH} {c2 : Int → Int} {y : Int} {Q : wO → wS → Prop} {ps : List (Int × aV)} {k hd wh : Int}
/-- what an entry of a thing must say where it acts -/
def aP0 (T : List aO) (H : List aH) (nN : Int) (kd nm gk gb : Int) (e : aE) : Prop := (e.1 = 0 ∧ (gk = 4 ∨ gk = 5) ∧ isO T gb ∧ (tO T gb).1 = gk) ∧ ((kd = 0 ∨ kd = 2 ∨ kd = 5) → (eRd T H nm e ∧ (tO T gb).2.1 = e.2.1 ∧ e.2.2.2.2.2.1 = -1) ∧ 0 ≤ nm ∧ nm < nN) ∧ ((kd = 1 ∨ kd = 3) → e.2.2.2.2.1 = aIx T nm gb ∧ ((e.2.2.2.2.1 ≠ -1 ∧ e.2.2.2.2.2.1 = -1) ∨ (e.2.2.2.2.1 = -1 ∧ e.2.2.2.2.2.1 ≠ -1 ∧ e.2.2.2.2.2.1 = aFs (tO T gb).2.1 (qPr H (tO T gb).2.1) nm H 0)) ∧ 0 ≤ nm ∧ nm < nN) ∧ ((kd = 4 ∨ kd = 6) → gk = 5 ∧ e.2.2.2.2.1 = -1 ∧ e.2.2.2.2.2.1 = -1)
theorem rd_h (hw : wSh T H) (hg : isO T gb) (hs : (tO T gb).2.1 = e.2.1) (h : eRd T H nm e) : ∃ hd : Int, ((e.2.2.2.1 = -1 ∧ hd = gb) ∨ (e.2.2.2.1 ≠ -1 ∧ hd = e.2.2.2.1)) ∧ isO T hd ∧ (e.2.2.2.2.1 = -1 ∨ (0 ≤ e.2.2.2.2.1 ∧ e.2.2.2.2.1 < ((tO T hd).2.2.2.2.2.2.length : Int))) := by
  have hl : ∀ q : Int, aIx T nm q ≠ -1 → 0 ≤ aIx T nm q ∧ aIx T nm q < ((tO T q).2.2.2.2.2.2.length : Int) := fun q hq => by
    have z := lIx_rg (nm := nm) (pNs (tO T q))
    have z2 : (pNs (tO T q)).length = (tO T q).2.2.2.2.2.2.length := by unfold pNs; rw [List.length_map]
    unfold aIx at hq ⊢
    omega
  have gn : gb ≠ -1 := by have := hg.1.1; omega
  rcases eRd_ir hw hg hs h with ⟨h1, h2⟩ | ⟨h1, h2, (⟨h3, h4⟩ | ⟨h3, h4⟩)⟩
  · refine ⟨gb, ?_, hg, Or.inl h2⟩
    rcases h with ⟨a1, a2, a3⟩ | ⟨a1, a2, a3⟩
    · exact Or.inl ⟨a2, rfl⟩
    · left
      refine ⟨?_, rfl⟩
      by_cases c : shH T H nm e.2.1 = -1
      · exact a2.trans c
      · rw [if_neg c] at a3
        have q := hUp_rg (Pr := aPr T H) (ix := aIx T nm) (pq := isO T) (fun k hk => wSh_pr hw hk) T.length (qPr H e.2.1)
        have z := aUp_sh (nm := nm) hw hg
        rw [hs, if_neg (fun y => y a1)] at z
        exact absurd (z.2.symm.trans h1) c
  · rcases aUp_rg (nm := nm) hw hg with z | ⟨z1, z2⟩
    · exact absurd z h1
    · rw [h3] at z1 h2 z2
      refine ⟨gb, Or.inl ⟨h4, rfl⟩, hg, Or.inr ?_⟩
      rw [← h2]
      exact hl gb z2
  · rcases aUp_rg (nm := nm) hw hg with z | ⟨z1, z2⟩
    · exact absurd z h1
    · refine ⟨aUp T H nm gb, Or.inr ⟨by rw [h4]; exact h1, h4.symm⟩, z1, Or.inr ?_⟩
      rw [← h2]
      exact hl _ z2
theorem gvA_G (hA : wfA S0 fa ms n WE B A) (h0 : 0 ≤ hd ∧ hd < ((a_T A).length : Int)) (hwh : wh = -1 ∨ (0 ≤ wh ∧ wh < ((tO (a_T A) hd).2.2.2.2.2.2.length : Int))) : vG (a_T A) n (gvA (a_T A) hd wh) := by
  unfold gvA
  rcases hwh with z | z
  · rw [if_pos z]
    exact vG_0
  · rw [if_neg (by omega)]
    have hm : tO (a_T A) hd ∈ a_T A := by
      unfold tO
      rw [List.getD_eq_getElem?_getD, List.getElem?_eq_getElem (by omega)]
      exact List.getElem_mem _
    have hq : wh.toNat < (tO (a_T A) hd).2.2.2.2.2.2.length := by omega
    refine hA.2.2.1.2.1 _ hm _ ?_
    rw [List.getD_eq_getElem?_getD, List.getElem?_eq_getElem hq]
    exact List.getElem_mem _
theorem pln_1 (hA : wfA S0 fa ms n WE B A) (h0 : 0 ≤ hd ∧ hd < ((a_T A).length : Int)) : ((tO (a_T A) hd).2.2.2.2.2.2.length : Int) ≤ a_c A 1 ∧ a_c A 1 ≤ 60000 := by
  have hm : tO (a_T A) hd ∈ a_T A := by
    unfold tO
    rw [List.getD_eq_getElem?_getD, List.getElem?_eq_getElem (by omega)]
    exact List.getElem_mem _
  have z := hA.2.2.2.2.1.2.1
  exact ⟨z.2.2 _ hm, z.2.1⟩
/-- a thing's properties are others -/
theorem sP_o (k0 : 0 ≤ k) (k1 : k < (T.length : Int)) {q : Int} (q0 : 0 ≤ q) : tO (T.set k.toNat ((tO T k).1, (tO T k).2.1, (tO T k).2.2.1, (tO T k).2.2.2.1, (tO T k).2.2.2.2.1, (tO T k).2.2.2.2.2.1, ps)) q = if q = k then ((tO T k).1, (tO T k).2.1, (tO T k).2.2.1, (tO T k).2.2.2.1, (tO T k).2.2.2.2.1, (tO T k).2.2.2.2.2.1, ps) else tO T q := by
  by_cases e : q = k
  · rw [if_pos e, e]
    exact tO_e k0 k1
  · rw [if_neg e]
    exact tO_s k0 q0 e
theorem sP_k (k0 : 0 ≤ k) (k1 : k < (T.length : Int)) : tKp T (T.set k.toNat ((tO T k).1, (tO T k).2.1, (tO T k).2.2.1, (tO T k).2.2.2.1, (tO T k).2.2.2.2.1, (tO T k).2.2.2.2.2.1, ps)) := by
  refine ⟨by rw [List.length_set]; exact Nat.le_refl _, fun q q0 q1 => ?_⟩
  rw [sP_o k0 k1 q0]
  by_cases e : q = k
  · rw [if_pos e, e]
    exact ⟨rfl, rfl, rfl⟩
  · rw [if_neg e]
    exact ⟨rfl, rfl, rfl⟩
theorem wf_p (hA : wfA S0 fa ms n WE B A) (hWw : WEw WE) (hw : isWt w t) (hB : B ≤ 600000) (hK : wTk fa S0 K2) (hKv : wKv (a_T A) n K2) (hfl : fLe K2.2.1 (a_K A t).2.1) (hk : 0 ≤ k ∧ k < ((a_T A).length : Int)) (hps : ∀ y ∈ ps, vG (a_T A) n y.2) (hpl : (ps.length : Int) ≤ c2 1) (hS : wSh ((a_T A).set k.toNat ((tO (a_T A) k).1, (tO (a_T A) k).2.1, (tO (a_T A) k).2.2.1, (tO (a_T A) k).2.2.2.1, (tO (a_T A) k).2.2.2.2.1, (tO (a_T A) k).2.2.2.2.2.1, ps)) (a_H A)) (he : eCh (a_T A) (a_H A) ((a_T A).set k.toNat ((tO (a_T A) k).1, (tO (a_T A) k).2.1, (tO (a_T A) k).2.2.1, (tO (a_T A) k).2.2.2.1, (tO (a_T A) k).2.2.2.2.1, (tO (a_T A) k).2.2.2.2.2.1, ps)) (a_H A) (-1) (a_c A 11 + 1)) (hc : (a_c A 1 ≤ c2 1 ∧ c2 1 ≤ 60000) ∧ ∀ i : Int, i ≠ 1 → c2 i = a_c A i) (h7p : (tO (a_T A) k).1 = 7 → ps.length = (tO (a_T A) k).2.2.2.2.2.2.length := by first | (intro _; exact List.length_set) | (intro z; omega)) : wfA S0 fa ms n WE B (u_W A t K2 ((a_T A).set k.toNat ((tO (a_T A) k).1, (tO (a_T A) k).2.1, (tO (a_T A) k).2.2.1, (tO (a_T A) k).2.2.2.1, (tO (a_T A) k).2.2.2.2.1, (tO (a_T A) k).2.2.2.2.2.1, ps)) (a_L A) (a_G A) (a_H A) c2) := by
  have kt : tKp (a_T A) ((a_T A).set k.toNat ((tO (a_T A) k).1, (tO (a_T A) k).2.1, (tO (a_T A) k).2.2.1, (tO (a_T A) k).2.2.2.1, (tO (a_T A) k).2.2.2.2.1, (tO (a_T A) k).2.2.2.2.2.1, ps)) := sP_k hk.1 hk.2
  have hcl := hc.2
  have ho := fun (q : Int) (q0 : 0 ≤ q) => sP_o (T := a_T A) (ps := ps) hk.1 hk.2 q0
  have hm : ∀ o ∈ ((a_T A).set k.toNat ((tO (a_T A) k).1, (tO (a_T A) k).2.1, (tO (a_T A) k).2.2.1, (tO (a_T A) k).2.2.2.1, (tO (a_T A) k).2.2.2.2.1, (tO (a_T A) k).2.2.2.2.2.1, ps)), o ∈ a_T A ∨ o = ((tO (a_T A) k).1, (tO (a_T A) k).2.1, (tO (a_T A) k).2.2.1, (tO (a_T A) k).2.2.2.1, (tO (a_T A) k).2.2.2.2.1, (tO (a_T A) k).2.2.2.2.2.1, ps) := fun o hq => List.mem_or_eq_of_mem_set hq
  have hlen : ((a_T A).set k.toNat ((tO (a_T A) k).1, (tO (a_T A) k).2.1, (tO (a_T A) k).2.2.1, (tO (a_T A) k).2.2.2.1, (tO (a_T A) k).2.2.2.2.1, (tO (a_T A) k).2.2.2.2.2.1, ps)).length = (a_T A).length := List.length_set
  have e11 := hcl 11 (by first | decide | omega)
  have h79 : tK7 (a_T A) ((a_T A).set k.toNat ((tO (a_T A) k).1, (tO (a_T A) k).2.1, (tO (a_T A) k).2.2.1, (tO (a_T A) k).2.2.2.1, (tO (a_T A) k).2.2.2.2.1, (tO (a_T A) k).2.2.2.2.2.1, ps)) := ⟨fun q q0 q1 q7 => by
    rw [ho q q0]
    by_cases e : q = k
    · rw [if_pos e, e]
      rw [e] at q7
      exact h7p q7
    · rw [if_neg e], fun q q0 q1 => by rw [hlen] at q1; omega⟩
  generalize hT2 : ((a_T A).set k.toNat ((tO (a_T A) k).1, (tO (a_T A) k).2.1, (tO (a_T A) k).2.2.1, (tO (a_T A) k).2.2.2.1, (tO (a_T A) k).2.2.2.2.1, (tO (a_T A) k).2.2.2.2.2.1, ps)) = T2 at *
  refine wf_W (k := -1) hA hWw hw hK kt hS ⟨fun v hv => vG_mo (hKv.1 v hv) kt, fun f hf => vG_mo (hKv.2.1 f hf) kt, fun hs => vG_mo (hKv.2.2 hs) kt⟩ (fun o hq x hx => ?_) (fun c hc v hv => vG_mo (hA.2.2.1.2.2.1 c hc v hv) kt) (fun a ha => vG_mo (hA.2.2.1.2.2.2.1 a ha) kt) (fun cf c1 c2 => ⟨cf, ?_, ?_, Nat.le_refl _, fun _ _ => rfl⟩) ?_ hA.2.2.2.2.2.1.2.1 he (by omega) (h20 := fun i hi => hcl i (by omega)) (h7 := h79)
  · rcases hm o hq with z | z
    · exact vG_mo (hA.2.2.1.2.1 o z x hx) kt
    · rw [z] at hx
      exact vG_mo (hps x hx) kt
  · refine ⟨c1.1, fun q q0 q1 h5 => ?_⟩
    obtain ⟨y1, y2, y3⟩ := kt.2 q q0 (by omega)
    rw [y1] at h5
    rw [y2, y3]
    exact c1.2 q q0 (by omega) h5
  · refine fun f hf => ?_
    obtain ⟨z1, z2, z3⟩ := kc_le c2 hfl f hf
    refine ⟨z1, z2, z3.imp id (fun y => ⟨⟨y.1.1, by omega⟩, (kt.2 _ y.1.1 y.1.2).1.trans y.2⟩)⟩
  · obtain ⟨b1, b2, b3, b4, b5, b6, b7, b8, b9⟩ := hA.2.2.2.2.1
    have e0 := hcl 0 (by first | decide | omega)
    have e2 := hcl 2 (by first | decide | omega)
    have e3 := hcl 3 (by first | decide | omega)
    have e4 := hcl 4 (by first | decide | omega)
    have e19 := hcl 19 (by first | decide | omega)
    refine ⟨?_, ⟨(show 0 ≤ c2 1 by omega), hc.1.2, fun o hq => ?_⟩, ?_, ?_, ?_, ⟨?_, ?_, fun i i0 i1 => ?_⟩, b7, fun q q0 q1 => ?_, b9⟩
    · show (T2.length : Int) + ((a_L A).length : Int) ≤ c2 0 ∧ c2 0 ≤ 8000
      rw [e0, hlen]
      exact b1
    · show (o.2.2.2.2.2.2.length : Int) ≤ c2 1
      rcases hm o hq with z | z
      · have := b2.2.2 o z
        omega
      · rw [z]
        exact hpl
    · show 0 ≤ c2 2 ∧ c2 2 ≤ 12000
      rw [e2]
      exact b3
    · show 0 ≤ c2 3 ∧ c2 3 ≤ 200000
      rw [e3]
      exact b4
    · show 0 ≤ c2 4 ∧ c2 4 ≤ 4000 ∧ ((a_H A).length : Int) ≤ c2 4 + 1
      rw [e4]
      exact b5
    · show 0 ≤ c2 11 ∧ c2 11 ≤ B
      rw [e11]
      exact b6.1
    · show 0 ≤ c2 19 ∧ c2 19 ≤ B
      rw [e19]
      exact b6.2.1
    · show 0 ≤ c2 i ∧ c2 i ≤ B
      rw [hcl i (by omega)]
      exact b6.2.2 i i0 i1
    · show (-1 ≤ (tO T2 q).2.2.2.2.1 ∧ (tO T2 q).2.2.2.2.1 ≤ c2 11) ∧ 0 ≤ (tO T2 q).2.2.2.2.2.1 ∧ (tO T2 q).2.2.2.2.2.1 ≤ c2 11
      rw [e11]
      replace q1 : q < (T2.length : Int) := q1
      have z := b8 q q0 (by omega)
      rw [ho q q0]
      by_cases e : q = k
      · rw [if_pos e]
        rw [e] at z
        exact z
      · rw [if_neg e]
        exact z
theorem cw_lr (hE : ∃ ad hp, w_E wY0 ad Y hp) (hW : cWd Y T L G) {i : Int} (h0 : 0 ≤ i) (h1 : i < Y 140 2) : -9223372036854775808 ≤ Y 142 i ∧ Y 142 i ≤ 9223372036854775807 := by
  have z := hW.2.2.2.1
  exact lr_E hE ⟨Or.inl (by first | decide | omega), by decide⟩ rfl h0 (by have := z.2.1; have := z.2.2.1; omega)

/-- a property is read -/
theorem ao_get (h : hyA S0 p HT cs ms os X fa n B2 w t A s kd nms ne ec bh ba ar) (hP : aP0 (a_T A) (a_H A) ((a_N A).length : Int) kd nm ((a_K A t).1.getD ba (0, 0, [])).1 ((a_K A t).1.getD ba (0, 0, [])).2.1 e) (hkd : kd = 0 ∨ kd = 2) : aOut xs d S0 p HT cs ms os X mo fa n B2 w t A s kd nms ec bh ba nm en es e := by
  obtain ⟨⟨hp, hw, hx⟩, hA, hB, ⟨hr, ho⟩, hsi, hme⟩ := id h
  obtain ⟨⟨p1, p2, p3, p4⟩, p5, -, -⟩ := hP
  obtain ⟨⟨q1, q2, q3⟩, q4⟩ := p5 (by omega)
  obtain ⟨hd, h1, h2, h3⟩ := rd_h hA.2.1 p3 q2 q1
  have hu := gvA_G (wh := e.2.2.2.2.1) hA h2.1 h3
  have hk8 := hu.1.1
  have g3 : ((a_K A t).1.getD ba (0, 0, [])).1 ≠ 3 := by omega
  have hz6 := pln_1 hA h2.1
  refine aO_v (u := gvA (a_T A) hd e.2.2.2.2.1) h hu (cA_K (ml := [w + 2, w + 3]) h (by rcases hw with ⟨rfl, rfl⟩ | ⟨rfl, rfl⟩ <;> decide) (fun Y y hY ha hd9 he => ?_)) (rA_0 h p1 (fun Y sl hY ha hW hd9 => ?_))
  · rw [gb_c h hY g3] at hd9
    obtain ⟨⟨r1, r2, r3, r4⟩, ⟨r5, r6, r7, r8, r9, r10, r11, r12⟩, r13, ⟨r14, r15⟩, r16⟩ := id hd9
    rw [p1] at r15
    refine wJ_E (fun hE => ?_)
    rcases hw with ⟨rfl, rfl⟩ | ⟨rfl, rfl⟩
    · exact agt_215 (d := d + 83) r1 r2 r3 r5 r6 r7 r8 r9 r10 r13 r14 r15 he.1.2.2.1 he.1.2.2.2.1 r16 p3.1 h1 h2.1 h3 hkd (fun _ => by omega) ⟨by omega, by omega⟩ (fun i i0 i1 => cw_lr hE r2 i0 i1)
    · exact agt_226 (d := d + 83) r1 r2 r3 r5 r6 r7 r8 r9 r10 r13 r14 r15 he.1.2.2.1 he.1.2.2.2.1 r16 p3.1 h1 h2.1 h3 hkd (fun _ => by omega) ⟨by omega, by omega⟩ (fun i i0 i1 => cw_lr hE r2 i0 i1)
  · rw [gb_r h hY g3, p1, q3] at hd9
    obtain ⟨⟨r1, r2, r3, r4⟩, r5, ⟨r6, r7, r8⟩, ⟨r9, r10, r11, r12, r13⟩, r14, r15, r16, r17⟩ := hd9
    refine wJ_E (fun hE => ?_)
    refine wJ_mono (rgt (d := d + 81) (s := s) r1 r2 r3 r4 r5 r6 r7 r8 r9 r10 r11 r12 r13 p3.1 r15 r16 h1 h2.1 h3 hkd hk8 (fun i i0 i1 => s_lr hE hY.1.1 i0 i1)) (fun o Z hz hM => ?_)
    exact rQ_K h hY hM ⟨hz.1, hz.2.1, hz.2.2.2⟩

/-- what was found is no fun -/
theorem ao_men (h : hyA S0 p HT cs ms os X fa n B2 w t A s kd nms ne ec bh ba ar) (hP : aP0 (a_T A) (a_H A) ((a_N A).length : Int) kd nm ((a_K A t).1.getD ba (0, 0, [])).1 ((a_K A t).1.getD ba (0, 0, [])).2.1 e) (hkd : kd = 5) (h1 : (e.2.2.2.1 = -1 ∧ hd = ((a_K A t).1.getD ba (0, 0, [])).2.1) ∨ (e.2.2.2.1 ≠ -1 ∧ hd = e.2.2.2.1)) (h2 : isO (a_T A) hd) (h3 : e.2.2.2.2.1 = -1 ∨ (0 ≤ e.2.2.2.2.1 ∧ e.2.2.2.2.1 < ((tO (a_T A) hd).2.2.2.2.2.2.length : Int))) (h5 : (gvA (a_T A) hd e.2.2.2.2.1).1 ≠ 5) : aOut xs d S0 p HT cs ms os X mo fa n B2 w t A s kd nms ec bh ba nm en es e := by
  obtain ⟨⟨hp, hw, hx⟩, hA, hB, ⟨hr, ho⟩, hsi, hme⟩ := id h
  obtain ⟨⟨p1, p2, p3, p4⟩, p5, -, -⟩ := hP
  obtain ⟨⟨q1, q2, q3⟩, q4⟩ := p5 (by omega)
  have hu := gvA_G (wh := e.2.2.2.2.1) hA h2.1 h3
  have hk8 := hu.1.1
  have g3 : ((a_K A t).1.getD ba (0, 0, [])).1 ≠ 3 := by omega
  have hz6 := pln_1 hA h2.1
  have hc0 : (if (gvA (a_T A) hd e.2.2.2.2.1).1 = 0 then 4 else 5 : Int) ≠ 0 := by split <;> decide
  refine aO_X (c := if (gvA (a_T A) hd e.2.2.2.2.1).1 = 0 then 4 else 5) h (cA_X (ml := [w + 2, w + 3]) h (by rcases hw with ⟨rfl, rfl⟩ | ⟨rfl, rfl⟩ <;> decide) (fun Y y hY ha hd9 he => ?_)) (rA_0 h p1 (fun Y sl hY ha hW hd9 => ?_))
  · rw [gb_c h hY g3, p1] at hd9
    rcases hw with ⟨rfl, rfl⟩ | ⟨rfl, rfl⟩
    · exact amn_215 (d := d + 83) hd9 he.1.2.2.1 he.1.2.2.2.1 p3.1 h1 h2.1 h3 (fun _ => by omega) hkd ⟨h5, by omega, by omega⟩
    · exact amn_226 (d := d + 83) hd9 he.1.2.2.1 he.1.2.2.2.1 p3.1 h1 h2.1 h3 (fun _ => by omega) hkd ⟨h5, by omega, by omega⟩
  · rw [gb_r h hY g3, p1, q3] at hd9
    exact wJ_mono (rmT (d := d + 81) (s := s) hd9 p3.1 h1 h2.1 h3 hkd ⟨h5, hk8⟩) (fun o Z hz hM => rQ_X h hY hc0 hz)

theorem cCw_0 (hY : cRel S0 p HT cs ms os X mo A Y) (hw : isWt w t) {mk : Nat → Int → Prop} (hF : cFm w mk Y V) (hd : ∀ (j : Nat) (x : Int), (j = 150 ∧ 0 ≤ x) ∨ (j = 72 ∧ x = 11) → ¬ mk j x) : cCw (a_c A) V := ⟨fun i hi => (fmG hF hw 150 i (by first | decide | omega) (hd _ _ (Or.inl ⟨rfl, by omega⟩))).trans (hY.2.2.2.2.2.2.2.1.1 i hi), (fmG hF hw 72 11 (by first | decide | omega) (hd _ _ (Or.inr ⟨rfl, rfl⟩))).trans hY.2.2.2.2.2.2.2.1.2.1.1⟩
theorem rCw_0 (hY : rRun S0 Sb HT cs ms os X mo t A Y) {rk : Nat → Int → Prop} (hF : rTm t rk Y V) (hd : ∀ x : Int, (62 ≤ x ∧ x ≤ 66) ∨ x = 81 ∨ x = 82 ∨ x = 94 → ¬ rk 237 x) : rCw (a_c A) V := by
  obtain ⟨u, h11, -, -, -, h8⟩ := hY.1.2.2.2.2.2.2.2.1
  have f := fun (x : Int) (hx : (62 ≤ x ∧ x ≤ 66) ∨ x = 81 ∨ x = 82 ∨ x = 94) => tmG hF 237 x (by unfold rKp; omega) (hd x hx)
  refine ⟨⟨fun i hi => (f _ (by omega)).trans (u i hi), (f 81 (by omega)).trans h11⟩, ?_⟩
  rw [f 82 (by omega), f 94 (by omega), f 63 (by omega)]
  exact h8
theorem cSw_U (hY : cRel S0 p HT cs ms os X mo A Y) (hw : isWt w t) {mk : Nat → Int → Prop} (hF : cFm w mk Y V) (hl : T2.length = (a_T A).length) (hd : ∀ (j : Nat) (x : Int), shD j x → ¬ mk j x) : cSw V T2 (a_H A) := by
  have z := cR_Sw (A := A) hY hF hw hd
  exact ⟨z.1, z.2.1, z.2.2.1, fun k k0 k1 => z.2.2.2 k k0 (by omega)⟩
theorem set_G (h : hyA S0 p HT cs ms os X fa n B2 w t A s kd nms ne ec bh ba ar) (hb : bh = 1 ∨ bh = 2) : vG (a_T A) n ((a_K A t).1.getD ((a_K A t).1.length - 1) (0, 0, [])) ∧ (a_K A t).1.length - 1 < (a_K A t).1.length := by
  have q := hA_ba h
  exact ⟨(wV_of h.2.1 h.1.2.1).1 _ (tp_m (by omega)), by omega⟩
theorem pv_w (hE : ∃ ad hp, w_E wY0 ad Y hp) (hst : stC w Y K) (hw : w = 215 ∨ w = 226) {i : Int} (hi : 0 ≤ i ∧ i < (K.1.length : Int)) : -9223372036854775808 ≤ Y (w + 3) i ∧ Y (w + 3) i ≤ 9223372036854775807 := by
  rcases hw with rfl | rfl
  · exact pv_215 hE hst hi
  · exact pv_226 hE hst hi
theorem bh_set (h : hyA S0 p HT cs ms os X fa n B2 w t A s kd nms ne ec bh ba ar) (hkd : kd = 1 ∨ kd = 3) : bh = 1 ∨ bh = 2 := by
  obtain ⟨⟨hp, hw, hx⟩, hA, hB, ⟨hr, ho⟩, hsi, hme⟩ := h
  have z := hsi.2.1.2.1
  rcases hkd with rfl | rfl
  · left
    have z1 : ec = 1 := z.1
    have z2 : bh = ec := z.2
    omega
  · exact Or.inr z.2
/-- what is there is set -/
theorem ao_set (h : hyA S0 p HT cs ms os X fa n B2 w t A s kd nms ne ec bh ba ar) (hP : aP0 (a_T A) (a_H A) ((a_N A).length : Int) kd nm ((a_K A t).1.getD ba (0, 0, [])).1 ((a_K A t).1.getD ba (0, 0, [])).2.1 e) (hkd : kd = 1 ∨ kd = 3) (hnm : nm = if kd = 1 then nms else en) (hix : e.2.2.2.2.1 ≠ -1) : aOut xs d S0 p HT cs ms os X mo fa n B2 w t A s kd nms ec bh ba nm en es e := by
  obtain ⟨⟨hp, hw, hx⟩, hA, hB, ⟨hr, ho⟩, hsi, hme⟩ := id h
  obtain ⟨⟨p1, p2, p3, p4⟩, -, p5, -⟩ := hP
  obtain ⟨q1, q2, q3⟩ := p5 hkd
  have hb2 := bh_set h hkd
  obtain ⟨hu, hul⟩ := set_G h hb2
  have g3 : ((a_K A t).1.getD ba (0, 0, [])).1 ≠ 3 := by omega
  have hz6 := pln_1 hA p3.1
  have hb := hA_ba h
  have hr2 : 0 ≤ e.2.2.2.2.1 ∧ e.2.2.2.2.1 < ((tO (a_T A) ((a_K A t).1.getD ba (0, 0, [])).2.1).2.2.2.2.2.2.length : Int) := by
    have z := lIx_rg (nm := nm) (pNs (tO (a_T A) ((a_K A t).1.getD ba (0, 0, [])).2.1))
    have z2 : (pNs (tO (a_T A) ((a_K A t).1.getD ba (0, 0, [])).2.1)).length = (tO (a_T A) ((a_K A t).1.getD ba (0, 0, [])).2.1).2.2.2.2.2.2.length := by unfold pNs; rw [List.length_map]
    unfold aIx at q1
    omega
  have q71 : e.2.2.2.2.2.1 = -1 := by omega
  have hN4 := hA.2.2.2.2.2.1.1.1
  have hk8 := hu.1.1
  have hw2 : wfA S0 fa ms n (WEs S0 HT cs ms os) B2 (u_W A t (kP (a_K A t) ((a_K A t).1.length - ba) ((a_K A t).1.getD ((a_K A t).1.length - 1) (0, 0, []))) (tSp (a_T A) ((a_K A t).1.getD ba (0, 0, [])).2.1 e.2.2.2.2.1.toNat ((a_K A t).1.getD ((a_K A t).1.length - 1) (0, 0, []))) (a_L A) (a_G A) (a_H A) (a_c A)) := by
    refine wf_p (k := ((a_K A t).1.getD ba (0, 0, [])).2.1) hA WEs_w hw hB.2 (tyv_A h) (kv_P (wV_of hA hw) hu) fLe_P p3.1 (fun y hy => ?_) ?_ (wSh_sp hA.2.1 p3.1.1 p3.1.2 (by omega)) (eCh_sp hA.2.1 p3.1) ⟨⟨Int.le_refl _, by omega⟩, fun _ _ => rfl⟩
    · rcases List.mem_or_eq_of_mem_set hy with z | z
      · have hm : tO (a_T A) ((a_K A t).1.getD ba (0, 0, [])).2.1 ∈ a_T A := by
          unfold tO
          rw [List.getD_eq_getElem?_getD, List.getElem?_eq_getElem (by have := p3.1; omega)]
          exact List.getElem_mem _
        exact hA.2.2.1.2.1 _ hm y z
      · rw [z]
        exact hu
    · rw [List.length_set]
      exact hz6.1
  refine aO_W h hw2 (cA_W (ml := [w + 2, w + 3]) (mk := cMv) h (by rcases hw with ⟨rfl, rfl⟩ | ⟨rfl, rfl⟩ <;> decide) (fun j x hm => mw_v hm) (fun _ _ _ => rfl) (Int.le_refl _) (fun Y y hY ha hd9 he => ?_)) (rA_0 h p1 (fun Y sl hY ha hW hd9 => ?_))
  · rw [gb_c h hY g3] at hd9
    obtain ⟨⟨r1, r2, r3, r4⟩, ⟨r5, r6, r7, r8, r9, r10, r11, r12⟩, r13, ⟨r14, r15⟩, r16⟩ := id hd9
    rw [p1] at r15
    refine wJ_E (fun hE => ?_)
    have fin : ∀ V : wS, cFm w cMv Y V → cSw V (tSp (a_T A) ((a_K A t).1.getD ba (0, 0, [])).2.1 e.2.2.2.2.1.toNat ((a_K A t).1.getD ((a_K A t).1.length - 1) (0, 0, []))) (a_H A) ∧ cPo V ∧ cCw (a_c A) V := fun V hF => ⟨cSw_U hY hw hF tSp_l (fun j x hj hm => by unfold shD at hj; unfold cMv at hm; omega), cR_Po (A := A) hY hF hw (fun j x hj hm => by unfold poD at hj; unfold cMv at hm; omega), cCw_0 hY hw hF (fun j x hj hm => by unfold cMv at hm; omega)⟩
    have pv := pv_w hE r1 (isWt_w hw) (i := ((a_K A t).1.length : Int) - 1) ⟨by omega, by omega⟩
    rcases hw with ⟨rfl, rfl⟩ | ⟨rfl, rfl⟩
    · exact wJ_mono (ast_215 (d := d + 83) r1 r2 r3 r5 r6 r7 r8 r9 r10 r13 r14 r15 he.1.2.2.2.1 r16 p3.1 hr2 (by omega) hkd ⟨by omega, by omega⟩ pv) (fun o V hz => ⟨hz.1, hz.2.1, hz.2.2.1, hz.2.2.2.2, hz.2.2.2.1, fin V hz.2.2.2.2⟩)
    · exact wJ_mono (ast_226 (d := d + 83) r1 r2 r3 r5 r6 r7 r8 r9 r10 r13 r14 r15 he.1.2.2.2.1 r16 p3.1 hr2 (by omega) hkd ⟨by omega, by omega⟩ pv) (fun o V hz => ⟨hz.1, hz.2.1, hz.2.2.1, hz.2.2.2.2, hz.2.2.2.1, fin V hz.2.2.2.2⟩)
  · rw [gb_r h hY g3, p1, q71] at hd9
    obtain ⟨⟨r1, r2, r3, r4⟩, r5, ⟨r6, r7, r8⟩, ⟨r9, r10, r11, r12, r13⟩, r14, r15, r16, r17⟩ := hd9
    obtain ⟨g1, g2, g4, g5⟩ := s_4 h hY
    refine wJ_E (fun hE => ?_)
    refine wJ_mono (rsx (d := d + 81) (s := s) (nm := nm) r1 r2 r3 r4 r5 r6 r7 r8 r9 r10 r11 r12 r13 p3.1 r16 r17 hr2 g1 hkd (by rw [hnm, g4, ha.2.2.2.2.2]) ⟨q3.1, by omega⟩ hk8 ?_) (fun o Z hz hM => ?_)
    · have z := pv_r (t := t) (K := a_K A t) hE hY.1.1 (wt_t hw) (i := ((a_K A t).1.length : Int) - 1) ⟨by omega, by omega⟩
      rw [show 2100 * t + (((a_K A t).1.length : Int) - 1) = 2100 * t + ((a_K A t).1.length : Int) - 1 by omega] at z
      exact z
    · exact rQ_W (rk := rMv) h (fun j x hm => by unfold rMv at hm; unfold rWd9; omega) (fun _ _ _ => rfl) hY hM ⟨hz.1, hz.2.1, hz.2.2.2, ⟨sl, hz.2.2.1⟩, rR_H (A := A) hY.1 hz.2.2.2 (fun j x hj hm => by unfold rMv at hm; omega), rCw_0 hY hz.2.2.2 (fun x hx hm => by unfold rMv at hm; omega)⟩

end Wlg
