/-! PART lk: acting on things: a new property. -/
section Wlk
variable {xs : List (Nat × List Int32)} {d : Nat} {S0 S Z : wS} {p w m : Nat} {HT : Int → Int} {cs : List hCR} {ms : List hMR} {os : Int → List Int} {X : List (List Int)} {mo t n B B2 oq : Int} {fa : Int → Int} {WE : aA → Prop} {A A2 : aA} {K2 : aK} {ml : List Nat} {k c s kd nms ne ec bh nm en : Int} {b ba : Nat} {ar : List aV} {e : aE} {V Z2 Y : wS} {o : wO} {dn : Int} {H2 : List aH} {N2 : List (List Int)} {E2 : Int → List aE} {C2 : List aQ} {W2 : Int} {c2 : Int → Int} {k2 : Int → Int → Int} {mk rk : Nat → Int → Prop} {K : aK} {T : List aO} {H : List aH} {E : Int → List aE} {gk gb es lo hi a : Int} {r : List aE × Int × Option aE} {A1 : aA} {tl cl : List Int} {sl : Nat → List Int} {L : List aC} {G : Int → aV} {u : aV} {x : List Int} {T2 : List aO} {L2 : List aC} {G2 : Int → aV} {H2 : List aH} {c2 : Int → Int} {y : Int} {Q : wO → wS → Prop} {ps : List (Int × aV)} {k hd wh : Int} {f a9 pn fn md : Int} {vn m9 : Nat} {th : aV} {g : Int} {lp : List aV}
theorem tOq_mem (h : 0 ≤ k ∧ k < (T.length : Int)) : tO T k ∈ T := by
  unfold tO
  rw [List.getD_eq_getElem?_getD, List.getElem?_eq_getElem (by omega)]
  exact List.getElem_mem _
theorem mem_tOq {o9 : aO} (h : o9 ∈ T) : ∃ q : Int, (0 ≤ q ∧ q < (T.length : Int)) ∧ tO T q = o9 := by
  obtain ⟨i, h1, h2⟩ := List.getElem_of_mem h
  refine ⟨(i : Int), ⟨by omega, by omega⟩, ?_⟩
  unfold tO
  rw [show ((i : Int)).toNat = i by omega, List.getD_eq_getElem?_getD, List.getElem?_eq_getElem h1]
  exact h2
/-- all that holds, when one thing is another -/
theorem wf_q (hA : wfA S0 fa ms n WE B A) (hWw : WEw WE) (hw : isWt w t) (hK : wTk fa S0 K2) (hKv : wKv (a_T A) n K2) (hfl : fLe K2.2.1 (a_K A t).2.1) {k9 : Int} (hk : 0 ≤ k ∧ k < ((a_T A).length : Int)) (hl : T2.length = (a_T A).length) (hoo : ∀ q : Int, 0 ≤ q → q ≠ k → tO T2 q = tO (a_T A) q) (hkk : (tO T2 k).1 = (tO (a_T A) k).1 ∧ (tO T2 k).2.2.1 = (tO (a_T A) k).2.2.1 ∧ (tO T2 k).2.2.2.1 = (tO (a_T A) k).2.2.2.1) (hps : ∀ y ∈ (tO T2 k).2.2.2.2.2.2, vG (a_T A) n y.2) (hpl : ((tO T2 k).2.2.2.2.2.2.length : Int) ≤ c2 1) (hep : (-1 ≤ (tO T2 k).2.2.2.2.1 ∧ (tO T2 k).2.2.2.2.1 ≤ c2 11) ∧ 0 ≤ (tO T2 k).2.2.2.2.2.1 ∧ (tO T2 k).2.2.2.2.2.1 ≤ c2 11) (hS : wSh T2 (a_H A)) (he : eCh (a_T A) (a_H A) T2 (a_H A) k9 (a_c A 11 + 1)) (hc : (a_c A 1 ≤ c2 1 ∧ c2 1 ≤ 60000) ∧ (a_c A 11 ≤ c2 11 ∧ c2 11 ≤ B) ∧ ∀ i : Int, i ≠ 1 → i ≠ 11 → c2 i = a_c A i) (hk7 : (tO (a_T A) k).1 ≠ 7) : wfA S0 fa ms n WE B (u_W A t K2 T2 (a_L A) (a_G A) (a_H A) c2) := by
  have kt : tKp (a_T A) T2 := ⟨Nat.le_of_eq hl.symm, fun q q0 q1 => by
    by_cases e : q = k
    · rw [e]
      exact hkk
    · rw [hoo q q0 e]
      exact ⟨rfl, rfl, rfl⟩⟩
  obtain ⟨hc1, hc11, hcl⟩ := hc
  have hm : ∀ o ∈ T2, o ∈ a_T A ∨ o = tO T2 k := fun o hq => by
    obtain ⟨q, q1, q2⟩ := mem_tOq hq
    by_cases e : q = k
    · rw [e] at q2
      exact Or.inr q2.symm
    · rw [hoo q q1.1 e] at q2
      rw [← q2]
      exact Or.inl (tOq_mem (by omega))
  refine wf_W (k := k9) hA hWw hw hK kt hS ⟨fun v hv => vG_mo (hKv.1 v hv) kt, fun f hf => vG_mo (hKv.2.1 f hf) kt, fun hs => vG_mo (hKv.2.2 hs) kt⟩ (fun o hq x hx => ?_) (fun c hc v hv => vG_mo (hA.2.2.1.2.2.1 c hc v hv) kt) (fun a ha => vG_mo (hA.2.2.1.2.2.2.1 a ha) kt) (fun cf c1 c2 => ⟨cf, ?_, ?_, Nat.le_refl _, fun _ _ => rfl⟩) ?_ hA.2.2.2.2.2.1.2.1 he hc11.1 (h20 := fun i hi => hcl i (by omega) (by omega)) (h7 := ⟨fun q q0 q1 q7 => by rw [hoo q q0 (fun e => hk7 (by rw [← e]; exact q7))], fun q q0 q1 => by rw [hl] at q1; omega⟩)
  · rcases hm o hq with z | z
    · exact vG_mo (hA.2.2.1.2.1 o z x hx) kt
    · rw [z] at hx
      exact vG_mo (hps x hx) kt
  · refine ⟨c1.1, fun q q0 q1 h5 => ?_⟩
    obtain ⟨y1, y2, y3⟩ := kt.2 q q0 (by omega)
    rw [y1] at h5
    rw [y2, y3]
    exact c1.2 q q0 (by omega) h5
  · refine fun f hf => ?_
    obtain ⟨z1, z2, z3⟩ := kc_le c2 hfl f hf
    refine ⟨z1, z2, z3.imp id (fun y => ⟨⟨y.1.1, by omega⟩, (kt.2 _ y.1.1 y.1.2).1.trans y.2⟩)⟩
  · obtain ⟨b1, b2, b3, b4, b5, b6, b7, b8, b9⟩ := hA.2.2.2.2.1
    have e0 := hcl 0 (by first | decide | omega) (by first | decide | omega)
    have e2 := hcl 2 (by first | decide | omega) (by first | decide | omega)
    have e3 := hcl 3 (by first | decide | omega) (by first | decide | omega)
    have e4 := hcl 4 (by first | decide | omega) (by first | decide | omega)
    have e19 := hcl 19 (by first | decide | omega) (by first | decide | omega)
    refine ⟨?_, ⟨(show 0 ≤ c2 1 by omega), hc1.2, fun o hq => ?_⟩, ?_, ?_, ?_, ⟨(show 0 ≤ c2 11 ∧ c2 11 ≤ B by have := b6.1; omega), ?_, fun i i0 i1 => ?_⟩, b7, fun q q0 q1 => ?_, b9⟩
    · show (T2.length : Int) + ((a_L A).length : Int) ≤ c2 0 ∧ c2 0 ≤ 8000
      rw [e0, hl]
      exact b1
    · show (o.2.2.2.2.2.2.length : Int) ≤ c2 1
      rcases hm o hq with z | z
      · have := b2.2.2 o z
        omega
      · rw [z]
        exact hpl
    · show 0 ≤ c2 2 ∧ c2 2 ≤ 12000
      rw [e2]
      exact b3
    · show 0 ≤ c2 3 ∧ c2 3 ≤ 200000
      rw [e3]
      exact b4
    · show 0 ≤ c2 4 ∧ c2 4 ≤ 4000 ∧ ((a_H A).length : Int) ≤ c2 4 + 1
      rw [e4]
      exact b5
    · show 0 ≤ c2 19 ∧ c2 19 ≤ B
      rw [e19]
      exact b6.2.1
    · show 0 ≤ c2 i ∧ c2 i ≤ B
      rw [hcl i (by omega) (by omega)]
      exact b6.2.2 i i0 i1
    · show (-1 ≤ (tO T2 q).2.2.2.2.1 ∧ (tO T2 q).2.2.2.2.1 ≤ c2 11) ∧ 0 ≤ (tO T2 q).2.2.2.2.2.1 ∧ (tO T2 q).2.2.2.2.2.1 ≤ c2 11
      replace q1 : q < (T2.length : Int) := q1
      by_cases e : q = k
      · rw [e]
        exact hep
      · rw [hoo q q0 e]
        have z := b8 q q0 (by omega)
        omega
theorem c11_1 {v : Int} : (fUp (fUp (a_c A) 1 (a_c A 1 + 1)) 11 v) 1 = a_c A 1 + 1 ∧ (fUp (fUp (a_c A) 1 (a_c A 1 + 1)) 11 v) 11 = v ∧ ∀ i : Int, i ≠ 1 → i ≠ 11 → (fUp (fUp (a_c A) 1 (a_c A 1 + 1)) 11 v) i = a_c A i := ⟨by rw [fUp_n (by first | decide | omega), fUp_s], fUp_s, fun i h1 h11 => by rw [fUp_n h11, fUp_n h1]⟩
/-- a new property is set -/
theorem ao_sen (h : hyA S0 p HT cs ms os X fa n B2 w t A s kd nms ne ec bh ba ar) (hx1 : pe_at (pe_GA xs).xs 1 = some (1, tx_1)) (hP : aP0 (a_T A) (a_H A) ((a_N A).length : Int) kd nm ((a_K A t).1.getD ba (0, 0, [])).1 ((a_K A t).1.getD ba (0, 0, [])).2.1 e) (hkd : kd = 1 ∨ kd = 3) (hnm : nm = if kd = 1 then nms else en) (hix : e.2.2.2.2.1 = -1) : aOut xs d S0 p HT cs ms os X mo fa n B2 w t A s kd nms ec bh ba nm en es e := by
  obtain ⟨⟨hp, hw, hx⟩, hA, hB, ⟨hr, ho⟩, hsi, hme⟩ := id h
  obtain ⟨⟨p1, p2, p3, p4⟩, -, p5, -⟩ := hP
  obtain ⟨q1, q2, q3⟩ := p5 hkd
  have hb2 := bh_set h hkd
  obtain ⟨hu, hul⟩ := set_G h hb2
  have g3 : ((a_K A t).1.getD ba (0, 0, [])).1 ≠ 3 := by omega
  have hz6 := pln_1 hA p3.1
  have hb := hA_ba h
  have q52 : e.2.2.2.2.2.1 ≠ -1 ∧ e.2.2.2.2.2.1 = aFs (tO (a_T A) ((a_K A t).1.getD ba (0, 0, [])).2.1).2.1 (qPr (a_H A) (tO (a_T A) ((a_K A t).1.getD ba (0, 0, [])).2.1).2.1) nm (a_H A) 0 := by
    rcases q2 with z | z
    · exact absurd hix z.1
    · exact z.2
  have hfr := aFs_rg (be := (tO (a_T A) ((a_K A t).1.getD ba (0, 0, [])).2.1).2.1) (pr := qPr (a_H A) (tO (a_T A) ((a_K A t).1.getD ba (0, 0, [])).2.1).2.1) (nm := nm) (H := a_H A)
  rw [← q52.2] at hfr
  have hr0 : 0 ≤ e.2.2.2.2.2.1 ∧ e.2.2.2.2.2.1 < ((a_H A).length : Int) := by omega
  have hfa := aFs_at (be := (tO (a_T A) ((a_K A t).1.getD ba (0, 0, [])).2.1).2.1) (pr := qPr (a_H A) (tO (a_T A) ((a_K A t).1.getD ba (0, 0, [])).2.1).2.1) (nm := nm) (H := a_H A) (by rw [← q52.2]; exact hr0.1)
  rw [← q52.2] at hfa
  have hN4 := hA.2.2.2.2.2.1.1.1
  have hk8 := hu.1.1
  obtain ⟨n1, n2, n3, n4⟩ := wN_b hA
  have hct := hA.2.2.2.2.1
  have hsh := (hA.2.1.2.2.2.1 ((a_K A t).1.getD ba (0, 0, [])).2.1 p3)
  have hsz := hsh.2
  have hth := (hA.2.1.2.2.1 ((a_K A t).1.getD ba (0, 0, [])).2.1.toNat (by have := p3.1; omega)).2.1
  have hth2 : 0 ≤ (tO (a_T A) ((a_K A t).1.getD ba (0, 0, [])).2.1).2.1 := (hth p3.2).1
  have hns := aNs_s hA.2.1.1 hr0.1 hr0.2 (by rw [hfa.2.1]; exact hth2)
  rw [hfa.2.1, hfa.2.2] at hns
  have hep := (hct.2.2.2.2.2.2.2.1 ((a_K A t).1.getD ba (0, 0, [])).2.1 p3.1.1 p3.1.2)
  by_cases hm : (tO (a_T A) ((a_K A t).1.getD ba (0, 0, [])).2.1).2.2.2.2.2.2.length < 64 ∧ a_c A 1 < 60000
  · have hw2 : wfA S0 fa ms n (WEs S0 HT cs ms os) B2 (u_W A t (kP (a_K A t) ((a_K A t).1.length - ba) ((a_K A t).1.getD ((a_K A t).1.length - 1) (0, 0, []))) (tNc (tAp (a_T A) ((a_K A t).1.getD ba (0, 0, [])).2.1 nm ((a_K A t).1.getD ((a_K A t).1.length - 1) (0, 0, []))) ((a_K A t).1.getD ba (0, 0, [])).2.1 e.2.2.2.2.2.1 (a_c A 11)) (a_L A) (a_G A) (a_H A) (fUp (fUp (a_c A) 1 (a_c A 1 + 1)) 11 (if (tO (a_T A) ((a_K A t).1.getD ba (0, 0, [])).2.1).2.2.2.2.1 = -1 then a_c A 11 else a_c A 11 + 1))) := by
      obtain ⟨cc1, cc11, ccl⟩ := c11_1 (A := A) (v := if (tO (a_T A) ((a_K A t).1.getD ba (0, 0, [])).2.1).2.2.2.2.1 = -1 then a_c A 11 else a_c A 11 + 1)
      have hl : (tNc (tAp (a_T A) ((a_K A t).1.getD ba (0, 0, [])).2.1 nm ((a_K A t).1.getD ((a_K A t).1.length - 1) (0, 0, []))) ((a_K A t).1.getD ba (0, 0, [])).2.1 e.2.2.2.2.2.1 (a_c A 11)).length = (a_T A).length := by rw [tNc_l, tAp_l]
      have ta := fun (q : Int) (q0 : 0 ≤ q) => tAp_f (T := a_T A) (k := ((a_K A t).1.getD ba (0, 0, [])).2.1) (nm := nm) (u := ((a_K A t).1.getD ((a_K A t).1.length - 1) (0, 0, []))) p3.1.1 p3.1.2 q0
      have tk := ta ((a_K A t).1.getD ba (0, 0, [])).2.1 p3.1.1
      have hlt : ((a_K A t).1.getD ba (0, 0, [])).2.1 < ((tAp (a_T A) ((a_K A t).1.getD ba (0, 0, [])).2.1 nm ((a_K A t).1.getD ((a_K A t).1.length - 1) (0, 0, []))).length : Int) := by rw [tAp_l]; exact p3.1.2
      have to := tCo_o (T := tAp (a_T A) ((a_K A t).1.getD ba (0, 0, [])).2.1 nm ((a_K A t).1.getD ((a_K A t).1.length - 1) (0, 0, []))) (sh := e.2.2.2.2.2.1) (ep := if (tO (tAp (a_T A) ((a_K A t).1.getD ba (0, 0, [])).2.1 nm ((a_K A t).1.getD ((a_K A t).1.length - 1) (0, 0, []))) ((a_K A t).1.getD ba (0, 0, [])).2.1).2.2.2.2.1 = -1 then -1 else (tO (tAp (a_T A) ((a_K A t).1.getD ba (0, 0, [])).2.1 nm ((a_K A t).1.getD ((a_K A t).1.length - 1) (0, 0, []))) ((a_K A t).1.getD ba (0, 0, [])).2.1).2.2.2.2.1 + 1) (cg := if (tO (tAp (a_T A) ((a_K A t).1.getD ba (0, 0, [])).2.1 nm ((a_K A t).1.getD ((a_K A t).1.length - 1) (0, 0, []))) ((a_K A t).1.getD ba (0, 0, [])).2.1).2.2.2.2.1 = -1 then (tO (tAp (a_T A) ((a_K A t).1.getD ba (0, 0, [])).2.1 nm ((a_K A t).1.getD ((a_K A t).1.length - 1) (0, 0, []))) ((a_K A t).1.getD ba (0, 0, [])).2.1).2.2.2.2.2.1 else a_c A 11 + 1) p3.1.1 hlt p3.1.1
      rw [if_pos rfl] at to
      replace to : tO (tNc (tAp (a_T A) ((a_K A t).1.getD ba (0, 0, [])).2.1 nm ((a_K A t).1.getD ((a_K A t).1.length - 1) (0, 0, []))) ((a_K A t).1.getD ba (0, 0, [])).2.1 e.2.2.2.2.2.1 (a_c A 11)) ((a_K A t).1.getD ba (0, 0, [])).2.1 = _ := to
      refine wf_q (k := ((a_K A t).1.getD ba (0, 0, [])).2.1) (k9 := ((a_K A t).1.getD ba (0, 0, [])).2.1) hA WEs_w hw (tyv_A h) (kv_P (wV_of hA hw) hu) fLe_P p3.1 hl (fun q q0 qn => ?_) ?_ (fun y hy => ?_) ?_ ?_ (wSh_np hA.2.1 p3 hr0 ?_ ?_ hm.1) (eCh_ap hA.2.1 p3.1) ⟨⟨by rw [cc1]; omega, by rw [cc1]; omega⟩, ⟨?_, ?_⟩, ccl⟩ (fun z => by have := p3.2; omega)
      · have z := tCo_o (T := tAp (a_T A) ((a_K A t).1.getD ba (0, 0, [])).2.1 nm ((a_K A t).1.getD ((a_K A t).1.length - 1) (0, 0, []))) (sh := e.2.2.2.2.2.1) (ep := if (tO (tAp (a_T A) ((a_K A t).1.getD ba (0, 0, [])).2.1 nm ((a_K A t).1.getD ((a_K A t).1.length - 1) (0, 0, []))) ((a_K A t).1.getD ba (0, 0, [])).2.1).2.2.2.2.1 = -1 then -1 else (tO (tAp (a_T A) ((a_K A t).1.getD ba (0, 0, [])).2.1 nm ((a_K A t).1.getD ((a_K A t).1.length - 1) (0, 0, []))) ((a_K A t).1.getD ba (0, 0, [])).2.1).2.2.2.2.1 + 1) (cg := if (tO (tAp (a_T A) ((a_K A t).1.getD ba (0, 0, [])).2.1 nm ((a_K A t).1.getD ((a_K A t).1.length - 1) (0, 0, []))) ((a_K A t).1.getD ba (0, 0, [])).2.1).2.2.2.2.1 = -1 then (tO (tAp (a_T A) ((a_K A t).1.getD ba (0, 0, [])).2.1 nm ((a_K A t).1.getD ((a_K A t).1.length - 1) (0, 0, []))) ((a_K A t).1.getD ba (0, 0, [])).2.1).2.2.2.2.2.1 else a_c A 11 + 1) p3.1.1 hlt q0
        rw [if_neg qn] at z
        refine Eq.trans z ?_
        rw [tAp_o p3.1.1 p3.1.2 q0, if_neg qn]
      · rw [to]
        exact ⟨tk.1, tk.2.2.1, tk.2.2.2.1⟩
      · rw [to] at hy
        replace hy : y ∈ (tO (tAp (a_T A) ((a_K A t).1.getD ba (0, 0, [])).2.1 nm ((a_K A t).1.getD ((a_K A t).1.length - 1) (0, 0, []))) ((a_K A t).1.getD ba (0, 0, [])).2.1).2.2.2.2.2.2 := hy
        rw [tk.2.2.2.2.2.2, if_pos rfl] at hy
        rcases List.mem_append.mp hy with z | z
        · exact hA.2.2.1.2.1 _ (tOq_mem p3.1) y z
        · rw [List.mem_singleton.mp z]
          exact hu
      · rw [to, cc1]
        show ((tO (tAp (a_T A) ((a_K A t).1.getD ba (0, 0, [])).2.1 nm ((a_K A t).1.getD ((a_K A t).1.length - 1) (0, 0, []))) ((a_K A t).1.getD ba (0, 0, [])).2.1).2.2.2.2.2.2.length : Int) ≤ a_c A 1 + 1
        rw [tk.2.2.2.2.2.2, if_pos rfl, List.length_append]
        show (((tO (a_T A) ((a_K A t).1.getD ba (0, 0, [])).2.1).2.2.2.2.2.2.length + 1 : Nat) : Int) ≤ a_c A 1 + 1
        omega
      · rw [to, cc11]
        show (-1 ≤ (if (tO (tAp (a_T A) ((a_K A t).1.getD ba (0, 0, [])).2.1 nm ((a_K A t).1.getD ((a_K A t).1.length - 1) (0, 0, []))) ((a_K A t).1.getD ba (0, 0, [])).2.1).2.2.2.2.1 = -1 then -1 else (tO (tAp (a_T A) ((a_K A t).1.getD ba (0, 0, [])).2.1 nm ((a_K A t).1.getD ((a_K A t).1.length - 1) (0, 0, []))) ((a_K A t).1.getD ba (0, 0, [])).2.1).2.2.2.2.1 + 1) ∧ (if (tO (tAp (a_T A) ((a_K A t).1.getD ba (0, 0, [])).2.1 nm ((a_K A t).1.getD ((a_K A t).1.length - 1) (0, 0, []))) ((a_K A t).1.getD ba (0, 0, [])).2.1).2.2.2.2.1 = -1 then -1 else (tO (tAp (a_T A) ((a_K A t).1.getD ba (0, 0, [])).2.1 nm ((a_K A t).1.getD ((a_K A t).1.length - 1) (0, 0, []))) ((a_K A t).1.getD ba (0, 0, [])).2.1).2.2.2.2.1 + 1) ≤ (if (tO (a_T A) ((a_K A t).1.getD ba (0, 0, [])).2.1).2.2.2.2.1 = -1 then a_c A 11 else a_c A 11 + 1)) ∧ 0 ≤ (if (tO (tAp (a_T A) ((a_K A t).1.getD ba (0, 0, [])).2.1 nm ((a_K A t).1.getD ((a_K A t).1.length - 1) (0, 0, []))) ((a_K A t).1.getD ba (0, 0, [])).2.1).2.2.2.2.1 = -1 then (tO (tAp (a_T A) ((a_K A t).1.getD ba (0, 0, [])).2.1 nm ((a_K A t).1.getD ((a_K A t).1.length - 1) (0, 0, []))) ((a_K A t).1.getD ba (0, 0, [])).2.1).2.2.2.2.2.1 else a_c A 11 + 1) ∧ (if (tO (tAp (a_T A) ((a_K A t).1.getD ba (0, 0, [])).2.1 nm ((a_K A t).1.getD ((a_K A t).1.length - 1) (0, 0, []))) ((a_K A t).1.getD ba (0, 0, [])).2.1).2.2.2.2.1 = -1 then (tO (tAp (a_T A) ((a_K A t).1.getD ba (0, 0, [])).2.1 nm ((a_K A t).1.getD ((a_K A t).1.length - 1) (0, 0, []))) ((a_K A t).1.getD ba (0, 0, [])).2.1).2.2.2.2.2.1 else a_c A 11 + 1) ≤ (if (tO (a_T A) ((a_K A t).1.getD ba (0, 0, [])).2.1).2.2.2.2.1 = -1 then a_c A 11 else a_c A 11 + 1)
        rw [tk.2.2.2.2.1, tk.2.2.2.2.2.1]
        by_cases ce : (tO (a_T A) ((a_K A t).1.getD ba (0, 0, [])).2.1).2.2.2.2.1 = -1
        · rw [if_pos ce, if_pos ce, if_pos ce]
          omega
        · rw [if_neg ce, if_neg ce, if_neg ce]
          omega
      · rw [hsh.1]
        exact hns.2.2.2.2.symm
      · exact hfa.1
      · rw [cc11]
        split <;> omega
      · rw [cc11]
        split <;> omega
    refine aO_W h hw2 (cA_W (ml := [w + 2, w + 3, 141, 142]) (mk := cMa) h (by rcases hw with ⟨rfl, rfl⟩ | ⟨rfl, rfl⟩ <;> decide) (fun j x hm => mw_a hm) (fun i i0 i1 => by rw [fUp_n (by omega), fUp_n (by omega)]) (by rw [fUp_n (by first | decide | omega), fUp_n (by first | decide | omega)]; exact Int.le_refl _) (fun Y y hY ha hd9 he => ?_)) (rA_0 h p1 (fun Y sl hY ha hW hd9 => ?_))
    · have u := c14_c h hY
      have uu := cR_u hY
      rw [gb_c h hY g3] at hd9
      obtain ⟨⟨r1, r2, r3, r4⟩, ⟨r5, r6, r7, r8, r9, r10, r11, r12⟩, r13, ⟨r14, r15⟩, r16⟩ := id hd9
      rw [p1] at r15
      have hcth := (r2.1.2 ((a_K A t).1.getD ba (0, 0, [])).2.1.toNat (by have := p3.1; omega)).1.2.2.2.2.1
      rw [show ((((a_K A t).1.getD ba (0, 0, [])).2.1.toNat : Nat) : Int) = ((a_K A t).1.getD ba (0, 0, [])).2.1 by have := p3.1; omega] at hcth
      replace hcth : Y 130 ((a_K A t).1.getD ba (0, 0, [])).2.1 = (tO (a_T A) ((a_K A t).1.getD ba (0, 0, [])).2.1).2.2.2.2.1 := hcth
      have hz : ∀ A9 : wS, avH_ag ((a_K A t).1.getD ba (0, 0, [])).2.1 (Y (w + 2) (((a_K A t).1.length : Int) - 1)) (Y (w + 3) (((a_K A t).1.length : Int) - 1)) Y A9 → A9 140 2 ≤ 240200 := fun A9 hav => by
        have l1 := (r2.1.2 ((a_K A t).1.getD ba (0, 0, [])).2.1.toNat (by have := p3.1; omega)).2.1.1
        rw [show ((((a_K A t).1.getD ba (0, 0, [])).2.1.toNat : Nat) : Int) = ((a_K A t).1.getD ba (0, 0, [])).2.1 by have := p3.1; omega] at l1
        replace l1 : Y 134 ((a_K A t).1.getD ba (0, 0, [])).2.1 = ((tO (a_T A) ((a_K A t).1.getD ba (0, 0, [])).2.1).2.2.2.2.2.2.length : Int) := l1
        rcases hav.2.1 with (z | z) | z
        · omega
        · omega
        · have z1 := z.2.2.1
          have z2 := z.2.2.2
          rw [z1] at z2
          split at z2 <;> omega
      have fin : ∀ V : wS, cFm w cMa Y V → V 150 1 = Y 150 1 + 1 → V 72 11 = (if Y 130 ((a_K A t).1.getD ba (0, 0, [])).2.1 = -1 then Y 72 11 else Y 72 11 + 1) → cCw (fUp (fUp (a_c A) 1 (a_c A 1 + 1)) 11 (if (tO (a_T A) ((a_K A t).1.getD ba (0, 0, [])).2.1).2.2.2.2.1 = -1 then a_c A 11 else a_c A 11 + 1)) V := fun V hF h1 h11 => by
        refine cCw_of ?_ ?_ ?_ ?_ ?_ ?_
        · rw [fUp_n (by first | decide | omega), fUp_n (by first | decide | omega), fmG hF hw 150 0 (by first | decide | omega) (fun hm => by unfold cMa at hm; omega)]; exact uu.1
        · rw [fUp_n (by first | decide | omega), fUp_s, h1]; omega
        · rw [fUp_n (by first | decide | omega), fUp_n (by first | decide | omega), fmG hF hw 150 2 (by first | decide | omega) (fun hm => by unfold cMa at hm; omega)]; exact uu.2.2.1
        · rw [fUp_n (by first | decide | omega), fUp_n (by first | decide | omega), fmG hF hw 150 3 (by first | decide | omega) (fun hm => by unfold cMa at hm; omega)]; exact uu.2.2.2.1
        · rw [fUp_n (by first | decide | omega), fUp_n (by first | decide | omega), fmG hF hw 150 4 (by first | decide | omega) (fun hm => by unfold cMa at hm; omega)]; exact uu.2.2.2.2.1
        · rw [fUp_s, h11, hcth, uu.2.2.2.2.2]
      refine wJ_E (fun hE => ?_)
      have pv := pv_w hE r1 (isWt_w hw) (i := ((a_K A t).1.length : Int) - 1) ⟨by omega, by omega⟩
      rcases hw with ⟨rfl, rfl⟩ | ⟨rfl, rfl⟩
      · refine wJ_mono (asm_215 (d := d + 83) (nm := nm) hx1 r1 r2 hY.2.2.1.2.1 r3 r5 r6 r7 r8 r9 r10 r13 r14 r15 (he.1.2.2.2.1.trans hix) he.1.2.2.2.2 r16 p3.1 hsz hkd ⟨by omega, by omega⟩ pv ⟨by omega, by omega⟩ (by omega) (by omega) hz) (fun o V hz => ⟨hz.1, ?_⟩)
        rcases hz.2 with z | ⟨z1, z2, z3, z4, z5, z6, z7, z8, z9⟩
        · omega
        · rw [uu.2.2.2.2.2] at z4 z5
          exact ⟨z2, z3, z6, z4, z5, z9 hY.2.2.1.2.2, fin V z6 z7 z8⟩
      · refine wJ_mono (asm_226 (d := d + 83) (nm := nm) hx1 r1 r2 hY.2.2.1.2.1 r3 r5 r6 r7 r8 r9 r10 r13 r14 r15 (he.1.2.2.2.1.trans hix) he.1.2.2.2.2 r16 p3.1 hsz hkd ⟨by omega, by omega⟩ pv ⟨by omega, by omega⟩ (by omega) (by omega) hz) (fun o V hz => ⟨hz.1, ?_⟩)
        rcases hz.2 with z | ⟨z1, z2, z3, z4, z5, z6, z7, z8, z9⟩
        · omega
        · rw [uu.2.2.2.2.2] at z4 z5
          exact ⟨z2, z3, z6, z4, z5, z9 hY.2.2.1.2.2, fin V z6 z7 z8⟩
    · have u := rR_u hY
      rw [gb_r h hY g3, p1] at hd9
      obtain ⟨⟨r1, r2, r3, r4⟩, r5, ⟨r6, r7, r8⟩, ⟨r9, r10, r11, r12, r13⟩, r14, r15, r16, r17⟩ := hd9
      obtain ⟨g1, g2, g4, g5⟩ := s_4 h hY
      refine wJ_E (fun hE => ?_)
      have pv := pv_r (t := t) (K := a_K A t) hE hY.1.1 (wt_t hw) (i := ((a_K A t).1.length : Int) - 1) ⟨by omega, by omega⟩
      rw [show 2100 * t + (((a_K A t).1.length : Int) - 1) = 2100 * t + ((a_K A t).1.length : Int) - 1 by omega] at pv
      refine wJ_mono (rsm (d := d + 81) (s := s) (nm := nm) r1 r2 r3 r4 r5 r6 (by omega) r9 r10 r11 r12 r13 p3.1 r17 ⟨hr0.1, by omega⟩ hsz g1 hkd (by rw [hnm, g4, ha.2.2.2.2.2]) ⟨q3.1, by omega⟩ hk8 pv (by omega) (by omega)) (fun o Z hz hM => ?_)
      rcases hz with z | ⟨z1, z2, z3, z4, z5, z6, z7, z8⟩
      · omega
      · rw [u.2.2.2.2.2.1] at z4
        refine rQ_W (rk := rMa ((a_K A t).1.getD ba (0, 0, [])).2.1) h (fun j x hm => by unfold rMa at hm; unfold rWd9; omega) (fun i i0 i1 => by rw [fUp_n (by omega), fUp_n (by omega)]) hY hM ⟨z2, z3, z5, ⟨_, z4⟩, rR_H (A := A) hY.1 z5 (fun j x hj hm => by unfold rMa at hm; omega), rCw_of ?_ ?_ ?_ ?_ ?_ ?_ ?_⟩
        · rw [fUp_n (by first | decide | omega), fUp_n (by first | decide | omega), tmG z5 237 62 (by unfold rKp; omega) (fun hm => by unfold rMa at hm; omega)]; exact u.1
        · rw [fUp_n (by first | decide | omega), fUp_s, z6]; omega
        · rw [fUp_n (by first | decide | omega), fUp_n (by first | decide | omega), tmG z5 237 64 (by unfold rKp; omega) (fun hm => by unfold rMa at hm; omega)]; exact u.2.2.1
        · rw [fUp_n (by first | decide | omega), fUp_n (by first | decide | omega), tmG z5 237 65 (by unfold rKp; omega) (fun hm => by unfold rMa at hm; omega)]; exact u.2.2.2.1
        · rw [fUp_n (by first | decide | omega), fUp_n (by first | decide | omega), tmG z5 237 66 (by unfold rKp; omega) (fun hm => by unfold rMa at hm; omega)]; exact u.2.2.2.2.1
        · rw [fUp_s, z8, u.2.2.2.2.2.1]
        · have e94 := tmG z5 237 94 (by unfold rKp; omega) (fun hm => by unfold rMa at hm; omega)
          have := u.2.2.2.2.2.2
          omega
  · refine aO_X (c := 99) h (cA_X (ml := [w + 2, w + 3, 141, 142]) h (by rcases hw with ⟨rfl, rfl⟩ | ⟨rfl, rfl⟩ <;> decide) (fun Y y hY ha hd9 he => ?_)) (rA_0 h p1 (fun Y sl hY ha hW hd9 => ?_))
    · have u := c14_c h hY
      have uu := cR_u hY
      rw [gb_c h hY g3] at hd9
      obtain ⟨⟨r1, r2, r3, r4⟩, ⟨r5, r6, r7, r8, r9, r10, r11, r12⟩, r13, ⟨r14, r15⟩, r16⟩ := id hd9
      rw [p1] at r15
      have hcth := (r2.1.2 ((a_K A t).1.getD ba (0, 0, [])).2.1.toNat (by have := p3.1; omega)).1.2.2.2.2.1
      rw [show ((((a_K A t).1.getD ba (0, 0, [])).2.1.toNat : Nat) : Int) = ((a_K A t).1.getD ba (0, 0, [])).2.1 by have := p3.1; omega] at hcth
      replace hcth : Y 130 ((a_K A t).1.getD ba (0, 0, [])).2.1 = (tO (a_T A) ((a_K A t).1.getD ba (0, 0, [])).2.1).2.2.2.2.1 := hcth
      have hz : ∀ A9 : wS, avH_ag ((a_K A t).1.getD ba (0, 0, [])).2.1 (Y (w + 2) (((a_K A t).1.length : Int) - 1)) (Y (w + 3) (((a_K A t).1.length : Int) - 1)) Y A9 → A9 140 2 ≤ 240200 := fun A9 hav => by
        have l1 := (r2.1.2 ((a_K A t).1.getD ba (0, 0, [])).2.1.toNat (by have := p3.1; omega)).2.1.1
        rw [show ((((a_K A t).1.getD ba (0, 0, [])).2.1.toNat : Nat) : Int) = ((a_K A t).1.getD ba (0, 0, [])).2.1 by have := p3.1; omega] at l1
        replace l1 : Y 134 ((a_K A t).1.getD ba (0, 0, [])).2.1 = ((tO (a_T A) ((a_K A t).1.getD ba (0, 0, [])).2.1).2.2.2.2.2.2.length : Int) := l1
        rcases hav.2.1 with (z | z) | z
        · omega
        · omega
        · have z1 := z.2.2.1
          have z2 := z.2.2.2
          rw [z1] at z2
          split at z2 <;> omega
      refine wJ_E (fun hE => ?_)
      have pv := pv_w hE r1 (isWt_w hw) (i := ((a_K A t).1.length : Int) - 1) ⟨by omega, by omega⟩
      rcases hw with ⟨rfl, rfl⟩ | ⟨rfl, rfl⟩
      · refine wJ_mono (asm_215 (d := d + 83) (nm := nm) hx1 r1 r2 hY.2.2.1.2.1 r3 r5 r6 r7 r8 r9 r10 r13 r14 r15 (he.1.2.2.2.1.trans hix) he.1.2.2.2.2 r16 p3.1 hsz hkd ⟨by omega, by omega⟩ pv ⟨by omega, by omega⟩ (by omega) (by omega) hz) (fun o V hz => ⟨hz.1, ?_⟩)
        rcases hz.2 with z | z
        · exact z.2
        · have := z.1
          omega
      · refine wJ_mono (asm_226 (d := d + 83) (nm := nm) hx1 r1 r2 hY.2.2.1.2.1 r3 r5 r6 r7 r8 r9 r10 r13 r14 r15 (he.1.2.2.2.1.trans hix) he.1.2.2.2.2 r16 p3.1 hsz hkd ⟨by omega, by omega⟩ pv ⟨by omega, by omega⟩ (by omega) (by omega) hz) (fun o V hz => ⟨hz.1, ?_⟩)
        rcases hz.2 with z | z
        · exact z.2
        · have := z.1
          omega
    · have u := rR_u hY
      rw [gb_r h hY g3, p1] at hd9
      obtain ⟨⟨r1, r2, r3, r4⟩, r5, ⟨r6, r7, r8⟩, ⟨r9, r10, r11, r12, r13⟩, r14, r15, r16, r17⟩ := hd9
      obtain ⟨g1, g2, g4, g5⟩ := s_4 h hY
      refine wJ_E (fun hE => ?_)
      have pv := pv_r (t := t) (K := a_K A t) hE hY.1.1 (wt_t hw) (i := ((a_K A t).1.length : Int) - 1) ⟨by omega, by omega⟩
      rw [show 2100 * t + (((a_K A t).1.length : Int) - 1) = 2100 * t + ((a_K A t).1.length : Int) - 1 by omega] at pv
      refine wJ_mono (rsm (d := d + 81) (s := s) (nm := nm) r1 r2 r3 r4 r5 r6 (by omega) r9 r10 r11 r12 r13 p3.1 r17 ⟨hr0.1, by omega⟩ hsz g1 hkd (by rw [hnm, g4, ha.2.2.2.2.2]) ⟨q3.1, by omega⟩ hk8 pv (by omega) (by omega)) (fun o Z hz hM => ?_)
      rcases hz with z | z
      · exact rQ_X h hY (by first | decide | omega) z.2
      · have := z.1
        omega
end Wlk
