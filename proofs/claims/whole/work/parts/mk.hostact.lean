/-! PART mk: hosts' fields are set. -/
section Wmk
variable {Sb : wS} {xs : List (Nat × List Int32)} {d : Nat} {S0 S Z : wS} {p w m : Nat} {HT : Int → Int} {cs : List hCR} {ms : List hMR} {os : Int → List Int} {X : List (List Int)} {mo t n B B2 oq : Int} {fa : Int → Int} {WE : aA → Prop} {A A2 : aA} {K2 : aK} {ml : List Nat} {k c s kd nms ne ec bh nm en : Int} {b ba : Nat} {ar : List aV} {e : aE} {V Z2 Y : wS} {o : wO} {dn : Int} {H2 : List aH} {N2 : List (List Int)} {E2 : Int → List aE} {C2 : List aQ} {W2 : Int} {c2 : Int → Int} {k2 : Int → Int → Int} {mk rk : Nat → Int → Prop} {K : aK} {T : List aO} {H : List aH} {E : Int → List aE} {gk gb es lo hi a : Int} {r : List aE × Int × Option aE} {A1 : aA} {tl cl : List Int} {sl : Nat → List Int} {L : List aC} {G : Int → aV} {u : aV} {x : List Int} {T2 : List aO} {L2 : List aC} {G2 : Int → aV} {H2 : List aH} {c2 : Int → Int} {y : Int} {Q : wO → wS → Prop} {ps : List (Int × aV)} {k hd wh : Int} {f a9 pn fn md : Int} {vn m9 : Nat} {th : aV} {g : Int} {lp : List aV} {l ds fo g : Int} {mk : Nat → Int → Prop} {C2 : List aQ} {W2 : Int} {RZ : wS → Prop} {N3 : Nat} {SB : wS} {r r0 : Int} {sh : Int} {K9 : aK} {nt : Int} {R2 : List Int} {S2 : Int → aV} {wh en9 : Int}
theorem clO_c {T : List aO} {v : aV} (h : vG T n v) (hn : n = (cs.length : Int)) : 0 ≤ clO T v ∧ clO T v < 9 + (cs.length : Int) := by
  have h7 := h.2.1
  have h8 := h.1.2.2.2.1
  unfold clO
  by_cases c0 : v.1 = 0
  · rw [if_pos c0]; omega
  · rw [if_neg c0]
    by_cases c1 : v.1 = 1
    · rw [if_pos c1]; omega
    · rw [if_neg c1]
      by_cases c2 : v.1 = 2
      · rw [if_pos c2]; split <;> omega
      · rw [if_neg c2]
        by_cases c3 : v.1 = 3
        · rw [if_pos c3]; omega
        · rw [if_neg c3]
          by_cases c7 : v.1 = 7
          · rw [if_pos c7]
            have := h7 c7
            have := h8 c7
            omega
          · rw [if_neg c7]; omega
/-- a site that writes: one value, on top -/
theorem set_1 (h : hyA S0 p HT cs ms os X fa n B2 w t A s kd nms ne ec bh ba ar) (hkd : kd = 1) : ec = 1 ∧ bh = 1 ∧ ba + 2 = (a_K A t).1.length ∧ esV (ar.map (clO (a_T A))) = clO (a_T A) ((a_K A t).1.getD ((a_K A t).1.length - 1) (0, 0, [])) := by
  have z := h.2.2.2.2.1.2.1
  have z1 := z.2.1.1
  have z2 := z.2.1.2
  rw [if_pos hkd] at z1
  rw [if_neg (by omega), if_neg (by omega)] at z2
  have z3 := z.2.2.1.1
  have z4 := z.2.2.2.1
  have hb : ba + 2 = (a_K A t).1.length := by omega
  refine ⟨z1, by omega, hb, ?_⟩
  have e1 : ar.length = 1 := by omega
  obtain ⟨a, rfl⟩ := List.length_eq_one_iff.mp e1
  have z5 := z.2.2.2.2 0 (by rw [e1]; decide)
  rw [show (a_K A t).1.length - 1 = ba + 1 + 0 by omega, z5]
  show clO (a_T A) a + 128 * 0 = clO (a_T A) a
  omega
theorem ao_hs (h : hyA S0 p HT cs ms os X fa n B2 w t A s kd nms ne ec bh ba ar) {b9 : Nat} (hH : stHo S0 p b9 HT nt cs ms os n) (hC9 : stHc S0 p HT cs ms os) (e12 : e.1 = 1 ∨ e.1 = 2) (hkd : kd = 1) (hsf : isSf ms e.2.2.2.2.1) (hes : es = clO (a_T A) ((a_K A t).1.getD ((a_K A t).1.length - 1) (0, 0, []))) : aOut xs d S0 p HT cs ms os X mo fa n B2 w t A s kd nms ec bh ba nm en es e := by
  obtain ⟨⟨hp, hw, hx⟩, hA, hB, ⟨hr, ho⟩, hsi, hme⟩ := id h
  have hwH := hH.2.2.2.2.2.2.2.1
  have hn := hH.2.2.2.1.2.2
  obtain ⟨s1, s2, s3, s4⟩ := set_1 h hkd
  have hu := (set_G h (Or.inl s2)).1
  have hcl := clO_c hu hn
  have hty := (hwH.2.2.2 _ hsf.1.1 hsf.1.2).1.2.2.2
  have hvu : vOk (a_T A) ((a_K A t).1.getD ((a_K A t).1.length - 1) (0, 0, [])) ∧ (((a_K A t).1.getD ((a_K A t).1.length - 1) (0, 0, [])).1 = 7 → (tO (a_T A) ((a_K A t).1.getD ((a_K A t).1.length - 1) (0, 0, [])).2.1).2.2.1 < (cs.length : Int)) := ⟨hu.1, fun z => by have := hu.2.1 z; omega⟩
  subst hes
  by_cases hg : gTB cs (clO (a_T A) ((a_K A t).1.getD ((a_K A t).1.length - 1) (0, 0, []))) (hmR ms e.2.2.2.2.1).2.2.2.1 true = true
  · refine aO_B (K2 := kP (a_K A t) ((a_K A t).1.length - ba) ((a_K A t).1.getD ((a_K A t).1.length - 1) (0, 0, []))) (R2 := a_R A) (S2 := sfU (a_S A) e.2.2.2.2.1 ((a_K A t).1.getD ((a_K A t).1.length - 1) (0, 0, []))) h (wf_Bt hA hw (tyv_A h) (kv_P (wV_of hA hw) hu) fLe_P (fun m hm => ?_)) (cA_B (ml := [w + 2, w + 3]) (mk := cMf (p + 44)) h (by rcases hw with ⟨rfl, rfl⟩ | ⟨rfl, rfl⟩ <;> decide) (fun j x hm => by unfold cMf at hm; unfold mB9; omega) (fun Y y hY ha hd9 he => ?_)) (rA_1 h e12 (fun {Sb} Y sl hY ha hW hd9 => ?_))
    · unfold sfU
      by_cases c9 : m = e.2.2.2.2.1
      · rw [if_pos c9]
        exact hu
      · rw [if_neg c9]
        exact hA.2.2.1.2.2.2.2 m hm
    · have hKC := (hkc_c hp hC9 hY).1
      have h72 := (ho_c hH hY).1
      have hst := hY.2.2.2.2.2.2.1.2
      have htr := hY.2.2.2.2.2.1.2
      have fin : ∀ V : wS, cFm w (cMf (p + 44)) Y V → cTrc V (a_R A) := fun V hF => cTrc_ag htr (fun x => fmG hF hw 152 x (by first | decide | omega) (fun hm => by unfold cMf at hm; omega)) (fmG hF hw 72 15 (by first | decide | omega) (fun hm => by unfold cMf at hm; omega))
      rcases hp with rfl | rfl
      · rcases hw with ⟨rfl, rfl⟩ | ⟨rfl, rfl⟩
        · refine wJ_mono (ahs_73_215 (d := d + 82) hd9 hKC h72 e12 he.1.2.2.2.1 hwH hsf hst hcl hty hkd) (fun o V hz => ⟨hz.1, ?_⟩); rcases hz.2 with z | z; (exact ⟨z.2.1, z.2.2.1, z.2.2.2.2, fin V z.2.2.2.2, z.2.2.2.1⟩); (exact absurd (z.1.symm.trans hg) (by first | decide | omega))
        · refine wJ_mono (ahs_73_226 (d := d + 82) hd9 hKC h72 e12 he.1.2.2.2.1 hwH hsf hst hcl hty hkd) (fun o V hz => ⟨hz.1, ?_⟩); rcases hz.2 with z | z; (exact ⟨z.2.1, z.2.2.1, z.2.2.2.2, fin V z.2.2.2.2, z.2.2.2.1⟩); (exact absurd (z.1.symm.trans hg) (by first | decide | omega))
      · rcases hw with ⟨rfl, rfl⟩ | ⟨rfl, rfl⟩
        · refine wJ_mono (ahs_162_215 (d := d + 82) hd9 hKC h72 e12 he.1.2.2.2.1 hwH hsf hst hcl hty hkd) (fun o V hz => ⟨hz.1, ?_⟩); rcases hz.2 with z | z; (exact ⟨z.2.1, z.2.2.1, z.2.2.2.2, fin V z.2.2.2.2, z.2.2.2.1⟩); (exact absurd (z.1.symm.trans hg) (by first | decide | omega))
        · refine wJ_mono (ahs_162_226 (d := d + 82) hd9 hKC h72 e12 he.1.2.2.2.1 hwH hsf hst hcl hty hkd) (fun o V hz => ⟨hz.1, ?_⟩); rcases hz.2 with z | z; (exact ⟨z.2.1, z.2.2.1, z.2.2.2.2, fin V z.2.2.2.2, z.2.2.2.1⟩); (exact absurd (z.1.symm.trans hg) (by first | decide | omega))
    · have hKR := ho_r hH hY
      have hst := hY.1.2.2.2.2.2.2.1.2
      have htr := hY.1.2.2.2.2.2.1.2
      have go : ∀ (o : wO) (Z : wS), ((gTB cs (clO (a_T A) ((a_K A t).1.getD ((a_K A t).1.length - 1) (0, 0, []))) (hmR ms e.2.2.2.2.1).2.2.2.1 true = true ∧ o = .inl none ∧ rTk t Z (kP (a_K A t) ((a_K A t).1.length - ba) ((a_K A t).1.getD ((a_K A t).1.length - 1) (0, 0, []))) ∧ rWd Z sl (a_T A) (a_L A) (a_G A) ∧ rTm t (rMg e.2.2.2.2.1) Y Z ∧ rStc ms (sfU (a_S A) e.2.2.2.2.1 ((a_K A t).1.getD ((a_K A t).1.length - 1) (0, 0, []))) Z) ∨ (gTB cs (clO (a_T A) ((a_K A t).1.getD ((a_K A t).1.length - 1) (0, 0, []))) (hmR ms e.2.2.2.2.1).2.2.2.1 true = false ∧ o = .inr 238 ∧ hZ 7 Y = Z)) → w_ML Z → rOc S0 Sb HT cs ms os X mo t 0 (u_B A t (kP (a_K A t) ((a_K A t).1.length - ba) ((a_K A t).1.getD ((a_K A t).1.length - 1) (0, 0, []))) (a_R A) (sfU (a_S A) e.2.2.2.2.1 ((a_K A t).1.getD ((a_K A t).1.length - 1) (0, 0, [])))) o Z := fun o Z hz hM => by
        rcases hz with z | z
        · exact rQ_B (rk := rMg e.2.2.2.2.1) h (fun j x hm => by unfold rMg at hm; unfold rB9; omega) hY hM ⟨z.2.1, z.2.2.1, z.2.2.2.2.1, rTrc_ag htr (fun x => tmG z.2.2.2.2.1 343 x (by unfold rKp; omega) (fun hm => by unfold rMg at hm; omega)) (tmG z.2.2.2.2.1 237 106 (by unfold rKp; omega) (fun hm => by unfold rMg at hm; omega)), z.2.2.2.2.2⟩
        · exact absurd (z.1.symm.trans hg) (by first | decide | omega)
      rcases hH.1 with ⟨q1, q2⟩ | ⟨q1, q2⟩
      · rw [q2] at hKR
        exact wJ_mono (rhsT_241 (d := d + 85) hd9 hKR hwH hsf hst s3 hvu hkd) go
      · rw [q2] at hKR
        exact wJ_mono (rhsT_261 (d := d + 85) hd9 hKR hwH hsf hst s3 hvu hkd) go
  · have hgf : gTB cs (clO (a_T A) ((a_K A t).1.getD ((a_K A t).1.length - 1) (0, 0, []))) (hmR ms e.2.2.2.2.1).2.2.2.1 true = false := by
      cases hq : gTB cs (clO (a_T A) ((a_K A t).1.getD ((a_K A t).1.length - 1) (0, 0, []))) (hmR ms e.2.2.2.2.1).2.2.2.1 true
      · rfl
      · exact absurd hq hg
    refine aO_X (c := 7) h (cA_X (ml := [w + 2, w + 3]) h (by rcases hw with ⟨rfl, rfl⟩ | ⟨rfl, rfl⟩ <;> decide) (fun Y y hY ha hd9 he => ?_)) (rA_1 h e12 (fun {Sb} Y sl hY ha hW hd9 => ?_))
    · have hKC := (hkc_c hp hC9 hY).1
      have h72 := (ho_c hH hY).1
      have hst := hY.2.2.2.2.2.2.1.2
      rcases hp with rfl | rfl
      · rcases hw with ⟨rfl, rfl⟩ | ⟨rfl, rfl⟩
        · refine wJ_mono (ahs_73_215 (d := d + 82) hd9 hKC h72 e12 he.1.2.2.2.1 hwH hsf hst hcl hty hkd) (fun o V hz => ⟨hz.1, ?_⟩); rcases hz.2 with z | z; (exact absurd z.1 hg); (exact z.2)
        · refine wJ_mono (ahs_73_226 (d := d + 82) hd9 hKC h72 e12 he.1.2.2.2.1 hwH hsf hst hcl hty hkd) (fun o V hz => ⟨hz.1, ?_⟩); rcases hz.2 with z | z; (exact absurd z.1 hg); (exact z.2)
      · rcases hw with ⟨rfl, rfl⟩ | ⟨rfl, rfl⟩
        · refine wJ_mono (ahs_162_215 (d := d + 82) hd9 hKC h72 e12 he.1.2.2.2.1 hwH hsf hst hcl hty hkd) (fun o V hz => ⟨hz.1, ?_⟩); rcases hz.2 with z | z; (exact absurd z.1 hg); (exact z.2)
        · refine wJ_mono (ahs_162_226 (d := d + 82) hd9 hKC h72 e12 he.1.2.2.2.1 hwH hsf hst hcl hty hkd) (fun o V hz => ⟨hz.1, ?_⟩); rcases hz.2 with z | z; (exact absurd z.1 hg); (exact z.2)
    · have hKR := ho_r hH hY
      have hst := hY.1.2.2.2.2.2.2.1.2
      rcases hH.1 with ⟨q1, q2⟩ | ⟨q1, q2⟩
      · rw [q2] at hKR
        exact wJ_mono (rhsT_241 (d := d + 85) hd9 hKR hwH hsf hst s3 hvu hkd) (fun o Z hz hM => by rcases hz with z | z; (exact absurd z.1 hg); (exact rQ_X h hY (by first | decide | omega) z.2))
      · rw [q2] at hKR
        exact wJ_mono (rhsT_261 (d := d + 85) hd9 hKR hwH hsf hst s3 hvu hkd) (fun o Z hz hM => by rcases hz with z | z; (exact absurd z.1 hg); (exact rQ_X h hY (by first | decide | omega) z.2))

theorem ao_ht (h : hyA S0 p HT cs ms os X fa n B2 w t A s kd nms ne ec bh ba ar) {b9 : Nat} (hH : stHo S0 p b9 HT nt cs ms os n) (hC9 : stHc S0 p HT cs ms os) (e12 : e.1 = 1 ∨ e.1 = 2) (hkd : kd = 1) {fi : Int} (hI : hIn S0 p cs ms A ((a_K A t).1.getD ba (0, 0, [])) e.2.2.2.2.1 fi) (hes : es = clO (a_T A) ((a_K A t).1.getD ((a_K A t).1.length - 1) (0, 0, []))) : aOut xs d S0 p HT cs ms os X mo fa n B2 w t A s kd nms ec bh ba nm en es e := by
  obtain ⟨⟨hp, hw, hx⟩, hA, hB, ⟨hr, ho⟩, hsi, hme⟩ := id h
  have hwH := hH.2.2.2.2.2.2.2.1
  have hn := hH.2.2.2.1.2.2
  obtain ⟨s1, s2, s3, s4⟩ := set_1 h hkd
  have hu := (set_G h (Or.inl s2)).1
  have hcl := clO_c hu hn
  have hty := (hwH.2.2.2 _ hI.2.1.1.1 hI.2.1.1.2).1.2.2.2
  have hvu : vOk (a_T A) ((a_K A t).1.getD ((a_K A t).1.length - 1) (0, 0, [])) ∧ (((a_K A t).1.getD ((a_K A t).1.length - 1) (0, 0, [])).1 = 7 → (tO (a_T A) ((a_K A t).1.getD ((a_K A t).1.length - 1) (0, 0, [])).2.1).2.2.1 < (cs.length : Int)) := ⟨hu.1, fun z => by have := hu.2.1 z; omega⟩
  obtain ⟨i1, i2, i3, i4⟩ := in_r h hI
  have g3 : ((a_K A t).1.getD ba (0, 0, [])).1 ≠ 3 := by have := hI.1; omega
  have hz6 := pln_1 hA i1
  subst hes
  by_cases hg : gTB cs (clO (a_T A) ((a_K A t).1.getD ((a_K A t).1.length - 1) (0, 0, []))) (hmR ms e.2.2.2.2.1).2.2.2.1 true = true
  · have hw2 : wfA S0 fa ms n (WEs S0 HT cs ms os) B2 (u_W A t (kP (a_K A t) ((a_K A t).1.length - ba) ((a_K A t).1.getD ((a_K A t).1.length - 1) (0, 0, []))) (tSp (a_T A) ((a_K A t).1.getD ba (0, 0, [])).2.1 fi.toNat ((a_K A t).1.getD ((a_K A t).1.length - 1) (0, 0, []))) (a_L A) (a_G A) (a_H A) (a_c A)) := by
      refine wf_p (k := ((a_K A t).1.getD ba (0, 0, [])).2.1) hA WEs_w hw hB.2 (tyv_A h) (kv_P (wV_of hA hw) hu) fLe_P i1 (fun y hy => ?_) ?_ (wSh_sp hA.2.1 i1.1 i1.2 (by omega)) (eCh_sp hA.2.1 i1) ⟨⟨Int.le_refl _, by omega⟩, fun _ _ => rfl⟩
      · rcases List.mem_or_eq_of_mem_set hy with z | z
        · have hm : tO (a_T A) ((a_K A t).1.getD ba (0, 0, [])).2.1 ∈ a_T A := by
            unfold tO
            rw [List.getD_eq_getElem?_getD, List.getElem?_eq_getElem (by have := i1; omega)]
            exact List.getElem_mem _
          exact hA.2.2.1.2.1 _ hm y z
        · rw [z]
          exact hu
      · rw [List.length_set]
        exact hz6.1
    refine aO_W h hw2 (cA_W (ml := [w + 2, w + 3]) (mk := cMv) h (by rcases hw with ⟨rfl, rfl⟩ | ⟨rfl, rfl⟩ <;> decide) (fun j x hm => mw_v hm) (fun _ _ _ => rfl) (Int.le_refl _) (fun Y y hY ha hd9 he => ?_)) (rA_1 h e12 (fun {Sb} Y sl hY ha hW hd9 => ?_))
    · rw [gb_c h hY g3] at hd9
      have hKC := (hkc_c hp hC9 hY).1
      have h72 := (ho_c hH hY).1
      have hfi := (hi_c hp hY (m := e.2.2.2.2.1)).trans hI.2.2.1
      have fin : ∀ V : wS, cFm w cMv Y V → cSw V (tSp (a_T A) ((a_K A t).1.getD ba (0, 0, [])).2.1 fi.toNat ((a_K A t).1.getD ((a_K A t).1.length - 1) (0, 0, []))) (a_H A) ∧ cPo V ∧ cCw (a_c A) V := fun V hF => ⟨cSw_U hY hw hF tSp_l (fun j x hj hm => by unfold shD at hj; unfold cMv at hm; omega), cR_Po (A := A) hY hF hw (fun j x hj hm => by unfold poD at hj; unfold cMv at hm; omega), cCw_0 hY hw hF (fun j x hj hm => by unfold cMv at hm; omega)⟩
      rcases hp with rfl | rfl
      · rcases hw with ⟨rfl, rfl⟩ | ⟨rfl, rfl⟩
        · refine wJ_mono (aht_73_215 (d := d + 82) hd9 hKC h72 e12 he.1.2.2.2.1 hwH hI.2.1 hfi i1 ⟨i3.1, i3.2, i4⟩ hcl hty hkd) (fun o V hz => ⟨hz.1, ?_⟩); rcases hz.2 with z | z; (exact ⟨z.2.1, z.2.2.1, z.2.2.2.2, z.2.2.2.1, fin V z.2.2.2.2⟩); (exact absurd (z.1.symm.trans hg) (by first | decide | omega))
        · refine wJ_mono (aht_73_226 (d := d + 82) hd9 hKC h72 e12 he.1.2.2.2.1 hwH hI.2.1 hfi i1 ⟨i3.1, i3.2, i4⟩ hcl hty hkd) (fun o V hz => ⟨hz.1, ?_⟩); rcases hz.2 with z | z; (exact ⟨z.2.1, z.2.2.1, z.2.2.2.2, z.2.2.2.1, fin V z.2.2.2.2⟩); (exact absurd (z.1.symm.trans hg) (by first | decide | omega))
      · rcases hw with ⟨rfl, rfl⟩ | ⟨rfl, rfl⟩
        · refine wJ_mono (aht_162_215 (d := d + 82) hd9 hKC h72 e12 he.1.2.2.2.1 hwH hI.2.1 hfi i1 ⟨i3.1, i3.2, i4⟩ hcl hty hkd) (fun o V hz => ⟨hz.1, ?_⟩); rcases hz.2 with z | z; (exact ⟨z.2.1, z.2.2.1, z.2.2.2.2, z.2.2.2.1, fin V z.2.2.2.2⟩); (exact absurd (z.1.symm.trans hg) (by first | decide | omega))
        · refine wJ_mono (aht_162_226 (d := d + 82) hd9 hKC h72 e12 he.1.2.2.2.1 hwH hI.2.1 hfi i1 ⟨i3.1, i3.2, i4⟩ hcl hty hkd) (fun o V hz => ⟨hz.1, ?_⟩); rcases hz.2 with z | z; (exact ⟨z.2.1, z.2.2.1, z.2.2.2.2, z.2.2.2.1, fin V z.2.2.2.2⟩); (exact absurd (z.1.symm.trans hg) (by first | decide | omega))
    · rw [gb_r h hY g3] at hd9
      have hKR := ho_r hH hY
      have go : ∀ (o : wO) (Z : wS), ((gTB cs (clO (a_T A) ((a_K A t).1.getD ((a_K A t).1.length - 1) (0, 0, []))) (hmR ms e.2.2.2.2.1).2.2.2.1 true = true ∧ o = .inl none ∧ rTk t Z (kP (a_K A t) ((a_K A t).1.length - ba) ((a_K A t).1.getD ((a_K A t).1.length - 1) (0, 0, []))) ∧ rWd Z sl (tSp (a_T A) ((a_K A t).1.getD ba (0, 0, [])).2.1 fi.toNat ((a_K A t).1.getD ((a_K A t).1.length - 1) (0, 0, []))) (a_L A) (a_G A) ∧ rTm t rMv Y Z) ∨ (gTB cs (clO (a_T A) ((a_K A t).1.getD ((a_K A t).1.length - 1) (0, 0, []))) (hmR ms e.2.2.2.2.1).2.2.2.1 true = false ∧ o = .inr 238 ∧ hZ 7 Y = Z)) → w_ML Z → rOc S0 Sb HT cs ms os X mo t 0 (u_W A t (kP (a_K A t) ((a_K A t).1.length - ba) ((a_K A t).1.getD ((a_K A t).1.length - 1) (0, 0, []))) (tSp (a_T A) ((a_K A t).1.getD ba (0, 0, [])).2.1 fi.toNat ((a_K A t).1.getD ((a_K A t).1.length - 1) (0, 0, []))) (a_L A) (a_G A) (a_H A) (a_c A)) o Z := fun o Z hz hM => by
        rcases hz with z | z
        · exact rQ_W (rk := rMv) h (fun j x hm => by unfold rMv at hm; unfold rWd9; omega) (fun _ _ _ => rfl) hY hM ⟨z.2.1, z.2.2.1, z.2.2.2.2, ⟨sl, z.2.2.2.1⟩, rR_H (A := A) hY.1 z.2.2.2.2 (fun j x hj hm => by unfold rMv at hm; omega), rCw_0 hY z.2.2.2.2 (fun x hx hm => by unfold rMv at hm; omega)⟩
        · exact absurd (z.1.symm.trans hg) (by first | decide | omega)
      rcases hH.1 with ⟨q1, q2⟩ | ⟨q1, q2⟩
      · rw [q2] at hKR
        exact wJ_mono (rhjT_241 (d := d + 85) hd9 hKR hwH hI.2.1 i1 ⟨i2, rfl⟩ hI.2.2.2 i3 s3 hvu hkd) go
      · rw [q2] at hKR
        exact wJ_mono (rhjT_261 (d := d + 85) hd9 hKR hwH hI.2.1 i1 ⟨i2, rfl⟩ hI.2.2.2 i3 s3 hvu hkd) go
  · refine aO_X (c := 7) h (cA_X (ml := [w + 2, w + 3]) h (by rcases hw with ⟨rfl, rfl⟩ | ⟨rfl, rfl⟩ <;> decide) (fun Y y hY ha hd9 he => ?_)) (rA_1 h e12 (fun {Sb} Y sl hY ha hW hd9 => ?_))
    · rw [gb_c h hY g3] at hd9
      have hKC := (hkc_c hp hC9 hY).1
      have h72 := (ho_c hH hY).1
      have hfi := (hi_c hp hY (m := e.2.2.2.2.1)).trans hI.2.2.1
      rcases hp with rfl | rfl
      · rcases hw with ⟨rfl, rfl⟩ | ⟨rfl, rfl⟩
        · refine wJ_mono (aht_73_215 (d := d + 82) hd9 hKC h72 e12 he.1.2.2.2.1 hwH hI.2.1 hfi i1 ⟨i3.1, i3.2, i4⟩ hcl hty hkd) (fun o V hz => ⟨hz.1, ?_⟩); rcases hz.2 with z | z; (exact absurd z.1 hg); (exact z.2)
        · refine wJ_mono (aht_73_226 (d := d + 82) hd9 hKC h72 e12 he.1.2.2.2.1 hwH hI.2.1 hfi i1 ⟨i3.1, i3.2, i4⟩ hcl hty hkd) (fun o V hz => ⟨hz.1, ?_⟩); rcases hz.2 with z | z; (exact absurd z.1 hg); (exact z.2)
      · rcases hw with ⟨rfl, rfl⟩ | ⟨rfl, rfl⟩
        · refine wJ_mono (aht_162_215 (d := d + 82) hd9 hKC h72 e12 he.1.2.2.2.1 hwH hI.2.1 hfi i1 ⟨i3.1, i3.2, i4⟩ hcl hty hkd) (fun o V hz => ⟨hz.1, ?_⟩); rcases hz.2 with z | z; (exact absurd z.1 hg); (exact z.2)
        · refine wJ_mono (aht_162_226 (d := d + 82) hd9 hKC h72 e12 he.1.2.2.2.1 hwH hI.2.1 hfi i1 ⟨i3.1, i3.2, i4⟩ hcl hty hkd) (fun o V hz => ⟨hz.1, ?_⟩); rcases hz.2 with z | z; (exact absurd z.1 hg); (exact z.2)
    · rw [gb_r h hY g3] at hd9
      have hKR := ho_r hH hY
      rcases hH.1 with ⟨q1, q2⟩ | ⟨q1, q2⟩
      · rw [q2] at hKR
        exact wJ_mono (rhjT_241 (d := d + 85) hd9 hKR hwH hI.2.1 i1 ⟨i2, rfl⟩ hI.2.2.2 i3 s3 hvu hkd) (fun o Z hz hM => by rcases hz with z | z; (exact absurd z.1 hg); (exact rQ_X h hY (by first | decide | omega) z.2))
      · rw [q2] at hKR
        exact wJ_mono (rhjT_261 (d := d + 85) hd9 hKR hwH hI.2.1 i1 ⟨i2, rfl⟩ hI.2.2.2 i3 s3 hvu hkd) (fun o Z hz hM => by rcases hz with z | z; (exact absurd z.1 hg); (exact rQ_X h hY (by first | decide | omega) z.2))

end Wmk
