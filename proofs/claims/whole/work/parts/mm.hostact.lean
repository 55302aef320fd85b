/-! PART mm: a host's method sets an instance's field, or gives a text; a constructor makes an instance. -/
section Wmm
variable {Sb : wS} {xs : List (Nat × List Int32)} {d : Nat} {S0 S Z : wS} {p w m : Nat} {HT : Int → Int} {cs : List hCR} {ms : List hMR} {os : Int → List Int} {X : List (List Int)} {mo t n B B2 oq : Int} {fa : Int → Int} {WE : aA → Prop} {A A2 : aA} {K2 : aK} {ml : List Nat} {k c s kd nms ne ec bh nm en : Int} {b ba : Nat} {ar : List aV} {e : aE} {V Z2 Y : wS} {o : wO} {dn : Int} {H2 : List aH} {N2 : List (List Int)} {E2 : Int → List aE} {C2 : List aQ} {W2 : Int} {c2 : Int → Int} {k2 : Int → Int → Int} {mk rk : Nat → Int → Prop} {K : aK} {T : List aO} {H : List aH} {E : Int → List aE} {gk gb es lo hi a : Int} {r : List aE × Int × Option aE} {A1 : aA} {tl cl : List Int} {sl : Nat → List Int} {L : List aC} {G : Int → aV} {u : aV} {x : List Int} {T2 : List aO} {L2 : List aC} {G2 : Int → aV} {H2 : List aH} {c2 : Int → Int} {y : Int} {Q : wO → wS → Prop} {ps : List (Int × aV)} {k hd wh : Int} {f a9 pn fn md : Int} {vn m9 : Nat} {th : aV} {g : Int} {lp : List aV} {l ds fo g : Int} {mk : Nat → Int → Prop} {C2 : List aQ} {W2 : Int} {RZ : wS → Prop} {N3 : Nat} {SB : wS} {r r0 : Int} {sh : Int} {K9 : aK} {nt : Int} {R2 : List Int} {S2 : Int → aV} {wh en9 : Int}
theorem ao_M (h : hyA S0 p HT cs ms os X fa n B2 w t A s kd nms ne ec bh ba ar) (e12 : e.1 = 1 ∨ e.1 = 2) (hs : ∀ k ∈ ml, k ∈ sML) {F : Prop} {mk rk : Nat → Int → Prop} (hmk : ∀ (j : Nat) (x : Int), mk j x → mM9 j x) (hrk : ∀ (j : Nat) (x : Int), rk j x → rM9 j x) (hc2 : ∀ i : Int, 5 ≤ i → i ≠ 11 → c2 i = a_c A i) (hw2 : ¬ F → wfA S0 fa ms n (WEs S0 HT cs ms os) B2 (u_W A t (kP (a_K A t) ((a_K A t).1.length - ba) (if kd = 1 then ((a_K A t).1.getD ((a_K A t).1.length - 1) (0, 0, [])) else u)) T2 L2 G2 H2 c2)) (hc : ∀ (Y : wS) (y : Int), cRel S0 p HT cs ms os X mo A Y → cAim w s kd ec ba ((a_K A t).1.getD ba (0, 0, [])).1 nm es Y → rdC w kd ec ba ((a_K A t).1.getD ba (0, 0, [])).1 (Y (w + 3) (ba : Int)) es y e.1 (a_K A t) (a_T A) (a_L A) (a_G A) Y → cEc Y kd nms e y → wJ (pe_GA xs) wY0 (mS ml) (d + 91) t_XL_act ((pe_at t_XL_act.bl 0).getD (0, [])).2 [(0, (2, 158)), (1, (0, y))] [] Y (fun o V => o = .inl none ∧ ((F ∧ w_up Y w 16 99 = V) ∨ (¬ F ∧ cmPt w (a_K A t) ba kd u wh en9 (a_R A) mk Y V ∧ (cTx Y V ∧ cNt (a_N A) X V) ∧ (cWd V T2 L2 G2 ∧ cSw V T2 H2 ∧ cPo V) ∧ cCw c2 V ∧ cPl (pV S0) (c2 3) (a_N A) V)))) (hr : ∀ {Sb : wS} (Y : wS) (sl : Nat → List Int), rRun S0 Sb HT cs ms os X mo t A Y → rAim t (a_K A t) ba bh en Y → rWd Y sl (a_T A) (a_L A) (a_G A) → rdR t kd ba ((a_K A t).1.getD ba (0, 0, [])).1 (Y 364 (2100 * t + (ba : Int))) bh e.1 e.2.2.2.1 e.2.2.2.2.1 e.2.2.2.2.2.1 (a_K A t) (a_T A) sl (a_L A) (a_G A) Y → wJ (pe_GA xs) wY0 (fun _ => False) (d + 89) t_M_actsOnHost ((pe_at t_M_actsOnHost.bl 0).getD (0, [])).2 [(0, (2, 237)), (1, (0, kd))] [] Y (fun o V => (F ∧ o = .inr 238 ∧ ∃ B : wS, (∀ (j : Nat) (x : Int), ¬ (txM j x ∨ flM j x) → B j x = Y j x) ∧ hZ 99 B = V) ∨ (¬ F ∧ o = .inl none ∧ rmO t (a_K A t) ba kd u T2 L2 G2 wh en9 (a_R A) rk Y V ∧ rTx Y V ∧ (rTt V ∧ rTb V) ∧ rHs V H2 ∧ rCw c2 V))) : aOut xs d S0 p HT cs ms os X mo fa n B2 w t A s kd nms ec bh ba nm en es e := by
  by_cases hF : F
  · refine ao_99 h e12 hs (fun Y y hY ha hd9 he => wJ_mono (hc Y y hY ha hd9 he) (fun o V hz => ⟨hz.1, ?_⟩)) (fun Y sl hY ha hW hd9 => wJ_mono (hr Y sl hY ha hW hd9) (fun o V hz => ?_))
    · rcases hz.2 with z | z
      · exact z.2
      · exact absurd hF z.1
    · rcases hz with z | z
      · exact z.2
      · exact absurd hF z.1
  · refine aO_M (K2 := (kP (a_K A t) ((a_K A t).1.length - ba) (if kd = 1 then ((a_K A t).1.getD ((a_K A t).1.length - 1) (0, 0, [])) else u))) (R2 := a_R A ++ [wh, en9]) h (hw2 hF) (cA_M (mk := fun j x => cMh j x ∨ mk j x) h hs (fun j x hm => ?_) hc2 (fun Y y hY ha hd9 he => wJ_mono (hc Y y hY ha hd9 he) (fun o V hz => ⟨hz.1, ?_⟩))) (rA_1 h e12 (fun Y sl hY ha hW hd9 => wJ_mono (hr Y sl hY ha hW hd9) (fun o V hz hM => ?_)))
    · rcases hm with z | z
      · unfold cMh at z
        unfold mM9
        omega
      · exact hmk j x z
    · rcases hz.2 with z | z
      · exact absurd z.1 hF
      · obtain ⟨z0, ⟨z1, z2, z3, z4⟩, z5⟩ := z
        exact ⟨z1, z2, z4, z3, z5⟩
    · rcases hz with z | z
      · exact absurd z.1 hF
      · obtain ⟨z0, z1, ⟨z2, z3, z4, z5⟩, z6, z7, z8, z9⟩ := z
        refine rQ_M (rk := fun j x => rMh j x ∨ rk j x) h (fun j x hm => ?_) hc2 hY hM ⟨z1, z2, z5, z4, z6, z7, z3, z8, z9⟩
        rcases hm with q | q
        · unfold rM9
          exact Or.inr (Or.inr q)
        · exact hrk j x q
theorem if_G (h : hyA S0 p HT cs ms os X fa n B2 w t A s kd nms ne ec bh ba ar) (hu : vG (a_T A) n u) : vG (a_T A) n (if kd = 1 then ((a_K A t).1.getD ((a_K A t).1.length - 1) (0, 0, [])) else u) := by
  by_cases k1 : kd = 1
  · rw [if_pos k1]
    exact gD_G (fun x hx => (wV_of h.2.1 h.1.2.1).1 x hx) _
  · rw [if_neg k1]
    exact hu

theorem ao_mj (h : hyA S0 p HT cs ms os X fa n B2 w t A s kd nms ne ec bh ba ar) (hX : w_X xs) {b9 : Nat} (hH : stHo S0 p b9 HT nt cs ms os n) (hC9 : stHc S0 p HT cs ms os) (hF9 : stHf S0 p HT cs ms os) (e12 : e.1 = 1 ∨ e.1 = 2) (hm : (0 ≤ e.2.2.2.2.1 ∧ e.2.2.2.2.1 < (ms.length : Int)) ∧ (hmR ms e.2.2.2.2.1).2.1 = 1) {fl fi : Int} (hff : ffA HT cs ms e.2.2.2.2.1 = fl) (hI : hIn S0 p cs ms A ((a_K A t).1.getD ba (0, 0, [])) fl fi) (hpc : (hmR ms e.2.2.2.2.1).2.2.2.2.1.length = 1) (hty : (hmR ms e.2.2.2.2.1).2.2.2.1 = 0) (hec : ec = 1) (hbe : bh = ec) : aOut xs d S0 p HT cs ms os X mo fa n B2 w t A s kd nms ec bh ba nm en es e := by
  subst hbe
  have hg := ar_g h
  have hbl := (hA_ba h).2.1
  obtain ⟨⟨hp, hw, hx⟩, hA, hB, ⟨hr, ho⟩, hsi, hme⟩ := id h
  have hwH := hH.2.2.2.2.2.2.2.1
  have hv := gD_G (fun x hx => (wV_of hA hw).1 x hx) (ba + 1)
  obtain ⟨i1, i2, i3, i4⟩ := in_r h hI
  have g3 : ((a_K A t).1.getD ba (0, 0, [])).1 ≠ 3 := by have := hI.1; omega
  have hz6 := pln_1 hA i1
  have hu : vG (a_T A) n ((0, 0, []) : aV) := vG_0
  refine ao_M (ml := [w + 2, w + 3, 152]) (mk := cMv) (rk := rMv) (u := ((0, 0, []) : aV)) (wh := e.2.2.2.2.1) (en9 := bh) (F := 100000 < ((a_R A).length : Int) + 2) (T2 := (tSp (a_T A) ((a_K A t).1.getD ba (0, 0, [])).2.1 fi.toNat ((a_K A t).1.getD (ba + 1) (0, 0, [])))) (L2 := a_L A) (G2 := a_G A) (H2 := a_H A) (c2 := a_c A) h e12 (by rcases hw with ⟨rfl, rfl⟩ | ⟨rfl, rfl⟩ <;> decide) (fun j x hm => Or.inl (mw_v hm)) (fun j x hm => by unfold rMv at hm; unfold rM9 rWd9; omega) (fun _ _ _ => rfl) (fun _ => ?_) (fun Y y hY ha hd9 he => ?_) (fun Y sl hY ha hW hd9 => ?_)
  · refine wf_p (k := ((a_K A t).1.getD ba (0, 0, [])).2.1) hA WEs_w hw hB.2 (tyv_A h) (kv_P (wV_of hA hw) (if_G h hu)) fLe_P i1 (fun y hy => ?_) ?_ (wSh_sp hA.2.1 i1.1 i1.2 (by omega)) (eCh_sp hA.2.1 i1) ⟨⟨Int.le_refl _, by omega⟩, fun _ _ => rfl⟩
    · rcases List.mem_or_eq_of_mem_set hy with z | z
      · have hm : tO (a_T A) ((a_K A t).1.getD ba (0, 0, [])).2.1 ∈ a_T A := by
          unfold tO
          rw [List.getD_eq_getElem?_getD, List.getElem?_eq_getElem (by have := i1; omega)]
          exact List.getElem_mem _
        exact hA.2.2.1.2.1 _ hm y z
      · rw [z]
        exact hv
    · rw [List.length_set]
      exact hz6.1
  · rw [gb_c h hY g3] at hd9
    have hKC := (hkc_c hp hC9 hY).1
    have h72 := (ho_c hH hY).1
    have htr := hY.2.2.2.2.2.1.2
    have hmf := (hf_c hp hF9 hY hm).trans hff
    have hfi := (hi_c hp hY (m := fl)).trans hI.2.2.1
    have go : ∀ (o : wO) (V : wS), (o = .inl none ∧ ((100000 < ((a_R A).length : Int) + 2 ∧ w_up Y w 16 99 = V) ∨ (((a_R A).length : Int) + 2 ≤ 100000 ∧ cmPt w (a_K A t) ba kd (0, 0, []) e.2.2.2.2.1 bh (a_R A) cMv Y V ∧ cWd V (tSp (a_T A) ((a_K A t).1.getD ba (0, 0, [])).2.1 fi.toNat ((a_K A t).1.getD (ba + 1) (0, 0, []))) (a_L A) (a_G A)))) → (o = .inl none ∧ ((100000 < ((a_R A).length : Int) + 2 ∧ w_up Y w 16 99 = V) ∨ (¬ 100000 < ((a_R A).length : Int) + 2 ∧ cmPt w (a_K A t) ba kd (0, 0, []) e.2.2.2.2.1 bh (a_R A) cMv Y V ∧ (cTx Y V ∧ cNt (a_N A) X V) ∧ (cWd V (tSp (a_T A) ((a_K A t).1.getD ba (0, 0, [])).2.1 fi.toNat ((a_K A t).1.getD (ba + 1) (0, 0, []))) (a_L A) (a_G A) ∧ cSw V (tSp (a_T A) ((a_K A t).1.getD ba (0, 0, [])).2.1 fi.toNat ((a_K A t).1.getD (ba + 1) (0, 0, []))) (a_H A) ∧ cPo V) ∧ cCw (a_c A) V ∧ cPl (pV S0) (a_c A 3) (a_N A) V))) := fun o V hz => ⟨hz.1, by
      rcases hz.2 with z | z
      · exact Or.inl z
      · have hF := z.2.1.2.2.2
        refine Or.inr ⟨by omega, z.2.1, ⟨fr_tx hF hw (fun x hm => by unfold cMh cMv at hm; omega) (fun hm => by unfold cMh cMv at hm; omega), cR_N (A := A) hY hF hw (fun j x hj hm => by unfold cMh cMv at hm; omega)⟩, ⟨z.2.2, cSw_U hY hw hF tSp_l (fun j x hj hm => by unfold shD at hj; unfold cMh cMv at hm; omega), cR_Po (A := A) hY hF hw (fun j x hj hm => by unfold poD at hj; unfold cMh cMv at hm; omega)⟩, cCw_0 hY hw hF (fun j x hj hm => by unfold cMh cMv at hm; omega), ?_⟩
        exact cPl_ag hY.2.2.2.2.2.2.2.1.2.1.2 (fmG hF hw 2 1 (by first | decide | omega) (fun hm => by unfold cMh cMv at hm; omega)) (fmG hF hw 3 (-1) (by first | decide | omega) (fun hm => by unfold cMh cMv at hm; omega)) (fmG hF hw 2 7 (by first | decide | omega) (fun hm => by unfold cMh cMv at hm; omega)) (fmG hF hw 4 (-1) (by first | decide | omega) (fun hm => by unfold cMh cMv at hm; omega)) (Int.le_refl _) (Nat.le_refl _)⟩
    rcases hp with rfl | rfl
    · rcases hw with ⟨rfl, rfl⟩ | ⟨rfl, rfl⟩
      · exact wJ_mono (amj_73_215 (d := d + 84) hd9 hKC h72 e12 he.1.2.2.2.1 hm htr hg hmf hI.2.1 hfi i1 ⟨i3.1, i3.2, i4⟩ hpc hec) go
      · exact wJ_mono (amj_73_226 (d := d + 84) hd9 hKC h72 e12 he.1.2.2.2.1 hm htr hg hmf hI.2.1 hfi i1 ⟨i3.1, i3.2, i4⟩ hpc hec) go
    · rcases hw with ⟨rfl, rfl⟩ | ⟨rfl, rfl⟩
      · exact wJ_mono (amj_162_215 (d := d + 84) hd9 hKC h72 e12 he.1.2.2.2.1 hm htr hg hmf hI.2.1 hfi i1 ⟨i3.1, i3.2, i4⟩ hpc hec) go
      · exact wJ_mono (amj_162_226 (d := d + 84) hd9 hKC h72 e12 he.1.2.2.2.1 hm htr hg hmf hI.2.1 hfi i1 ⟨i3.1, i3.2, i4⟩ hpc hec) go
  · rw [gb_r h hY g3] at hd9
    have hKR := ho_r hH hY
    have htr := hY.1.2.2.2.2.2.1.2
    have hb1 : kd = 1 → ba + 2 = (a_K A t).1.length := fun _ => by omega
    have go : ∀ (o : wO) (V : wS), ((100000 < ((a_R A).length : Int) + 2 ∧ o = .inr 238 ∧ hZ 99 Y = V) ∨ (((a_R A).length : Int) + 2 ≤ 100000 ∧ o = .inl none ∧ rmO t (a_K A t) ba kd (0, 0, []) (tSp (a_T A) ((a_K A t).1.getD ba (0, 0, [])).2.1 fi.toNat ((a_K A t).1.getD (ba + 1) (0, 0, []))) (a_L A) (a_G A) e.2.2.2.2.1 bh (a_R A) rMv Y V)) → ((100000 < ((a_R A).length : Int) + 2 ∧ o = .inr 238 ∧ ∃ B : wS, (∀ (j : Nat) (x : Int), ¬ (txM j x ∨ flM j x) → B j x = Y j x) ∧ hZ 99 B = V) ∨ (¬ 100000 < ((a_R A).length : Int) + 2 ∧ o = .inl none ∧ rmO t (a_K A t) ba kd (0, 0, []) (tSp (a_T A) ((a_K A t).1.getD ba (0, 0, [])).2.1 fi.toNat ((a_K A t).1.getD (ba + 1) (0, 0, []))) (a_L A) (a_G A) e.2.2.2.2.1 bh (a_R A) rMv Y V ∧ rTx Y V ∧ (rTt V ∧ rTb V) ∧ rHs V (a_H A) ∧ rCw (a_c A) V)) := fun o V hz => by
      rcases hz with z | z
      · exact Or.inl ⟨z.1, z.2.1, Y, fun _ _ _ => rfl, z.2.2⟩
      · have hF := z.2.2.2.2.2
        exact Or.inr ⟨by omega, z.2.1, z.2.2, tf_tx hF (fun j x hj hm => by unfold rMh rMv at hm; omega), rR_t (A := A) hY.1 hF (fun j x hj hm => by unfold txD at hj; unfold rMh rMv at hm; omega), rR_H (A := A) hY.1 hF (fun j x hj hm => by unfold rMh rMv at hm; omega), rCw_0 hY hF (fun x hx hm => by unfold rMh rMv at hm; omega)⟩
    rcases hH.1 with ⟨q1, q2⟩ | ⟨q1, q2⟩
    · rw [q2] at hKR
      exact wJ_mono (rnj_241 (d := d + 80) hd9 hKR hwH hX hm htr hg hsi.2.1.1.1 hb1 hff hI.2.1 i1 ⟨i2, rfl⟩ hI.2.2.2 i3 hty hec) go
    · rw [q2] at hKR
      exact wJ_mono (rnj_261 (d := d + 80) hd9 hKR hwH hX hm htr hg hsi.2.1.1.1 hb1 hff hI.2.1 i1 ⟨i2, rfl⟩ hI.2.2.2 i3 hty hec) go

end Wmm
