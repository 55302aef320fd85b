/-! PART ll: acting on things: NEW of a fun. -/
section Wll
variable {xs : List (Nat × List Int32)} {d : Nat} {S0 S Z : wS} {p w m : Nat} {HT : Int → Int} {cs : List hCR} {ms : List hMR} {os : Int → List Int} {X : List (List Int)} {mo t n B B2 oq : Int} {fa : Int → Int} {WE : aA → Prop} {A A2 : aA} {K2 : aK} {ml : List Nat} {k c s kd nms ne ec bh nm en : Int} {b ba : Nat} {ar : List aV} {e : aE} {V Z2 Y : wS} {o : wO} {dn : Int} {H2 : List aH} {N2 : List (List Int)} {E2 : Int → List aE} {C2 : List aQ} {W2 : Int} {c2 : Int → Int} {k2 : Int → Int → Int} {mk rk : Nat → Int → Prop} {K : aK} {T : List aO} {H : List aH} {E : Int → List aE} {gk gb es lo hi a : Int} {r : List aE × Int × Option aE} {A1 : aA} {tl cl : List Int} {sl : Nat → List Int} {L : List aC} {G : Int → aV} {u : aV} {x : List Int} {T2 : List aO} {L2 : List aC} {G2 : Int → aV} {H2 : List aH} {c2 : Int → Int} {y : Int} {Q : wO → wS → Prop} {ps : List (Int × aV)} {k hd wh : Int} {f a9 pn fn md : Int} {vn m9 : Nat} {th : aV} {g : Int} {lp : List aV}
theorem prV_G (hA : wfA S0 fa ms n WE B A) (hk : isO (a_T A) k) (h0 : 0 ≤ aIx (a_T A) nm k) : vG (a_T A) n (prV (a_T A) nm k) := by
  have z := lIx_rg (nm := nm) (pNs (tO (a_T A) k))
  have z2 : (pNs (tO (a_T A) k)).length = (tO (a_T A) k).2.2.2.2.2.2.length := by unfold pNs; rw [List.length_map]
  have q := gvA_G (wh := aIx (a_T A) nm k) hA hk.1 (Or.inr ⟨h0, by unfold aIx at h0 ⊢; omega⟩)
  unfold gvA at q
  rw [if_neg (by omega)] at q
  exact q
theorem npA_o (hA : wfA S0 fa ms n WE B A) (hk : isO (a_T A) k) : npA (a_T A) (a_H A) nm k = -1 ∨ isO (a_T A) (npA (a_T A) (a_H A) nm k) := by
  unfold npA
  by_cases c1 : nm = -1
  · rw [if_pos c1]
    exact Or.inl rfl
  · rw [if_neg c1]
    by_cases c2 : aUp (a_T A) (a_H A) nm k = -1
    · rw [if_pos c2]
      exact Or.inl rfl
    · rw [if_neg c2]
      by_cases c3 : (prV (a_T A) nm (aUp (a_T A) (a_H A) nm k)).1 = 4 ∨ (prV (a_T A) nm (aUp (a_T A) (a_H A) nm k)).1 = 5
      · rw [if_pos c3]
        rcases aUp_rg (nm := nm) hA.2.1 hk with z | ⟨z1, z2⟩
        · exact absurd z c2
        · have z3 := lIx_rg (nm := nm) (pNs (tO (a_T A) (aUp (a_T A) (a_H A) nm k)))
          exact Or.inr (vG_o (prV_G hA z1 (by unfold aIx at z2 ⊢; omega)) c3)
      · rw [if_neg c3]
        exact Or.inl rfl
theorem u_W_2 {K1 : aK} {T1 : List aO} {L1 : List aC} {G1 : Int → aV} {H1 : List aH} {c1 : Int → Int} : u_W (u_W A t K1 T1 L1 G1 H1 c1) t K2 T2 L2 G2 H2 c2 = u_W A t K2 T2 L2 G2 H2 c2 := by
  unfold u_W
  show (fUp (fUp A.1 t K1) t K2, _) = (fUp A.1 t K2, _)
  rw [fUp_2]
/-- an object is made, and a fun called with it -/
theorem ao_new (h : hyA S0 p HT cs ms os X fa n B2 w t A s kd nms ne ec bh ba ar) (hx1 : pe_at (pe_GA xs).xs 1 = some (1, tx_1)) (h97 : pe_at (pe_GA xs).xs 97 = some (3, tx_97)) (hq9 : stQ S0) (hP : aP0 (a_T A) (a_H A) ((a_N A).length : Int) kd nm ((a_K A t).1.getD ba (0, 0, [])).1 ((a_K A t).1.getD ba (0, 0, [])).2.1 e) (hkd : kd = 6) : aOut xs d S0 p HT cs ms os X mo fa n B2 w t A s kd nms ec bh ba nm en es e := by
  obtain ⟨⟨hp, hw, hx⟩, hA, hB, ⟨hr, ho⟩, hsi, hme⟩ := id h
  obtain ⟨⟨p1, p2, p3, p4⟩, p5, -, p6⟩ := hP
  have g3 : ((a_K A t).1.getD ba (0, 0, [])).1 ≠ 3 := by omega
  have hb := hA_ba h
  have hbe : bh = ((a_K A t).1.length : Int) - (ba : Int) - 1 ∧ bh ≤ 100 := by
    refine ⟨by omega, ?_⟩
    rw [← hme]
    have := hsi.2.1.1
    unfold mes
    repeat' split
    all_goals omega
  have hT0 : 0 < (a_T A).length := by have := p3.1; omega
  have g5 := (p6 (by omega)).1
  have hfn : (0 ≤ ((a_K A t).1.getD ba (0, 0, [])).2.1 ∧ ((a_K A t).1.getD ba (0, 0, [])).2.1 < ((a_T A).length : Int)) ∧ (tO (a_T A) ((a_K A t).1.getD ba (0, 0, [])).2.1).1 = 5 := ⟨p3.1, p4.trans g5⟩
  obtain ⟨f1, f2, f3, f4⟩ := fn_of (X := X) (HT := HT) (mo := mo) h hq9 hfn
  have hKl := (wT_of hA hw).1.2
  have hct := hA.2.2.2.2.1
  have hN4 := hA.2.2.2.2.2.1.1.1
  obtain ⟨n1, n2, n3, n4⟩ := wN_b hA
  have hixr := ixL_rr (N := a_N A) (x := wpro)
  have hpo : ∀ k : Int, isO (a_T A) k → 0 ≤ aIx (a_T A) (ixL (a_N A) wpro) k → (prV (a_T A) (ixL (a_N A) wpro) k).1 = 4 ∨ (prV (a_T A) (ixL (a_N A) wpro) k).1 = 5 → isO (a_T A) (prV (a_T A) (ixL (a_N A) wpro) k).2.1 := fun k hk h0 hv => vG_o (prV_G hA hk h0) hv
  have hpv : ∀ k : Int, isO (a_T A) k → 0 ≤ aIx (a_T A) (ixL (a_N A) wpro) k → 0 ≤ (prV (a_T A) (ixL (a_N A) wpro) k).1 ∧ (prV (a_T A) (ixL (a_N A) wpro) k).1 ≤ 8 := fun k hk h0 => (prV_G hA hk h0).1.1
  have hqo := npA_o (nm := (ixL (a_N A) wpro)) hA p3
  by_cases hF : (a_K A t).2.1.length = 200
  · refine aO_X (c := 11) h (cA_X (ml := [w + 2, w + 3, 127, 128, 129, 130, 131, 132, 133, 134, 135, 136, 141, 142, 138, 139, 144, 145, 146, 147, 148]) h (by rcases hw with ⟨rfl, rfl⟩ | ⟨rfl, rfl⟩ <;> decide) (fun Y y hY ha hd9 he => ?_)) (rA_0 h p1 (fun Y sl hY ha hW hd9 => ?_))
    · have u := c14_c h hY
      have uu := cR_u hY
      rw [gb_c h hY g3, p1] at hd9
      have h7 : Y 7 16 = (ixL (a_N A) wpro) := ix_no (k := 16) (x := wpro) (cR_n hY).1.1 (cR_n hY).1.2.2.1 (cR_n hY).2.1 ⟨by decide, by have := (cR_n hY).2.2.2.2; omega⟩ ((cR_n hY).2.2.2.1 16 (by first | decide | omega))
      have h7l : 16 < Y 7 (-1) := by
        have z := (cR_n hY).1.2.1
        have z1 : Y 7 (-1) = Y 4 (-1) := z.2.2.2.1
        have z2 : 64 ≤ Y 4 (-1) := z.2.2.2.2.2.1
        omega
      rcases hw with ⟨rfl, rfl⟩ | ⟨rfl, rfl⟩
      · exact wJ_mono (anN_215 (d := d + 81) (nm := (ixL (a_N A) wpro)) hx1 hd9 hkd hY.2.2.1.2.1 hA.2.1 p3 (f2 Y hY) ⟨u.2.1.1, u.2.1.2.1⟩ ⟨u.2.2.1.1, u.2.2.1.2.1⟩ (by rw [uu.2.2.2.2.1]; exact n4) u.1 u.2.2.2 h7 h7l (by omega) hpo) (fun o V hz => ⟨hz.1, by rcases hz.2 with z | z | z; exact z.2; (have := z.1; omega); (have := z.1; omega)⟩)
      · exact wJ_mono (anN_226 (d := d + 81) (nm := (ixL (a_N A) wpro)) hx1 hd9 hkd hY.2.2.1.2.1 hA.2.1 p3 (f2 Y hY) ⟨u.2.1.1, u.2.1.2.1⟩ ⟨u.2.2.1.1, u.2.2.1.2.1⟩ (by rw [uu.2.2.2.2.1]; exact n4) u.1 u.2.2.2 h7 h7l (by omega) hpo) (fun o V hz => ⟨hz.1, by rcases hz.2 with z | z | z; exact z.2; (have := z.1; omega); (have := z.1; omega)⟩)
    · have u := rR_u hY
      rw [gb_r h hY g3, p1] at hd9
      exact wJ_mono (rnwT (d := d + 80) (s := s) (N := a_N A) (nm := (ixL (a_N A) wpro)) h97 hd9 hkd hY.1.2.2.1.2 hA.2.1 hY.1.2.2.2.1.1 rfl p3 hpo hpv hbe.1 hbe.2 (f3 Y hY) (rCn_of h hY (Or.inr trivial) hT0).1 (by have := hct.1; omega) (by rw [u.2.2.2.2.1]; exact n4)) (fun o Z hz hM => rQ_X h hY (by first | decide | omega) (by rcases hz with z | z | z; exact z.2; (have := z.1; omega); (have := z.1; omega)))
  · by_cases hm : (a_c A 0 + 2 ≤ 8000 ∧ a_c A 1 + ((S0 296 (tO (a_T A) ((a_K A t).1.getD ba (0, 0, [])).2.1).2.2.1).toNat : Int) ≤ 60000) ∧ ¬ ((npA (a_T A) (a_H A) (ixL (a_N A) wpro) ((a_K A t).1.getD ba (0, 0, [])).2.1) ≠ -1 ∧ aFs (-1) (npA (a_T A) (a_H A) (ixL (a_N A) wpro) ((a_K A t).1.getD ba (0, 0, [])).2.1) (-1) (a_H A) 0 = -1 ∧ 4000 ≤ a_c A 4)
    · have hdd : (if (npA (a_T A) (a_H A) (ixL (a_N A) wpro) ((a_K A t).1.getD ba (0, 0, [])).2.1) ≠ -1 ∧ aFs (-1) (npA (a_T A) (a_H A) (ixL (a_N A) wpro) ((a_K A t).1.getD ba (0, 0, [])).2.1) (-1) (a_H A) 0 = -1 then 1 else 0 : Int) = (((aBr (a_T A) (a_H A) (npA (a_T A) (a_H A) (ixL (a_N A) wpro) ((a_K A t).1.getD ba (0, 0, [])).2.1)).2.1.length : Int) - ((a_H A).length : Int)) ∧ a_c A 4 + (if (npA (a_T A) (a_H A) (ixL (a_N A) wpro) ((a_K A t).1.getD ba (0, 0, [])).2.1) ≠ -1 ∧ aFs (-1) (npA (a_T A) (a_H A) (ixL (a_N A) wpro) ((a_K A t).1.getD ba (0, 0, [])).2.1) (-1) (a_H A) 0 = -1 then 1 else 0 : Int) ≤ 4000 ∧ 0 ≤ (if (npA (a_T A) (a_H A) (ixL (a_N A) wpro) ((a_K A t).1.getD ba (0, 0, [])).2.1) ≠ -1 ∧ aFs (-1) (npA (a_T A) (a_H A) (ixL (a_N A) wpro) ((a_K A t).1.getD ba (0, 0, [])).2.1) (-1) (a_H A) 0 = -1 then 1 else 0 : Int) := by
        by_cases c1 : (npA (a_T A) (a_H A) (ixL (a_N A) wpro) ((a_K A t).1.getD ba (0, 0, [])).2.1) ≠ -1 ∧ aFs (-1) (npA (a_T A) (a_H A) (ixL (a_N A) wpro) ((a_K A t).1.getD ba (0, 0, [])).2.1) (-1) (a_H A) 0 = -1
        · rw [if_pos c1]
          have c4 : a_c A 4 < 4000 := by
            by_cases c4 : a_c A 4 < 4000
            · exact c4
            · exact absurd ⟨c1.1, c1.2, by omega⟩ hm.2
          unfold aBr
          rw [if_neg c1.1, if_pos c1.2]
          show (1 : Int) = (((a_H A) ++ [_]).length : Int) - ((a_H A).length : Int) ∧ a_c A 4 + 1 ≤ 4000 ∧ (0 : Int) ≤ 1
          rw [List.length_append]
          show (1 : Int) = (((a_H A).length + 1 : Nat) : Int) - ((a_H A).length : Int) ∧ a_c A 4 + 1 ≤ 4000 ∧ (0 : Int) ≤ 1
          omega
        · rw [if_neg c1]
          have hbl : (aBr (a_T A) (a_H A) (npA (a_T A) (a_H A) (ixL (a_N A) wpro) ((a_K A t).1.getD ba (0, 0, [])).2.1)).2.1 = a_H A := by
            unfold aBr
            by_cases c2 : (npA (a_T A) (a_H A) (ixL (a_N A) wpro) ((a_K A t).1.getD ba (0, 0, [])).2.1) = -1
            · rw [if_pos c2]
            · rw [if_neg c2, if_neg (fun z => c1 ⟨c2, z⟩)]
          rw [hbl]
          omega
      have hmb : aMb (a_H A) (npA (a_T A) (a_H A) (ixL (a_N A) wpro) ((a_K A t).1.getD ba (0, 0, [])).2.1) [] = (if (npA (a_T A) (a_H A) (ixL (a_N A) wpro) ((a_K A t).1.getD ba (0, 0, [])).2.1) ≠ -1 ∧ aFs (-1) (npA (a_T A) (a_H A) (ixL (a_N A) wpro) ((a_K A t).1.getD ba (0, 0, [])).2.1) (-1) (a_H A) 0 = -1 then 1 else 0 : Int) := by
        unfold aMb
        by_cases c2 : (npA (a_T A) (a_H A) (ixL (a_N A) wpro) ((a_K A t).1.getD ba (0, 0, [])).2.1) = -1
        · rw [if_pos c2, if_neg (fun z => z.1 c2)]
          rfl
        · rw [if_neg c2]
          by_cases c3 : aFs (-1) (npA (a_T A) (a_H A) (ixL (a_N A) wpro) ((a_K A t).1.getD ba (0, 0, [])).2.1) (-1) (a_H A) 0 = -1
          · rw [if_pos c3, if_pos ⟨c2, c3⟩]
            rfl
          · rw [if_neg c3, if_neg (fun z => c3 z.2)]
            rfl
      have hbo := aBr_ok (l := []) hA.2.1 hqo (by rw [hmb]; omega)
      have hbk := brK_br hA.2.1 hqo
      have htk : tKp (a_T A) ((aBr (a_T A) (a_H A) (npA (a_T A) (a_H A) (ixL (a_N A) wpro) ((a_K A t).1.getD ba (0, 0, [])).2.1)).1 ++ [((4, (aBr (a_T A) (a_H A) (npA (a_T A) (a_H A) (ixL (a_N A) wpro) ((a_K A t).1.getD ba (0, 0, [])).2.1)).2.2, -1, -1, -1, 0, []) : aO)]) := tKp_tr (brK_t hbk) tKp_n
      have hbl : (aBr (a_T A) (a_H A) (npA (a_T A) (a_H A) (ixL (a_N A) wpro) ((a_K A t).1.getD ba (0, 0, [])).2.1)).1.length = (a_T A).length := hbk.1
      have hA1 : wfA S0 fa ms n (WEs S0 HT cs ms os) B2 (u_W A t (a_K A t) ((aBr (a_T A) (a_H A) (npA (a_T A) (a_H A) (ixL (a_N A) wpro) ((a_K A t).1.getD ba (0, 0, [])).2.1)).1 ++ [((4, (aBr (a_T A) (a_H A) (npA (a_T A) (a_H A) (ixL (a_N A) wpro) ((a_K A t).1.getD ba (0, 0, [])).2.1)).2.2, -1, -1, -1, 0, []) : aO)]) (a_L A) (a_G A) (aBr (a_T A) (a_H A) (npA (a_T A) (a_H A) (ixL (a_N A) wpro) ((a_K A t).1.getD ba (0, 0, [])).2.1)).2.1 (fUp (fUp (a_c A) 0 (a_c A 0 + 1)) 4 (a_c A 4 + (if (npA (a_T A) (a_H A) (ixL (a_N A) wpro) ((a_K A t).1.getD ba (0, 0, [])).2.1) ≠ -1 ∧ aFs (-1) (npA (a_T A) (a_H A) (ixL (a_N A) wpro) ((a_K A t).1.getD ba (0, 0, [])).2.1) (-1) (a_H A) 0 = -1 then 1 else 0 : Int)))) := wf_ob hA WEs_w hw ⟨Int.le_refl _, hB.2⟩ (wT_of hA hw) (kv_mo (wV_of hA hw) htk) fLe_r hbk hbo.1 ⟨hbo.2.1, hbo.2.2.2.1⟩ ⟨by rw [fUp_n (by first | decide | omega), fUp_s], by rw [fUp_n (by first | decide | omega), fUp_s]; omega, by rw [fUp_s, hdd.1], by rw [fUp_s]; exact hdd.2.1, fun i i0 i1 => by rw [fUp_n i1, fUp_n i0]⟩
      have eK : a_K (u_W A t (a_K A t) ((aBr (a_T A) (a_H A) (npA (a_T A) (a_H A) (ixL (a_N A) wpro) ((a_K A t).1.getD ba (0, 0, [])).2.1)).1 ++ [((4, (aBr (a_T A) (a_H A) (npA (a_T A) (a_H A) (ixL (a_N A) wpro) ((a_K A t).1.getD ba (0, 0, [])).2.1)).2.2, -1, -1, -1, 0, []) : aO)]) (a_L A) (a_G A) (aBr (a_T A) (a_H A) (npA (a_T A) (a_H A) (ixL (a_N A) wpro) ((a_K A t).1.getD ba (0, 0, [])).2.1)).2.1 (fUp (fUp (a_c A) 0 (a_c A 0 + 1)) 4 (a_c A 4 + (if (npA (a_T A) (a_H A) (ixL (a_N A) wpro) ((a_K A t).1.getD ba (0, 0, [])).2.1) ≠ -1 ∧ aFs (-1) (npA (a_T A) (a_H A) (ixL (a_N A) wpro) ((a_K A t).1.getD ba (0, 0, [])).2.1) (-1) (a_H A) 0 = -1 then 1 else 0 : Int)))) t = a_K A t := fUp_s
      have hfn2 := htk.2 ((a_K A t).1.getD ba (0, 0, [])).2.1 p3.1.1 p3.1.2
      have hlt2 : ((a_T A).length : Int) < (((aBr (a_T A) (a_H A) (npA (a_T A) (a_H A) (ixL (a_N A) wpro) ((a_K A t).1.getD ba (0, 0, [])).2.1)).1 ++ [((4, (aBr (a_T A) (a_H A) (npA (a_T A) (a_H A) (ixL (a_N A) wpro) ((a_K A t).1.getD ba (0, 0, [])).2.1)).2.2, -1, -1, -1, 0, []) : aO)]).length : Int) := by
        rw [List.length_append, hbl]
        show ((a_T A).length : Int) < (((a_T A).length + 1 : Nat) : Int)
        omega
      have hob : tO ((aBr (a_T A) (a_H A) (npA (a_T A) (a_H A) (ixL (a_N A) wpro) ((a_K A t).1.getD ba (0, 0, [])).2.1)).1 ++ [((4, (aBr (a_T A) (a_H A) (npA (a_T A) (a_H A) (ixL (a_N A) wpro) ((a_K A t).1.getD ba (0, 0, [])).2.1)).2.2, -1, -1, -1, 0, []) : aO)]) ((a_T A).length : Int) = ((4, (aBr (a_T A) (a_H A) (npA (a_T A) (a_H A) (ixL (a_N A) wpro) ((a_K A t).1.getD ba (0, 0, [])).2.1)).2.2, -1, -1, -1, 0, []) : aO) := by
        unfold tO
        exact gD_la (by rw [hbl]; omega)
      have hw3 := wf_call (m9 := esN (a_K A t) ba (S0 295 (tO (a_T A) ((a_K A t).1.getD ba (0, 0, [])).2.1).2.2.1)) (fn := ((a_K A t).1.getD ba (0, 0, [])).2.1) (f := (tO (a_T A) ((a_K A t).1.getD ba (0, 0, [])).2.1).2.2.1) (a9 := (tO (a_T A) ((a_K A t).1.getD ba (0, 0, [])).2.1).2.2.2.1) (vn := (S0 296 (tO (a_T A) ((a_K A t).1.getD ba (0, 0, [])).2.1).2.2.1).toNat) (th := (4, ((a_T A).length : Int), [])) (md := ((a_T A).length : Int)) hA1 WEs_w hx hw hB.2 (by rw [eK]; exact hr) (by rw [eK]; exact ho) (by rw [eK]; exact hsi) hme ⟨⟨p3.1.1, by have := p3.1.2; show ((a_K A t).1.getD ba (0, 0, [])).2.1 < (((aBr (a_T A) (a_H A) (npA (a_T A) (a_H A) (ixL (a_N A) wpro) ((a_K A t).1.getD ba (0, 0, [])).2.1)).1 ++ [((4, (aBr (a_T A) (a_H A) (npA (a_T A) (a_H A) (ixL (a_N A) wpro) ((a_K A t).1.getD ba (0, 0, [])).2.1)).2.2, -1, -1, -1, 0, []) : aO)]).length : Int); omega⟩, hfn2.1.trans hfn.2⟩ ⟨hfn2.2.1, hfn2.2.2⟩ f4 (by rw [eK]; omega) ⟨?_, ?_⟩ ?_ (Or.inr ⟨⟨by omega, hlt2⟩, ?_⟩)
      · rw [eK, u_W_2] at hw3
        have e0 : a_c (u_W A t (a_K A t) ((aBr (a_T A) (a_H A) (npA (a_T A) (a_H A) (ixL (a_N A) wpro) ((a_K A t).1.getD ba (0, 0, [])).2.1)).1 ++ [((4, (aBr (a_T A) (a_H A) (npA (a_T A) (a_H A) (ixL (a_N A) wpro) ((a_K A t).1.getD ba (0, 0, [])).2.1)).2.2, -1, -1, -1, 0, []) : aO)]) (a_L A) (a_G A) (aBr (a_T A) (a_H A) (npA (a_T A) (a_H A) (ixL (a_N A) wpro) ((a_K A t).1.getD ba (0, 0, [])).2.1)).2.1 (fUp (fUp (a_c A) 0 (a_c A 0 + 1)) 4 (a_c A 4 + (if (npA (a_T A) (a_H A) (ixL (a_N A) wpro) ((a_K A t).1.getD ba (0, 0, [])).2.1) ≠ -1 ∧ aFs (-1) (npA (a_T A) (a_H A) (ixL (a_N A) wpro) ((a_K A t).1.getD ba (0, 0, [])).2.1) (-1) (a_H A) 0 = -1 then 1 else 0 : Int)))) 0 + 1 = a_c A 0 + 2 := by
          show (fUp (fUp (a_c A) 0 (a_c A 0 + 1)) 4 (a_c A 4 + (if (npA (a_T A) (a_H A) (ixL (a_N A) wpro) ((a_K A t).1.getD ba (0, 0, [])).2.1) ≠ -1 ∧ aFs (-1) (npA (a_T A) (a_H A) (ixL (a_N A) wpro) ((a_K A t).1.getD ba (0, 0, [])).2.1) (-1) (a_H A) 0 = -1 then 1 else 0 : Int))) 0 + 1 = a_c A 0 + 2
          rw [fUp_n (by first | decide | omega), fUp_s]
          omega
        have e1 : a_c (u_W A t (a_K A t) ((aBr (a_T A) (a_H A) (npA (a_T A) (a_H A) (ixL (a_N A) wpro) ((a_K A t).1.getD ba (0, 0, [])).2.1)).1 ++ [((4, (aBr (a_T A) (a_H A) (npA (a_T A) (a_H A) (ixL (a_N A) wpro) ((a_K A t).1.getD ba (0, 0, [])).2.1)).2.2, -1, -1, -1, 0, []) : aO)]) (a_L A) (a_G A) (aBr (a_T A) (a_H A) (npA (a_T A) (a_H A) (ixL (a_N A) wpro) ((a_K A t).1.getD ba (0, 0, [])).2.1)).2.1 (fUp (fUp (a_c A) 0 (a_c A 0 + 1)) 4 (a_c A 4 + (if (npA (a_T A) (a_H A) (ixL (a_N A) wpro) ((a_K A t).1.getD ba (0, 0, [])).2.1) ≠ -1 ∧ aFs (-1) (npA (a_T A) (a_H A) (ixL (a_N A) wpro) ((a_K A t).1.getD ba (0, 0, [])).2.1) (-1) (a_H A) 0 = -1 then 1 else 0 : Int)))) 1 = a_c A 1 := by
          show (fUp (fUp (a_c A) 0 (a_c A 0 + 1)) 4 (a_c A 4 + (if (npA (a_T A) (a_H A) (ixL (a_N A) wpro) ((a_K A t).1.getD ba (0, 0, [])).2.1) ≠ -1 ∧ aFs (-1) (npA (a_T A) (a_H A) (ixL (a_N A) wpro) ((a_K A t).1.getD ba (0, 0, [])).2.1) (-1) (a_H A) 0 = -1 then 1 else 0 : Int))) 1 = a_c A 1
          rw [fUp_n (by first | decide | omega), fUp_n (by first | decide | omega)]
        rw [e0, e1] at hw3
        refine aO_W h hw3 (cA_W (K2 := (kCl (a_K A t) ((a_K A t).1.take ba) (((a_K A t).2.1.getD ((a_K A t).2.1.length - 1) (0, 0, 0, (0, 0, []), 0, 0, 0)).2.1 + 1) (tO (a_T A) ((a_K A t).1.getD ba (0, 0, [])).2.1).2.2.1 ((a_L A).length : Int) (4, ((a_T A).length : Int), []) ((a_T A).length : Int))) (T2 := ((aBr (a_T A) (a_H A) (npA (a_T A) (a_H A) (ixL (a_N A) wpro) ((a_K A t).1.getD ba (0, 0, [])).2.1)).1 ++ [((4, (aBr (a_T A) (a_H A) (npA (a_T A) (a_H A) (ixL (a_N A) wpro) ((a_K A t).1.getD ba (0, 0, [])).2.1)).2.2, -1, -1, -1, 0, []) : aO)])) (L2 := (a_L A ++ [((tO (a_T A) ((a_K A t).1.getD ba (0, 0, [])).2.1).2.2.2.1, aVr (a_K A t).1 ba (esN (a_K A t) ba (S0 295 (tO (a_T A) ((a_K A t).1.getD ba (0, 0, [])).2.1).2.2.1)) (S0 296 (tO (a_T A) ((a_K A t).1.getD ba (0, 0, [])).2.1).2.2.1).toNat)])) (G2 := a_G A) (H2 := (aBr (a_T A) (a_H A) (npA (a_T A) (a_H A) (ixL (a_N A) wpro) ((a_K A t).1.getD ba (0, 0, [])).2.1)).2.1) (c2 := (fUp (fUp (fUp (fUp (a_c A) 0 (a_c A 0 + 1)) 4 (a_c A 4 + (if (npA (a_T A) (a_H A) (ixL (a_N A) wpro) ((a_K A t).1.getD ba (0, 0, [])).2.1) ≠ -1 ∧ aFs (-1) (npA (a_T A) (a_H A) (ixL (a_N A) wpro) ((a_K A t).1.getD ba (0, 0, [])).2.1) (-1) (a_H A) 0 = -1 then 1 else 0 : Int))) 0 (a_c A 0 + 2)) 1 (a_c A 1 + ((S0 296 (tO (a_T A) ((a_K A t).1.getD ba (0, 0, [])).2.1).2.2.1).toNat : Int)))) (ml := [w + 2, w + 3, 127, 128, 129, 130, 131, 132, 133, 134, 135, 136, 141, 142, 138, 139, 144, 145, 146, 147, 148]) (mk := cMw) h (by rcases hw with ⟨rfl, rfl⟩ | ⟨rfl, rfl⟩ <;> decide) (fun j x hm => mw_w hm) (fun i i0 i1 => by rw [fUp_n (by omega), fUp_n (by omega), fUp_n (by omega), fUp_n (by omega)]) (by rw [fUp_n (by first | decide | omega), fUp_n (by first | decide | omega), fUp_n (by first | decide | omega), fUp_n (by first | decide | omega)]; exact Int.le_refl _) (fun Y y hY ha hd9 he => ?_)) (rA_0 h p1 (fun Y sl hY ha hW hd9 => ?_))
        · have u := c14_c h hY
          have uu := cR_u hY
          rw [gb_c h hY g3, p1] at hd9
          have h7 : Y 7 16 = (ixL (a_N A) wpro) := ix_no (k := 16) (x := wpro) (cR_n hY).1.1 (cR_n hY).1.2.2.1 (cR_n hY).2.1 ⟨by decide, by have := (cR_n hY).2.2.2.2; omega⟩ ((cR_n hY).2.2.2.1 16 (by first | decide | omega))
          have h7l : 16 < Y 7 (-1) := by
            have z := (cR_n hY).1.2.1
            have z1 : Y 7 (-1) = Y 4 (-1) := z.2.2.2.1
            have z2 : 64 ≤ Y 4 (-1) := z.2.2.2.2.2.1
            omega
          have fin : ∀ V : wS, naR w (a_K A t) (a_T A) (a_H A) (a_L A) (a_G A) ba (tO (a_T A) ((a_K A t).1.getD ba (0, 0, [])).2.1).2.2.1 (tO (a_T A) ((a_K A t).1.getD ba (0, 0, [])).2.1).2.2.2.1 (S0 296 (tO (a_T A) ((a_K A t).1.getD ba (0, 0, [])).2.1).2.2.1).toNat (S0 295 (tO (a_T A) ((a_K A t).1.getD ba (0, 0, [])).2.1).2.2.1) (npA (a_T A) (a_H A) (ixL (a_N A) wpro) ((a_K A t).1.getD ba (0, 0, [])).2.1) Y V → V w 16 = 0 ∧ cTk w V (kCl (a_K A t) ((a_K A t).1.take ba) (((a_K A t).2.1.getD ((a_K A t).2.1.length - 1) (0, 0, 0, (0, 0, []), 0, 0, 0)).2.1 + 1) (tO (a_T A) ((a_K A t).1.getD ba (0, 0, [])).2.1).2.2.1 ((a_L A).length : Int) (4, ((a_T A).length : Int), []) ((a_T A).length : Int)) ∧ cFm w cMw Y V ∧ cWd V ((aBr (a_T A) (a_H A) (npA (a_T A) (a_H A) (ixL (a_N A) wpro) ((a_K A t).1.getD ba (0, 0, [])).2.1)).1 ++ [((4, (aBr (a_T A) (a_H A) (npA (a_T A) (a_H A) (ixL (a_N A) wpro) ((a_K A t).1.getD ba (0, 0, [])).2.1)).2.2, -1, -1, -1, 0, []) : aO)]) (a_L A ++ [((tO (a_T A) ((a_K A t).1.getD ba (0, 0, [])).2.1).2.2.2.1, aVr (a_K A t).1 ba (esN (a_K A t) ba (S0 295 (tO (a_T A) ((a_K A t).1.getD ba (0, 0, [])).2.1).2.2.1)) (S0 296 (tO (a_T A) ((a_K A t).1.getD ba (0, 0, [])).2.1).2.2.1).toNat)]) (a_G A) ∧ cSw V ((aBr (a_T A) (a_H A) (npA (a_T A) (a_H A) (ixL (a_N A) wpro) ((a_K A t).1.getD ba (0, 0, [])).2.1)).1 ++ [((4, (aBr (a_T A) (a_H A) (npA (a_T A) (a_H A) (ixL (a_N A) wpro) ((a_K A t).1.getD ba (0, 0, [])).2.1)).2.2, -1, -1, -1, 0, []) : aO)]) (aBr (a_T A) (a_H A) (npA (a_T A) (a_H A) (ixL (a_N A) wpro) ((a_K A t).1.getD ba (0, 0, [])).2.1)).2.1 ∧ cPo V ∧ cCw (fUp (fUp (fUp (fUp (a_c A) 0 (a_c A 0 + 1)) 4 (a_c A 4 + (if (npA (a_T A) (a_H A) (ixL (a_N A) wpro) ((a_K A t).1.getD ba (0, 0, [])).2.1) ≠ -1 ∧ aFs (-1) (npA (a_T A) (a_H A) (ixL (a_N A) wpro) ((a_K A t).1.getD ba (0, 0, [])).2.1) (-1) (a_H A) 0 = -1 then 1 else 0 : Int))) 0 (a_c A 0 + 2)) 1 (a_c A 1 + ((S0 296 (tO (a_T A) ((a_K A t).1.getD ba (0, 0, [])).2.1).2.2.1).toNat : Int))) V := fun V hz => by
            rcases hz with z | z | ⟨-, -, z3, z4, z5, z6, z7, ⟨z8, z9, z10⟩, z11⟩
            · have := z.1
              omega
            · have z2 := z.2.1
              unfold naQ at z2
              rcases z2 with z2 | z2 | z2
              · omega
              · omega
              · exact absurd ⟨z2.1, z2.2.1, by omega⟩ hm.2
            · refine ⟨z3, z4, z7, z5, z6, z11 hY.2.2.1.2.2, cCw_of ?_ ?_ ?_ ?_ ?_ ?_⟩
              · rw [fUp_n (by first | decide | omega), fUp_s]; omega
              · rw [fUp_s]; omega
              · rw [fUp_n (by first | decide | omega), fUp_n (by first | decide | omega), fUp_n (by first | decide | omega), fUp_n (by first | decide | omega), fmG z7 hw 150 2 (by first | decide | omega) (fun hm => by unfold cMw cMb cMk cMc at hm; omega)]; exact uu.2.2.1
              · rw [fUp_n (by first | decide | omega), fUp_n (by first | decide | omega), fUp_n (by first | decide | omega), fUp_n (by first | decide | omega), fmG z7 hw 150 3 (by first | decide | omega) (fun hm => by unfold cMw cMb cMk cMc at hm; omega)]; exact uu.2.2.2.1
              · rw [fUp_n (by first | decide | omega), fUp_n (by first | decide | omega), fUp_s, z10, uu.2.2.2.2.1]
              · rw [fUp_n (by first | decide | omega), fUp_n (by first | decide | omega), fUp_n (by first | decide | omega), fUp_n (by first | decide | omega), fmG z7 hw 72 11 (by first | decide | omega) (fun hm => by unfold cMw cMb cMk cMc at hm; omega)]; exact uu.2.2.2.2.2
          rcases hw with ⟨rfl, rfl⟩ | ⟨rfl, rfl⟩
          · exact wJ_mono (anN_215 (d := d + 81) (nm := (ixL (a_N A) wpro)) hx1 hd9 hkd hY.2.2.1.2.1 hA.2.1 p3 (f2 Y hY) ⟨u.2.1.1, u.2.1.2.1⟩ ⟨u.2.2.1.1, u.2.2.1.2.1⟩ (by rw [uu.2.2.2.2.1]; exact n4) u.1 u.2.2.2 h7 h7l (by omega) hpo) (fun o V hz => ⟨hz.1, fin V hz.2⟩)
          · exact wJ_mono (anN_226 (d := d + 81) (nm := (ixL (a_N A) wpro)) hx1 hd9 hkd hY.2.2.1.2.1 hA.2.1 p3 (f2 Y hY) ⟨u.2.1.1, u.2.1.2.1⟩ ⟨u.2.2.1.1, u.2.2.1.2.1⟩ (by rw [uu.2.2.2.2.1]; exact n4) u.1 u.2.2.2 h7 h7l (by omega) hpo) (fun o V hz => ⟨hz.1, fin V hz.2⟩)
        · have u := rR_u hY
          rw [gb_r h hY g3, p1] at hd9
          refine wJ_mono (rnwT (d := d + 80) (s := s) (N := a_N A) (nm := (ixL (a_N A) wpro)) h97 hd9 hkd hY.1.2.2.1.2 hA.2.1 hY.1.2.2.2.1.1 rfl p3 hpo hpv hbe.1 hbe.2 (f3 Y hY) (rCn_of h hY (Or.inr trivial) hT0).1 (by have := hct.1; omega) (by rw [u.2.2.2.2.1]; exact n4)) (fun o Z hz hM => ?_)
          rcases hz with z | z | ⟨-, -, z1, z2, z3, z4, z5, z6, z7, z8, z9⟩
          · have := z.1
            omega
          · have z2 := z.2.1
            unfold nrQ at z2
            rcases z2 with z2 | z2 | z2
            · omega
            · omega
            · exact absurd ⟨z2.1, z2.2.1, by omega⟩ hm.2
          · refine rQ_W (K2 := (kCl (a_K A t) ((a_K A t).1.take ba) (((a_K A t).2.1.getD ((a_K A t).2.1.length - 1) (0, 0, 0, (0, 0, []), 0, 0, 0)).2.1 + 1) (tO (a_T A) ((a_K A t).1.getD ba (0, 0, [])).2.1).2.2.1 ((a_L A).length : Int) (4, ((a_T A).length : Int), []) ((a_T A).length : Int))) (T2 := ((aBr (a_T A) (a_H A) (npA (a_T A) (a_H A) (ixL (a_N A) wpro) ((a_K A t).1.getD ba (0, 0, [])).2.1)).1 ++ [((4, (aBr (a_T A) (a_H A) (npA (a_T A) (a_H A) (ixL (a_N A) wpro) ((a_K A t).1.getD ba (0, 0, [])).2.1)).2.2, -1, -1, -1, 0, []) : aO)])) (L2 := (a_L A ++ [((tO (a_T A) ((a_K A t).1.getD ba (0, 0, [])).2.1).2.2.2.1, aVr (a_K A t).1 ba (esN (a_K A t) ba (S0 295 (tO (a_T A) ((a_K A t).1.getD ba (0, 0, [])).2.1).2.2.1)) (S0 296 (tO (a_T A) ((a_K A t).1.getD ba (0, 0, [])).2.1).2.2.1).toNat)])) (G2 := a_G A) (H2 := (aBr (a_T A) (a_H A) (npA (a_T A) (a_H A) (ixL (a_N A) wpro) ((a_K A t).1.getD ba (0, 0, [])).2.1)).2.1) (c2 := (fUp (fUp (fUp (fUp (a_c A) 0 (a_c A 0 + 1)) 4 (a_c A 4 + (if (npA (a_T A) (a_H A) (ixL (a_N A) wpro) ((a_K A t).1.getD ba (0, 0, [])).2.1) ≠ -1 ∧ aFs (-1) (npA (a_T A) (a_H A) (ixL (a_N A) wpro) ((a_K A t).1.getD ba (0, 0, [])).2.1) (-1) (a_H A) 0 = -1 then 1 else 0 : Int))) 0 (a_c A 0 + 2)) 1 (a_c A 1 + ((S0 296 (tO (a_T A) ((a_K A t).1.getD ba (0, 0, [])).2.1).2.2.1).toNat : Int)))) (rk := rMw) h (fun j x hm => by unfold rMw rMb rMk rMc at hm; unfold rWd9; omega) (fun i i0 i1 => by rw [fUp_n (by omega), fUp_n (by omega), fUp_n (by omega), fUp_n (by omega)]) hY hM ⟨z1, z2, z5, ⟨_, z3⟩, z4, rCw_of ?_ ?_ ?_ ?_ ?_ ?_ ?_⟩
            · rw [fUp_n (by first | decide | omega), fUp_s]; omega
            · rw [fUp_s]; omega
            · rw [fUp_n (by first | decide | omega), fUp_n (by first | decide | omega), fUp_n (by first | decide | omega), fUp_n (by first | decide | omega), tmG z5 237 64 (by unfold rKp; omega) (fun hm => by unfold rMw rMb rMk rMc at hm; omega)]; exact u.2.2.1
            · rw [fUp_n (by first | decide | omega), fUp_n (by first | decide | omega), fUp_n (by first | decide | omega), fUp_n (by first | decide | omega), tmG z5 237 65 (by unfold rKp; omega) (fun hm => by unfold rMw rMb rMk rMc at hm; omega)]; exact u.2.2.2.1
            · rw [fUp_n (by first | decide | omega), fUp_n (by first | decide | omega), fUp_s, z9, u.2.2.2.2.1]
            · rw [fUp_n (by first | decide | omega), fUp_n (by first | decide | omega), fUp_n (by first | decide | omega), fUp_n (by first | decide | omega), tmG z5 237 81 (by unfold rKp; omega) (fun hm => by unfold rMw rMb rMk rMc at hm; omega)]; exact u.2.2.2.2.2.1
            · have e82 := tmG z5 237 82 (by unfold rKp; omega) (fun hm => by unfold rMw rMb rMk rMc at hm; omega)
              have := u.2.2.2.2.2.2
              omega
      · show (fUp (fUp (a_c A) 0 (a_c A 0 + 1)) 4 (a_c A 4 + (if (npA (a_T A) (a_H A) (ixL (a_N A) wpro) ((a_K A t).1.getD ba (0, 0, [])).2.1) ≠ -1 ∧ aFs (-1) (npA (a_T A) (a_H A) (ixL (a_N A) wpro) ((a_K A t).1.getD ba (0, 0, [])).2.1) (-1) (a_H A) 0 = -1 then 1 else 0 : Int))) 0 + 1 ≤ 8000
        rw [fUp_n (by first | decide | omega), fUp_s]
        omega
      · show (fUp (fUp (a_c A) 0 (a_c A 0 + 1)) 4 (a_c A 4 + (if (npA (a_T A) (a_H A) (ixL (a_N A) wpro) ((a_K A t).1.getD ba (0, 0, [])).2.1) ≠ -1 ∧ aFs (-1) (npA (a_T A) (a_H A) (ixL (a_N A) wpro) ((a_K A t).1.getD ba (0, 0, [])).2.1) (-1) (a_H A) 0 = -1 then 1 else 0 : Int))) 1 + ((S0 296 (tO (a_T A) ((a_K A t).1.getD ba (0, 0, [])).2.1).2.2.1).toNat : Int) ≤ 60000
        rw [fUp_n (by first | decide | omega), fUp_n (by first | decide | omega)]
        omega
      · show vG ((aBr (a_T A) (a_H A) (npA (a_T A) (a_H A) (ixL (a_N A) wpro) ((a_K A t).1.getD ba (0, 0, [])).2.1)).1 ++ [((4, (aBr (a_T A) (a_H A) (npA (a_T A) (a_H A) (ixL (a_N A) wpro) ((a_K A t).1.getD ba (0, 0, [])).2.1)).2.2, -1, -1, -1, 0, []) : aO)]) n (4, ((a_T A).length : Int), [])
        have z := vG_a (T := (aBr (a_T A) (a_H A) (npA (a_T A) (a_H A) (ixL (a_N A) wpro) ((a_K A t).1.getD ba (0, 0, [])).2.1)).1) (n := n) (o := ((4, (aBr (a_T A) (a_H A) (npA (a_T A) (a_H A) (ixL (a_N A) wpro) ((a_K A t).1.getD ba (0, 0, [])).2.1)).2.2, -1, -1, -1, 0, []) : aO)) (x := 4) (Or.inl rfl) rfl
        rw [hbl] at z
        exact z
      · show (tO ((aBr (a_T A) (a_H A) (npA (a_T A) (a_H A) (ixL (a_N A) wpro) ((a_K A t).1.getD ba (0, 0, [])).2.1)).1 ++ [((4, (aBr (a_T A) (a_H A) (npA (a_T A) (a_H A) (ixL (a_N A) wpro) ((a_K A t).1.getD ba (0, 0, [])).2.1)).2.2, -1, -1, -1, 0, []) : aO)]) ((a_T A).length : Int)).1 = 4
        rw [hob]
    · refine aO_X (c := 99) h (cA_X (ml := [w + 2, w + 3, 127, 128, 129, 130, 131, 132, 133, 134, 135, 136, 141, 142, 138, 139, 144, 145, 146, 147, 148]) h (by rcases hw with ⟨rfl, rfl⟩ | ⟨rfl, rfl⟩ <;> decide) (fun Y y hY ha hd9 he => ?_)) (rA_0 h p1 (fun Y sl hY ha hW hd9 => ?_))
      · have u := c14_c h hY
        have uu := cR_u hY
        rw [gb_c h hY g3, p1] at hd9
        have h7 : Y 7 16 = (ixL (a_N A) wpro) := ix_no (k := 16) (x := wpro) (cR_n hY).1.1 (cR_n hY).1.2.2.1 (cR_n hY).2.1 ⟨by decide, by have := (cR_n hY).2.2.2.2; omega⟩ ((cR_n hY).2.2.2.1 16 (by first | decide | omega))
        have h7l : 16 < Y 7 (-1) := by
          have z := (cR_n hY).1.2.1
          have z1 : Y 7 (-1) = Y 4 (-1) := z.2.2.2.1
          have z2 : 64 ≤ Y 4 (-1) := z.2.2.2.2.2.1
          omega
        have fin : ∀ V : wS, naR w (a_K A t) (a_T A) (a_H A) (a_L A) (a_G A) ba (tO (a_T A) ((a_K A t).1.getD ba (0, 0, [])).2.1).2.2.1 (tO (a_T A) ((a_K A t).1.getD ba (0, 0, [])).2.1).2.2.2.1 (S0 296 (tO (a_T A) ((a_K A t).1.getD ba (0, 0, [])).2.1).2.2.1).toNat (S0 295 (tO (a_T A) ((a_K A t).1.getD ba (0, 0, [])).2.1).2.2.1) (npA (a_T A) (a_H A) (ixL (a_N A) wpro) ((a_K A t).1.getD ba (0, 0, [])).2.1) Y V → w_up Y w 16 99 = V := fun V hz => by
          rcases hz with z | z | ⟨-, ⟨y1, y2, y3⟩, -⟩
          · have := z.1
            omega
          · exact z.2.2
          · refine absurd ⟨⟨by omega, by omega⟩, fun q => y3 ⟨q.1, q.2.1, ?_⟩⟩ hm
            rw [uu.2.2.2.2.1]
            exact q.2.2
        rcases hw with ⟨rfl, rfl⟩ | ⟨rfl, rfl⟩
        · exact wJ_mono (anN_215 (d := d + 81) (nm := (ixL (a_N A) wpro)) hx1 hd9 hkd hY.2.2.1.2.1 hA.2.1 p3 (f2 Y hY) ⟨u.2.1.1, u.2.1.2.1⟩ ⟨u.2.2.1.1, u.2.2.1.2.1⟩ (by rw [uu.2.2.2.2.1]; exact n4) u.1 u.2.2.2 h7 h7l (by omega) hpo) (fun o V hz => ⟨hz.1, fin V hz.2⟩)
        · exact wJ_mono (anN_226 (d := d + 81) (nm := (ixL (a_N A) wpro)) hx1 hd9 hkd hY.2.2.1.2.1 hA.2.1 p3 (f2 Y hY) ⟨u.2.1.1, u.2.1.2.1⟩ ⟨u.2.2.1.1, u.2.2.1.2.1⟩ (by rw [uu.2.2.2.2.1]; exact n4) u.1 u.2.2.2 h7 h7l (by omega) hpo) (fun o V hz => ⟨hz.1, fin V hz.2⟩)
      · have u := rR_u hY
        rw [gb_r h hY g3, p1] at hd9
        refine wJ_mono (rnwT (d := d + 80) (s := s) (N := a_N A) (nm := (ixL (a_N A) wpro)) h97 hd9 hkd hY.1.2.2.1.2 hA.2.1 hY.1.2.2.2.1.1 rfl p3 hpo hpv hbe.1 hbe.2 (f3 Y hY) (rCn_of h hY (Or.inr trivial) hT0).1 (by have := hct.1; omega) (by rw [u.2.2.2.2.1]; exact n4)) (fun o Z hz hM => ?_)
        rcases hz with z | z | ⟨-, ⟨y1, y2, y3⟩, -⟩
        · have := z.1
          omega
        · exact rQ_X h hY (by first | decide | omega) z.2.2
        · refine absurd ⟨⟨by omega, by omega⟩, fun q => y3 ⟨q.1, q.2.1, ?_⟩⟩ hm
          rw [u.2.2.2.2.1]
          exact q.2.2
end Wll
