/-! PART j0: aiming at an element of a thing, by tasks: of the class. -/
section Wj0
variable {xs : List (Nat × List Int32)} {M : Nat → Prop} {d : Nat} {S Z : wS} {K : aK} {T : List aO} {L : List aC} {G : Int → aV} {s kd ne ec bh nms : Int} {ba : Nat} {ar : List aV} {N X : List (List Int)}
theorem aiE_215 (h : stC 215 S K) (hW : cWd S T L G) (hT : (T.length : Int) ≤ 8000) (hl : cSl S) (hs : 0 ≤ s ∧ s < S 19 9) (hkd : S 35 s = kd) (hne : S 37 s = ne) (hg : siG K kd ne ec bh ba ar) (hv : ∀ v ∈ K.1, vOk T v) (hc : (kd = 2 ∨ kd = 3) ∧ ((K.1.getD ba (0, 0, [])).1 = 4 ∨ (K.1.getD ba (0, 0, [])).1 = 5)) (hk3 : (K.1.getD (ba + 1) (0, 0, [])).1 ≠ 3) : wJ (pe_GA xs) wY0 M (d + 7) t_XL_aim ((pe_at t_XL_aim.bl 0).getD (0, [])).2 [(0, (2, 158)), (1, (2, 215)), (2, (0, s))] [] (w_up S 215 16 0) (fun o Z => o = .inl none ∧ amQ 215 s kd ec (ba : Int) (K.1.getD ba (0, 0, [])).1 (S 218 (ba : Int)) (-1) (esV (ar.map (clO T))) (w_up S 215 16 0) Z) := by
  obtain ⟨⟨⟨a1, a2, a3, a4, a5, a6⟩, -⟩, ⟨hC, hI⟩, -⟩ := h
  replace a1 : S 216 2 = (K.1.length : Int) := a1
  replace a3 : (K.1.length : Int) ≤ S 217 (-1) := a3
  replace a4 : S 218 (-1) = S 217 (-1) := a4
  replace a6 : S 217 (-1) ≤ 4095 := a6
  obtain ⟨⟨g1, g2⟩, ⟨g3, g4⟩, ⟨g5, g6⟩, g7, g8⟩ := hg
  have hW0 : cWd (w_up S 215 16 0) T L G := cWd_up hW (by first | decide | omega)
  have hkc : ∀ q : Nat, q < K.1.length → cVl (w_up S 215 16 0) ((w_up S 215 16 0) 217 (q : Int)) ((w_up S 215 16 0) 218 (q : Int)) (K.1.getD q (0, 0, [])) := fun q hq => by
    have z := a2 q hq
    rw [Int.zero_add] at z
    exact cVl_mo z (cTx_of rfl (fun _ => rfl))
  have hal : (ar.map (clO T)).length = ar.length := List.length_map _
  have hbh : 1 ≤ bh := by
    rw [g4]
    by_cases c2 : kd = 2
    · rw [if_pos c2]; decide
    · rw [if_neg c2, if_pos (by omega)]; decide
  have e8 : ar.length ≤ 8 := by
    rw [g3] at g7
    split at g7 <;> omega
  have hgk : (w_up S 215 16 0) 217 (ba : Int) = (K.1.getD ba (0, 0, [])).1 := (hkc ba (by omega)).1
  have hk1 := hkc (ba + 1) (by omega)
  rw [show ((ba + 1 : Nat) : Int) = (ba : Int) + 1 by omega] at hk1
  have hesk : esOk (ar.map (clO T)) := fun c hcm => by
    obtain ⟨v, v1, v2⟩ := List.mem_map.mp hcm
    rw [← v2]
    obtain ⟨q, q1, q2⟩ := List.getElem_of_mem v1
    have z := g8 q q1
    rw [List.getD_eq_getElem?_getD (l := ar), List.getElem?_eq_getElem q1] at z
    have z2 : K.1.getD (ba + 1 + q) (0, 0, []) = v := z.trans q2
    rw [← z2]
    exact clO_rg (vOk_get hv (by omega))
  have hcls : ∀ i : Nat, i < (ar.map (clO T)).length → clS (w_up S 215 16 0) ((w_up S 215 16 0) 217 ((ba : Int) + 1 + (i : Int))) ((w_up S 215 16 0) 218 ((ba : Int) + 1 + (i : Int))) = (ar.map (clO T)).getD i 0 ∧ (0 ≤ (w_up S 215 16 0) 217 ((ba : Int) + 1 + (i : Int)) ∧ (w_up S 215 16 0) 217 ((ba : Int) + 1 + (i : Int)) ≤ 8) ∧ ((w_up S 215 16 0) 217 ((ba : Int) + 1 + (i : Int)) = 7 → 0 ≤ (w_up S 215 16 0) 218 ((ba : Int) + 1 + (i : Int)) ∧ (w_up S 215 16 0) 218 ((ba : Int) + 1 + (i : Int)) < (T.length : Int) ∧ 0 ≤ (w_up S 215 16 0) 129 ((w_up S 215 16 0) 218 ((ba : Int) + 1 + (i : Int))) ∧ (w_up S 215 16 0) 129 ((w_up S 215 16 0) 218 ((ba : Int) + 1 + (i : Int))) < 60) := fun i hi => by
    rw [hal] at hi
    have z := hkc (ba + 1 + i) (by omega)
    rw [show ((ba + 1 + i : Nat) : Int) = (ba : Int) + 1 + (i : Int) by omega, g8 i hi] at z
    have hvo : vOk T (ar.getD i (0, 0, [])) := by rw [← g8 i hi]; exact vOk_get hv (by omega)
    have hcl : (ar.map (clO T)).getD i 0 = clO T (ar.getD i (0, 0, [])) := by
      rw [List.getD_eq_getElem?_getD, List.getElem?_map, List.getD_eq_getElem?_getD, List.getElem?_eq_getElem hi]; rfl
    refine ⟨by rw [hcl]; exact clS_e z hW0.1 hvo, by rw [z.1]; exact hvo.1, fun h7 => ?_⟩
    rw [z.1] at h7
    have hb := (z.2.1 (by omega)).1
    obtain ⟨y1, y2⟩ := hvo.2.1 (by omega) (by omega)
    have y3 := hvo.2.2.2.1 h7
    rw [hb]
    obtain ⟨⟨-, -, x3, -⟩, -⟩ := hW0.1.2 (ar.getD i (0, 0, [])).2.1.toNat (by omega)
    rw [show (((ar.getD i (0, 0, [])).2.1.toNat : Nat) : Int) = (ar.getD i (0, 0, [])).2.1 by omega] at x3
    replace x3 : (w_up S 215 16 0) 129 (ar.getD i (0, 0, [])).2.1 = (tO T (ar.getD i (0, 0, [])).2.1).2.2.1 := x3
    exact ⟨y1.1, y1.2, by rw [x3]; exact y3.1, by rw [x3]; exact y3.2⟩
  have hl0 : cSl (w_up S 215 16 0) := by
    refine ⟨fun x hx => ?_, hl.2.1, fun x hx => ?_, hl.2.2.2⟩
    · rw [w_up_at (by first | decide | omega), w_up_at (by first | decide | omega)]; exact hl.1 x hx
    · rw [w_up_at (by first | decide | omega), w_up_at (by first | decide | omega)]; exact hl.2.2.1 x hx
  exact aie_215 (S0 := (w_up S 215 16 0)) (T := T) (cl := ar.map (clO T)) (kd := kd) (ec := ec) (ba := (ba : Int)) (gk := (K.1.getD ba (0, 0, [])).1) (gb := S 218 (ba : Int)) (bh := bh) (ne := ne) (h := (K.1.length : Int)) (k := (K.1.getD (ba + 1) (0, 0, [])).1) (v := S 218 ((ba : Int) + 1)) (w_CL_up hC (by first | decide | omega)) hW0.2.2.2.2.1 hT a4 a6 ⟨by omega, by show (ba : Int) + 1 + ec ≤ S 217 (-1); omega⟩ ⟨by rw [hal]; exact g7.symm, by rw [hal]; exact e8⟩ hesk hcls hl0 ⟨hs.1, by show s < S 35 (-1); have := hl.2.1; omega⟩ hkd g1 hne g2 g3 g4 a1 (by omega) ⟨by omega, a3⟩ hgk rfl hc (by show (ba : Int) + 1 < S 217 (-1); omega) hk1.1 rfl hk3
theorem aiT_215 (h : stC 215 S K) (hW : cWd S T L G) (hT : (T.length : Int) ≤ 8000) (hl : cSl S) (hs : 0 ≤ s ∧ s < S 19 9) (hkd : S 35 s = kd) (hne : S 37 s = ne) (hg : siG K kd ne ec bh ba ar) (hv : ∀ v ∈ K.1, vOk T v) (hc : (kd = 2 ∨ kd = 3) ∧ ((K.1.getD ba (0, 0, [])).1 = 4 ∨ (K.1.getD ba (0, 0, [])).1 = 5)) (hk3 : (K.1.getD (ba + 1) (0, 0, [])).1 = 3) (hnt : cNt N X (w_up S 215 16 0)) : wJ (pe_GA xs) wY0 (mS [3, 4, 5, 6, 7, 8, 9]) (d + 7) t_XL_aim ((pe_at t_XL_aim.bl 0).getD (0, [])).2 [(0, (2, 158)), (1, (2, 215)), (2, (0, s))] [] (w_up S 215 16 0) (fun o Z => o = .inl none ∧ ∃ (S1 A : wS) (r : Int), amI 215 s kd ec (ba : Int) (K.1.getD ba (0, 0, [])).1 (S 218 (ba : Int)) (esV (ar.map (clO T))) (w_up S 215 16 0) S1 ∧ enQ 215 N X (K.1.getD (ba + 1) (0, 0, [])).2.2 S1 r A ∧ w_up A 158 11 r = Z) := by
  obtain ⟨⟨⟨a1, a2, a3, a4, a5, a6⟩, -⟩, ⟨hC, hI⟩, -⟩ := h
  replace a1 : S 216 2 = (K.1.length : Int) := a1
  replace a3 : (K.1.length : Int) ≤ S 217 (-1) := a3
  replace a4 : S 218 (-1) = S 217 (-1) := a4
  replace a6 : S 217 (-1) ≤ 4095 := a6
  obtain ⟨⟨g1, g2⟩, ⟨g3, g4⟩, ⟨g5, g6⟩, g7, g8⟩ := hg
  have hW0 : cWd (w_up S 215 16 0) T L G := cWd_up hW (by first | decide | omega)
  have hkc : ∀ q : Nat, q < K.1.length → cVl (w_up S 215 16 0) ((w_up S 215 16 0) 217 (q : Int)) ((w_up S 215 16 0) 218 (q : Int)) (K.1.getD q (0, 0, [])) := fun q hq => by
    have z := a2 q hq
    rw [Int.zero_add] at z
    exact cVl_mo z (cTx_of rfl (fun _ => rfl))
  have hal : (ar.map (clO T)).length = ar.length := List.length_map _
  have hbh : 1 ≤ bh := by
    rw [g4]
    by_cases c2 : kd = 2
    · rw [if_pos c2]; decide
    · rw [if_neg c2, if_pos (by omega)]; decide
  have e8 : ar.length ≤ 8 := by
    rw [g3] at g7
    split at g7 <;> omega
  have hgk : (w_up S 215 16 0) 217 (ba : Int) = (K.1.getD ba (0, 0, [])).1 := (hkc ba (by omega)).1
  have hk1 := hkc (ba + 1) (by omega)
  rw [show ((ba + 1 : Nat) : Int) = (ba : Int) + 1 by omega] at hk1
  have hesk : esOk (ar.map (clO T)) := fun c hcm => by
    obtain ⟨v, v1, v2⟩ := List.mem_map.mp hcm
    rw [← v2]
    obtain ⟨q, q1, q2⟩ := List.getElem_of_mem v1
    have z := g8 q q1
    rw [List.getD_eq_getElem?_getD (l := ar), List.getElem?_eq_getElem q1] at z
    have z2 : K.1.getD (ba + 1 + q) (0, 0, []) = v := z.trans q2
    rw [← z2]
    exact clO_rg (vOk_get hv (by omega))
  have hcls : ∀ i : Nat, i < (ar.map (clO T)).length → clS (w_up S 215 16 0) ((w_up S 215 16 0) 217 ((ba : Int) + 1 + (i : Int))) ((w_up S 215 16 0) 218 ((ba : Int) + 1 + (i : Int))) = (ar.map (clO T)).getD i 0 ∧ (0 ≤ (w_up S 215 16 0) 217 ((ba : Int) + 1 + (i : Int)) ∧ (w_up S 215 16 0) 217 ((ba : Int) + 1 + (i : Int)) ≤ 8) ∧ ((w_up S 215 16 0) 217 ((ba : Int) + 1 + (i : Int)) = 7 → 0 ≤ (w_up S 215 16 0) 218 ((ba : Int) + 1 + (i : Int)) ∧ (w_up S 215 16 0) 218 ((ba : Int) + 1 + (i : Int)) < (T.length : Int) ∧ 0 ≤ (w_up S 215 16 0) 129 ((w_up S 215 16 0) 218 ((ba : Int) + 1 + (i : Int))) ∧ (w_up S 215 16 0) 129 ((w_up S 215 16 0) 218 ((ba : Int) + 1 + (i : Int))) < 60) := fun i hi => by
    rw [hal] at hi
    have z := hkc (ba + 1 + i) (by omega)
    rw [show ((ba + 1 + i : Nat) : Int) = (ba : Int) + 1 + (i : Int) by omega, g8 i hi] at z
    have hvo : vOk T (ar.getD i (0, 0, [])) := by rw [← g8 i hi]; exact vOk_get hv (by omega)
    have hcl : (ar.map (clO T)).getD i 0 = clO T (ar.getD i (0, 0, [])) := by
      rw [List.getD_eq_getElem?_getD, List.getElem?_map, List.getD_eq_getElem?_getD, List.getElem?_eq_getElem hi]; rfl
    refine ⟨by rw [hcl]; exact clS_e z hW0.1 hvo, by rw [z.1]; exact hvo.1, fun h7 => ?_⟩
    rw [z.1] at h7
    have hb := (z.2.1 (by omega)).1
    obtain ⟨y1, y2⟩ := hvo.2.1 (by omega) (by omega)
    have y3 := hvo.2.2.2.1 h7
    rw [hb]
    obtain ⟨⟨-, -, x3, -⟩, -⟩ := hW0.1.2 (ar.getD i (0, 0, [])).2.1.toNat (by omega)
    rw [show (((ar.getD i (0, 0, [])).2.1.toNat : Nat) : Int) = (ar.getD i (0, 0, [])).2.1 by omega] at x3
    replace x3 : (w_up S 215 16 0) 129 (ar.getD i (0, 0, [])).2.1 = (tO T (ar.getD i (0, 0, [])).2.1).2.2.1 := x3
    exact ⟨y1.1, y1.2, by rw [x3]; exact y3.1, by rw [x3]; exact y3.2⟩
  have hl0 : cSl (w_up S 215 16 0) := by
    refine ⟨fun x hx => ?_, hl.2.1, fun x hx => ?_, hl.2.2.2⟩
    · rw [w_up_at (by first | decide | omega), w_up_at (by first | decide | omega)]; exact hl.1 x hx
    · rw [w_up_at (by first | decide | omega), w_up_at (by first | decide | omega)]; exact hl.2.2.1 x hx
  obtain ⟨-, tt, b1, b2, b3, b4⟩ := hk1.2.2 hk3
  exact ait_215 (S0 := (w_up S 215 16 0)) (T := T) (cl := ar.map (clO T)) (kd := kd) (ec := ec) (ba := (ba : Int)) (gk := (K.1.getD ba (0, 0, [])).1) (gb := S 218 (ba : Int)) (bh := bh) (ne := ne) (h := (K.1.length : Int)) (x := (K.1.getD (ba + 1) (0, 0, [])).2.2) (v := S 218 ((ba : Int) + 1)) (t := tt) (w_CL_up hC (by first | decide | omega)) hW0.2.2.2.2.1 hT a4 a6 ⟨by omega, by show (ba : Int) + 1 + ec ≤ S 217 (-1); omega⟩ ⟨by rw [hal]; exact g7.symm, by rw [hal]; exact e8⟩ hesk hcls hl0 ⟨hs.1, by show s < S 35 (-1); have := hl.2.1; omega⟩ hkd g1 hne g2 g3 g4 a1 (by omega) ⟨by omega, a3⟩ hgk rfl hc (gI_up hI (by first | decide | omega) (by first | decide | omega) (by first | decide | omega)) hnt (by show (ba : Int) + 1 < S 217 (-1); omega) (hk1.1.trans hk3) rfl b1 ⟨b2, b3⟩ b4
theorem aiE_226 (h : stC 226 S K) (hW : cWd S T L G) (hT : (T.length : Int) ≤ 8000) (hl : cSl S) (hs : 0 ≤ s ∧ s < S 19 9) (hkd : S 35 s = kd) (hne : S 37 s = ne) (hg : siG K kd ne ec bh ba ar) (hv : ∀ v ∈ K.1, vOk T v) (hc : (kd = 2 ∨ kd = 3) ∧ ((K.1.getD ba (0, 0, [])).1 = 4 ∨ (K.1.getD ba (0, 0, [])).1 = 5)) (hk3 : (K.1.getD (ba + 1) (0, 0, [])).1 ≠ 3) : wJ (pe_GA xs) wY0 M (d + 7) t_XL_aim ((pe_at t_XL_aim.bl 0).getD (0, [])).2 [(0, (2, 158)), (1, (2, 226)), (2, (0, s))] [] (w_up S 226 16 0) (fun o Z => o = .inl none ∧ amQ 226 s kd ec (ba : Int) (K.1.getD ba (0, 0, [])).1 (S 229 (ba : Int)) (-1) (esV (ar.map (clO T))) (w_up S 226 16 0) Z) := by
  obtain ⟨⟨⟨a1, a2, a3, a4, a5, a6⟩, -⟩, ⟨hC, hI⟩, -⟩ := h
  replace a1 : S 227 2 = (K.1.length : Int) := a1
  replace a3 : (K.1.length : Int) ≤ S 228 (-1) := a3
  replace a4 : S 229 (-1) = S 228 (-1) := a4
  replace a6 : S 228 (-1) ≤ 4095 := a6
  obtain ⟨⟨g1, g2⟩, ⟨g3, g4⟩, ⟨g5, g6⟩, g7, g8⟩ := hg
  have hW0 : cWd (w_up S 226 16 0) T L G := cWd_up hW (by first | decide | omega)
  have hkc : ∀ q : Nat, q < K.1.length → cVl (w_up S 226 16 0) ((w_up S 226 16 0) 228 (q : Int)) ((w_up S 226 16 0) 229 (q : Int)) (K.1.getD q (0, 0, [])) := fun q hq => by
    have z := a2 q hq
    rw [Int.zero_add] at z
    exact cVl_mo z (cTx_of rfl (fun _ => rfl))
  have hal : (ar.map (clO T)).length = ar.length := List.length_map _
  have hbh : 1 ≤ bh := by
    rw [g4]
    by_cases c2 : kd = 2
    · rw [if_pos c2]; decide
    · rw [if_neg c2, if_pos (by omega)]; decide
  have e8 : ar.length ≤ 8 := by
    rw [g3] at g7
    split at g7 <;> omega
  have hgk : (w_up S 226 16 0) 228 (ba : Int) = (K.1.getD ba (0, 0, [])).1 := (hkc ba (by omega)).1
  have hk1 := hkc (ba + 1) (by omega)
  rw [show ((ba + 1 : Nat) : Int) = (ba : Int) + 1 by omega] at hk1
  have hesk : esOk (ar.map (clO T)) := fun c hcm => by
    obtain ⟨v, v1, v2⟩ := List.mem_map.mp hcm
    rw [← v2]
    obtain ⟨q, q1, q2⟩ := List.getElem_of_mem v1
    have z := g8 q q1
    rw [List.getD_eq_getElem?_getD (l := ar), List.getElem?_eq_getElem q1] at z
    have z2 : K.1.getD (ba + 1 + q) (0, 0, []) = v := z.trans q2
    rw [← z2]
    exact clO_rg (vOk_get hv (by omega))
  have hcls : ∀ i : Nat, i < (ar.map (clO T)).length → clS (w_up S 226 16 0) ((w_up S 226 16 0) 228 ((ba : Int) + 1 + (i : Int))) ((w_up S 226 16 0) 229 ((ba : Int) + 1 + (i : Int))) = (ar.map (clO T)).getD i 0 ∧ (0 ≤ (w_up S 226 16 0) 228 ((ba : Int) + 1 + (i : Int)) ∧ (w_up S 226 16 0) 228 ((ba : Int) + 1 + (i : Int)) ≤ 8) ∧ ((w_up S 226 16 0) 228 ((ba : Int) + 1 + (i : Int)) = 7 → 0 ≤ (w_up S 226 16 0) 229 ((ba : Int) + 1 + (i : Int)) ∧ (w_up S 226 16 0) 229 ((ba : Int) + 1 + (i : Int)) < (T.length : Int) ∧ 0 ≤ (w_up S 226 16 0) 129 ((w_up S 226 16 0) 229 ((ba : Int) + 1 + (i : Int))) ∧ (w_up S 226 16 0) 129 ((w_up S 226 16 0) 229 ((ba : Int) + 1 + (i : Int))) < 60) := fun i hi => by
    rw [hal] at hi
    have z := hkc (ba + 1 + i) (by omega)
    rw [show ((ba + 1 + i : Nat) : Int) = (ba : Int) + 1 + (i : Int) by omega, g8 i hi] at z
    have hvo : vOk T (ar.getD i (0, 0, [])) := by rw [← g8 i hi]; exact vOk_get hv (by omega)
    have hcl : (ar.map (clO T)).getD i 0 = clO T (ar.getD i (0, 0, [])) := by
      rw [List.getD_eq_getElem?_getD, List.getElem?_map, List.getD_eq_getElem?_getD, List.getElem?_eq_getElem hi]; rfl
    refine ⟨by rw [hcl]; exact clS_e z hW0.1 hvo, by rw [z.1]; exact hvo.1, fun h7 => ?_⟩
    rw [z.1] at h7
    have hb := (z.2.1 (by omega)).1
    obtain ⟨y1, y2⟩ := hvo.2.1 (by omega) (by omega)
    have y3 := hvo.2.2.2.1 h7
    rw [hb]
    obtain ⟨⟨-, -, x3, -⟩, -⟩ := hW0.1.2 (ar.getD i (0, 0, [])).2.1.toNat (by omega)
    rw [show (((ar.getD i (0, 0, [])).2.1.toNat : Nat) : Int) = (ar.getD i (0, 0, [])).2.1 by omega] at x3
    replace x3 : (w_up S 226 16 0) 129 (ar.getD i (0, 0, [])).2.1 = (tO T (ar.getD i (0, 0, [])).2.1).2.2.1 := x3
    exact ⟨y1.1, y1.2, by rw [x3]; exact y3.1, by rw [x3]; exact y3.2⟩
  have hl0 : cSl (w_up S 226 16 0) := by
    refine ⟨fun x hx => ?_, hl.2.1, fun x hx => ?_, hl.2.2.2⟩
    · rw [w_up_at (by first | decide | omega), w_up_at (by first | decide | omega)]; exact hl.1 x hx
    · rw [w_up_at (by first | decide | omega), w_up_at (by first | decide | omega)]; exact hl.2.2.1 x hx
  exact aie_226 (S0 := (w_up S 226 16 0)) (T := T) (cl := ar.map (clO T)) (kd := kd) (ec := ec) (ba := (ba : Int)) (gk := (K.1.getD ba (0, 0, [])).1) (gb := S 229 (ba : Int)) (bh := bh) (ne := ne) (h := (K.1.length : Int)) (k := (K.1.getD (ba + 1) (0, 0, [])).1) (v := S 229 ((ba : Int) + 1)) (w_CL_up hC (by first | decide | omega)) hW0.2.2.2.2.1 hT a4 a6 ⟨by omega, by show (ba : Int) + 1 + ec ≤ S 228 (-1); omega⟩ ⟨by rw [hal]; exact g7.symm, by rw [hal]; exact e8⟩ hesk hcls hl0 ⟨hs.1, by show s < S 35 (-1); have := hl.2.1; omega⟩ hkd g1 hne g2 g3 g4 a1 (by omega) ⟨by omega, a3⟩ hgk rfl hc (by show (ba : Int) + 1 < S 228 (-1); omega) hk1.1 rfl hk3
theorem aiT_226 (h : stC 226 S K) (hW : cWd S T L G) (hT : (T.length : Int) ≤ 8000) (hl : cSl S) (hs : 0 ≤ s ∧ s < S 19 9) (hkd : S 35 s = kd) (hne : S 37 s = ne) (hg : siG K kd ne ec bh ba ar) (hv : ∀ v ∈ K.1, vOk T v) (hc : (kd = 2 ∨ kd = 3) ∧ ((K.1.getD ba (0, 0, [])).1 = 4 ∨ (K.1.getD ba (0, 0, [])).1 = 5)) (hk3 : (K.1.getD (ba + 1) (0, 0, [])).1 = 3) (hnt : cNt N X (w_up S 226 16 0)) : wJ (pe_GA xs) wY0 (mS [3, 4, 5, 6, 7, 8, 9]) (d + 7) t_XL_aim ((pe_at t_XL_aim.bl 0).getD (0, [])).2 [(0, (2, 158)), (1, (2, 226)), (2, (0, s))] [] (w_up S 226 16 0) (fun o Z => o = .inl none ∧ ∃ (S1 A : wS) (r : Int), amI 226 s kd ec (ba : Int) (K.1.getD ba (0, 0, [])).1 (S 229 (ba : Int)) (esV (ar.map (clO T))) (w_up S 226 16 0) S1 ∧ enQ 226 N X (K.1.getD (ba + 1) (0, 0, [])).2.2 S1 r A ∧ w_up A 158 11 r = Z) := by
  obtain ⟨⟨⟨a1, a2, a3, a4, a5, a6⟩, -⟩, ⟨hC, hI⟩, -⟩ := h
  replace a1 : S 227 2 = (K.1.length : Int) := a1
  replace a3 : (K.1.length : Int) ≤ S 228 (-1) := a3
  replace a4 : S 229 (-1) = S 228 (-1) := a4
  replace a6 : S 228 (-1) ≤ 4095 := a6
  obtain ⟨⟨g1, g2⟩, ⟨g3, g4⟩, ⟨g5, g6⟩, g7, g8⟩ := hg
  have hW0 : cWd (w_up S 226 16 0) T L G := cWd_up hW (by first | decide | omega)
  have hkc : ∀ q : Nat, q < K.1.length → cVl (w_up S 226 16 0) ((w_up S 226 16 0) 228 (q : Int)) ((w_up S 226 16 0) 229 (q : Int)) (K.1.getD q (0, 0, [])) := fun q hq => by
    have z := a2 q hq
    rw [Int.zero_add] at z
    exact cVl_mo z (cTx_of rfl (fun _ => rfl))
  have hal : (ar.map (clO T)).length = ar.length := List.length_map _
  have hbh : 1 ≤ bh := by
    rw [g4]
    by_cases c2 : kd = 2
    · rw [if_pos c2]; decide
    · rw [if_neg c2, if_pos (by omega)]; decide
  have e8 : ar.length ≤ 8 := by
    rw [g3] at g7
    split at g7 <;> omega
  have hgk : (w_up S 226 16 0) 228 (ba : Int) = (K.1.getD ba (0, 0, [])).1 := (hkc ba (by omega)).1
  have hk1 := hkc (ba + 1) (by omega)
  rw [show ((ba + 1 : Nat) : Int) = (ba : Int) + 1 by omega] at hk1
  have hesk : esOk (ar.map (clO T)) := fun c hcm => by
    obtain ⟨v, v1, v2⟩ := List.mem_map.mp hcm
    rw [← v2]
    obtain ⟨q, q1, q2⟩ := List.getElem_of_mem v1
    have z := g8 q q1
    rw [List.getD_eq_getElem?_getD (l := ar), List.getElem?_eq_getElem q1] at z
    have z2 : K.1.getD (ba + 1 + q) (0, 0, []) = v := z.trans q2
    rw [← z2]
    exact clO_rg (vOk_get hv (by omega))
  have hcls : ∀ i : Nat, i < (ar.map (clO T)).length → clS (w_up S 226 16 0) ((w_up S 226 16 0) 228 ((ba : Int) + 1 + (i : Int))) ((w_up S 226 16 0) 229 ((ba : Int) + 1 + (i : Int))) = (ar.map (clO T)).getD i 0 ∧ (0 ≤ (w_up S 226 16 0) 228 ((ba : Int) + 1 + (i : Int)) ∧ (w_up S 226 16 0) 228 ((ba : Int) + 1 + (i : Int)) ≤ 8) ∧ ((w_up S 226 16 0) 228 ((ba : Int) + 1 + (i : Int)) = 7 → 0 ≤ (w_up S 226 16 0) 229 ((ba : Int) + 1 + (i : Int)) ∧ (w_up S 226 16 0) 229 ((ba : Int) + 1 + (i : Int)) < (T.length : Int) ∧ 0 ≤ (w_up S 226 16 0) 129 ((w_up S 226 16 0) 229 ((ba : Int) + 1 + (i : Int))) ∧ (w_up S 226 16 0) 129 ((w_up S 226 16 0) 229 ((ba : Int) + 1 + (i : Int))) < 60) := fun i hi => by
    rw [hal] at hi
    have z := hkc (ba + 1 + i) (by omega)
    rw [show ((ba + 1 + i : Nat) : Int) = (ba : Int) + 1 + (i : Int) by omega, g8 i hi] at z
    have hvo : vOk T (ar.getD i (0, 0, [])) := by rw [← g8 i hi]; exact vOk_get hv (by omega)
    have hcl : (ar.map (clO T)).getD i 0 = clO T (ar.getD i (0, 0, [])) := by
      rw [List.getD_eq_getElem?_getD, List.getElem?_map, List.getD_eq_getElem?_getD, List.getElem?_eq_getElem hi]; rfl
    refine ⟨by rw [hcl]; exact clS_e z hW0.1 hvo, by rw [z.1]; exact hvo.1, fun h7 => ?_⟩
    rw [z.1] at h7
    have hb := (z.2.1 (by omega)).1
    obtain ⟨y1, y2⟩ := hvo.2.1 (by omega) (by omega)
    have y3 := hvo.2.2.2.1 h7
    rw [hb]
    obtain ⟨⟨-, -, x3, -⟩, -⟩ := hW0.1.2 (ar.getD i (0, 0, [])).2.1.toNat (by omega)
    rw [show (((ar.getD i (0, 0, [])).2.1.toNat : Nat) : Int) = (ar.getD i (0, 0, [])).2.1 by omega] at x3
    replace x3 : (w_up S 226 16 0) 129 (ar.getD i (0, 0, [])).2.1 = (tO T (ar.getD i (0, 0, [])).2.1).2.2.1 := x3
    exact ⟨y1.1, y1.2, by rw [x3]; exact y3.1, by rw [x3]; exact y3.2⟩
  have hl0 : cSl (w_up S 226 16 0) := by
    refine ⟨fun x hx => ?_, hl.2.1, fun x hx => ?_, hl.2.2.2⟩
    · rw [w_up_at (by first | decide | omega), w_up_at (by first | decide | omega)]; exact hl.1 x hx
    · rw [w_up_at (by first | decide | omega), w_up_at (by first | decide | omega)]; exact hl.2.2.1 x hx
  obtain ⟨-, tt, b1, b2, b3, b4⟩ := hk1.2.2 hk3
  exact ait_226 (S0 := (w_up S 226 16 0)) (T := T) (cl := ar.map (clO T)) (kd := kd) (ec := ec) (ba := (ba : Int)) (gk := (K.1.getD ba (0, 0, [])).1) (gb := S 229 (ba : Int)) (bh := bh) (ne := ne) (h := (K.1.length : Int)) (x := (K.1.getD (ba + 1) (0, 0, [])).2.2) (v := S 229 ((ba : Int) + 1)) (t := tt) (w_CL_up hC (by first | decide | omega)) hW0.2.2.2.2.1 hT a4 a6 ⟨by omega, by show (ba : Int) + 1 + ec ≤ S 228 (-1); omega⟩ ⟨by rw [hal]; exact g7.symm, by rw [hal]; exact e8⟩ hesk hcls hl0 ⟨hs.1, by show s < S 35 (-1); have := hl.2.1; omega⟩ hkd g1 hne g2 g3 g4 a1 (by omega) ⟨by omega, a3⟩ hgk rfl hc (gI_up hI (by first | decide | omega) (by first | decide | omega) (by first | decide | omega)) hnt (by show (ba : Int) + 1 < S 228 (-1); omega) (hk1.1.trans hk3) rfl b1 ⟨b2, b3⟩ b4
end Wj0
