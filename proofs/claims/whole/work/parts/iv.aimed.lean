/-! PART iv: aiming at a site, by tasks: of the class. -/
section Wiv
variable {xs : List (Nat × List Int32)} {M : Nat → Prop} {d : Nat} {S Z : wS} {K : aK} {T : List aO} {L : List aC} {G : Int → aV} {s kd ne ec bh nms : Int} {ba : Nat} {ar : List aV}
/-- what stands on the pile at a site: kind, how many types, how many are taken, how many stand behind the receiver, where the receiver stands, the arguments -/
def siG (K : aK) (kd ne ec bh : Int) (ba : Nat) (ar : List aV) : Prop := ((0 ≤ kd ∧ kd ≤ 6) ∧ (0 ≤ ne ∧ ne ≤ 8)) ∧ (ec = (if kd = 1 then 1 else ne) ∧ bh = (if kd = 2 then 1 else if kd = 3 then 2 else ec)) ∧ ((K.1.length : Int) = (ba : Int) + 1 + bh ∧ ec ≤ bh) ∧ ((ar.length : Int) = ec ∧ ∀ i : Nat, i < ar.length → K.1.getD (ba + 1 + i) (0, 0, []) = ar.getD i (0, 0, []))
theorem vOk_get (hv : ∀ v ∈ K.1, vOk T v) {q : Nat} (hq : q < K.1.length) : vOk T (K.1.getD q (0, 0, [])) := hv _ (by rw [List.getD_eq_getElem?_getD, List.getElem?_eq_getElem hq]; exact List.getElem_mem _)
theorem aiC_215 (h : stC 215 S K) (hW : cWd S T L G) (hT : (T.length : Int) ≤ 8000) (hl : cSl S) (hs : 0 ≤ s ∧ s < S 19 9) (hkd : S 35 s = kd) (hne : S 37 s = ne) (hnm : S 36 s = nms) (hg : siG K kd ne ec bh ba ar) (hv : ∀ v ∈ K.1, vOk T v) (hc : ¬ ((kd = 2 ∨ kd = 3) ∧ ((K.1.getD ba (0, 0, [])).1 = 4 ∨ (K.1.getD ba (0, 0, [])).1 = 5))) : wJ (pe_GA xs) wY0 M (d + 4) t_XL_aim ((pe_at t_XL_aim.bl 0).getD (0, [])).2 [(0, (2, 158)), (1, (2, 215)), (2, (0, s))] [] (w_up S 215 16 0) (fun o Z => o = .inl none ∧ amQ 215 s kd ec (ba : Int) (K.1.getD ba (0, 0, [])).1 (S 218 (ba : Int)) nms (esV (ar.map (clO T))) (w_up S 215 16 0) Z) := by
  obtain ⟨⟨⟨a1, a2, a3, a4, a5, a6⟩, -⟩, ⟨hC, hI⟩, -⟩ := h
  replace a1 : S 216 2 = (K.1.length : Int) := a1
  replace a3 : (K.1.length : Int) ≤ S 217 (-1) := a3
  replace a4 : S 218 (-1) = S 217 (-1) := a4
  replace a6 : S 217 (-1) ≤ 4095 := a6
  obtain ⟨⟨g1, g2⟩, ⟨g3, g4⟩, ⟨g5, g6⟩, g7, g8⟩ := hg
  have hW0 : cWd (w_up S 215 16 0) T L G := cWd_up hW (by first | decide | omega)
  have hkc : ∀ q : Nat, q < K.1.length → cVl (w_up S 215 16 0) ((w_up S 215 16 0) 217 (q : Int)) ((w_up S 215 16 0) 218 (q : Int)) (K.1.getD q (0, 0, [])) := fun q hq => by
    have z := a2 q hq
    rw [Int.zero_add] at z
    exact cVl_mo z (cTx_of rfl (fun _ => rfl))
  have hal : (ar.map (clO T)).length = ar.length := List.length_map _
  have hbh : 0 ≤ bh := by omega
  have e8 : ar.length ≤ 8 := by
    rw [g3] at g7
    split at g7 <;> omega
  have hgk : (w_up S 215 16 0) 217 (ba : Int) = (K.1.getD ba (0, 0, [])).1 := (hkc ba (by omega)).1
  refine ain_215 (S0 := (w_up S 215 16 0)) (T := T) (cl := ar.map (clO T)) (kd := kd) (ec := ec) (ba := (ba : Int)) (gk := (K.1.getD ba (0, 0, [])).1) (gb := S 218 (ba : Int)) (bh := bh) (ne := ne) (h := (K.1.length : Int)) (nms := nms) (w_CL_up hC (by first | decide | omega)) hW0.2.2.2.2.1 hT a4 a6 ⟨by omega, by show (ba : Int) + 1 + ec ≤ S 217 (-1); omega⟩ ⟨by rw [hal]; exact g7.symm, by rw [hal]; exact e8⟩ (fun c hcm => ?_) (fun i hi => ?_) ?_ ⟨hs.1, by show s < S 35 (-1); have := hl.2.1; omega⟩ hkd g1 hne g2 g3 g4 a1 (by omega) ⟨by omega, a3⟩ hgk rfl hnm hc
  · obtain ⟨v, v1, v2⟩ := List.mem_map.mp hcm
    rw [← v2]
    obtain ⟨q, q1, q2⟩ := List.getElem_of_mem v1
    have z := g8 q q1
    rw [List.getD_eq_getElem?_getD (l := ar), List.getElem?_eq_getElem q1] at z
    have z2 : K.1.getD (ba + 1 + q) (0, 0, []) = v := z.trans q2
    rw [← z2]
    exact clO_rg (vOk_get hv (by omega))
  · rw [hal] at hi
    have z := hkc (ba + 1 + i) (by omega)
    rw [show ((ba + 1 + i : Nat) : Int) = (ba : Int) + 1 + (i : Int) by omega, g8 i hi] at z
    have hvo : vOk T (ar.getD i (0, 0, [])) := by rw [← g8 i hi]; exact vOk_get hv (by omega)
    have hcl : (ar.map (clO T)).getD i 0 = clO T (ar.getD i (0, 0, [])) := by
      rw [List.getD_eq_getElem?_getD, List.getElem?_map, List.getD_eq_getElem?_getD, List.getElem?_eq_getElem hi]; rfl
    refine ⟨by rw [hcl]; exact clS_e z hW0.1 hvo, by rw [z.1]; exact hvo.1, fun h7 => ?_⟩
    rw [z.1] at h7
    have hb := (z.2.1 (by omega)).1
    obtain ⟨y1, y2⟩ := hvo.2.1 (by omega) (by omega)
    have y3 := hvo.2.2.2.1 h7
    rw [hb]
    obtain ⟨⟨-, -, x3, -⟩, -⟩ := hW0.1.2 (ar.getD i (0, 0, [])).2.1.toNat (by omega)
    rw [show (((ar.getD i (0, 0, [])).2.1.toNat : Nat) : Int) = (ar.getD i (0, 0, [])).2.1 by omega] at x3
    replace x3 : (w_up S 215 16 0) 129 (ar.getD i (0, 0, [])).2.1 = (tO T (ar.getD i (0, 0, [])).2.1).2.2.1 := x3
    exact ⟨y1.1, y1.2, by rw [x3]; exact y3.1, by rw [x3]; exact y3.2⟩
  · refine ⟨fun x hx => ?_, hl.2.1, fun x hx => ?_, hl.2.2.2⟩
    · rw [w_up_at (by first | decide | omega), w_up_at (by first | decide | omega)]; exact hl.1 x hx
    · rw [w_up_at (by first | decide | omega), w_up_at (by first | decide | omega)]; exact hl.2.2.1 x hx
theorem aiC_226 (h : stC 226 S K) (hW : cWd S T L G) (hT : (T.length : Int) ≤ 8000) (hl : cSl S) (hs : 0 ≤ s ∧ s < S 19 9) (hkd : S 35 s = kd) (hne : S 37 s = ne) (hnm : S 36 s = nms) (hg : siG K kd ne ec bh ba ar) (hv : ∀ v ∈ K.1, vOk T v) (hc : ¬ ((kd = 2 ∨ kd = 3) ∧ ((K.1.getD ba (0, 0, [])).1 = 4 ∨ (K.1.getD ba (0, 0, [])).1 = 5))) : wJ (pe_GA xs) wY0 M (d + 4) t_XL_aim ((pe_at t_XL_aim.bl 0).getD (0, [])).2 [(0, (2, 158)), (1, (2, 226)), (2, (0, s))] [] (w_up S 226 16 0) (fun o Z => o = .inl none ∧ amQ 226 s kd ec (ba : Int) (K.1.getD ba (0, 0, [])).1 (S 229 (ba : Int)) nms (esV (ar.map (clO T))) (w_up S 226 16 0) Z) := by
  obtain ⟨⟨⟨a1, a2, a3, a4, a5, a6⟩, -⟩, ⟨hC, hI⟩, -⟩ := h
  replace a1 : S 227 2 = (K.1.length : Int) := a1
  replace a3 : (K.1.length : Int) ≤ S 228 (-1) := a3
  replace a4 : S 229 (-1) = S 228 (-1) := a4
  replace a6 : S 228 (-1) ≤ 4095 := a6
  obtain ⟨⟨g1, g2⟩, ⟨g3, g4⟩, ⟨g5, g6⟩, g7, g8⟩ := hg
  have hW0 : cWd (w_up S 226 16 0) T L G := cWd_up hW (by first | decide | omega)
  have hkc : ∀ q : Nat, q < K.1.length → cVl (w_up S 226 16 0) ((w_up S 226 16 0) 228 (q : Int)) ((w_up S 226 16 0) 229 (q : Int)) (K.1.getD q (0, 0, [])) := fun q hq => by
    have z := a2 q hq
    rw [Int.zero_add] at z
    exact cVl_mo z (cTx_of rfl (fun _ => rfl))
  have hal : (ar.map (clO T)).length = ar.length := List.length_map _
  have hbh : 0 ≤ bh := by omega
  have e8 : ar.length ≤ 8 := by
    rw [g3] at g7
    split at g7 <;> omega
  have hgk : (w_up S 226 16 0) 228 (ba : Int) = (K.1.getD ba (0, 0, [])).1 := (hkc ba (by omega)).1
  refine ain_226 (S0 := (w_up S 226 16 0)) (T := T) (cl := ar.map (clO T)) (kd := kd) (ec := ec) (ba := (ba : Int)) (gk := (K.1.getD ba (0, 0, [])).1) (gb := S 229 (ba : Int)) (bh := bh) (ne := ne) (h := (K.1.length : Int)) (nms := nms) (w_CL_up hC (by first | decide | omega)) hW0.2.2.2.2.1 hT a4 a6 ⟨by omega, by show (ba : Int) + 1 + ec ≤ S 228 (-1); omega⟩ ⟨by rw [hal]; exact g7.symm, by rw [hal]; exact e8⟩ (fun c hcm => ?_) (fun i hi => ?_) ?_ ⟨hs.1, by show s < S 35 (-1); have := hl.2.1; omega⟩ hkd g1 hne g2 g3 g4 a1 (by omega) ⟨by omega, a3⟩ hgk rfl hnm hc
  · obtain ⟨v, v1, v2⟩ := List.mem_map.mp hcm
    rw [← v2]
    obtain ⟨q, q1, q2⟩ := List.getElem_of_mem v1
    have z := g8 q q1
    rw [List.getD_eq_getElem?_getD (l := ar), List.getElem?_eq_getElem q1] at z
    have z2 : K.1.getD (ba + 1 + q) (0, 0, []) = v := z.trans q2
    rw [← z2]
    exact clO_rg (vOk_get hv (by omega))
  · rw [hal] at hi
    have z := hkc (ba + 1 + i) (by omega)
    rw [show ((ba + 1 + i : Nat) : Int) = (ba : Int) + 1 + (i : Int) by omega, g8 i hi] at z
    have hvo : vOk T (ar.getD i (0, 0, [])) := by rw [← g8 i hi]; exact vOk_get hv (by omega)
    have hcl : (ar.map (clO T)).getD i 0 = clO T (ar.getD i (0, 0, [])) := by
      rw [List.getD_eq_getElem?_getD, List.getElem?_map, List.getD_eq_getElem?_getD, List.getElem?_eq_getElem hi]; rfl
    refine ⟨by rw [hcl]; exact clS_e z hW0.1 hvo, by rw [z.1]; exact hvo.1, fun h7 => ?_⟩
    rw [z.1] at h7
    have hb := (z.2.1 (by omega)).1
    obtain ⟨y1, y2⟩ := hvo.2.1 (by omega) (by omega)
    have y3 := hvo.2.2.2.1 h7
    rw [hb]
    obtain ⟨⟨-, -, x3, -⟩, -⟩ := hW0.1.2 (ar.getD i (0, 0, [])).2.1.toNat (by omega)
    rw [show (((ar.getD i (0, 0, [])).2.1.toNat : Nat) : Int) = (ar.getD i (0, 0, [])).2.1 by omega] at x3
    replace x3 : (w_up S 226 16 0) 129 (ar.getD i (0, 0, [])).2.1 = (tO T (ar.getD i (0, 0, [])).2.1).2.2.1 := x3
    exact ⟨y1.1, y1.2, by rw [x3]; exact y3.1, by rw [x3]; exact y3.2⟩
  · refine ⟨fun x hx => ?_, hl.2.1, fun x hx => ?_, hl.2.2.2⟩
    · rw [w_up_at (by first | decide | omega), w_up_at (by first | decide | omega)]; exact hl.1 x hx
    · rw [w_up_at (by first | decide | omega), w_up_at (by first | decide | omega)]; exact hl.2.2.1 x hx
end Wiv
