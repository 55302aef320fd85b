/-! PART iw: a site is visited, by tasks: of the class. -/
section Wiw
variable {xs : List (Nat × List Int32)} {d : Nat} {S Z Y : wS} {K : aK} {T : List aO} {H : List aH} {L : List aC} {G : Int → aV} {s kd ne ec bh nms nm gk gb es lo hi b : Int} {ba : Nat} {ar : List aV} {E : Int → List aE} {ix : Int → List Int} {fl : List Int} {ow : Int → Int} {R PA : wS → Prop} {ml : List Nat} {w : Nat}
/-- a site is aimed at and its entries are gone through: of the class -/
def vsC (w : Nat) (s kd ec ba gk gb nm es nms lo hi : Int) (T : List aO) (H : List aH) (E : Int → List aE) (S Y : wS) : Prop := (∃ (ix2 : Int → List Int) (fl2 : List Int) (ow2 : Int → Int), cSe Y (fUp E s (hlF T H kd nms gk gb nm lo hi (E s)).1) ix2 fl2 ow2) ∧ Y 43 s = S 43 s + (hlF T H kd nms gk gb nm lo hi (E s)).2.1 ∧ (Y 158 4 = (w : Int) ∧ Y 158 5 = ((w + 1 : Nat) : Int) ∧ Y 158 6 = s ∧ Y 158 7 = kd ∧ Y 158 8 = ba ∧ Y 158 9 = gk ∧ Y 158 10 = gb ∧ Y 158 11 = nm ∧ Y 158 12 = ec ∧ Y 158 13 = es) ∧ Y w 16 = 0 ∧ ∀ (j : Nat) (x : Int), ¬ hdM s j x → (j ≠ 158 ∨ x < 4 ∨ 13 < x) → (j ≠ w ∨ x ≠ 16) → Y j x = S j x
theorem hdQ_v (hw : w = 215 ∨ w = 226) {o : wO} (hq : hdQ s kd nms gk gb nm lo hi T H E [] (E s) Z o Y) (ha : amQ w s kd ec (ba : Int) gk gb nm es (w_up S w 16 0) Z) : vsC w s kd ec (ba : Int) gk gb nm es nms lo hi T H E S Y := by
  obtain ⟨h1, h2, h3, -⟩ := hq
  obtain ⟨⟨f1, f2, f3, f4, f5, f6, f7, f8, f9, f10⟩, fr⟩ := ha
  have z : ∀ x : Int, 4 ≤ x → x ≤ 13 → Y 158 x = Z 158 x := fun x x0 x1 => h3 158 x (by unfold hdM; omega)
  refine ⟨h1, ?_, ⟨(z 4 (by first | decide | omega) (by first | decide | omega)).trans f1, (z 5 (by first | decide | omega) (by first | decide | omega)).trans f2, (z 6 (by first | decide | omega) (by first | decide | omega)).trans f3, (z 7 (by first | decide | omega) (by first | decide | omega)).trans f4, (z 8 (by first | decide | omega) (by first | decide | omega)).trans f5, (z 9 (by first | decide | omega) (by first | decide | omega)).trans f6, (z 10 (by first | decide | omega) (by first | decide | omega)).trans f7, (z 11 (by first | decide | omega) (by first | decide | omega)).trans f8, (z 12 (by first | decide | omega) (by first | decide | omega)).trans f9, (z 13 (by first | decide | omega) (by first | decide | omega)).trans f10⟩, ?_, fun j x j0 j1 j2 => (h3 j x j0).trans ((fr j x j1).trans (w_up_no (by omega)))⟩
  · rw [h2, fr 43 s (by omega), w_up_slot (by omega)]
  · exact (h3 w 16 (by unfold hdM; omega)).trans ((fr w 16 (by omega)).trans (w_up_same _ _ _ _))
theorem vis_215 (h : stC 215 S K) (hi0 : cIn S K 27 s b) (hW : cWd S T L G) (hsw : cSw S T H) (hwS : wSh T H) (hT : (T.length : Int) ≤ 8000) (hse : cSe S E ix fl ow) (hs : 0 ≤ s ∧ s < S 19 9) (hkd : S 35 s = kd) (hne : S 37 s = ne) (hnm : S 36 s = nms) (hg : siG K kd ne ec bh ba ar) (hv : ∀ v ∈ K.1, vOk T v) (hc : ¬ ((kd = 2 ∨ kd = 3) ∧ ((K.1.getD ba (0, 0, [])).1 = 4 ∨ (K.1.getD ba (0, 0, [])).1 = 5))) (hlo : wb_l2i (esV (ar.map (clO T))) = lo) (hhi : wb_l2i (wb_lushr (esV (ar.map (clO T))) 32) = hi) (hcg : ∀ k : Int, isO T k → aCg T k ≤ S 72 11) (h43 : 0 ≤ S 43 s ∧ S 43 s + 4 ≤ 1000000) (h42 : 0 ≤ S 42 s ∧ S 42 s ≤ 1000000) (h19 : 0 ≤ S 158 19 ∧ S 158 19 ≤ 1000000) (hwe : ∀ e ∈ E s, wEn H kd nms e) (hml : ∀ x ∈ [217, 218], x ∈ ml) (hmn : ¬ mS ml 215) (hmn2 : ¬ mS ml 158) (hH : ∀ (Y : wS) (y : Int) (e : aE), vsC 215 s kd ec (ba : Int) (K.1.getD ba (0, 0, [])).1 (S 218 (ba : Int)) nms (esV (ar.map (clO T))) nms lo hi T H E S Y → (hlF T H kd nms (K.1.getD ba (0, 0, [])).1 (S 218 (ba : Int)) nms lo hi (E s)).2.2 = some e → cEc Y kd nms e y → (0 ≤ y ∧ y < Y 48 (-1)) → Y 42 s = S 42 s + 1 → Y 158 19 = S 158 19 + (if irE T H kd (S 218 (ba : Int)) nms e then 0 else 1) → wJ (pe_GA xs) wY0 (mS ml) (d + 11) t_XL_act ((pe_at t_XL_act.bl 0).getD (0, [])).2 [(0, (2, 158)), (1, (0, y))] [] Y (fun o V => o = .inl none ∧ R V)) (hN : ∀ Y : wS, vsC 215 s kd ec (ba : Int) (K.1.getD ba (0, 0, [])).1 (S 218 (ba : Int)) nms (esV (ar.map (clO T))) nms lo hi T H E S Y → (hlF T H kd nms (K.1.getD ba (0, 0, [])).1 (S 218 (ba : Int)) nms lo hi (E s)).2.2 = none → Y 42 s = S 42 s → Y 158 19 = S 158 19 → wJ (pe_GA xs) wY0 (mS ml) (d + 11) t_XL_look ((pe_at t_XL_look.bl 0).getD (0, [])).2 [(0, (2, 158))] [] Y (fun o X => ∃ y2 : Int, o = .inl (some (0, y2)) ∧ ((X 215 16 ≠ 0 ∧ R X) ∨ (X 215 16 = 0 ∧ wJ (pe_GA xs) wY0 (mS ml) (d + 11) t_XL_act ((pe_at t_XL_act.bl 0).getD (0, [])).2 [(0, (2, 158)), (1, (0, y2))] [] X (fun o V => o = .inl none ∧ R V))))) (hR : ∀ Z : wS, R Z → Z 215 16 ≠ 0 → Z 215 16 ≠ 99 → xR 215 Z) : wJ (pe_GA xs) wY0 (mS ml) (d + 12) t_XK_step ((pe_at t_XK_step.bl 0).getD (0, [])).2 [(0, (2, 215))] [] S (fun o Z2 => ∃ Z : wS, R Z ∧ sR 215 Z o Z2) := by
  obtain ⟨i1, i2, -⟩ := hi0
  have hga := hg
  obtain ⟨⟨g1, g2⟩, ⟨g3, g4⟩, ⟨g5, g6⟩, g7, g8⟩ := hg
  have hbh : 0 ≤ bh := by omega
  have hku : cVl S (S 217 (ba : Int)) (S 218 (ba : Int)) (K.1.getD ba (0, 0, [])) := by
    have z := h.1.1.2.1 ba (by omega)
    rw [Int.zero_add] at z
    exact z
  have hvu := vOk_get hv (show ba < K.1.length by omega)
  have hgb : (K.1.getD ba (0, 0, [])).1 ≠ 3 → (S 218 (ba : Int)) = (K.1.getD ba (0, 0, [])).2.1 := fun z => (hku.2.1 z).1
  refine ss_215 (R := R) (PA := fun Z => amQ 215 s kd ec (ba : Int) (K.1.getD ba (0, 0, [])).1 (S 218 (ba : Int)) nms (esV (ar.map (clO T))) (w_up S 215 16 0) Z) (xB_of h) i1 i2 hml hmn hmn2 (wJ_mono (aiC_215 (d := d + 7) h hW hT hse.1 hs hkd hne hnm hga hv hc) (fun o Z q => q)) (fun Z ha => Or.inr ⟨?_, ?_⟩) hR
  · exact (ha.2 215 16 (by omega)).trans (w_up_same _ _ _ _)
  · have hC := h.2.1.1
    have fr : ∀ (j : Nat) (x : Int), (j ≠ 158 ∨ x < 4 ∨ 13 < x) → (j ≠ 215 ∨ x ≠ 16) → Z j x = S j x := fun j x j0 j1 => (ha.2 j x j0).trans (w_up_no (by omega))
    obtain ⟨f1, f2, f3, f4, f5, f6, f7, f8, f9, f10⟩ := ha.1
    have e72 : Z 72 11 = S 72 11 := fr 72 11 (by omega) (by omega)
    have e43 : Z 43 s = S 43 s := fr 43 s (by omega) (by omega)
    have e42 : Z 42 s = S 42 s := fr 42 s (by omega) (by omega)
    have e19 : Z 158 19 = S 158 19 := fr 158 19 (by omega) (by omega)
    have hseZ : cSe Z E ix fl ow := cSe_ag hse (fun j x hj => fr j x (by unfold cEo at hj; omega) (by unfold cEo at hj; omega))
    have hF : hdF s kd nms (K.1.getD ba (0, 0, [])).1 (S 218 (ba : Int)) nms (esV (ar.map (clO T))) T H L G Z := ⟨⟨fun q hq => (fr q.1 (-1) (by omega) (by omega)).trans (hC q hq), cWd_ag hW (cTx_of (fr 2 1 (by omega) (by omega)) (fun x => fr 3 x (by omega) (by omega))) (fun j x hj => fr j x (by unfold cWo at hj; omega) (by unfold cWo at hj; omega)), cSw_ag hsw (fun j x hj => fr j x (by omega) (by omega))⟩, ⟨f3, f4, f6, f7, f8, f10⟩, (fr 35 s (by omega) (by omega)).trans hkd, (fr 36 s (by omega) (by omega)).trans hnm⟩
    refine wJ_mono (hed_ok (d := d + 8) hs.1 hwS hT hlo hhi (fun z => ?_) (fun z => ?_) (by rw [e72]; exact hcg) hseZ hF (by rw [fr 19 9 (by omega) (by omega)]; exact hs.2) (by rw [e43]; exact h43) (by rw [e42]; exact h42) (by rw [e19]; exact h19) hwe) (fun o Y hq => ?_)
    · rw [hgb (by omega)]
      obtain ⟨y1, y2⟩ := hvu.2.1 (by omega) (by omega)
      exact ⟨y1, by rw [y2]; exact z⟩
    · rw [hgb (by omega)]
      exact (hvu.2.1 (by omega) (by omega)).1
    · have hvs := hdQ_v (w := 215) (by omega) hq ha
      have y16 := hvs.2.2.2.1
      obtain ⟨-, -, -, q4⟩ := hq
      rcases q4 with ⟨q5, q6, q7, q8⟩ | ⟨e, y, q5, q6, q7, q8, q9, q10⟩
      · exact ⟨-1, q6, by decide, y16, Or.inr ⟨rfl, hN Y hvs q5 (q7.trans e42) (q8.trans e19)⟩⟩
      · have hyr : -2147483648 ≤ y ∧ y ≤ 2147483647 := by
          obtain ⟨-, -, hcl⟩ := hvs
          have l48 : Y 48 (-1) = S 48 (-1) := hcl.2.2 48 (-1) (by unfold hdM; omega) (by omega) (by omega)
          have := hse.1.2.2.2
          omega
        exact ⟨y, q6, hyr, y16, Or.inl ⟨by omega, hH Y y e hvs q5 q7 q8 (by rw [q9, e42]) (by rw [q10, e19])⟩⟩
theorem vis_226 (h : stC 226 S K) (hi0 : cIn S K 27 s b) (hW : cWd S T L G) (hsw : cSw S T H) (hwS : wSh T H) (hT : (T.length : Int) ≤ 8000) (hse : cSe S E ix fl ow) (hs : 0 ≤ s ∧ s < S 19 9) (hkd : S 35 s = kd) (hne : S 37 s = ne) (hnm : S 36 s = nms) (hg : siG K kd ne ec bh ba ar) (hv : ∀ v ∈ K.1, vOk T v) (hc : ¬ ((kd = 2 ∨ kd = 3) ∧ ((K.1.getD ba (0, 0, [])).1 = 4 ∨ (K.1.getD ba (0, 0, [])).1 = 5))) (hlo : wb_l2i (esV (ar.map (clO T))) = lo) (hhi : wb_l2i (wb_lushr (esV (ar.map (clO T))) 32) = hi) (hcg : ∀ k : Int, isO T k → aCg T k ≤ S 72 11) (h43 : 0 ≤ S 43 s ∧ S 43 s + 4 ≤ 1000000) (h42 : 0 ≤ S 42 s ∧ S 42 s ≤ 1000000) (h19 : 0 ≤ S 158 19 ∧ S 158 19 ≤ 1000000) (hwe : ∀ e ∈ E s, wEn H kd nms e) (hml : ∀ x ∈ [228, 229], x ∈ ml) (hmn : ¬ mS ml 226) (hmn2 : ¬ mS ml 158) (hH : ∀ (Y : wS) (y : Int) (e : aE), vsC 226 s kd ec (ba : Int) (K.1.getD ba (0, 0, [])).1 (S 229 (ba : Int)) nms (esV (ar.map (clO T))) nms lo hi T H E S Y → (hlF T H kd nms (K.1.getD ba (0, 0, [])).1 (S 229 (ba : Int)) nms lo hi (E s)).2.2 = some e → cEc Y kd nms e y → (0 ≤ y ∧ y < Y 48 (-1)) → Y 42 s = S 42 s + 1 → Y 158 19 = S 158 19 + (if irE T H kd (S 229 (ba : Int)) nms e then 0 else 1) → wJ (pe_GA xs) wY0 (mS ml) (d + 11) t_XL_act ((pe_at t_XL_act.bl 0).getD (0, [])).2 [(0, (2, 158)), (1, (0, y))] [] Y (fun o V => o = .inl none ∧ R V)) (hN : ∀ Y : wS, vsC 226 s kd ec (ba : Int) (K.1.getD ba (0, 0, [])).1 (S 229 (ba : Int)) nms (esV (ar.map (clO T))) nms lo hi T H E S Y → (hlF T H kd nms (K.1.getD ba (0, 0, [])).1 (S 229 (ba : Int)) nms lo hi (E s)).2.2 = none → Y 42 s = S 42 s → Y 158 19 = S 158 19 → wJ (pe_GA xs) wY0 (mS ml) (d + 11) t_XL_look ((pe_at t_XL_look.bl 0).getD (0, [])).2 [(0, (2, 158))] [] Y (fun o X => ∃ y2 : Int, o = .inl (some (0, y2)) ∧ ((X 226 16 ≠ 0 ∧ R X) ∨ (X 226 16 = 0 ∧ wJ (pe_GA xs) wY0 (mS ml) (d + 11) t_XL_act ((pe_at t_XL_act.bl 0).getD (0, [])).2 [(0, (2, 158)), (1, (0, y2))] [] X (fun o V => o = .inl none ∧ R V))))) (hR : ∀ Z : wS, R Z → Z 226 16 ≠ 0 → Z 226 16 ≠ 99 → xR 226 Z) : wJ (pe_GA xs) wY0 (mS ml) (d + 12) t_XK_step ((pe_at t_XK_step.bl 0).getD (0, [])).2 [(0, (2, 226))] [] S (fun o Z2 => ∃ Z : wS, R Z ∧ sR 226 Z o Z2) := by
  obtain ⟨i1, i2, -⟩ := hi0
  have hga := hg
  obtain ⟨⟨g1, g2⟩, ⟨g3, g4⟩, ⟨g5, g6⟩, g7, g8⟩ := hg
  have hbh : 0 ≤ bh := by omega
  have hku : cVl S (S 228 (ba : Int)) (S 229 (ba : Int)) (K.1.getD ba (0, 0, [])) := by
    have z := h.1.1.2.1 ba (by omega)
    rw [Int.zero_add] at z
    exact z
  have hvu := vOk_get hv (show ba < K.1.length by omega)
  have hgb : (K.1.getD ba (0, 0, [])).1 ≠ 3 → (S 229 (ba : Int)) = (K.1.getD ba (0, 0, [])).2.1 := fun z => (hku.2.1 z).1
  refine ss_226 (R := R) (PA := fun Z => amQ 226 s kd ec (ba : Int) (K.1.getD ba (0, 0, [])).1 (S 229 (ba : Int)) nms (esV (ar.map (clO T))) (w_up S 226 16 0) Z) (xB_of h) i1 i2 hml hmn hmn2 (wJ_mono (aiC_226 (d := d + 7) h hW hT hse.1 hs hkd hne hnm hga hv hc) (fun o Z q => q)) (fun Z ha => Or.inr ⟨?_, ?_⟩) hR
  · exact (ha.2 226 16 (by omega)).trans (w_up_same _ _ _ _)
  · have hC := h.2.1.1
    have fr : ∀ (j : Nat) (x : Int), (j ≠ 158 ∨ x < 4 ∨ 13 < x) → (j ≠ 226 ∨ x ≠ 16) → Z j x = S j x := fun j x j0 j1 => (ha.2 j x j0).trans (w_up_no (by omega))
    obtain ⟨f1, f2, f3, f4, f5, f6, f7, f8, f9, f10⟩ := ha.1
    have e72 : Z 72 11 = S 72 11 := fr 72 11 (by omega) (by omega)
    have e43 : Z 43 s = S 43 s := fr 43 s (by omega) (by omega)
    have e42 : Z 42 s = S 42 s := fr 42 s (by omega) (by omega)
    have e19 : Z 158 19 = S 158 19 := fr 158 19 (by omega) (by omega)
    have hseZ : cSe Z E ix fl ow := cSe_ag hse (fun j x hj => fr j x (by unfold cEo at hj; omega) (by unfold cEo at hj; omega))
    have hF : hdF s kd nms (K.1.getD ba (0, 0, [])).1 (S 229 (ba : Int)) nms (esV (ar.map (clO T))) T H L G Z := ⟨⟨fun q hq => (fr q.1 (-1) (by omega) (by omega)).trans (hC q hq), cWd_ag hW (cTx_of (fr 2 1 (by omega) (by omega)) (fun x => fr 3 x (by omega) (by omega))) (fun j x hj => fr j x (by unfold cWo at hj; omega) (by unfold cWo at hj; omega)), cSw_ag hsw (fun j x hj => fr j x (by omega) (by omega))⟩, ⟨f3, f4, f6, f7, f8, f10⟩, (fr 35 s (by omega) (by omega)).trans hkd, (fr 36 s (by omega) (by omega)).trans hnm⟩
    refine wJ_mono (hed_ok (d := d + 8) hs.1 hwS hT hlo hhi (fun z => ?_) (fun z => ?_) (by rw [e72]; exact hcg) hseZ hF (by rw [fr 19 9 (by omega) (by omega)]; exact hs.2) (by rw [e43]; exact h43) (by rw [e42]; exact h42) (by rw [e19]; exact h19) hwe) (fun o Y hq => ?_)
    · rw [hgb (by omega)]
      obtain ⟨y1, y2⟩ := hvu.2.1 (by omega) (by omega)
      exact ⟨y1, by rw [y2]; exact z⟩
    · rw [hgb (by omega)]
      exact (hvu.2.1 (by omega) (by omega)).1
    · have hvs := hdQ_v (w := 226) (by omega) hq ha
      have y16 := hvs.2.2.2.1
      obtain ⟨-, -, -, q4⟩ := hq
      rcases q4 with ⟨q5, q6, q7, q8⟩ | ⟨e, y, q5, q6, q7, q8, q9, q10⟩
      · exact ⟨-1, q6, by decide, y16, Or.inr ⟨rfl, hN Y hvs q5 (q7.trans e42) (q8.trans e19)⟩⟩
      · have hyr : -2147483648 ≤ y ∧ y ≤ 2147483647 := by
          obtain ⟨-, -, hcl⟩ := hvs
          have l48 : Y 48 (-1) = S 48 (-1) := hcl.2.2 48 (-1) (by unfold hdM; omega) (by omega) (by omega)
          have := hse.1.2.2.2
          omega
        exact ⟨y, q6, hyr, y16, Or.inl ⟨by omega, hH Y y e hvs q5 q7 q8 (by rw [q9, e42]) (by rw [q10, e19])⟩⟩
end Wiw
