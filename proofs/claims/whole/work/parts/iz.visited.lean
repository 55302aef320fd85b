/-! PART iz: a site is visited, by tasks, where aiming has changed more: of the class. -/
section Wiz
variable {xs : List (Nat × List Int32)} {M : Nat → Prop} {d : Nat} {S Z Y : wS} {K : aK} {T : List aO} {H : List aH} {L : List aC} {G : Int → aV} {s kd ne ec bh nms b lo hi : Int} {ba : Nat} {ar : List aV} {E : Int → List aE} {R : wS → Prop} {PB : wS → Int → Prop} {ml : List Nat}
/-- what must hold of the state that is aimed from -/
def vsB (w : Nat) (s kd nms : Int) (T : List aO) (H : List aH) (L : List aC) (G : Int → aV) (E : Int → List aE) (B : wS) : Prop := (w_CL B ∧ cWd B T L G ∧ cSw B T H ∧ ∃ (ix : Int → List Int) (fl : List Int) (ow : Int → Int), cSe B E ix fl ow) ∧ ((0 ≤ s ∧ s < B 19 9) ∧ B 35 s = kd ∧ B 36 s = nms ∧ B w 16 = 0) ∧ (∀ k : Int, isO T k → aCg T k ≤ B 72 11) ∧ (0 ≤ B 43 s ∧ B 43 s + 4 ≤ 1000000) ∧ (0 ≤ B 42 s ∧ B 42 s ≤ 1000000) ∧ 0 ≤ B 158 19 ∧ B 158 19 ≤ 1000000
theorem viG_215 (h : stC 215 S K) (hi0 : cIn S K 27 s b) (hwS : wSh T H) (hT : (T.length : Int) ≤ 8000) (hba : ba < K.1.length) (hv : ∀ v ∈ K.1, vOk T v) (hA : wJ (pe_GA xs) wY0 (mS ml) (d + 11) t_XL_aim ((pe_at t_XL_aim.bl 0).getD (0, [])).2 [(0, (2, 158)), (1, (2, 215)), (2, (0, s))] [] (w_up S 215 16 0) (fun o Z => o = .inl none ∧ ((Z 215 16 ≠ 0 ∧ R Z) ∨ ∃ (B : wS) (nm : Int), PB B nm ∧ amQ 215 s kd ec (ba : Int) (K.1.getD ba (0, 0, [])).1 (S 218 (ba : Int)) nm (esV (ar.map (clO T))) B Z))) (hPB : ∀ (B : wS) (nm : Int), PB B nm → vsB 215 s kd nms T H L G E B) (hlo : wb_l2i (esV (ar.map (clO T))) = lo) (hhi : wb_l2i (wb_lushr (esV (ar.map (clO T))) 32) = hi) (hwe : ∀ e ∈ E s, wEn H kd nms e) (hml : ∀ x ∈ [217, 218], x ∈ ml) (hmn : ¬ mS ml 215) (hmn2 : ¬ mS ml 158) (hH : ∀ (B : wS) (nm : Int) (Y : wS) (y : Int) (e : aE), PB B nm → vsC 215 s kd ec (ba : Int) (K.1.getD ba (0, 0, [])).1 (S 218 (ba : Int)) nm (esV (ar.map (clO T))) nms lo hi T H E B Y → (hlF T H kd nms (K.1.getD ba (0, 0, [])).1 (S 218 (ba : Int)) nm lo hi (E s)).2.2 = some e → cEc Y kd nms e y → (0 ≤ y ∧ y < Y 48 (-1)) → Y 42 s = B 42 s + 1 → Y 158 19 = B 158 19 + (if irE T H kd (S 218 (ba : Int)) nm e then 0 else 1) → wJ (pe_GA xs) wY0 (mS ml) (d + 11) t_XL_act ((pe_at t_XL_act.bl 0).getD (0, [])).2 [(0, (2, 158)), (1, (0, y))] [] Y (fun o V => o = .inl none ∧ R V)) (hN : ∀ (B : wS) (nm : Int) (Y : wS), PB B nm → vsC 215 s kd ec (ba : Int) (K.1.getD ba (0, 0, [])).1 (S 218 (ba : Int)) nm (esV (ar.map (clO T))) nms lo hi T H E B Y → (hlF T H kd nms (K.1.getD ba (0, 0, [])).1 (S 218 (ba : Int)) nm lo hi (E s)).2.2 = none → Y 42 s = B 42 s → Y 158 19 = B 158 19 → wJ (pe_GA xs) wY0 (mS ml) (d + 11) t_XL_look ((pe_at t_XL_look.bl 0).getD (0, [])).2 [(0, (2, 158))] [] Y (fun o X => ∃ y2 : Int, o = .inl (some (0, y2)) ∧ ((X 215 16 ≠ 0 ∧ R X) ∨ (X 215 16 = 0 ∧ wJ (pe_GA xs) wY0 (mS ml) (d + 11) t_XL_act ((pe_at t_XL_act.bl 0).getD (0, [])).2 [(0, (2, 158)), (1, (0, y2))] [] X (fun o V => o = .inl none ∧ R V))))) (hR : ∀ Z : wS, R Z → Z 215 16 ≠ 0 → Z 215 16 ≠ 99 → xR 215 Z) : wJ (pe_GA xs) wY0 (mS ml) (d + 12) t_XK_step ((pe_at t_XK_step.bl 0).getD (0, [])).2 [(0, (2, 215))] [] S (fun o Z2 => ∃ Z : wS, R Z ∧ sR 215 Z o Z2) := by
  obtain ⟨i1, i2, -⟩ := hi0
  have hku : cVl S (S 217 (ba : Int)) (S 218 (ba : Int)) (K.1.getD ba (0, 0, [])) := by
    have z := h.1.1.2.1 ba hba
    rw [Int.zero_add] at z
    exact z
  have hvu := vOk_get hv hba
  have hgb : (K.1.getD ba (0, 0, [])).1 ≠ 3 → (S 218 (ba : Int)) = (K.1.getD ba (0, 0, [])).2.1 := fun z => (hku.2.1 z).1
  refine ss_215 (R := R) (PA := fun Z => (Z 215 16 ≠ 0 ∧ R Z) ∨ ∃ (B : wS) (nm : Int), PB B nm ∧ amQ 215 s kd ec (ba : Int) (K.1.getD ba (0, 0, [])).1 (S 218 (ba : Int)) nm (esV (ar.map (clO T))) B Z) (xB_of h) i1 i2 hml hmn hmn2 hA (fun Z hZ => ?_) hR
  rcases hZ with hZ | ⟨B, nm, hB, ha⟩
  · exact Or.inl hZ
  obtain ⟨⟨hC, hW, hsw, ix, fl, ow, hse⟩, ⟨hs, hkd, hnm, h16⟩, hcg, h43, h42, h19⟩ := hPB B nm hB
  refine Or.inr ⟨(ha.2 215 16 (by omega)).trans h16, ?_⟩
  have fr : ∀ (j : Nat) (x : Int), (j ≠ 158 ∨ x < 4 ∨ 13 < x) → Z j x = B j x := ha.2
  obtain ⟨f1, f2, f3, f4, f5, f6, f7, f8, f9, f10⟩ := ha.1
  have e72 : Z 72 11 = B 72 11 := fr 72 11 (by omega)
  have e43 : Z 43 s = B 43 s := fr 43 s (by omega)
  have e42 : Z 42 s = B 42 s := fr 42 s (by omega)
  have e19 : Z 158 19 = B 158 19 := fr 158 19 (by omega)
  have hseZ : cSe Z E ix fl ow := cSe_ag hse (fun j x hj => fr j x (by unfold cEo at hj; omega))
  have hF : hdF s kd nms (K.1.getD ba (0, 0, [])).1 (S 218 (ba : Int)) nm (esV (ar.map (clO T))) T H L G Z := ⟨⟨fun q hq => (fr q.1 (-1) (by omega)).trans (hC q hq), cWd_ag hW (cTx_of (fr 2 1 (by omega)) (fun x => fr 3 x (by omega))) (fun j x hj => fr j x (by unfold cWo at hj; omega)), cSw_ag hsw (fun j x hj => fr j x (by omega))⟩, ⟨f3, f4, f6, f7, f8, f10⟩, (fr 35 s (by omega)).trans hkd, (fr 36 s (by omega)).trans hnm⟩
  refine wJ_mono (hed_ok (d := d + 8) hs.1 hwS hT hlo hhi (fun z => ?_) (fun z => ?_) (by rw [e72]; exact hcg) hseZ hF (by rw [fr 19 9 (by omega)]; exact hs.2) (by rw [e43]; exact h43) (by rw [e42]; exact h42) (by rw [e19]; exact h19) hwe) (fun o Y hq => ?_)
  · rw [hgb (by omega)]
    obtain ⟨y1, y2⟩ := hvu.2.1 (by omega) (by omega)
    exact ⟨y1, by rw [y2]; exact z⟩
  · rw [hgb (by omega)]
    exact (hvu.2.1 (by omega) (by omega)).1
  · have hvs : vsC 215 s kd ec (ba : Int) (K.1.getD ba (0, 0, [])).1 (S 218 (ba : Int)) nm (esV (ar.map (clO T))) nms lo hi T H E B Y := hdQ_v (w := 215) (S := B) (by omega) hq (by rw [← w_up_eta h16]; exact ha)
    have y16 := hvs.2.2.2.1
    obtain ⟨-, -, -, q4⟩ := hq
    rcases q4 with ⟨q5, q6, q7, q8⟩ | ⟨e, y, q5, q6, q7, q8, q9, q10⟩
    · exact ⟨-1, q6, by decide, y16, Or.inr ⟨rfl, hN B nm Y hB hvs q5 (q7.trans e42) (q8.trans e19)⟩⟩
    · have hyr : -2147483648 ≤ y ∧ y ≤ 2147483647 := by
        obtain ⟨-, -, hcl⟩ := hvs
        have l48 : Y 48 (-1) = B 48 (-1) := hcl.2.2 48 (-1) (by unfold hdM; omega) (by omega) (by omega)
        have := hse.1.2.2.2
        omega
      exact ⟨y, q6, hyr, y16, Or.inl ⟨by omega, hH B nm Y y e hB hvs q5 q7 q8 (by rw [q9, e42]) (by rw [q10, e19])⟩⟩
theorem viG_226 (h : stC 226 S K) (hi0 : cIn S K 27 s b) (hwS : wSh T H) (hT : (T.length : Int) ≤ 8000) (hba : ba < K.1.length) (hv : ∀ v ∈ K.1, vOk T v) (hA : wJ (pe_GA xs) wY0 (mS ml) (d + 11) t_XL_aim ((pe_at t_XL_aim.bl 0).getD (0, [])).2 [(0, (2, 158)), (1, (2, 226)), (2, (0, s))] [] (w_up S 226 16 0) (fun o Z => o = .inl none ∧ ((Z 226 16 ≠ 0 ∧ R Z) ∨ ∃ (B : wS) (nm : Int), PB B nm ∧ amQ 226 s kd ec (ba : Int) (K.1.getD ba (0, 0, [])).1 (S 229 (ba : Int)) nm (esV (ar.map (clO T))) B Z))) (hPB : ∀ (B : wS) (nm : Int), PB B nm → vsB 226 s kd nms T H L G E B) (hlo : wb_l2i (esV (ar.map (clO T))) = lo) (hhi : wb_l2i (wb_lushr (esV (ar.map (clO T))) 32) = hi) (hwe : ∀ e ∈ E s, wEn H kd nms e) (hml : ∀ x ∈ [228, 229], x ∈ ml) (hmn : ¬ mS ml 226) (hmn2 : ¬ mS ml 158) (hH : ∀ (B : wS) (nm : Int) (Y : wS) (y : Int) (e : aE), PB B nm → vsC 226 s kd ec (ba : Int) (K.1.getD ba (0, 0, [])).1 (S 229 (ba : Int)) nm (esV (ar.map (clO T))) nms lo hi T H E B Y → (hlF T H kd nms (K.1.getD ba (0, 0, [])).1 (S 229 (ba : Int)) nm lo hi (E s)).2.2 = some e → cEc Y kd nms e y → (0 ≤ y ∧ y < Y 48 (-1)) → Y 42 s = B 42 s + 1 → Y 158 19 = B 158 19 + (if irE T H kd (S 229 (ba : Int)) nm e then 0 else 1) → wJ (pe_GA xs) wY0 (mS ml) (d + 11) t_XL_act ((pe_at t_XL_act.bl 0).getD (0, [])).2 [(0, (2, 158)), (1, (0, y))] [] Y (fun o V => o = .inl none ∧ R V)) (hN : ∀ (B : wS) (nm : Int) (Y : wS), PB B nm → vsC 226 s kd ec (ba : Int) (K.1.getD ba (0, 0, [])).1 (S 229 (ba : Int)) nm (esV (ar.map (clO T))) nms lo hi T H E B Y → (hlF T H kd nms (K.1.getD ba (0, 0, [])).1 (S 229 (ba : Int)) nm lo hi (E s)).2.2 = none → Y 42 s = B 42 s → Y 158 19 = B 158 19 → wJ (pe_GA xs) wY0 (mS ml) (d + 11) t_XL_look ((pe_at t_XL_look.bl 0).getD (0, [])).2 [(0, (2, 158))] [] Y (fun o X => ∃ y2 : Int, o = .inl (some (0, y2)) ∧ ((X 226 16 ≠ 0 ∧ R X) ∨ (X 226 16 = 0 ∧ wJ (pe_GA xs) wY0 (mS ml) (d + 11) t_XL_act ((pe_at t_XL_act.bl 0).getD (0, [])).2 [(0, (2, 158)), (1, (0, y2))] [] X (fun o V => o = .inl none ∧ R V))))) (hR : ∀ Z : wS, R Z → Z 226 16 ≠ 0 → Z 226 16 ≠ 99 → xR 226 Z) : wJ (pe_GA xs) wY0 (mS ml) (d + 12) t_XK_step ((pe_at t_XK_step.bl 0).getD (0, [])).2 [(0, (2, 226))] [] S (fun o Z2 => ∃ Z : wS, R Z ∧ sR 226 Z o Z2) := by
  obtain ⟨i1, i2, -⟩ := hi0
  have hku : cVl S (S 228 (ba : Int)) (S 229 (ba : Int)) (K.1.getD ba (0, 0, [])) := by
    have z := h.1.1.2.1 ba hba
    rw [Int.zero_add] at z
    exact z
  have hvu := vOk_get hv hba
  have hgb : (K.1.getD ba (0, 0, [])).1 ≠ 3 → (S 229 (ba : Int)) = (K.1.getD ba (0, 0, [])).2.1 := fun z => (hku.2.1 z).1
  refine ss_226 (R := R) (PA := fun Z => (Z 226 16 ≠ 0 ∧ R Z) ∨ ∃ (B : wS) (nm : Int), PB B nm ∧ amQ 226 s kd ec (ba : Int) (K.1.getD ba (0, 0, [])).1 (S 229 (ba : Int)) nm (esV (ar.map (clO T))) B Z) (xB_of h) i1 i2 hml hmn hmn2 hA (fun Z hZ => ?_) hR
  rcases hZ with hZ | ⟨B, nm, hB, ha⟩
  · exact Or.inl hZ
  obtain ⟨⟨hC, hW, hsw, ix, fl, ow, hse⟩, ⟨hs, hkd, hnm, h16⟩, hcg, h43, h42, h19⟩ := hPB B nm hB
  refine Or.inr ⟨(ha.2 226 16 (by omega)).trans h16, ?_⟩
  have fr : ∀ (j : Nat) (x : Int), (j ≠ 158 ∨ x < 4 ∨ 13 < x) → Z j x = B j x := ha.2
  obtain ⟨f1, f2, f3, f4, f5, f6, f7, f8, f9, f10⟩ := ha.1
  have e72 : Z 72 11 = B 72 11 := fr 72 11 (by omega)
  have e43 : Z 43 s = B 43 s := fr 43 s (by omega)
  have e42 : Z 42 s = B 42 s := fr 42 s (by omega)
  have e19 : Z 158 19 = B 158 19 := fr 158 19 (by omega)
  have hseZ : cSe Z E ix fl ow := cSe_ag hse (fun j x hj => fr j x (by unfold cEo at hj; omega))
  have hF : hdF s kd nms (K.1.getD ba (0, 0, [])).1 (S 229 (ba : Int)) nm (esV (ar.map (clO T))) T H L G Z := ⟨⟨fun q hq => (fr q.1 (-1) (by omega)).trans (hC q hq), cWd_ag hW (cTx_of (fr 2 1 (by omega)) (fun x => fr 3 x (by omega))) (fun j x hj => fr j x (by unfold cWo at hj; omega)), cSw_ag hsw (fun j x hj => fr j x (by omega))⟩, ⟨f3, f4, f6, f7, f8, f10⟩, (fr 35 s (by omega)).trans hkd, (fr 36 s (by omega)).trans hnm⟩
  refine wJ_mono (hed_ok (d := d + 8) hs.1 hwS hT hlo hhi (fun z => ?_) (fun z => ?_) (by rw [e72]; exact hcg) hseZ hF (by rw [fr 19 9 (by omega)]; exact hs.2) (by rw [e43]; exact h43) (by rw [e42]; exact h42) (by rw [e19]; exact h19) hwe) (fun o Y hq => ?_)
  · rw [hgb (by omega)]
    obtain ⟨y1, y2⟩ := hvu.2.1 (by omega) (by omega)
    exact ⟨y1, by rw [y2]; exact z⟩
  · rw [hgb (by omega)]
    exact (hvu.2.1 (by omega) (by omega)).1
  · have hvs : vsC 226 s kd ec (ba : Int) (K.1.getD ba (0, 0, [])).1 (S 229 (ba : Int)) nm (esV (ar.map (clO T))) nms lo hi T H E B Y := hdQ_v (w := 226) (S := B) (by omega) hq (by rw [← w_up_eta h16]; exact ha)
    have y16 := hvs.2.2.2.1
    obtain ⟨-, -, -, q4⟩ := hq
    rcases q4 with ⟨q5, q6, q7, q8⟩ | ⟨e, y, q5, q6, q7, q8, q9, q10⟩
    · exact ⟨-1, q6, by decide, y16, Or.inr ⟨rfl, hN B nm Y hB hvs q5 (q7.trans e42) (q8.trans e19)⟩⟩
    · have hyr : -2147483648 ≤ y ∧ y ≤ 2147483647 := by
        obtain ⟨-, -, hcl⟩ := hvs
        have l48 : Y 48 (-1) = B 48 (-1) := hcl.2.2 48 (-1) (by unfold hdM; omega) (by omega) (by omega)
        have := hse.1.2.2.2
        omega
      exact ⟨y, q6, hyr, y16, Or.inl ⟨by omega, hH B nm Y y e hB hvs q5 q7 q8 (by rw [q9, e42]) (by rw [q10, e19])⟩⟩
end Wiz
