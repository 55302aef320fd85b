/-! PART o3: host, from what is between two calls to what is between two calls. -/
section Wo3
variable {xs : List (Nat × List Int32)} {S : wS} {m9 d : Nat}
/-- a host that was read has no more words than a key holds -/
def hwB_162 (S : wS) : Prop := ∀ (c : Nat) (cs : List hCR) (ms : List hMR) (os : Int → List Int) (Zr : wS), ho_f_261 (hb_0 S) 61 [] [] (tp (S 239) (S 237 3) 1 0) = .inr (cs, ms) → JT_162 (hb_0 S) (S 239) (S 237 3) c cs ms os Zr → hs_P 162 163 206 207 214 S Zr → Zr 163 7 ≤ 1024
theorem kc1_73 (h : RM xs m9 S) (hm : m9 < 512) (h72 : S 72 1 = 73) (hW : hwB_162 S) : wJ (pe_GA xs) wY0 (mS [15, 16, 17, 164, 165, 166, 167, 168, 169, 206, 207]) (d + 14) t_X_host ((pe_at t_X_host.bl 0).getD (0, [])).2 [(0, (2, 0))] [] S (fun o1 Z => ∀ (M2 : Nat → Prop) (d2 : Nat), wJ (pe_GA xs) wY0 M2 (d2 + 9) t_M_host ((pe_at t_M_host.bl 0).getD (0, [])).2 [(0, (2, 237))] [] Z (fun o2 S2 => (∃ v : Int, o1 = .inl (some (0, v)) ∧ o2 = .inl (some (0, v))) ∧ RM xs (m9 + 1) S2)) := by
  have ho := RM_o h
  obtain ⟨p', q', b', b2', pm, X0, HT, nt, cs0, ms0, os0, mo0, fa, A, hp, hR, -, -, -, hT, -, hvp, -⟩ := id h
  have hg : wG = 1000000 := rfl
  have ep : p' = 73 := by have := hR.2.1.1; omega
  have eq : q' = 162 ∧ b' = 241 ∧ b2' = 261 := by unfold RMp at hp; omega
  obtain ⟨eq1, eq2, eq3⟩ := eq
  subst ep
  subst eq1
  subst eq2
  subst eq3
  have hw := hR.1.2.2.2.2.2.2.2.1
  have h6 := hR.2.2.2.2.1
  refine wJ_mono (wJ_len (xh_162 (JE := fun cs ms os S1 => JO cs os ∧ JX 176 186 163 206 207 (S 239) cs ms S1 ∧ JV cs ms ∧ (wOs cs os ∧ wAb cs) ∧ JN (S 237 3) cs ms) (A := hb_0 S) (T := S 239) (n := S 237 3) (fun c => JE_and_162 JO_162 (JE_and_162 JX_162 (JE_and_162 JV_162 (JE_and_162 JW_162 JN_162)))) hT.1.1 hT.1.2.1 ⟨?_, ?_, rfl⟩ hR.1 hR.2.1 h6 (by rw [← h6]; omega) (by rw [← h6]; exact hR.2.2.2.2.2.1))) (fun o1 Z hzl M2 d2 => ?_)
  · show w_up (w_up S 237 4 (S 237 3)) 237 5 1 239 = S 239
    rw [w_up_row (by first | decide | omega), w_up_row (by first | decide | omega)]
  · show w_up (w_up S 237 4 (S 237 3)) 237 5 1 237 4 = S 237 3
    rw [w_up_at (by first | decide | omega), w_up_same]
  obtain ⟨hz, hl⟩ := hzl
  have hG : ∀ j : Nat, j < 400 → j ≠ wG := fun j hj => by unfold wG; omega
  have hP0 : ∃ Zr : wS, hs_P 162 163 206 207 214 S Zr ∧ (cl_ch 73 162 Zr Z ∨ Z = w_up Zr 0 1 0) := by
    rcases hz with ⟨c, cs, ms, os, Zr, -, -, -, g1, -, -, g2⟩ | ⟨e, x, Zr, -, -, -, g1, -, g2⟩
    · exact ⟨Zr, g1, Or.inl g2⟩
    · exact ⟨Zr, g1, Or.inr g2⟩
  obtain ⟨Zr0, hP, hcl⟩ := hP0
  have zr : ∀ (j : Nat) (x : Int), j < 4000000 → j ≠ wG → (j < 14 ∨ 18 < j) → j ≠ 61 → j ≠ 62 → (j < 162 ∨ 214 < j) → Zr0 j x = S j x := hP.1
  have zz : ∀ j : Nat, 236 < j → Z j = Zr0 j := by
    intro j j0
    funext i
    rcases hcl with hcl | rfl
    · exact (cl_all_162 hcl).2.2 j i (cl_fr_lo (fun _ => by omega) (by first | decide | omega))
    · exact w_up_slot (by omega)
  have zs : ∀ j : Nat, 236 < j → j < 4000000 → j ≠ wG → Z j = S j := fun j j0 j1 j2 => (zz j j0).trans (funext fun i => zr j i j1 j2 (by omega) (by omega) (by omega) (by omega))
  have zm : ∀ j : Nat, Z j (-1) = Zr0 j (-1) := by
    intro j
    rcases hcl with hcl | rfl
    · exact (cl_all_162 hcl).2.2 j (-1) (Or.inl (by first | decide | omega))
    · exact w_up_at (by first | decide | omega)
  have zl : ∀ (j : Nat) (i : Int), 236 < j → j < 388 → Z j i = S j i := fun j i j0 j1 => congrFun (zs j j0 (by omega) (hG j (by omega))) i
  have no : ∀ j : Nat, ((209 ≤ j ∧ j ≤ 214) ∨ j = 1000001) → ¬ mS [15, 16, 17, 164, 165, 166, 167, 168, 169, 206, 207] j := fun j hj z => by
    rcases z with z | z
    · omega
    · simp only [List.mem_cons, List.not_mem_nil, or_false] at z
      omega
  have hlq : ∀ j : Nat, (209 ≤ j ∧ j ≤ 214) → Z j (-1) = S j (-1) := fun j hj => by
    have hn := no j (by omega)
    have hj2 : j = 209 ∨ j = 210 ∨ j = 211 ∨ j = 212 ∨ j = 213 ∨ j = 214 := by omega
    rcases hj2 with rfl | rfl | rfl | rfl | rfl | rfl <;> exact hl _ (wy_pr rfl) (by decide +kernel) hn
  have hlen : ∀ j : Nat, lD j → Z j (-1) = S j (-1) := fun j hj => by
    unfold lD at hj
    by_cases c : 209 ≤ j ∧ j ≤ 214
    · exact hlq j c
    · exact (zm j).trans (zr j (-1) (by omega) (by rw [hg]; omega) (by omega) (by omega) (by omega) (by omega))
  have hlo : Z 1000001 (-1) = 1 := (hl 1000001 ⟨Or.inr (by rw [ho]; decide), by unfold wG; decide⟩ (by rw [wt_out]; decide) (no 1000001 (by omega))).trans ho
  have hb0 : zG (hb_0 Z) (hb_0 S) 261 := by
    refine ⟨?_, ?_, ?_, fun j j0 j1 => ?_⟩
    · show w_up (w_up Z 237 4 (Z 237 3)) 237 5 1 239 = w_up (w_up S 237 4 (S 237 3)) 237 5 1 239
      rw [w_up_row (by first | decide | omega), w_up_row (by first | decide | omega), w_up_row (by first | decide | omega), w_up_row (by first | decide | omega)]; exact zs 239 (by first | decide | omega) (by first | decide | omega) (hG _ (by first | decide | omega))
    · show w_up (w_up Z 237 4 (Z 237 3)) 237 5 1 237 4 = w_up (w_up S 237 4 (S 237 3)) 237 5 1 237 4
      rw [w_up_at (by first | decide | omega), w_up_same, w_up_at (by first | decide | omega), w_up_same, zs 237 (by first | decide | omega) (by first | decide | omega) (hG _ (by first | decide | omega))]
    · rfl
    · show w_up (w_up Z 237 4 (Z 237 3)) 237 5 1 j = w_up (w_up S 237 4 (S 237 3)) 237 5 1 j
      rw [w_up_row (by omega), w_up_row (by omega), w_up_row (by omega), w_up_row (by omega)]; exact zs j (by omega) (by omega) (hG j (by omega))
  have hho : ho_f_261 (hb_0 Z) 61 [] [] (lx_go (Z 239) (Z 237 3) 0) = ho_f_261 (hb_0 S) 61 [] [] (tp (S 239) (S 237 3) 1 0) := by
    rw [ho_f_F_261 hb0, zs 239 (by first | decide | omega) (by first | decide | omega) (hG _ (by first | decide | omega)), zs 237 (by first | decide | omega) (by first | decide | omega) (hG _ (by first | decide | omega))]; rfl
  refine wJ_mono (host_261 hT.1.1 (fun y hy => (zl y.1 (-1) (wy_lt y hy).1 (wy_lt y hy).2).trans (hR.2.2.1 y hy)) (by rw [zl 237 3 (by first | decide | omega) (by first | decide | omega), ← h6]; exact ⟨hw.1, hw.2.1⟩) ((zl 237 14 (by first | decide | omega) (by first | decide | omega)).trans hR.2.2.2.1.2) ((zl 237 13 (by first | decide | omega) (by first | decide | omega)).trans hR.2.2.2.1.1)) (fun o2 S2 h2 => ?_)
  have hb := bh_162 (o1 := o1) (o2 := o2) (S2 := S2) (Z := Z) hR (by
    rcases hz with ⟨c, cs, ms, os, Zr, e1, f1, j1, p1, m1, je, c1⟩ | hz
    · exact Or.inl ⟨c, cs, ms, os, Zr, e1, f1, j1, p1, m1, je.1, c1⟩
    · exact Or.inr hz) h2
  refine ⟨hb.1, ?_⟩
  rw [hho] at h2
  rcases hz with ⟨c, cs, ms, os, Zr, e1, f1, j1, p1, m1, je, c1⟩ | ⟨e, x, Zr, e1, f1, x1, p1, m1, c1⟩
  · rcases h2 with ⟨e, x, Y, f2, -⟩ | ⟨cs2, ms2, Y, X, f2, e2, y1, y2, y3, y4, y5, y6, y7, y8, y9, y10, y11, y12, x1, x2, x3, rfl⟩
    · rw [f1] at f2; cases f2
    · have hk := hW c cs ms os Zr f1 j1 p1
      rw [f1] at f2
      cases f2
      exact hsu_162 h hm h72 (hb.2.1 e1) j1 p1 m1 je c1 hlen hlo hk y1 y3 y5 y6 y7 y8 y9 y10 y12 x1 x2 x3
  · rcases h2 with ⟨e', x', Y, f2, e2, y1, y2, y3, y4, rfl⟩ | ⟨cs2, ms2, Y, X, f2, -⟩
    · have hA2 := hb.2.2 (fun z => by
        rw [e1] at z
        have q1 : e + 16 * x = 0 := congrArg (fun (u : wv) => u.2) (Option.some.inj (Sum.inl.inj z))
        omega)
      have yl : ∀ (j : Nat) (i : Int), j < 237 → w_up Y 237 3 0 j i = Z j i := fun j i j0 => (w_up_slot (by omega)).trans (y1 j i (by omega) (by omega) (by omega) (by omega))
      have ym : ∀ j : Nat, w_up Y 237 3 0 j (-1) = Z j (-1) := fun j => (w_up_at (by first | decide | omega)).trans (y1 j (-1) (by omega) (by omega) (by omega) (by omega))
      have zq : ∀ (j : Nat) (i : Int), j ≠ 0 → Z j i = Zr j i := fun j i j0 => by rw [c1]; exact w_up_slot (by omega)
      have yg : ∀ i : Int, w_up Y 237 3 0 wG i = Zr wG i := fun i => (w_up_slot (by rw [hg]; decide)).trans ((y1 wG i (by rw [hg]; omega) (by rw [hg]; omega) (by rw [hg]; omega) (by rw [hg]; omega)).trans (zq wG i (by rw [hg]; decide)))
      have p8 := p1.2.2.2.2.2.2.2
      refine RM_x (p := 73) (q := 162) (b := 241) (b2 := 261) h hm h72 hp hA2 (fun j i hj => ?_) (fun j i a1 a2 a3 a4 a5 a6 a7 => ?_) ((yl 0 1 (by first | decide | omega)).trans (by rw [c1]; exact w_up_same _ _ _ _)) hA2.1.2.1 ⟨⟨?_, ?_⟩, hA2.1.2.2.2.2.2.1.1, hA2.1.2.2.2.2.2.1.2.1, hA2.1.2.2.2.2.2.1.2.2.1, Int.le_trans hA2.1.2.2.2.2.2.1.2.2.2 (by decide)⟩ ?_ (fun j j0 j1 => (ym j).trans (hlq j (by omega)))
      · unfold xD at hj
        exact (yl j i (by omega)).trans ((zq j i (by omega)).trans (p1.1 j i (by omega) (by rw [hg]; omega) (by omega) (by omega) (by omega) (by omega)))
      · by_cases c : j = 237 ∧ i = 13
        · rw [c.1, c.2]
          exact hA2.2.2.2.1.1.trans hR.2.2.2.1.1.symm
        · by_cases c2 : j = 237
          · rw [c2] at a6 c ⊢
            exact (w_up_at (by omega)).trans ((y1 237 i (by omega) (by omega) (by omega) (by omega)).trans (congrFun (zs 237 (by first | decide | omega) (by first | decide | omega) (hG _ (by first | decide | omega))) i))
          · exact (w_up_slot (by omega)).trans ((y1 j i (by omega) (by omega) (by omega) (by omega)).trans (congrFun (zs j (by omega) (by omega) a2) i))
      · rw [yl 14 3 (by first | decide | omega), zq 14 3 (by first | decide | omega)]
        exact p8.2.1
      · rw [yl 14 3 (by first | decide | omega), zq 14 3 (by first | decide | omega), ym 15, zq 15 (-1) (by first | decide | omega)]
        exact p8.2.2.1
      · have g := xr_rm m1
        have eg : gl (w_up Y 237 3 0) = gl Zr := gl_same gl_l (fun a ha => (ym a).trans (by rw [c1]; exact w_up_at (by first | decide | omega)))
        exact rm6_ag g (fun a ha => (ym a).trans (by rw [c1]; exact w_up_at (by first | decide | omega))) (yg 0) (yg 1)
    · rw [f1] at f2; cases f2
/-- a host that was read has no more words than a key holds -/
def hwB_73 (S : wS) : Prop := ∀ (c : Nat) (cs : List hCR) (ms : List hMR) (os : Int → List Int) (Zr : wS), ho_f_241 (hb_0 S) 61 [] [] (tp (S 239) (S 237 3) 1 0) = .inr (cs, ms) → JT_73 (hb_0 S) (S 239) (S 237 3) c cs ms os Zr → hs_P 73 74 117 118 125 S Zr → Zr 74 7 ≤ 1024
theorem kc1_162 (h : RM xs m9 S) (hm : m9 < 512) (h72 : S 72 1 = 162) (hW : hwB_73 S) : wJ (pe_GA xs) wY0 (mS [15, 16, 17, 75, 76, 77, 78, 79, 80, 117, 118]) (d + 14) t_X_host ((pe_at t_X_host.bl 0).getD (0, [])).2 [(0, (2, 0))] [] S (fun o1 Z => ∀ (M2 : Nat → Prop) (d2 : Nat), wJ (pe_GA xs) wY0 M2 (d2 + 9) t_M_host ((pe_at t_M_host.bl 0).getD (0, [])).2 [(0, (2, 237))] [] Z (fun o2 S2 => (∃ v : Int, o1 = .inl (some (0, v)) ∧ o2 = .inl (some (0, v))) ∧ RM xs (m9 + 1) S2)) := by
  have ho := RM_o h
  obtain ⟨p', q', b', b2', pm, X0, HT, nt, cs0, ms0, os0, mo0, fa, A, hp, hR, -, -, -, hT, -, hvp, -⟩ := id h
  have hg : wG = 1000000 := rfl
  have ep : p' = 162 := by have := hR.2.1.1; omega
  have eq : q' = 73 ∧ b' = 261 ∧ b2' = 241 := by unfold RMp at hp; omega
  obtain ⟨eq1, eq2, eq3⟩ := eq
  subst ep
  subst eq1
  subst eq2
  subst eq3
  have hw := hR.1.2.2.2.2.2.2.2.1
  have h6 := hR.2.2.2.2.1
  refine wJ_mono (wJ_len (xh_73 (JE := fun cs ms os S1 => JO cs os ∧ JX 87 97 74 117 118 (S 239) cs ms S1 ∧ JV cs ms ∧ (wOs cs os ∧ wAb cs) ∧ JN (S 237 3) cs ms) (A := hb_0 S) (T := S 239) (n := S 237 3) (fun c => JE_and_73 JO_73 (JE_and_73 JX_73 (JE_and_73 JV_73 (JE_and_73 JW_73 JN_73)))) hT.1.1 hT.1.2.1 ⟨?_, ?_, rfl⟩ hR.1 hR.2.1 h6 (by rw [← h6]; omega) (by rw [← h6]; exact hR.2.2.2.2.2.1))) (fun o1 Z hzl M2 d2 => ?_)
  · show w_up (w_up S 237 4 (S 237 3)) 237 5 1 239 = S 239
    rw [w_up_row (by first | decide | omega), w_up_row (by first | decide | omega)]
  · show w_up (w_up S 237 4 (S 237 3)) 237 5 1 237 4 = S 237 3
    rw [w_up_at (by first | decide | omega), w_up_same]
  obtain ⟨hz, hl⟩ := hzl
  have hG : ∀ j : Nat, j < 400 → j ≠ wG := fun j hj => by unfold wG; omega
  have hP0 : ∃ Zr : wS, hs_P 73 74 117 118 125 S Zr ∧ (cl_ch 162 73 Zr Z ∨ Z = w_up Zr 0 1 0) := by
    rcases hz with ⟨c, cs, ms, os, Zr, -, -, -, g1, -, -, g2⟩ | ⟨e, x, Zr, -, -, -, g1, -, g2⟩
    · exact ⟨Zr, g1, Or.inl g2⟩
    · exact ⟨Zr, g1, Or.inr g2⟩
  obtain ⟨Zr0, hP, hcl⟩ := hP0
  have zr : ∀ (j : Nat) (x : Int), j < 4000000 → j ≠ wG → (j < 14 ∨ 18 < j) → j ≠ 61 → j ≠ 62 → (j < 73 ∨ 125 < j) → Zr0 j x = S j x := hP.1
  have zz : ∀ j : Nat, 236 < j → Z j = Zr0 j := by
    intro j j0
    funext i
    rcases hcl with hcl | rfl
    · exact (cl_all_73 hcl).2.2 j i (cl_fr_lo (fun _ => by omega) (by first | decide | omega))
    · exact w_up_slot (by omega)
  have zs : ∀ j : Nat, 236 < j → j < 4000000 → j ≠ wG → Z j = S j := fun j j0 j1 j2 => (zz j j0).trans (funext fun i => zr j i j1 j2 (by omega) (by omega) (by omega) (by omega))
  have zm : ∀ j : Nat, Z j (-1) = Zr0 j (-1) := by
    intro j
    rcases hcl with hcl | rfl
    · exact (cl_all_73 hcl).2.2 j (-1) (Or.inl (by first | decide | omega))
    · exact w_up_at (by first | decide | omega)
  have zl : ∀ (j : Nat) (i : Int), 236 < j → j < 388 → Z j i = S j i := fun j i j0 j1 => congrFun (zs j j0 (by omega) (hG j (by omega))) i
  have no : ∀ j : Nat, ((120 ≤ j ∧ j ≤ 125) ∨ j = 1000001) → ¬ mS [15, 16, 17, 75, 76, 77, 78, 79, 80, 117, 118] j := fun j hj z => by
    rcases z with z | z
    · omega
    · simp only [List.mem_cons, List.not_mem_nil, or_false] at z
      omega
  have hlq : ∀ j : Nat, (120 ≤ j ∧ j ≤ 125) → Z j (-1) = S j (-1) := fun j hj => by
    have hn := no j (by omega)
    have hj2 : j = 120 ∨ j = 121 ∨ j = 122 ∨ j = 123 ∨ j = 124 ∨ j = 125 := by omega
    rcases hj2 with rfl | rfl | rfl | rfl | rfl | rfl <;> exact hl _ (wy_pr rfl) (by decide +kernel) hn
  have hlen : ∀ j : Nat, lD j → Z j (-1) = S j (-1) := fun j hj => by
    unfold lD at hj
    by_cases c : 120 ≤ j ∧ j ≤ 125
    · exact hlq j c
    · exact (zm j).trans (zr j (-1) (by omega) (by rw [hg]; omega) (by omega) (by omega) (by omega) (by omega))
  have hlo : Z 1000001 (-1) = 1 := (hl 1000001 ⟨Or.inr (by rw [ho]; decide), by unfold wG; decide⟩ (by rw [wt_out]; decide) (no 1000001 (by omega))).trans ho
  have hb0 : zG (hb_0 Z) (hb_0 S) 241 := by
    refine ⟨?_, ?_, ?_, fun j j0 j1 => ?_⟩
    · show w_up (w_up Z 237 4 (Z 237 3)) 237 5 1 239 = w_up (w_up S 237 4 (S 237 3)) 237 5 1 239
      rw [w_up_row (by first | decide | omega), w_up_row (by first | decide | omega), w_up_row (by first | decide | omega), w_up_row (by first | decide | omega)]; exact zs 239 (by first | decide | omega) (by first | decide | omega) (hG _ (by first | decide | omega))
    · show w_up (w_up Z 237 4 (Z 237 3)) 237 5 1 237 4 = w_up (w_up S 237 4 (S 237 3)) 237 5 1 237 4
      rw [w_up_at (by first | decide | omega), w_up_same, w_up_at (by first | decide | omega), w_up_same, zs 237 (by first | decide | omega) (by first | decide | omega) (hG _ (by first | decide | omega))]
    · rfl
    · show w_up (w_up Z 237 4 (Z 237 3)) 237 5 1 j = w_up (w_up S 237 4 (S 237 3)) 237 5 1 j
      rw [w_up_row (by omega), w_up_row (by omega), w_up_row (by omega), w_up_row (by omega)]; exact zs j (by omega) (by omega) (hG j (by omega))
  have hho : ho_f_241 (hb_0 Z) 61 [] [] (lx_go (Z 239) (Z 237 3) 0) = ho_f_241 (hb_0 S) 61 [] [] (tp (S 239) (S 237 3) 1 0) := by
    rw [ho_f_F_241 hb0, zs 239 (by first | decide | omega) (by first | decide | omega) (hG _ (by first | decide | omega)), zs 237 (by first | decide | omega) (by first | decide | omega) (hG _ (by first | decide | omega))]; rfl
  refine wJ_mono (host_241 hT.1.1 (fun y hy => (zl y.1 (-1) (wy_lt y hy).1 (wy_lt y hy).2).trans (hR.2.2.1 y hy)) (by rw [zl 237 3 (by first | decide | omega) (by first | decide | omega), ← h6]; exact ⟨hw.1, hw.2.1⟩) ((zl 237 14 (by first | decide | omega) (by first | decide | omega)).trans hR.2.2.2.1.2) ((zl 237 13 (by first | decide | omega) (by first | decide | omega)).trans hR.2.2.2.1.1)) (fun o2 S2 h2 => ?_)
  have hb := bh_73 (o1 := o1) (o2 := o2) (S2 := S2) (Z := Z) hR (by
    rcases hz with ⟨c, cs, ms, os, Zr, e1, f1, j1, p1, m1, je, c1⟩ | hz
    · exact Or.inl ⟨c, cs, ms, os, Zr, e1, f1, j1, p1, m1, je.1, c1⟩
    · exact Or.inr hz) h2
  refine ⟨hb.1, ?_⟩
  rw [hho] at h2
  rcases hz with ⟨c, cs, ms, os, Zr, e1, f1, j1, p1, m1, je, c1⟩ | ⟨e, x, Zr, e1, f1, x1, p1, m1, c1⟩
  · rcases h2 with ⟨e, x, Y, f2, -⟩ | ⟨cs2, ms2, Y, X, f2, e2, y1, y2, y3, y4, y5, y6, y7, y8, y9, y10, y11, y12, x1, x2, x3, rfl⟩
    · rw [f1] at f2; cases f2
    · have hk := hW c cs ms os Zr f1 j1 p1
      rw [f1] at f2
      cases f2
      exact hsu_73 h hm h72 (hb.2.1 e1) j1 p1 m1 je c1 hlen hlo hk y1 y3 y5 y6 y7 y8 y9 y10 y12 x1 x2 x3
  · rcases h2 with ⟨e', x', Y, f2, e2, y1, y2, y3, y4, rfl⟩ | ⟨cs2, ms2, Y, X, f2, -⟩
    · have hA2 := hb.2.2 (fun z => by
        rw [e1] at z
        have q1 : e + 16 * x = 0 := congrArg (fun (u : wv) => u.2) (Option.some.inj (Sum.inl.inj z))
        omega)
      have yl : ∀ (j : Nat) (i : Int), j < 237 → w_up Y 237 3 0 j i = Z j i := fun j i j0 => (w_up_slot (by omega)).trans (y1 j i (by omega) (by omega) (by omega) (by omega))
      have ym : ∀ j : Nat, w_up Y 237 3 0 j (-1) = Z j (-1) := fun j => (w_up_at (by first | decide | omega)).trans (y1 j (-1) (by omega) (by omega) (by omega) (by omega))
      have zq : ∀ (j : Nat) (i : Int), j ≠ 0 → Z j i = Zr j i := fun j i j0 => by rw [c1]; exact w_up_slot (by omega)
      have yg : ∀ i : Int, w_up Y 237 3 0 wG i = Zr wG i := fun i => (w_up_slot (by rw [hg]; decide)).trans ((y1 wG i (by rw [hg]; omega) (by rw [hg]; omega) (by rw [hg]; omega) (by rw [hg]; omega)).trans (zq wG i (by rw [hg]; decide)))
      have p8 := p1.2.2.2.2.2.2.2
      refine RM_x (p := 162) (q := 73) (b := 261) (b2 := 241) h hm h72 hp hA2 (fun j i hj => ?_) (fun j i a1 a2 a3 a4 a5 a6 a7 => ?_) ((yl 0 1 (by first | decide | omega)).trans (by rw [c1]; exact w_up_same _ _ _ _)) hA2.1.2.1 ⟨⟨?_, ?_⟩, hA2.1.2.2.2.2.2.1.1, hA2.1.2.2.2.2.2.1.2.1, hA2.1.2.2.2.2.2.1.2.2.1, Int.le_trans hA2.1.2.2.2.2.2.1.2.2.2 (by decide)⟩ ?_ (fun j j0 j1 => (ym j).trans (hlq j (by omega)))
      · unfold xD at hj
        exact (yl j i (by omega)).trans ((zq j i (by omega)).trans (p1.1 j i (by omega) (by rw [hg]; omega) (by omega) (by omega) (by omega) (by omega)))
      · by_cases c : j = 237 ∧ i = 13
        · rw [c.1, c.2]
          exact hA2.2.2.2.1.1.trans hR.2.2.2.1.1.symm
        · by_cases c2 : j = 237
          · rw [c2] at a6 c ⊢
            exact (w_up_at (by omega)).trans ((y1 237 i (by omega) (by omega) (by omega) (by omega)).trans (congrFun (zs 237 (by first | decide | omega) (by first | decide | omega) (hG _ (by first | decide | omega))) i))
          · exact (w_up_slot (by omega)).trans ((y1 j i (by omega) (by omega) (by omega) (by omega)).trans (congrFun (zs j (by omega) (by omega) a2) i))
      · rw [yl 14 3 (by first | decide | omega), zq 14 3 (by first | decide | omega)]
        exact p8.2.1
      · rw [yl 14 3 (by first | decide | omega), zq 14 3 (by first | decide | omega), ym 15, zq 15 (-1) (by first | decide | omega)]
        exact p8.2.2.1
      · have g := xr_rm m1
        have eg : gl (w_up Y 237 3 0) = gl Zr := gl_same gl_l (fun a ha => (ym a).trans (by rw [c1]; exact w_up_at (by first | decide | omega)))
        exact rm6_ag g (fun a ha => (ym a).trans (by rw [c1]; exact w_up_at (by first | decide | omega))) (yg 0) (yg 1)
    · rw [f1] at f2; cases f2
end Wo3
