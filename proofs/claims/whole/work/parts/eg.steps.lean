/-! PART eg: steps of the class, by tasks. -/
section Weg
variable {xs : List (Nat × List Int32)} {d : Nat} {S Z A T : wS} {K Kr : aK} {k v q : Int} {a : aV} {w m : Nat} {ml : List Nat} {R P : wS → Prop}
/-- a step of the class has changed its task alone -/
def cFr (w : Nat) (S Z : wS) : Prop := (∀ (j : Nat) (x : Int), j < 4000000 → j ≠ wG → (j < w ∨ w + 10 < j) → Z j x = S j x) ∧ (∀ j : Nat, w + 4 ≤ j → j ≤ w + 9 → Z j (-1) = S j (-1)) ∧ gI Z ∧ rmR S Z
theorem cFr_rfl (hI : gI S) : cFr w S S := ⟨fun _ _ _ _ _ => rfl, fun _ _ _ => rfl, hI, rmR_rfl _⟩
theorem cFr_tr (h : cFr w S A) (g : cFr w A Z) : cFr w S Z := ⟨fun j x j0 j1 j2 => (g.1 j x j0 j1 j2).trans (h.1 j x j0 j1 j2), fun j j0 j1 => (g.2.1 j j0 j1).trans (h.2.1 j j0 j1), g.2.2.1, rmR_tr h.2.2.2 g.2.2.2⟩
theorem cFr_up {j : Nat} {i x : Int} (hw : w = 215 ∨ w = 226) (h : cFr w S Z) (hi : 0 ≤ i) (hj : w ≤ j ∧ j ≤ w + 10) : cFr w S (w_up Z j i x) := by
  have hg : wG = 1000000 := rfl
  exact ⟨fun y z y0 y1 y2 => (w_up_no (by omega)).trans (h.1 y z y0 y1 y2), fun y y0 y1 => (w_up_at (by omega)).trans (h.2.1 y y0 y1), gI_up h.2.2.1 hi (by omega) (by omega), rmR_up h.2.2.2 hi (by omega)⟩
theorem cFr_ra (hw : w = 215 ∨ w = 226) (h : cFr w S T) (r : ra_ag (w + 1) (w + 2) (w + 3) T Z k v) : cFr w S Z := by
  have hg : wG = 1000000 := rfl
  exact ⟨fun j x j0 j1 j2 => (r.2.2.2.1 j x j0 j1 (by omega) (by omega) (by omega)).trans (h.1 j x j0 j1 j2), fun j j0 j1 => (r.2.2.2.1 j (-1) (by omega) (by omega) (by omega) (by omega) (by omega)).trans (h.2.1 j j0 j1), r.2.2.2.2.2.1, rmR_tr h.2.2.2 r.2.2.2.2.2.2⟩
theorem cFr_cl (hw : w = 215 ∨ w = 226) (h : cFr w S Z) (hC : w_CL S) : w_CL Z := by
  intro q hq
  have hg : wG = 1000000 := rfl
  have h1 : ∀ q ∈ wz_n, q.1 < 237 ∧ (q.1 < 215 ∨ (219 ≤ q.1 ∧ q.1 ≤ 224) ∨ (230 ≤ q.1 ∧ q.1 ≤ 235)) := by decide
  obtain ⟨a1, a2⟩ := h1 q hq
  by_cases c : w + 4 ≤ q.1 ∧ q.1 ≤ w + 9
  · exact (h.2.1 q.1 c.1 c.2).trans (hC q hq)
  · exact (h.1 q.1 (-1) (by omega) (by omega) (by omega)).trans (hC q hq)
theorem cTk_16 {x : Int} (h : cTk w S K) (hw : w = 215 ∨ w = 226) : cTk w (w_up S w 16 x) K := cTk_ag h (cTx_of (w_up_slot (by omega)) (fun _ => w_up_slot (by omega))) (fun j y hj => w_up_no (by omega))
/-- what a step of the class wants of its task -/
def stC (w : Nat) (S : wS) (K : aK) : Prop := cTk w S K ∧ (w_CL S ∧ gI S) ∧ (0 < K.2.1.length ∧ K.1.length ≤ 2001 ∧ wTr K) ∧ (0 ≤ (K.2.1.getD (K.2.1.length - 1) (0, 0, 0, (0, 0, []), 0, 0, 0)).1 ∧ (K.2.1.getD (K.2.1.length - 1) (0, 0, 0, (0, 0, []), 0, 0, 0)).1 < 400 ∧ 0 ≤ (K.2.1.getD (K.2.1.length - 1) (0, 0, 0, (0, 0, []), 0, 0, 0)).2.1 ∧ (K.2.1.getD (K.2.1.length - 1) (0, 0, 0, (0, 0, []), 0, 0, 0)).2.1 ≤ 20000) ∧ 0 ≤ S 27 (K.2.1.getD (K.2.1.length - 1) (0, 0, 0, (0, 0, []), 0, 0, 0)).1 ∧ S 27 (K.2.1.getD (K.2.1.length - 1) (0, 0, 0, (0, 0, []), 0, 0, 0)).1 + (K.2.1.getD (K.2.1.length - 1) (0, 0, 0, (0, 0, []), 0, 0, 0)).2.1 < S 31 (-1) ∧ S 32 (-1) = S 31 (-1) ∧ S 33 (-1) = S 31 (-1) ∧ S 31 (-1) ≤ 40000
theorem st_row (h : cTk w S K) (h0 : 0 < K.2.1.length) : S (w + 4) ((K.2.1.length : Int) - 1) = (K.2.1.getD (K.2.1.length - 1) (0, 0, 0, (0, 0, []), 0, 0, 0)).1 ∧ S (w + 5) ((K.2.1.length : Int) - 1) = (K.2.1.getD (K.2.1.length - 1) (0, 0, 0, (0, 0, []), 0, 0, 0)).2.1 ∧ S (w + 6) ((K.2.1.length : Int) - 1) = (K.2.1.getD (K.2.1.length - 1) (0, 0, 0, (0, 0, []), 0, 0, 0)).2.2.1 := by
  have := (h.2.1.2.2 (K.2.1.length - 1) (by omega)).1
  rw [show ((K.2.1.length - 1 : Nat) : Int) = (K.2.1.length : Int) - 1 by omega] at this
  exact this
theorem xB_of (h : stC w S K) : xB w (K.2.1.length : Int) (K.2.1.getD (K.2.1.length - 1) (0, 0, 0, (0, 0, []), 0, 0, 0)).1 (K.2.1.getD (K.2.1.length - 1) (0, 0, 0, (0, 0, []), 0, 0, 0)).2.1 (S 27 (K.2.1.getD (K.2.1.length - 1) (0, 0, 0, (0, 0, []), 0, 0, 0)).1) (K.1.length : Int) S := by
  obtain ⟨h1, h2, ⟨h3, h4, h5⟩, ⟨h6, h7, h8, h9⟩, e0, e1, e2, e3, e4⟩ := h
  obtain ⟨r1, r2, r3⟩ := st_row h1 h3
  obtain ⟨⟨p1, p2, p3, p4, p5, p6⟩, ⟨b1, b2, b3⟩, -⟩ := h1
  exact ⟨h2, ⟨b1, by omega, by omega⟩, ⟨r1, h6, h7⟩, ⟨r2, h8, h9⟩, ⟨rfl, e0, e1, e2, e3, e4⟩, ⟨p1, by omega, by omega, p3⟩, p4, p5, p6⟩
theorem xP_of (hw : w = 215 ∨ w = 226) (h : stC w S K) : xP w (K.2.1.length : Int) (K.2.1.getD (K.2.1.length - 1) (0, 0, 0, (0, 0, []), 0, 0, 0)).2.1 (K.1.length : Int) (w_up S w 16 0) := by
  obtain ⟨h1, ⟨h2, h2b⟩, ⟨h3, h4, h5⟩, ⟨h6, h7, h8, h9⟩, -⟩ := h
  obtain ⟨r1, r2, r3⟩ := st_row h1 h3
  obtain ⟨⟨p1, p2, p3, p4, p5, p6⟩, ⟨b1, b2, b3⟩, -⟩ := h1
  have es : ∀ (j : Nat) (x : Int), (j ≠ w ∨ x ≠ 16) → (w_up S w 16 0) j x = S j x := fun j x hj => w_up_no (by omega)
  exact ⟨⟨w_CL_up h2 (by decide), gI_up h2b (by decide) (by omega) (by omega)⟩, ⟨(es w 4 (by omega)).trans b1, by omega, by omega⟩, ⟨(es (w + 5) _ (by omega)).trans r2, h8, h9⟩, ⟨(es (w + 1) 2 (by omega)).trans p1, by omega, by omega, by rw [es (w + 2) _ (by omega)]; exact p3⟩, by rw [es (w + 2) _ (by omega), es (w + 3) _ (by omega)]; exact p4, by rw [es (w + 2) _ (by omega)]; exact p5, by rw [es (w + 2) _ (by omega)]; exact p6⟩
theorem xR_of (h : cTk w S K) (hC : w_CL S) (hI : gI S) (ht : wTr K) : xR w S := by
  obtain ⟨⟨p1, p2, p3, p4, p5, p6⟩, ⟨b1, b2, b3⟩, ⟨c1, c2, c3, c4, c5⟩, -, -⟩ := h
  refine ⟨⟨hC, hI⟩, ⟨p4, p5, p6⟩, ⟨by omega, by omega, c4⟩, fun hz => ?_⟩
  obtain ⟨y1, y2, y3⟩ := c5 (K.2.2.1.length - 1) (by omega)
  obtain ⟨x1, x2⟩ := ht (K.2.2.1.length - 1) (by omega)
  rw [show 3 * ((K.2.2.1.length - 1 : Nat) : Int) = S w 12 - 3 by omega] at y1 y2 y3
  rw [y1, y3]
  omega
theorem cFr_rs (hw : w = 215 ∨ w = 226) (h : cFr w S T) (r : rsQ w k v T Z) (hc : 3 ≤ T w 12 → 1 ≤ T (w + 10) (T w 12 - 3)) (hh : 3 ≤ T w 12 → 0 ≤ T (w + 10) (T w 12 - 3 + 2)) : cFr w S Z := by
  rcases r with ⟨-, rfl⟩ | ⟨hz, ra⟩
  · exact cFr_up hw (cFr_up hw (cFr_up hw (cFr_up hw (cFr_up hw (cFr_up hw (cFr_up hw h (by decide) (by omega)) (by decide) (by omega)) (by decide) (by omega)) (by decide) (by omega)) (by decide) (by omega)) (by decide) (by omega)) (by decide) (by omega)
  · have := hc hz
    have := hh hz
    exact cFr_ra hw (cFr_up hw (cFr_up hw (cFr_up hw (cFr_up hw h (by decide) (by omega)) (by decide) (by omega)) (by omega) (by omega)) (by decide) (by omega)) ra
theorem sO_16 {h c p n : Int} (hw : w = 215 ∨ w = 226) (r : sO w h c p n k v T Z) : Z w 16 = T w 16 := by
  have hg : wG = 1000000 := rfl
  obtain ⟨A, ra, rfl⟩ := r
  rw [w_up_slot (by omega), ra.2.2.2.1 w 16 (by omega) (by omega) (by omega) (by omega) (by omega), w_up_slot (by omega)]
theorem cFr_sO {h c p n : Int} (hw : w = 215 ∨ w = 226) (hf : cFr w S T) (hc : 1 ≤ c) (r : sO w h c p n k v T Z) : cFr w S Z := by
  obtain ⟨A, ra, rfl⟩ := r
  exact cFr_up hw (cFr_ra hw (cFr_up hw hf (by decide) (by omega)) ra) (by omega) (by omega)
/-- an instruction that goes well -/
theorem cg_p_215 {a b oq : Int} (h : stC 215 S K) (ho : S 31 (S 27 (K.2.1.getD (K.2.1.length - 1) (0, 0, 0, (0, 0, []), 0, 0, 0)).1 + (K.2.1.getD (K.2.1.length - 1) (0, 0, 0, (0, 0, []), 0, 0, 0)).2.1) = oq) (ha : S 32 (S 27 (K.2.1.getD (K.2.1.length - 1) (0, 0, 0, (0, 0, []), 0, 0, 0)).1 + (K.2.1.getD (K.2.1.length - 1) (0, 0, 0, (0, 0, []), 0, 0, 0)).2.1) = a) (hb : S 33 (S 27 (K.2.1.getD (K.2.1.length - 1) (0, 0, 0, (0, 0, []), 0, 0, 0)).1 + (K.2.1.getD (K.2.1.length - 1) (0, 0, 0, (0, 0, []), 0, 0, 0)).2.1) = b) (ho1 : ((0 ≤ oq ∧ oq ≤ 6) ∨ (20 ≤ oq ∧ oq ≤ 33 ∧ oq ≠ 27 ∧ oq ≠ 28))) (hl : 2000 ≤ K.1.length → ¬ (oq = 0 ∨ oq = 1 ∨ oq = 3 ∨ oq = 6 ∨ oq = 24 ∨ oq = 26 ∨ oq = 33 ∨ (oq = 25 ∧ a = 0))) (hml : ∀ x ∈ [217, 218], x ∈ ml) (hmn : ¬ mS ml 215) (hcal : wJ (pe_GA xs) wY0 (mS ml) (d + 11) t_XK_perform ((pe_at t_XK_perform.bl 0).getD (0, [])).2 [(0, (2, 215)), (1, (0, oq)), (2, (0, a)), (3, (0, b))] [] (w_up S 215 16 0) (fun o Z => o = .inl none ∧ R Z)) (hR : ∀ Z : wS, R Z → Z 215 16 = 0 ∧ P Z) : wJ (pe_GA xs) wY0 (mS ml) (d + 12) t_XK_step ((pe_at t_XK_step.bl 0).getD (0, [])).2 [(0, (2, 215))] [] S (fun o Z => o = .inl (some (0, 1)) ∧ P Z) := by
  refine wJ_mono (sp_215 (R := R) (xB_of h) ho ha hb ho1 (fun q => hl (by omega)) hml hmn hcal (fun Z hz q => absurd (hR Z hz).1 q)) (fun o Z2 hz => ?_)
  obtain ⟨Z, h1, h2⟩ := hz
  obtain ⟨g1, g2⟩ := hR Z h1
  rcases h2 with ⟨-, rfl, rfl⟩ | ⟨q, -, -⟩ | ⟨q, -, -, -⟩
  · exact ⟨rfl, g2⟩
  · omega
  · exact absurd g1 q
/-- an instruction that ends with an ERROR -/
theorem ce_p_215 {a b oq e : Int} (h : stC 215 S K) (ho : S 31 (S 27 (K.2.1.getD (K.2.1.length - 1) (0, 0, 0, (0, 0, []), 0, 0, 0)).1 + (K.2.1.getD (K.2.1.length - 1) (0, 0, 0, (0, 0, []), 0, 0, 0)).2.1) = oq) (ha : S 32 (S 27 (K.2.1.getD (K.2.1.length - 1) (0, 0, 0, (0, 0, []), 0, 0, 0)).1 + (K.2.1.getD (K.2.1.length - 1) (0, 0, 0, (0, 0, []), 0, 0, 0)).2.1) = a) (hb : S 33 (S 27 (K.2.1.getD (K.2.1.length - 1) (0, 0, 0, (0, 0, []), 0, 0, 0)).1 + (K.2.1.getD (K.2.1.length - 1) (0, 0, 0, (0, 0, []), 0, 0, 0)).2.1) = b) (ho1 : ((0 ≤ oq ∧ oq ≤ 6) ∨ (20 ≤ oq ∧ oq ≤ 33 ∧ oq ≠ 27 ∧ oq ≠ 28))) (hl : 2000 ≤ K.1.length → ¬ (oq = 0 ∨ oq = 1 ∨ oq = 3 ∨ oq = 6 ∨ oq = 24 ∨ oq = 26 ∨ oq = 33 ∨ (oq = 25 ∧ a = 0))) (hml : ∀ x ∈ [217, 218], x ∈ ml) (hmn : ¬ mS ml 215) (he : e ≠ 0 ∧ e ≠ 99) (hcal : wJ (pe_GA xs) wY0 (mS ml) (d + 11) t_XK_perform ((pe_at t_XK_perform.bl 0).getD (0, [])).2 [(0, (2, 215)), (1, (0, oq)), (2, (0, a)), (3, (0, b))] [] (w_up S 215 16 0) (fun o Z => o = .inl none ∧ R Z)) (hR : ∀ Z : wS, R Z → Z 215 16 = e ∧ xR 215 Z) : wJ (pe_GA xs) wY0 (mS ml) (d + 12) t_XK_step ((pe_at t_XK_step.bl 0).getD (0, [])).2 [(0, (2, 215))] [] S (fun o Z2 => o = .inl (some (0, 1)) ∧ ∃ Z : wS, R Z ∧ rsQ 215 2 e Z Z2) := by
  refine wJ_mono (sp_215 (R := R) (xB_of h) ho ha hb ho1 (fun q => hl (by omega)) hml hmn hcal (fun Z hz _ _ => (hR Z hz).2)) (fun o Z2 hz => ?_)
  obtain ⟨Z, h1, h2⟩ := hz
  obtain ⟨g1, g2⟩ := hR Z h1
  rcases h2 with ⟨q, -, -⟩ | ⟨q, -, -⟩ | ⟨-, -, rfl, q⟩
  · omega
  · omega
  · rw [g1] at q
    exact ⟨rfl, Z, h1, q⟩
/-- an instruction for which there is no memory -/
theorem cm_p_215 {a b oq : Int} (h : stC 215 S K) (ho : S 31 (S 27 (K.2.1.getD (K.2.1.length - 1) (0, 0, 0, (0, 0, []), 0, 0, 0)).1 + (K.2.1.getD (K.2.1.length - 1) (0, 0, 0, (0, 0, []), 0, 0, 0)).2.1) = oq) (ha : S 32 (S 27 (K.2.1.getD (K.2.1.length - 1) (0, 0, 0, (0, 0, []), 0, 0, 0)).1 + (K.2.1.getD (K.2.1.length - 1) (0, 0, 0, (0, 0, []), 0, 0, 0)).2.1) = a) (hb : S 33 (S 27 (K.2.1.getD (K.2.1.length - 1) (0, 0, 0, (0, 0, []), 0, 0, 0)).1 + (K.2.1.getD (K.2.1.length - 1) (0, 0, 0, (0, 0, []), 0, 0, 0)).2.1) = b) (ho1 : ((0 ≤ oq ∧ oq ≤ 6) ∨ (20 ≤ oq ∧ oq ≤ 33 ∧ oq ≠ 27 ∧ oq ≠ 28))) (hl : 2000 ≤ K.1.length → ¬ (oq = 0 ∨ oq = 1 ∨ oq = 3 ∨ oq = 6 ∨ oq = 24 ∨ oq = 26 ∨ oq = 33 ∨ (oq = 25 ∧ a = 0))) (hml : ∀ x ∈ [217, 218], x ∈ ml) (hmn : ¬ mS ml 215) (hcal : wJ (pe_GA xs) wY0 (mS ml) (d + 11) t_XK_perform ((pe_at t_XK_perform.bl 0).getD (0, [])).2 [(0, (2, 215)), (1, (0, oq)), (2, (0, a)), (3, (0, b))] [] (w_up S 215 16 0) (fun o Z => o = .inl none ∧ R Z)) (hR : ∀ Z : wS, R Z → Z 215 16 = 99) : wJ (pe_GA xs) wY0 (mS ml) (d + 12) t_XK_step ((pe_at t_XK_step.bl 0).getD (0, [])).2 [(0, (2, 215))] [] S (fun o Z2 => o = .inl (some (0, 0)) ∧ ∃ Z : wS, R Z ∧ w_up Z 215 13 4 = Z2) := by
  refine wJ_mono (sp_215 (R := R) (xB_of h) ho ha hb ho1 (fun q => hl (by omega)) hml hmn hcal (fun Z hz _ q => absurd (hR Z hz) q)) (fun o Z2 hz => ?_)
  obtain ⟨Z, h1, h2⟩ := hz
  have g1 := hR Z h1
  rcases h2 with ⟨q, -, -⟩ | ⟨-, rfl, rfl⟩ | ⟨-, q, -, -⟩
  · omega
  · exact ⟨rfl, Z, h1, rfl⟩
  · exact absurd g1 q
/-- values go, one comes -/
theorem cs_p_215 {a b oq : Int} {v : aV} {kk vv n : Int} (h : stC 215 S K) (ho : S 31 (S 27 (K.2.1.getD (K.2.1.length - 1) (0, 0, 0, (0, 0, []), 0, 0, 0)).1 + (K.2.1.getD (K.2.1.length - 1) (0, 0, 0, (0, 0, []), 0, 0, 0)).2.1) = oq) (ha : S 32 (S 27 (K.2.1.getD (K.2.1.length - 1) (0, 0, 0, (0, 0, []), 0, 0, 0)).1 + (K.2.1.getD (K.2.1.length - 1) (0, 0, 0, (0, 0, []), 0, 0, 0)).2.1) = a) (hb : S 33 (S 27 (K.2.1.getD (K.2.1.length - 1) (0, 0, 0, (0, 0, []), 0, 0, 0)).1 + (K.2.1.getD (K.2.1.length - 1) (0, 0, 0, (0, 0, []), 0, 0, 0)).2.1) = b) (ho1 : ((0 ≤ oq ∧ oq ≤ 6) ∨ (20 ≤ oq ∧ oq ≤ 33 ∧ oq ≠ 27 ∧ oq ≠ 28))) (hl : 2000 ≤ K.1.length → ¬ (oq = 0 ∨ oq = 1 ∨ oq = 3 ∨ oq = 6 ∨ oq = 24 ∨ oq = 26 ∨ oq = 33 ∨ (oq = 25 ∧ a = 0))) (hml : ∀ x ∈ [217, 218], x ∈ ml) (hmn : ¬ mS ml 215) (hcal : wJ (pe_GA xs) wY0 (mS ml) (d + 11) t_XK_perform ((pe_at t_XK_perform.bl 0).getD (0, [])).2 [(0, (2, 215)), (1, (0, oq)), (2, (0, a)), (3, (0, b))] [] (w_up S 215 16 0) (fun o Z => o = .inl none ∧ sO 215 (K.1.length : Int) (K.2.1.length : Int) (K.2.1.getD (K.2.1.length - 1) (0, 0, 0, (0, 0, []), 0, 0, 0)).2.1 n kk vv (w_up S 215 16 0) Z)) (hn : n = (m : Int)) (hm : m ≤ K.1.length) (hv : cVl S kk vv v) : wJ (pe_GA xs) wY0 (mS ml) (d + 12) t_XK_step ((pe_at t_XK_step.bl 0).getD (0, [])).2 [(0, (2, 215))] [] S (fun o Z => o = .inl (some (0, 1)) ∧ cTk 215 Z (kNx (K.1.take (K.1.length - m) ++ [v], K.2) ((K.2.1.getD (K.2.1.length - 1) (0, 0, 0, (0, 0, []), 0, 0, 0)).2.1 + 1)) ∧ cFr 215 S Z) := by
  obtain ⟨h1, ⟨h2, h2b⟩, ⟨h3, h4, h5⟩, -⟩ := id h
  have hf : cFr 215 S (w_up S 215 16 0) := cFr_up (Or.inl rfl) (cFr_rfl h2b) (by decide) (by omega)
  refine cg_p_215 (P := fun Z => cTk 215 Z (kNx (K.1.take (K.1.length - m) ++ [v], K.2) ((K.2.1.getD (K.2.1.length - 1) (0, 0, 0, (0, 0, []), 0, 0, 0)).2.1 + 1)) ∧ cFr 215 S Z) h ho ha hb ho1 hl hml hmn hcal (fun Z hz => ⟨(sO_16 (Or.inl rfl) hz).trans (w_up_same _ _ _ _), cTk_sO (cTk_16 h1 (Or.inl rfl)) (Or.inl rfl) hz rfl rfl h3 hn hm (by omega) (cVl_mo hv (cTx_of (w_up_slot (by decide)) (fun _ => w_up_slot (by decide)))), cFr_sO (Or.inl rfl) hf (by omega) hz⟩)
/-- an ERROR -/
theorem cx_p_215 {a b oq e : Int} (h : stC 215 S K) (ho : S 31 (S 27 (K.2.1.getD (K.2.1.length - 1) (0, 0, 0, (0, 0, []), 0, 0, 0)).1 + (K.2.1.getD (K.2.1.length - 1) (0, 0, 0, (0, 0, []), 0, 0, 0)).2.1) = oq) (ha : S 32 (S 27 (K.2.1.getD (K.2.1.length - 1) (0, 0, 0, (0, 0, []), 0, 0, 0)).1 + (K.2.1.getD (K.2.1.length - 1) (0, 0, 0, (0, 0, []), 0, 0, 0)).2.1) = a) (hb : S 33 (S 27 (K.2.1.getD (K.2.1.length - 1) (0, 0, 0, (0, 0, []), 0, 0, 0)).1 + (K.2.1.getD (K.2.1.length - 1) (0, 0, 0, (0, 0, []), 0, 0, 0)).2.1) = b) (ho1 : ((0 ≤ oq ∧ oq ≤ 6) ∨ (20 ≤ oq ∧ oq ≤ 33 ∧ oq ≠ 27 ∧ oq ≠ 28))) (hl : 2000 ≤ K.1.length → ¬ (oq = 0 ∨ oq = 1 ∨ oq = 3 ∨ oq = 6 ∨ oq = 24 ∨ oq = 26 ∨ oq = 33 ∨ (oq = 25 ∧ a = 0))) (hml : ∀ x ∈ [217, 218], x ∈ ml) (hmn : ¬ mS ml 215) (he : 1 ≤ e ∧ e ≤ 12) (hcal : wJ (pe_GA xs) wY0 (mS ml) (d + 11) t_XK_perform ((pe_at t_XK_perform.bl 0).getD (0, [])).2 [(0, (2, 215)), (1, (0, oq)), (2, (0, a)), (3, (0, b))] [] (w_up S 215 16 0) (fun o Z => o = .inl none ∧ w_up (w_up S 215 16 0) 215 16 e = Z)) : wJ (pe_GA xs) wY0 (mS ml) (d + 12) t_XK_step ((pe_at t_XK_step.bl 0).getD (0, [])).2 [(0, (2, 215))] [] S (fun o Z => o = .inl (some (0, 1)) ∧ cTk 215 Z (kTh K (2, e, [])) ∧ cFr 215 S Z) := by
  obtain ⟨h1, ⟨h2, h2b⟩, ⟨h3, h4, h5⟩, -⟩ := id h
  have hf : cFr 215 S (w_up (w_up S 215 16 0) 215 16 e) := cFr_up (Or.inl rfl) (cFr_up (Or.inl rfl) (cFr_rfl h2b) (by decide) (by omega)) (by decide) (by omega)
  have hk : cTk 215 (w_up (w_up S 215 16 0) 215 16 e) K := cTk_16 (cTk_16 h1 (Or.inl rfl)) (Or.inl rfl)
  have hx := xR_of hk (cFr_cl (Or.inl rfl) hf h2) hf.2.2.1 h5
  refine wJ_mono (ce_p_215 h ho ha hb ho1 hl hml hmn (show e ≠ 0 ∧ e ≠ 99 by omega) hcal (fun Z hz => by subst hz; exact ⟨w_up_same _ _ _ _, hx⟩)) (fun o Z2 hz => ?_)
  obtain ⟨rfl, Z, rfl, hr⟩ := hz
  exact ⟨rfl, cTk_rs hk (Or.inl rfl) hr ⟨rfl, fun _ => ⟨rfl, rfl⟩, fun q => absurd (show (2 : Int) = 3 from q) (by decide)⟩ h5 (by omega), cFr_rs (Or.inl rfl) hf hr (fun q => (hx.2.2.2 q).1.1) (fun q => (hx.2.2.2 q).2.1)⟩
/-- an instruction that goes well -/
theorem cg_o_215 {a b oq : Int} (h : stC 215 S K) (ho : S 31 (S 27 (K.2.1.getD (K.2.1.length - 1) (0, 0, 0, (0, 0, []), 0, 0, 0)).1 + (K.2.1.getD (K.2.1.length - 1) (0, 0, 0, (0, 0, []), 0, 0, 0)).2.1) = oq) (ha : S 32 (S 27 (K.2.1.getD (K.2.1.length - 1) (0, 0, 0, (0, 0, []), 0, 0, 0)).1 + (K.2.1.getD (K.2.1.length - 1) (0, 0, 0, (0, 0, []), 0, 0, 0)).2.1) = a) (hb : S 33 (S 27 (K.2.1.getD (K.2.1.length - 1) (0, 0, 0, (0, 0, []), 0, 0, 0)).1 + (K.2.1.getD (K.2.1.length - 1) (0, 0, 0, (0, 0, []), 0, 0, 0)).2.1) = b) (ho1 : (7 ≤ oq ∧ oq ≤ 19)) (hl : 2000 ≤ K.1.length → ¬ (oq = 0 ∨ oq = 1 ∨ oq = 3 ∨ oq = 6 ∨ oq = 24 ∨ oq = 26 ∨ oq = 33 ∨ (oq = 25 ∧ a = 0))) (hml : ∀ x ∈ [217, 218], x ∈ ml) (hmn : ¬ mS ml 215) (hcal : wJ (pe_GA xs) wY0 (mS ml) (d + 11) t_XK_operate ((pe_at t_XK_operate.bl 0).getD (0, [])).2 [(0, (2, 215)), (1, (0, oq))] [] (w_up S 215 16 0) (fun o Z => o = .inl none ∧ R Z)) (hR : ∀ Z : wS, R Z → Z 215 16 = 0 ∧ P Z) : wJ (pe_GA xs) wY0 (mS ml) (d + 12) t_XK_step ((pe_at t_XK_step.bl 0).getD (0, [])).2 [(0, (2, 215))] [] S (fun o Z => o = .inl (some (0, 1)) ∧ P Z) := by
  refine wJ_mono (so_215 (R := R) (xB_of h) ho ha hb ho1 (fun q => hl (by omega)) hml hmn hcal (fun Z hz q => absurd (hR Z hz).1 q)) (fun o Z2 hz => ?_)
  obtain ⟨Z, h1, h2⟩ := hz
  obtain ⟨g1, g2⟩ := hR Z h1
  rcases h2 with ⟨-, rfl, rfl⟩ | ⟨q, -, -⟩ | ⟨q, -, -, -⟩
  · exact ⟨rfl, g2⟩
  · omega
  · exact absurd g1 q
/-- an instruction that ends with an ERROR -/
theorem ce_o_215 {a b oq e : Int} (h : stC 215 S K) (ho : S 31 (S 27 (K.2.1.getD (K.2.1.length - 1) (0, 0, 0, (0, 0, []), 0, 0, 0)).1 + (K.2.1.getD (K.2.1.length - 1) (0, 0, 0, (0, 0, []), 0, 0, 0)).2.1) = oq) (ha : S 32 (S 27 (K.2.1.getD (K.2.1.length - 1) (0, 0, 0, (0, 0, []), 0, 0, 0)).1 + (K.2.1.getD (K.2.1.length - 1) (0, 0, 0, (0, 0, []), 0, 0, 0)).2.1) = a) (hb : S 33 (S 27 (K.2.1.getD (K.2.1.length - 1) (0, 0, 0, (0, 0, []), 0, 0, 0)).1 + (K.2.1.getD (K.2.1.length - 1) (0, 0, 0, (0, 0, []), 0, 0, 0)).2.1) = b) (ho1 : (7 ≤ oq ∧ oq ≤ 19)) (hl : 2000 ≤ K.1.length → ¬ (oq = 0 ∨ oq = 1 ∨ oq = 3 ∨ oq = 6 ∨ oq = 24 ∨ oq = 26 ∨ oq = 33 ∨ (oq = 25 ∧ a = 0))) (hml : ∀ x ∈ [217, 218], x ∈ ml) (hmn : ¬ mS ml 215) (he : e ≠ 0 ∧ e ≠ 99) (hcal : wJ (pe_GA xs) wY0 (mS ml) (d + 11) t_XK_operate ((pe_at t_XK_operate.bl 0).getD (0, [])).2 [(0, (2, 215)), (1, (0, oq))] [] (w_up S 215 16 0) (fun o Z => o = .inl none ∧ R Z)) (hR : ∀ Z : wS, R Z → Z 215 16 = e ∧ xR 215 Z) : wJ (pe_GA xs) wY0 (mS ml) (d + 12) t_XK_step ((pe_at t_XK_step.bl 0).getD (0, [])).2 [(0, (2, 215))] [] S (fun o Z2 => o = .inl (some (0, 1)) ∧ ∃ Z : wS, R Z ∧ rsQ 215 2 e Z Z2) := by
  refine wJ_mono (so_215 (R := R) (xB_of h) ho ha hb ho1 (fun q => hl (by omega)) hml hmn hcal (fun Z hz _ _ => (hR Z hz).2)) (fun o Z2 hz => ?_)
  obtain ⟨Z, h1, h2⟩ := hz
  obtain ⟨g1, g2⟩ := hR Z h1
  rcases h2 with ⟨q, -, -⟩ | ⟨q, -, -⟩ | ⟨-, -, rfl, q⟩
  · omega
  · omega
  · rw [g1] at q
    exact ⟨rfl, Z, h1, q⟩
/-- an instruction for which there is no memory -/
theorem cm_o_215 {a b oq : Int} (h : stC 215 S K) (ho : S 31 (S 27 (K.2.1.getD (K.2.1.length - 1) (0, 0, 0, (0, 0, []), 0, 0, 0)).1 + (K.2.1.getD (K.2.1.length - 1) (0, 0, 0, (0, 0, []), 0, 0, 0)).2.1) = oq) (ha : S 32 (S 27 (K.2.1.getD (K.2.1.length - 1) (0, 0, 0, (0, 0, []), 0, 0, 0)).1 + (K.2.1.getD (K.2.1.length - 1) (0, 0, 0, (0, 0, []), 0, 0, 0)).2.1) = a) (hb : S 33 (S 27 (K.2.1.getD (K.2.1.length - 1) (0, 0, 0, (0, 0, []), 0, 0, 0)).1 + (K.2.1.getD (K.2.1.length - 1) (0, 0, 0, (0, 0, []), 0, 0, 0)).2.1) = b) (ho1 : (7 ≤ oq ∧ oq ≤ 19)) (hl : 2000 ≤ K.1.length → ¬ (oq = 0 ∨ oq = 1 ∨ oq = 3 ∨ oq = 6 ∨ oq = 24 ∨ oq = 26 ∨ oq = 33 ∨ (oq = 25 ∧ a = 0))) (hml : ∀ x ∈ [217, 218], x ∈ ml) (hmn : ¬ mS ml 215) (hcal : wJ (pe_GA xs) wY0 (mS ml) (d + 11) t_XK_operate ((pe_at t_XK_operate.bl 0).getD (0, [])).2 [(0, (2, 215)), (1, (0, oq))] [] (w_up S 215 16 0) (fun o Z => o = .inl none ∧ R Z)) (hR : ∀ Z : wS, R Z → Z 215 16 = 99) : wJ (pe_GA xs) wY0 (mS ml) (d + 12) t_XK_step ((pe_at t_XK_step.bl 0).getD (0, [])).2 [(0, (2, 215))] [] S (fun o Z2 => o = .inl (some (0, 0)) ∧ ∃ Z : wS, R Z ∧ w_up Z 215 13 4 = Z2) := by
  refine wJ_mono (so_215 (R := R) (xB_of h) ho ha hb ho1 (fun q => hl (by omega)) hml hmn hcal (fun Z hz _ q => absurd (hR Z hz) q)) (fun o Z2 hz => ?_)
  obtain ⟨Z, h1, h2⟩ := hz
  have g1 := hR Z h1
  rcases h2 with ⟨q, -, -⟩ | ⟨-, rfl, rfl⟩ | ⟨-, q, -, -⟩
  · omega
  · exact ⟨rfl, Z, h1, rfl⟩
  · exact absurd g1 q
/-- values go, one comes -/
theorem cs_o_215 {a b oq : Int} {v : aV} {kk vv n : Int} (h : stC 215 S K) (ho : S 31 (S 27 (K.2.1.getD (K.2.1.length - 1) (0, 0, 0, (0, 0, []), 0, 0, 0)).1 + (K.2.1.getD (K.2.1.length - 1) (0, 0, 0, (0, 0, []), 0, 0, 0)).2.1) = oq) (ha : S 32 (S 27 (K.2.1.getD (K.2.1.length - 1) (0, 0, 0, (0, 0, []), 0, 0, 0)).1 + (K.2.1.getD (K.2.1.length - 1) (0, 0, 0, (0, 0, []), 0, 0, 0)).2.1) = a) (hb : S 33 (S 27 (K.2.1.getD (K.2.1.length - 1) (0, 0, 0, (0, 0, []), 0, 0, 0)).1 + (K.2.1.getD (K.2.1.length - 1) (0, 0, 0, (0, 0, []), 0, 0, 0)).2.1) = b) (ho1 : (7 ≤ oq ∧ oq ≤ 19)) (hl : 2000 ≤ K.1.length → ¬ (oq = 0 ∨ oq = 1 ∨ oq = 3 ∨ oq = 6 ∨ oq = 24 ∨ oq = 26 ∨ oq = 33 ∨ (oq = 25 ∧ a = 0))) (hml : ∀ x ∈ [217, 218], x ∈ ml) (hmn : ¬ mS ml 215) (hcal : wJ (pe_GA xs) wY0 (mS ml) (d + 11) t_XK_operate ((pe_at t_XK_operate.bl 0).getD (0, [])).2 [(0, (2, 215)), (1, (0, oq))] [] (w_up S 215 16 0) (fun o Z => o = .inl none ∧ sO 215 (K.1.length : Int) (K.2.1.length : Int) (K.2.1.getD (K.2.1.length - 1) (0, 0, 0, (0, 0, []), 0, 0, 0)).2.1 n kk vv (w_up S 215 16 0) Z)) (hn : n = (m : Int)) (hm : m ≤ K.1.length) (hv : cVl S kk vv v) : wJ (pe_GA xs) wY0 (mS ml) (d + 12) t_XK_step ((pe_at t_XK_step.bl 0).getD (0, [])).2 [(0, (2, 215))] [] S (fun o Z => o = .inl (some (0, 1)) ∧ cTk 215 Z (kNx (K.1.take (K.1.length - m) ++ [v], K.2) ((K.2.1.getD (K.2.1.length - 1) (0, 0, 0, (0, 0, []), 0, 0, 0)).2.1 + 1)) ∧ cFr 215 S Z) := by
  obtain ⟨h1, ⟨h2, h2b⟩, ⟨h3, h4, h5⟩, -⟩ := id h
  have hf : cFr 215 S (w_up S 215 16 0) := cFr_up (Or.inl rfl) (cFr_rfl h2b) (by decide) (by omega)
  refine cg_o_215 (P := fun Z => cTk 215 Z (kNx (K.1.take (K.1.length - m) ++ [v], K.2) ((K.2.1.getD (K.2.1.length - 1) (0, 0, 0, (0, 0, []), 0, 0, 0)).2.1 + 1)) ∧ cFr 215 S Z) h ho ha hb ho1 hl hml hmn hcal (fun Z hz => ⟨(sO_16 (Or.inl rfl) hz).trans (w_up_same _ _ _ _), cTk_sO (cTk_16 h1 (Or.inl rfl)) (Or.inl rfl) hz rfl rfl h3 hn hm (by omega) (cVl_mo hv (cTx_of (w_up_slot (by decide)) (fun _ => w_up_slot (by decide)))), cFr_sO (Or.inl rfl) hf (by omega) hz⟩)
/-- an ERROR -/
theorem cx_o_215 {a b oq e : Int} (h : stC 215 S K) (ho : S 31 (S 27 (K.2.1.getD (K.2.1.length - 1) (0, 0, 0, (0, 0, []), 0, 0, 0)).1 + (K.2.1.getD (K.2.1.length - 1) (0, 0, 0, (0, 0, []), 0, 0, 0)).2.1) = oq) (ha : S 32 (S 27 (K.2.1.getD (K.2.1.length - 1) (0, 0, 0, (0, 0, []), 0, 0, 0)).1 + (K.2.1.getD (K.2.1.length - 1) (0, 0, 0, (0, 0, []), 0, 0, 0)).2.1) = a) (hb : S 33 (S 27 (K.2.1.getD (K.2.1.length - 1) (0, 0, 0, (0, 0, []), 0, 0, 0)).1 + (K.2.1.getD (K.2.1.length - 1) (0, 0, 0, (0, 0, []), 0, 0, 0)).2.1) = b) (ho1 : (7 ≤ oq ∧ oq ≤ 19)) (hl : 2000 ≤ K.1.length → ¬ (oq = 0 ∨ oq = 1 ∨ oq = 3 ∨ oq = 6 ∨ oq = 24 ∨ oq = 26 ∨ oq = 33 ∨ (oq = 25 ∧ a = 0))) (hml : ∀ x ∈ [217, 218], x ∈ ml) (hmn : ¬ mS ml 215) (he : 1 ≤ e ∧ e ≤ 12) (hcal : wJ (pe_GA xs) wY0 (mS ml) (d + 11) t_XK_operate ((pe_at t_XK_operate.bl 0).getD (0, [])).2 [(0, (2, 215)), (1, (0, oq))] [] (w_up S 215 16 0) (fun o Z => o = .inl none ∧ w_up (w_up S 215 16 0) 215 16 e = Z)) : wJ (pe_GA xs) wY0 (mS ml) (d + 12) t_XK_step ((pe_at t_XK_step.bl 0).getD (0, [])).2 [(0, (2, 215))] [] S (fun o Z => o = .inl (some (0, 1)) ∧ cTk 215 Z (kTh K (2, e, [])) ∧ cFr 215 S Z) := by
  obtain ⟨h1, ⟨h2, h2b⟩, ⟨h3, h4, h5⟩, -⟩ := id h
  have hf : cFr 215 S (w_up (w_up S 215 16 0) 215 16 e) := cFr_up (Or.inl rfl) (cFr_up (Or.inl rfl) (cFr_rfl h2b) (by decide) (by omega)) (by decide) (by omega)
  have hk : cTk 215 (w_up (w_up S 215 16 0) 215 16 e) K := cTk_16 (cTk_16 h1 (Or.inl rfl)) (Or.inl rfl)
  have hx := xR_of hk (cFr_cl (Or.inl rfl) hf h2) hf.2.2.1 h5
  refine wJ_mono (ce_o_215 h ho ha hb ho1 hl hml hmn (show e ≠ 0 ∧ e ≠ 99 by omega) hcal (fun Z hz => by subst hz; exact ⟨w_up_same _ _ _ _, hx⟩)) (fun o Z2 hz => ?_)
  obtain ⟨rfl, Z, rfl, hr⟩ := hz
  exact ⟨rfl, cTk_rs hk (Or.inl rfl) hr ⟨rfl, fun _ => ⟨rfl, rfl⟩, fun q => absurd (show (2 : Int) = 3 from q) (by decide)⟩ h5 (by omega), cFr_rs (Or.inl rfl) hf hr (fun q => (hx.2.2.2 q).1.1) (fun q => (hx.2.2.2 q).2.1)⟩
/-- an instruction that goes well -/
theorem cg_b_215 {a b oq : Int} (h : stC 215 S K) (ho : S 31 (S 27 (K.2.1.getD (K.2.1.length - 1) (0, 0, 0, (0, 0, []), 0, 0, 0)).1 + (K.2.1.getD (K.2.1.length - 1) (0, 0, 0, (0, 0, []), 0, 0, 0)).2.1) = oq) (ha : S 32 (S 27 (K.2.1.getD (K.2.1.length - 1) (0, 0, 0, (0, 0, []), 0, 0, 0)).1 + (K.2.1.getD (K.2.1.length - 1) (0, 0, 0, (0, 0, []), 0, 0, 0)).2.1) = a) (hb : S 33 (S 27 (K.2.1.getD (K.2.1.length - 1) (0, 0, 0, (0, 0, []), 0, 0, 0)).1 + (K.2.1.getD (K.2.1.length - 1) (0, 0, 0, (0, 0, []), 0, 0, 0)).2.1) = b) (ho1 : (oq = 28)) (hl : 2000 ≤ K.1.length → ¬ (oq = 0 ∨ oq = 1 ∨ oq = 3 ∨ oq = 6 ∨ oq = 24 ∨ oq = 26 ∨ oq = 33 ∨ (oq = 25 ∧ a = 0))) (hml : ∀ x ∈ [217, 218], x ∈ ml) (hmn : ¬ mS ml 215) (hcal : wJ (pe_GA xs) wY0 (mS ml) (d + 11) t_XK_callBuiltin ((pe_at t_XK_callBuiltin.bl 0).getD (0, [])).2 [(0, (2, 215)), (1, (0, a))] [] (w_up S 215 16 0) (fun o Z => o = .inl none ∧ R Z)) (hR : ∀ Z : wS, R Z → Z 215 16 = 0 ∧ P Z) : wJ (pe_GA xs) wY0 (mS ml) (d + 12) t_XK_step ((pe_at t_XK_step.bl 0).getD (0, [])).2 [(0, (2, 215))] [] S (fun o Z => o = .inl (some (0, 1)) ∧ P Z) := by
  refine wJ_mono (sb_215 (R := R) (xB_of h) ho ha hb ho1 (fun q => hl (by omega)) hml hmn hcal (fun Z hz q => absurd (hR Z hz).1 q)) (fun o Z2 hz => ?_)
  obtain ⟨Z, h1, h2⟩ := hz
  obtain ⟨g1, g2⟩ := hR Z h1
  rcases h2 with ⟨-, rfl, rfl⟩ | ⟨q, -, -⟩ | ⟨q, -, -, -⟩
  · exact ⟨rfl, g2⟩
  · omega
  · exact absurd g1 q
/-- an instruction that ends with an ERROR -/
theorem ce_b_215 {a b oq e : Int} (h : stC 215 S K) (ho : S 31 (S 27 (K.2.1.getD (K.2.1.length - 1) (0, 0, 0, (0, 0, []), 0, 0, 0)).1 + (K.2.1.getD (K.2.1.length - 1) (0, 0, 0, (0, 0, []), 0, 0, 0)).2.1) = oq) (ha : S 32 (S 27 (K.2.1.getD (K.2.1.length - 1) (0, 0, 0, (0, 0, []), 0, 0, 0)).1 + (K.2.1.getD (K.2.1.length - 1) (0, 0, 0, (0, 0, []), 0, 0, 0)).2.1) = a) (hb : S 33 (S 27 (K.2.1.getD (K.2.1.length - 1) (0, 0, 0, (0, 0, []), 0, 0, 0)).1 + (K.2.1.getD (K.2.1.length - 1) (0, 0, 0, (0, 0, []), 0, 0, 0)).2.1) = b) (ho1 : (oq = 28)) (hl : 2000 ≤ K.1.length → ¬ (oq = 0 ∨ oq = 1 ∨ oq = 3 ∨ oq = 6 ∨ oq = 24 ∨ oq = 26 ∨ oq = 33 ∨ (oq = 25 ∧ a = 0))) (hml : ∀ x ∈ [217, 218], x ∈ ml) (hmn : ¬ mS ml 215) (he : e ≠ 0 ∧ e ≠ 99) (hcal : wJ (pe_GA xs) wY0 (mS ml) (d + 11) t_XK_callBuiltin ((pe_at t_XK_callBuiltin.bl 0).getD (0, [])).2 [(0, (2, 215)), (1, (0, a))] [] (w_up S 215 16 0) (fun o Z => o = .inl none ∧ R Z)) (hR : ∀ Z : wS, R Z → Z 215 16 = e ∧ xR 215 Z) : wJ (pe_GA xs) wY0 (mS ml) (d + 12) t_XK_step ((pe_at t_XK_step.bl 0).getD (0, [])).2 [(0, (2, 215))] [] S (fun o Z2 => o = .inl (some (0, 1)) ∧ ∃ Z : wS, R Z ∧ rsQ 215 2 e Z Z2) := by
  refine wJ_mono (sb_215 (R := R) (xB_of h) ho ha hb ho1 (fun q => hl (by omega)) hml hmn hcal (fun Z hz _ _ => (hR Z hz).2)) (fun o Z2 hz => ?_)
  obtain ⟨Z, h1, h2⟩ := hz
  obtain ⟨g1, g2⟩ := hR Z h1
  rcases h2 with ⟨q, -, -⟩ | ⟨q, -, -⟩ | ⟨-, -, rfl, q⟩
  · omega
  · omega
  · rw [g1] at q
    exact ⟨rfl, Z, h1, q⟩
/-- an instruction for which there is no memory -/
theorem cm_b_215 {a b oq : Int} (h : stC 215 S K) (ho : S 31 (S 27 (K.2.1.getD (K.2.1.length - 1) (0, 0, 0, (0, 0, []), 0, 0, 0)).1 + (K.2.1.getD (K.2.1.length - 1) (0, 0, 0, (0, 0, []), 0, 0, 0)).2.1) = oq) (ha : S 32 (S 27 (K.2.1.getD (K.2.1.length - 1) (0, 0, 0, (0, 0, []), 0, 0, 0)).1 + (K.2.1.getD (K.2.1.length - 1) (0, 0, 0, (0, 0, []), 0, 0, 0)).2.1) = a) (hb : S 33 (S 27 (K.2.1.getD (K.2.1.length - 1) (0, 0, 0, (0, 0, []), 0, 0, 0)).1 + (K.2.1.getD (K.2.1.length - 1) (0, 0, 0, (0, 0, []), 0, 0, 0)).2.1) = b) (ho1 : (oq = 28)) (hl : 2000 ≤ K.1.length → ¬ (oq = 0 ∨ oq = 1 ∨ oq = 3 ∨ oq = 6 ∨ oq = 24 ∨ oq = 26 ∨ oq = 33 ∨ (oq = 25 ∧ a = 0))) (hml : ∀ x ∈ [217, 218], x ∈ ml) (hmn : ¬ mS ml 215) (hcal : wJ (pe_GA xs) wY0 (mS ml) (d + 11) t_XK_callBuiltin ((pe_at t_XK_callBuiltin.bl 0).getD (0, [])).2 [(0, (2, 215)), (1, (0, a))] [] (w_up S 215 16 0) (fun o Z => o = .inl none ∧ R Z)) (hR : ∀ Z : wS, R Z → Z 215 16 = 99) : wJ (pe_GA xs) wY0 (mS ml) (d + 12) t_XK_step ((pe_at t_XK_step.bl 0).getD (0, [])).2 [(0, (2, 215))] [] S (fun o Z2 => o = .inl (some (0, 0)) ∧ ∃ Z : wS, R Z ∧ w_up Z 215 13 4 = Z2) := by
  refine wJ_mono (sb_215 (R := R) (xB_of h) ho ha hb ho1 (fun q => hl (by omega)) hml hmn hcal (fun Z hz _ q => absurd (hR Z hz) q)) (fun o Z2 hz => ?_)
  obtain ⟨Z, h1, h2⟩ := hz
  have g1 := hR Z h1
  rcases h2 with ⟨q, -, -⟩ | ⟨-, rfl, rfl⟩ | ⟨-, q, -, -⟩
  · omega
  · exact ⟨rfl, Z, h1, rfl⟩
  · exact absurd g1 q
/-- the pile is full -/
theorem cx_f_215 {a b oq : Int} (h : stC 215 S K) (ho : S 31 (S 27 (K.2.1.getD (K.2.1.length - 1) (0, 0, 0, (0, 0, []), 0, 0, 0)).1 + (K.2.1.getD (K.2.1.length - 1) (0, 0, 0, (0, 0, []), 0, 0, 0)).2.1) = oq) (ha : S 32 (S 27 (K.2.1.getD (K.2.1.length - 1) (0, 0, 0, (0, 0, []), 0, 0, 0)).1 + (K.2.1.getD (K.2.1.length - 1) (0, 0, 0, (0, 0, []), 0, 0, 0)).2.1) = a) (hb : S 33 (S 27 (K.2.1.getD (K.2.1.length - 1) (0, 0, 0, (0, 0, []), 0, 0, 0)).1 + (K.2.1.getD (K.2.1.length - 1) (0, 0, 0, (0, 0, []), 0, 0, 0)).2.1) = b) (ho1 : (oq = 0 ∨ oq = 1 ∨ oq = 3 ∨ oq = 6 ∨ oq = 24 ∨ oq = 26 ∨ oq = 33 ∨ (oq = 25 ∧ a = 0))) (hl : 2000 ≤ K.1.length) : wJ (pe_GA xs) wY0 (mS [217, 218]) (d + 12) t_XK_step ((pe_at t_XK_step.bl 0).getD (0, [])).2 [(0, (2, 215))] [] S (fun o Z => o = .inl (some (0, 1)) ∧ cTk 215 Z (kTh K (2, 11, [])) ∧ cFr 215 S Z) := by
  obtain ⟨h1, ⟨h2, h2b⟩, ⟨h3, h4, h5⟩, -⟩ := id h
  have hf : cFr 215 S (w_up (w_up S 215 16 0) 215 16 11) := cFr_up (Or.inl rfl) (cFr_up (Or.inl rfl) (cFr_rfl h2b) (by decide) (by omega)) (by decide) (by omega)
  have hk : cTk 215 (w_up (w_up S 215 16 0) 215 16 11) K := cTk_16 (cTk_16 h1 (Or.inl rfl)) (Or.inl rfl)
  have hx := xR_of hk (cFr_cl (Or.inl rfl) hf h2) hf.2.2.1 h5
  refine wJ_mono (xpe_215 (xB_of h) ho ha hb ho1 (by omega) hx) (fun o Z2 hz => ?_)
  obtain ⟨rfl, hr⟩ := hz
  exact ⟨rfl, cTk_rs hk (Or.inl rfl) hr ⟨rfl, fun _ => ⟨rfl, rfl⟩, fun q => absurd (show (2 : Int) = 3 from q) (by decide)⟩ h5 (by omega), cFr_rs (Or.inl rfl) hf hr (fun q => (hx.2.2.2 q).1.1) (fun q => (hx.2.2.2 q).2.1)⟩
/-- an instruction that goes well -/
theorem cg_p_226 {a b oq : Int} (h : stC 226 S K) (ho : S 31 (S 27 (K.2.1.getD (K.2.1.length - 1) (0, 0, 0, (0, 0, []), 0, 0, 0)).1 + (K.2.1.getD (K.2.1.length - 1) (0, 0, 0, (0, 0, []), 0, 0, 0)).2.1) = oq) (ha : S 32 (S 27 (K.2.1.getD (K.2.1.length - 1) (0, 0, 0, (0, 0, []), 0, 0, 0)).1 + (K.2.1.getD (K.2.1.length - 1) (0, 0, 0, (0, 0, []), 0, 0, 0)).2.1) = a) (hb : S 33 (S 27 (K.2.1.getD (K.2.1.length - 1) (0, 0, 0, (0, 0, []), 0, 0, 0)).1 + (K.2.1.getD (K.2.1.length - 1) (0, 0, 0, (0, 0, []), 0, 0, 0)).2.1) = b) (ho1 : ((0 ≤ oq ∧ oq ≤ 6) ∨ (20 ≤ oq ∧ oq ≤ 33 ∧ oq ≠ 27 ∧ oq ≠ 28))) (hl : 2000 ≤ K.1.length → ¬ (oq = 0 ∨ oq = 1 ∨ oq = 3 ∨ oq = 6 ∨ oq = 24 ∨ oq = 26 ∨ oq = 33 ∨ (oq = 25 ∧ a = 0))) (hml : ∀ x ∈ [228, 229], x ∈ ml) (hmn : ¬ mS ml 226) (hcal : wJ (pe_GA xs) wY0 (mS ml) (d + 11) t_XK_perform ((pe_at t_XK_perform.bl 0).getD (0, [])).2 [(0, (2, 226)), (1, (0, oq)), (2, (0, a)), (3, (0, b))] [] (w_up S 226 16 0) (fun o Z => o = .inl none ∧ R Z)) (hR : ∀ Z : wS, R Z → Z 226 16 = 0 ∧ P Z) : wJ (pe_GA xs) wY0 (mS ml) (d + 12) t_XK_step ((pe_at t_XK_step.bl 0).getD (0, [])).2 [(0, (2, 226))] [] S (fun o Z => o = .inl (some (0, 1)) ∧ P Z) := by
  refine wJ_mono (sp_226 (R := R) (xB_of h) ho ha hb ho1 (fun q => hl (by omega)) hml hmn hcal (fun Z hz q => absurd (hR Z hz).1 q)) (fun o Z2 hz => ?_)
  obtain ⟨Z, h1, h2⟩ := hz
  obtain ⟨g1, g2⟩ := hR Z h1
  rcases h2 with ⟨-, rfl, rfl⟩ | ⟨q, -, -⟩ | ⟨q, -, -, -⟩
  · exact ⟨rfl, g2⟩
  · omega
  · exact absurd g1 q
/-- an instruction that ends with an ERROR -/
theorem ce_p_226 {a b oq e : Int} (h : stC 226 S K) (ho : S 31 (S 27 (K.2.1.getD (K.2.1.length - 1) (0, 0, 0, (0, 0, []), 0, 0, 0)).1 + (K.2.1.getD (K.2.1.length - 1) (0, 0, 0, (0, 0, []), 0, 0, 0)).2.1) = oq) (ha : S 32 (S 27 (K.2.1.getD (K.2.1.length - 1) (0, 0, 0, (0, 0, []), 0, 0, 0)).1 + (K.2.1.getD (K.2.1.length - 1) (0, 0, 0, (0, 0, []), 0, 0, 0)).2.1) = a) (hb : S 33 (S 27 (K.2.1.getD (K.2.1.length - 1) (0, 0, 0, (0, 0, []), 0, 0, 0)).1 + (K.2.1.getD (K.2.1.length - 1) (0, 0, 0, (0, 0, []), 0, 0, 0)).2.1) = b) (ho1 : ((0 ≤ oq ∧ oq ≤ 6) ∨ (20 ≤ oq ∧ oq ≤ 33 ∧ oq ≠ 27 ∧ oq ≠ 28))) (hl : 2000 ≤ K.1.length → ¬ (oq = 0 ∨ oq = 1 ∨ oq = 3 ∨ oq = 6 ∨ oq = 24 ∨ oq = 26 ∨ oq = 33 ∨ (oq = 25 ∧ a = 0))) (hml : ∀ x ∈ [228, 229], x ∈ ml) (hmn : ¬ mS ml 226) (he : e ≠ 0 ∧ e ≠ 99) (hcal : wJ (pe_GA xs) wY0 (mS ml) (d + 11) t_XK_perform ((pe_at t_XK_perform.bl 0).getD (0, [])).2 [(0, (2, 226)), (1, (0, oq)), (2, (0, a)), (3, (0, b))] [] (w_up S 226 16 0) (fun o Z => o = .inl none ∧ R Z)) (hR : ∀ Z : wS, R Z → Z 226 16 = e ∧ xR 226 Z) : wJ (pe_GA xs) wY0 (mS ml) (d + 12) t_XK_step ((pe_at t_XK_step.bl 0).getD (0, [])).2 [(0, (2, 226))] [] S (fun o Z2 => o = .inl (some (0, 1)) ∧ ∃ Z : wS, R Z ∧ rsQ 226 2 e Z Z2) := by
  refine wJ_mono (sp_226 (R := R) (xB_of h) ho ha hb ho1 (fun q => hl (by omega)) hml hmn hcal (fun Z hz _ _ => (hR Z hz).2)) (fun o Z2 hz => ?_)
  obtain ⟨Z, h1, h2⟩ := hz
  obtain ⟨g1, g2⟩ := hR Z h1
  rcases h2 with ⟨q, -, -⟩ | ⟨q, -, -⟩ | ⟨-, -, rfl, q⟩
  · omega
  · omega
  · rw [g1] at q
    exact ⟨rfl, Z, h1, q⟩
/-- an instruction for which there is no memory -/
theorem cm_p_226 {a b oq : Int} (h : stC 226 S K) (ho : S 31 (S 27 (K.2.1.getD (K.2.1.length - 1) (0, 0, 0, (0, 0, []), 0, 0, 0)).1 + (K.2.1.getD (K.2.1.length - 1) (0, 0, 0, (0, 0, []), 0, 0, 0)).2.1) = oq) (ha : S 32 (S 27 (K.2.1.getD (K.2.1.length - 1) (0, 0, 0, (0, 0, []), 0, 0, 0)).1 + (K.2.1.getD (K.2.1.length - 1) (0, 0, 0, (0, 0, []), 0, 0, 0)).2.1) = a) (hb : S 33 (S 27 (K.2.1.getD (K.2.1.length - 1) (0, 0, 0, (0, 0, []), 0, 0, 0)).1 + (K.2.1.getD (K.2.1.length - 1) (0, 0, 0, (0, 0, []), 0, 0, 0)).2.1) = b) (ho1 : ((0 ≤ oq ∧ oq ≤ 6) ∨ (20 ≤ oq ∧ oq ≤ 33 ∧ oq ≠ 27 ∧ oq ≠ 28))) (hl : 2000 ≤ K.1.length → ¬ (oq = 0 ∨ oq = 1 ∨ oq = 3 ∨ oq = 6 ∨ oq = 24 ∨ oq = 26 ∨ oq = 33 ∨ (oq = 25 ∧ a = 0))) (hml : ∀ x ∈ [228, 229], x ∈ ml) (hmn : ¬ mS ml 226) (hcal : wJ (pe_GA xs) wY0 (mS ml) (d + 11) t_XK_perform ((pe_at t_XK_perform.bl 0).getD (0, [])).2 [(0, (2, 226)), (1, (0, oq)), (2, (0, a)), (3, (0, b))] [] (w_up S 226 16 0) (fun o Z => o = .inl none ∧ R Z)) (hR : ∀ Z : wS, R Z → Z 226 16 = 99) : wJ (pe_GA xs) wY0 (mS ml) (d + 12) t_XK_step ((pe_at t_XK_step.bl 0).getD (0, [])).2 [(0, (2, 226))] [] S (fun o Z2 => o = .inl (some (0, 0)) ∧ ∃ Z : wS, R Z ∧ w_up Z 226 13 4 = Z2) := by
  refine wJ_mono (sp_226 (R := R) (xB_of h) ho ha hb ho1 (fun q => hl (by omega)) hml hmn hcal (fun Z hz _ q => absurd (hR Z hz) q)) (fun o Z2 hz => ?_)
  obtain ⟨Z, h1, h2⟩ := hz
  have g1 := hR Z h1
  rcases h2 with ⟨q, -, -⟩ | ⟨-, rfl, rfl⟩ | ⟨-, q, -, -⟩
  · omega
  · exact ⟨rfl, Z, h1, rfl⟩
  · exact absurd g1 q
/-- values go, one comes -/
theorem cs_p_226 {a b oq : Int} {v : aV} {kk vv n : Int} (h : stC 226 S K) (ho : S 31 (S 27 (K.2.1.getD (K.2.1.length - 1) (0, 0, 0, (0, 0, []), 0, 0, 0)).1 + (K.2.1.getD (K.2.1.length - 1) (0, 0, 0, (0, 0, []), 0, 0, 0)).2.1) = oq) (ha : S 32 (S 27 (K.2.1.getD (K.2.1.length - 1) (0, 0, 0, (0, 0, []), 0, 0, 0)).1 + (K.2.1.getD (K.2.1.length - 1) (0, 0, 0, (0, 0, []), 0, 0, 0)).2.1) = a) (hb : S 33 (S 27 (K.2.1.getD (K.2.1.length - 1) (0, 0, 0, (0, 0, []), 0, 0, 0)).1 + (K.2.1.getD (K.2.1.length - 1) (0, 0, 0, (0, 0, []), 0, 0, 0)).2.1) = b) (ho1 : ((0 ≤ oq ∧ oq ≤ 6) ∨ (20 ≤ oq ∧ oq ≤ 33 ∧ oq ≠ 27 ∧ oq ≠ 28))) (hl : 2000 ≤ K.1.length → ¬ (oq = 0 ∨ oq = 1 ∨ oq = 3 ∨ oq = 6 ∨ oq = 24 ∨ oq = 26 ∨ oq = 33 ∨ (oq = 25 ∧ a = 0))) (hml : ∀ x ∈ [228, 229], x ∈ ml) (hmn : ¬ mS ml 226) (hcal : wJ (pe_GA xs) wY0 (mS ml) (d + 11) t_XK_perform ((pe_at t_XK_perform.bl 0).getD (0, [])).2 [(0, (2, 226)), (1, (0, oq)), (2, (0, a)), (3, (0, b))] [] (w_up S 226 16 0) (fun o Z => o = .inl none ∧ sO 226 (K.1.length : Int) (K.2.1.length : Int) (K.2.1.getD (K.2.1.length - 1) (0, 0, 0, (0, 0, []), 0, 0, 0)).2.1 n kk vv (w_up S 226 16 0) Z)) (hn : n = (m : Int)) (hm : m ≤ K.1.length) (hv : cVl S kk vv v) : wJ (pe_GA xs) wY0 (mS ml) (d + 12) t_XK_step ((pe_at t_XK_step.bl 0).getD (0, [])).2 [(0, (2, 226))] [] S (fun o Z => o = .inl (some (0, 1)) ∧ cTk 226 Z (kNx (K.1.take (K.1.length - m) ++ [v], K.2) ((K.2.1.getD (K.2.1.length - 1) (0, 0, 0, (0, 0, []), 0, 0, 0)).2.1 + 1)) ∧ cFr 226 S Z) := by
  obtain ⟨h1, ⟨h2, h2b⟩, ⟨h3, h4, h5⟩, -⟩ := id h
  have hf : cFr 226 S (w_up S 226 16 0) := cFr_up (Or.inr rfl) (cFr_rfl h2b) (by decide) (by omega)
  refine cg_p_226 (P := fun Z => cTk 226 Z (kNx (K.1.take (K.1.length - m) ++ [v], K.2) ((K.2.1.getD (K.2.1.length - 1) (0, 0, 0, (0, 0, []), 0, 0, 0)).2.1 + 1)) ∧ cFr 226 S Z) h ho ha hb ho1 hl hml hmn hcal (fun Z hz => ⟨(sO_16 (Or.inr rfl) hz).trans (w_up_same _ _ _ _), cTk_sO (cTk_16 h1 (Or.inr rfl)) (Or.inr rfl) hz rfl rfl h3 hn hm (by omega) (cVl_mo hv (cTx_of (w_up_slot (by decide)) (fun _ => w_up_slot (by decide)))), cFr_sO (Or.inr rfl) hf (by omega) hz⟩)
/-- an ERROR -/
theorem cx_p_226 {a b oq e : Int} (h : stC 226 S K) (ho : S 31 (S 27 (K.2.1.getD (K.2.1.length - 1) (0, 0, 0, (0, 0, []), 0, 0, 0)).1 + (K.2.1.getD (K.2.1.length - 1) (0, 0, 0, (0, 0, []), 0, 0, 0)).2.1) = oq) (ha : S 32 (S 27 (K.2.1.getD (K.2.1.length - 1) (0, 0, 0, (0, 0, []), 0, 0, 0)).1 + (K.2.1.getD (K.2.1.length - 1) (0, 0, 0, (0, 0, []), 0, 0, 0)).2.1) = a) (hb : S 33 (S 27 (K.2.1.getD (K.2.1.length - 1) (0, 0, 0, (0, 0, []), 0, 0, 0)).1 + (K.2.1.getD (K.2.1.length - 1) (0, 0, 0, (0, 0, []), 0, 0, 0)).2.1) = b) (ho1 : ((0 ≤ oq ∧ oq ≤ 6) ∨ (20 ≤ oq ∧ oq ≤ 33 ∧ oq ≠ 27 ∧ oq ≠ 28))) (hl : 2000 ≤ K.1.length → ¬ (oq = 0 ∨ oq = 1 ∨ oq = 3 ∨ oq = 6 ∨ oq = 24 ∨ oq = 26 ∨ oq = 33 ∨ (oq = 25 ∧ a = 0))) (hml : ∀ x ∈ [228, 229], x ∈ ml) (hmn : ¬ mS ml 226) (he : 1 ≤ e ∧ e ≤ 12) (hcal : wJ (pe_GA xs) wY0 (mS ml) (d + 11) t_XK_perform ((pe_at t_XK_perform.bl 0).getD (0, [])).2 [(0, (2, 226)), (1, (0, oq)), (2, (0, a)), (3, (0, b))] [] (w_up S 226 16 0) (fun o Z => o = .inl none ∧ w_up (w_up S 226 16 0) 226 16 e = Z)) : wJ (pe_GA xs) wY0 (mS ml) (d + 12) t_XK_step ((pe_at t_XK_step.bl 0).getD (0, [])).2 [(0, (2, 226))] [] S (fun o Z => o = .inl (some (0, 1)) ∧ cTk 226 Z (kTh K (2, e, [])) ∧ cFr 226 S Z) := by
  obtain ⟨h1, ⟨h2, h2b⟩, ⟨h3, h4, h5⟩, -⟩ := id h
  have hf : cFr 226 S (w_up (w_up S 226 16 0) 226 16 e) := cFr_up (Or.inr rfl) (cFr_up (Or.inr rfl) (cFr_rfl h2b) (by decide) (by omega)) (by decide) (by omega)
  have hk : cTk 226 (w_up (w_up S 226 16 0) 226 16 e) K := cTk_16 (cTk_16 h1 (Or.inr rfl)) (Or.inr rfl)
  have hx := xR_of hk (cFr_cl (Or.inr rfl) hf h2) hf.2.2.1 h5
  refine wJ_mono (ce_p_226 h ho ha hb ho1 hl hml hmn (show e ≠ 0 ∧ e ≠ 99 by omega) hcal (fun Z hz => by subst hz; exact ⟨w_up_same _ _ _ _, hx⟩)) (fun o Z2 hz => ?_)
  obtain ⟨rfl, Z, rfl, hr⟩ := hz
  exact ⟨rfl, cTk_rs hk (Or.inr rfl) hr ⟨rfl, fun _ => ⟨rfl, rfl⟩, fun q => absurd (show (2 : Int) = 3 from q) (by decide)⟩ h5 (by omega), cFr_rs (Or.inr rfl) hf hr (fun q => (hx.2.2.2 q).1.1) (fun q => (hx.2.2.2 q).2.1)⟩
/-- an instruction that goes well -/
theorem cg_o_226 {a b oq : Int} (h : stC 226 S K) (ho : S 31 (S 27 (K.2.1.getD (K.2.1.length - 1) (0, 0, 0, (0, 0, []), 0, 0, 0)).1 + (K.2.1.getD (K.2.1.length - 1) (0, 0, 0, (0, 0, []), 0, 0, 0)).2.1) = oq) (ha : S 32 (S 27 (K.2.1.getD (K.2.1.length - 1) (0, 0, 0, (0, 0, []), 0, 0, 0)).1 + (K.2.1.getD (K.2.1.length - 1) (0, 0, 0, (0, 0, []), 0, 0, 0)).2.1) = a) (hb : S 33 (S 27 (K.2.1.getD (K.2.1.length - 1) (0, 0, 0, (0, 0, []), 0, 0, 0)).1 + (K.2.1.getD (K.2.1.length - 1) (0, 0, 0, (0, 0, []), 0, 0, 0)).2.1) = b) (ho1 : (7 ≤ oq ∧ oq ≤ 19)) (hl : 2000 ≤ K.1.length → ¬ (oq = 0 ∨ oq = 1 ∨ oq = 3 ∨ oq = 6 ∨ oq = 24 ∨ oq = 26 ∨ oq = 33 ∨ (oq = 25 ∧ a = 0))) (hml : ∀ x ∈ [228, 229], x ∈ ml) (hmn : ¬ mS ml 226) (hcal : wJ (pe_GA xs) wY0 (mS ml) (d + 11) t_XK_operate ((pe_at t_XK_operate.bl 0).getD (0, [])).2 [(0, (2, 226)), (1, (0, oq))] [] (w_up S 226 16 0) (fun o Z => o = .inl none ∧ R Z)) (hR : ∀ Z : wS, R Z → Z 226 16 = 0 ∧ P Z) : wJ (pe_GA xs) wY0 (mS ml) (d + 12) t_XK_step ((pe_at t_XK_step.bl 0).getD (0, [])).2 [(0, (2, 226))] [] S (fun o Z => o = .inl (some (0, 1)) ∧ P Z) := by
  refine wJ_mono (so_226 (R := R) (xB_of h) ho ha hb ho1 (fun q => hl (by omega)) hml hmn hcal (fun Z hz q => absurd (hR Z hz).1 q)) (fun o Z2 hz => ?_)
  obtain ⟨Z, h1, h2⟩ := hz
  obtain ⟨g1, g2⟩ := hR Z h1
  rcases h2 with ⟨-, rfl, rfl⟩ | ⟨q, -, -⟩ | ⟨q, -, -, -⟩
  · exact ⟨rfl, g2⟩
  · omega
  · exact absurd g1 q
/-- an instruction that ends with an ERROR -/
theorem ce_o_226 {a b oq e : Int} (h : stC 226 S K) (ho : S 31 (S 27 (K.2.1.getD (K.2.1.length - 1) (0, 0, 0, (0, 0, []), 0, 0, 0)).1 + (K.2.1.getD (K.2.1.length - 1) (0, 0, 0, (0, 0, []), 0, 0, 0)).2.1) = oq) (ha : S 32 (S 27 (K.2.1.getD (K.2.1.length - 1) (0, 0, 0, (0, 0, []), 0, 0, 0)).1 + (K.2.1.getD (K.2.1.length - 1) (0, 0, 0, (0, 0, []), 0, 0, 0)).2.1) = a) (hb : S 33 (S 27 (K.2.1.getD (K.2.1.length - 1) (0, 0, 0, (0, 0, []), 0, 0, 0)).1 + (K.2.1.getD (K.2.1.length - 1) (0, 0, 0, (0, 0, []), 0, 0, 0)).2.1) = b) (ho1 : (7 ≤ oq ∧ oq ≤ 19)) (hl : 2000 ≤ K.1.length → ¬ (oq = 0 ∨ oq = 1 ∨ oq = 3 ∨ oq = 6 ∨ oq = 24 ∨ oq = 26 ∨ oq = 33 ∨ (oq = 25 ∧ a = 0))) (hml : ∀ x ∈ [228, 229], x ∈ ml) (hmn : ¬ mS ml 226) (he : e ≠ 0 ∧ e ≠ 99) (hcal : wJ (pe_GA xs) wY0 (mS ml) (d + 11) t_XK_operate ((pe_at t_XK_operate.bl 0).getD (0, [])).2 [(0, (2, 226)), (1, (0, oq))] [] (w_up S 226 16 0) (fun o Z => o = .inl none ∧ R Z)) (hR : ∀ Z : wS, R Z → Z 226 16 = e ∧ xR 226 Z) : wJ (pe_GA xs) wY0 (mS ml) (d + 12) t_XK_step ((pe_at t_XK_step.bl 0).getD (0, [])).2 [(0, (2, 226))] [] S (fun o Z2 => o = .inl (some (0, 1)) ∧ ∃ Z : wS, R Z ∧ rsQ 226 2 e Z Z2) := by
  refine wJ_mono (so_226 (R := R) (xB_of h) ho ha hb ho1 (fun q => hl (by omega)) hml hmn hcal (fun Z hz _ _ => (hR Z hz).2)) (fun o Z2 hz => ?_)
  obtain ⟨Z, h1, h2⟩ := hz
  obtain ⟨g1, g2⟩ := hR Z h1
  rcases h2 with ⟨q, -, -⟩ | ⟨q, -, -⟩ | ⟨-, -, rfl, q⟩
  · omega
  · omega
  · rw [g1] at q
    exact ⟨rfl, Z, h1, q⟩
/-- an instruction for which there is no memory -/
theorem cm_o_226 {a b oq : Int} (h : stC 226 S K) (ho : S 31 (S 27 (K.2.1.getD (K.2.1.length - 1) (0, 0, 0, (0, 0, []), 0, 0, 0)).1 + (K.2.1.getD (K.2.1.length - 1) (0, 0, 0, (0, 0, []), 0, 0, 0)).2.1) = oq) (ha : S 32 (S 27 (K.2.1.getD (K.2.1.length - 1) (0, 0, 0, (0, 0, []), 0, 0, 0)).1 + (K.2.1.getD (K.2.1.length - 1) (0, 0, 0, (0, 0, []), 0, 0, 0)).2.1) = a) (hb : S 33 (S 27 (K.2.1.getD (K.2.1.length - 1) (0, 0, 0, (0, 0, []), 0, 0, 0)).1 + (K.2.1.getD (K.2.1.length - 1) (0, 0, 0, (0, 0, []), 0, 0, 0)).2.1) = b) (ho1 : (7 ≤ oq ∧ oq ≤ 19)) (hl : 2000 ≤ K.1.length → ¬ (oq = 0 ∨ oq = 1 ∨ oq = 3 ∨ oq = 6 ∨ oq = 24 ∨ oq = 26 ∨ oq = 33 ∨ (oq = 25 ∧ a = 0))) (hml : ∀ x ∈ [228, 229], x ∈ ml) (hmn : ¬ mS ml 226) (hcal : wJ (pe_GA xs) wY0 (mS ml) (d + 11) t_XK_operate ((pe_at t_XK_operate.bl 0).getD (0, [])).2 [(0, (2, 226)), (1, (0, oq))] [] (w_up S 226 16 0) (fun o Z => o = .inl none ∧ R Z)) (hR : ∀ Z : wS, R Z → Z 226 16 = 99) : wJ (pe_GA xs) wY0 (mS ml) (d + 12) t_XK_step ((pe_at t_XK_step.bl 0).getD (0, [])).2 [(0, (2, 226))] [] S (fun o Z2 => o = .inl (some (0, 0)) ∧ ∃ Z : wS, R Z ∧ w_up Z 226 13 4 = Z2) := by
  refine wJ_mono (so_226 (R := R) (xB_of h) ho ha hb ho1 (fun q => hl (by omega)) hml hmn hcal (fun Z hz _ q => absurd (hR Z hz) q)) (fun o Z2 hz => ?_)
  obtain ⟨Z, h1, h2⟩ := hz
  have g1 := hR Z h1
  rcases h2 with ⟨q, -, -⟩ | ⟨-, rfl, rfl⟩ | ⟨-, q, -, -⟩
  · omega
  · exact ⟨rfl, Z, h1, rfl⟩
  · exact absurd g1 q
/-- values go, one comes -/
theorem cs_o_226 {a b oq : Int} {v : aV} {kk vv n : Int} (h : stC 226 S K) (ho : S 31 (S 27 (K.2.1.getD (K.2.1.length - 1) (0, 0, 0, (0, 0, []), 0, 0, 0)).1 + (K.2.1.getD (K.2.1.length - 1) (0, 0, 0, (0, 0, []), 0, 0, 0)).2.1) = oq) (ha : S 32 (S 27 (K.2.1.getD (K.2.1.length - 1) (0, 0, 0, (0, 0, []), 0, 0, 0)).1 + (K.2.1.getD (K.2.1.length - 1) (0, 0, 0, (0, 0, []), 0, 0, 0)).2.1) = a) (hb : S 33 (S 27 (K.2.1.getD (K.2.1.length - 1) (0, 0, 0, (0, 0, []), 0, 0, 0)).1 + (K.2.1.getD (K.2.1.length - 1) (0, 0, 0, (0, 0, []), 0, 0, 0)).2.1) = b) (ho1 : (7 ≤ oq ∧ oq ≤ 19)) (hl : 2000 ≤ K.1.length → ¬ (oq = 0 ∨ oq = 1 ∨ oq = 3 ∨ oq = 6 ∨ oq = 24 ∨ oq = 26 ∨ oq = 33 ∨ (oq = 25 ∧ a = 0))) (hml : ∀ x ∈ [228, 229], x ∈ ml) (hmn : ¬ mS ml 226) (hcal : wJ (pe_GA xs) wY0 (mS ml) (d + 11) t_XK_operate ((pe_at t_XK_operate.bl 0).getD (0, [])).2 [(0, (2, 226)), (1, (0, oq))] [] (w_up S 226 16 0) (fun o Z => o = .inl none ∧ sO 226 (K.1.length : Int) (K.2.1.length : Int) (K.2.1.getD (K.2.1.length - 1) (0, 0, 0, (0, 0, []), 0, 0, 0)).2.1 n kk vv (w_up S 226 16 0) Z)) (hn : n = (m : Int)) (hm : m ≤ K.1.length) (hv : cVl S kk vv v) : wJ (pe_GA xs) wY0 (mS ml) (d + 12) t_XK_step ((pe_at t_XK_step.bl 0).getD (0, [])).2 [(0, (2, 226))] [] S (fun o Z => o = .inl (some (0, 1)) ∧ cTk 226 Z (kNx (K.1.take (K.1.length - m) ++ [v], K.2) ((K.2.1.getD (K.2.1.length - 1) (0, 0, 0, (0, 0, []), 0, 0, 0)).2.1 + 1)) ∧ cFr 226 S Z) := by
  obtain ⟨h1, ⟨h2, h2b⟩, ⟨h3, h4, h5⟩, -⟩ := id h
  have hf : cFr 226 S (w_up S 226 16 0) := cFr_up (Or.inr rfl) (cFr_rfl h2b) (by decide) (by omega)
  refine cg_o_226 (P := fun Z => cTk 226 Z (kNx (K.1.take (K.1.length - m) ++ [v], K.2) ((K.2.1.getD (K.2.1.length - 1) (0, 0, 0, (0, 0, []), 0, 0, 0)).2.1 + 1)) ∧ cFr 226 S Z) h ho ha hb ho1 hl hml hmn hcal (fun Z hz => ⟨(sO_16 (Or.inr rfl) hz).trans (w_up_same _ _ _ _), cTk_sO (cTk_16 h1 (Or.inr rfl)) (Or.inr rfl) hz rfl rfl h3 hn hm (by omega) (cVl_mo hv (cTx_of (w_up_slot (by decide)) (fun _ => w_up_slot (by decide)))), cFr_sO (Or.inr rfl) hf (by omega) hz⟩)
/-- an ERROR -/
theorem cx_o_226 {a b oq e : Int} (h : stC 226 S K) (ho : S 31 (S 27 (K.2.1.getD (K.2.1.length - 1) (0, 0, 0, (0, 0, []), 0, 0, 0)).1 + (K.2.1.getD (K.2.1.length - 1) (0, 0, 0, (0, 0, []), 0, 0, 0)).2.1) = oq) (ha : S 32 (S 27 (K.2.1.getD (K.2.1.length - 1) (0, 0, 0, (0, 0, []), 0, 0, 0)).1 + (K.2.1.getD (K.2.1.length - 1) (0, 0, 0, (0, 0, []), 0, 0, 0)).2.1) = a) (hb : S 33 (S 27 (K.2.1.getD (K.2.1.length - 1) (0, 0, 0, (0, 0, []), 0, 0, 0)).1 + (K.2.1.getD (K.2.1.length - 1) (0, 0, 0, (0, 0, []), 0, 0, 0)).2.1) = b) (ho1 : (7 ≤ oq ∧ oq ≤ 19)) (hl : 2000 ≤ K.1.length → ¬ (oq = 0 ∨ oq = 1 ∨ oq = 3 ∨ oq = 6 ∨ oq = 24 ∨ oq = 26 ∨ oq = 33 ∨ (oq = 25 ∧ a = 0))) (hml : ∀ x ∈ [228, 229], x ∈ ml) (hmn : ¬ mS ml 226) (he : 1 ≤ e ∧ e ≤ 12) (hcal : wJ (pe_GA xs) wY0 (mS ml) (d + 11) t_XK_operate ((pe_at t_XK_operate.bl 0).getD (0, [])).2 [(0, (2, 226)), (1, (0, oq))] [] (w_up S 226 16 0) (fun o Z => o = .inl none ∧ w_up (w_up S 226 16 0) 226 16 e = Z)) : wJ (pe_GA xs) wY0 (mS ml) (d + 12) t_XK_step ((pe_at t_XK_step.bl 0).getD (0, [])).2 [(0, (2, 226))] [] S (fun o Z => o = .inl (some (0, 1)) ∧ cTk 226 Z (kTh K (2, e, [])) ∧ cFr 226 S Z) := by
  obtain ⟨h1, ⟨h2, h2b⟩, ⟨h3, h4, h5⟩, -⟩ := id h
  have hf : cFr 226 S (w_up (w_up S 226 16 0) 226 16 e) := cFr_up (Or.inr rfl) (cFr_up (Or.inr rfl) (cFr_rfl h2b) (by decide) (by omega)) (by decide) (by omega)
  have hk : cTk 226 (w_up (w_up S 226 16 0) 226 16 e) K := cTk_16 (cTk_16 h1 (Or.inr rfl)) (Or.inr rfl)
  have hx := xR_of hk (cFr_cl (Or.inr rfl) hf h2) hf.2.2.1 h5
  refine wJ_mono (ce_o_226 h ho ha hb ho1 hl hml hmn (show e ≠ 0 ∧ e ≠ 99 by omega) hcal (fun Z hz => by subst hz; exact ⟨w_up_same _ _ _ _, hx⟩)) (fun o Z2 hz => ?_)
  obtain ⟨rfl, Z, rfl, hr⟩ := hz
  exact ⟨rfl, cTk_rs hk (Or.inr rfl) hr ⟨rfl, fun _ => ⟨rfl, rfl⟩, fun q => absurd (show (2 : Int) = 3 from q) (by decide)⟩ h5 (by omega), cFr_rs (Or.inr rfl) hf hr (fun q => (hx.2.2.2 q).1.1) (fun q => (hx.2.2.2 q).2.1)⟩
/-- an instruction that goes well -/
theorem cg_b_226 {a b oq : Int} (h : stC 226 S K) (ho : S 31 (S 27 (K.2.1.getD (K.2.1.length - 1) (0, 0, 0, (0, 0, []), 0, 0, 0)).1 + (K.2.1.getD (K.2.1.length - 1) (0, 0, 0, (0, 0, []), 0, 0, 0)).2.1) = oq) (ha : S 32 (S 27 (K.2.1.getD (K.2.1.length - 1) (0, 0, 0, (0, 0, []), 0, 0, 0)).1 + (K.2.1.getD (K.2.1.length - 1) (0, 0, 0, (0, 0, []), 0, 0, 0)).2.1) = a) (hb : S 33 (S 27 (K.2.1.getD (K.2.1.length - 1) (0, 0, 0, (0, 0, []), 0, 0, 0)).1 + (K.2.1.getD (K.2.1.length - 1) (0, 0, 0, (0, 0, []), 0, 0, 0)).2.1) = b) (ho1 : (oq = 28)) (hl : 2000 ≤ K.1.length → ¬ (oq = 0 ∨ oq = 1 ∨ oq = 3 ∨ oq = 6 ∨ oq = 24 ∨ oq = 26 ∨ oq = 33 ∨ (oq = 25 ∧ a = 0))) (hml : ∀ x ∈ [228, 229], x ∈ ml) (hmn : ¬ mS ml 226) (hcal : wJ (pe_GA xs) wY0 (mS ml) (d + 11) t_XK_callBuiltin ((pe_at t_XK_callBuiltin.bl 0).getD (0, [])).2 [(0, (2, 226)), (1, (0, a))] [] (w_up S 226 16 0) (fun o Z => o = .inl none ∧ R Z)) (hR : ∀ Z : wS, R Z → Z 226 16 = 0 ∧ P Z) : wJ (pe_GA xs) wY0 (mS ml) (d + 12) t_XK_step ((pe_at t_XK_step.bl 0).getD (0, [])).2 [(0, (2, 226))] [] S (fun o Z => o = .inl (some (0, 1)) ∧ P Z) := by
  refine wJ_mono (sb_226 (R := R) (xB_of h) ho ha hb ho1 (fun q => hl (by omega)) hml hmn hcal (fun Z hz q => absurd (hR Z hz).1 q)) (fun o Z2 hz => ?_)
  obtain ⟨Z, h1, h2⟩ := hz
  obtain ⟨g1, g2⟩ := hR Z h1
  rcases h2 with ⟨-, rfl, rfl⟩ | ⟨q, -, -⟩ | ⟨q, -, -, -⟩
  · exact ⟨rfl, g2⟩
  · omega
  · exact absurd g1 q
/-- an instruction that ends with an ERROR -/
theorem ce_b_226 {a b oq e : Int} (h : stC 226 S K) (ho : S 31 (S 27 (K.2.1.getD (K.2.1.length - 1) (0, 0, 0, (0, 0, []), 0, 0, 0)).1 + (K.2.1.getD (K.2.1.length - 1) (0, 0, 0, (0, 0, []), 0, 0, 0)).2.1) = oq) (ha : S 32 (S 27 (K.2.1.getD (K.2.1.length - 1) (0, 0, 0, (0, 0, []), 0, 0, 0)).1 + (K.2.1.getD (K.2.1.length - 1) (0, 0, 0, (0, 0, []), 0, 0, 0)).2.1) = a) (hb : S 33 (S 27 (K.2.1.getD (K.2.1.length - 1) (0, 0, 0, (0, 0, []), 0, 0, 0)).1 + (K.2.1.getD (K.2.1.length - 1) (0, 0, 0, (0, 0, []), 0, 0, 0)).2.1) = b) (ho1 : (oq = 28)) (hl : 2000 ≤ K.1.length → ¬ (oq = 0 ∨ oq = 1 ∨ oq = 3 ∨ oq = 6 ∨ oq = 24 ∨ oq = 26 ∨ oq = 33 ∨ (oq = 25 ∧ a = 0))) (hml : ∀ x ∈ [228, 229], x ∈ ml) (hmn : ¬ mS ml 226) (he : e ≠ 0 ∧ e ≠ 99) (hcal : wJ (pe_GA xs) wY0 (mS ml) (d + 11) t_XK_callBuiltin ((pe_at t_XK_callBuiltin.bl 0).getD (0, [])).2 [(0, (2, 226)), (1, (0, a))] [] (w_up S 226 16 0) (fun o Z => o = .inl none ∧ R Z)) (hR : ∀ Z : wS, R Z → Z 226 16 = e ∧ xR 226 Z) : wJ (pe_GA xs) wY0 (mS ml) (d + 12) t_XK_step ((pe_at t_XK_step.bl 0).getD (0, [])).2 [(0, (2, 226))] [] S (fun o Z2 => o = .inl (some (0, 1)) ∧ ∃ Z : wS, R Z ∧ rsQ 226 2 e Z Z2) := by
  refine wJ_mono (sb_226 (R := R) (xB_of h) ho ha hb ho1 (fun q => hl (by omega)) hml hmn hcal (fun Z hz _ _ => (hR Z hz).2)) (fun o Z2 hz => ?_)
  obtain ⟨Z, h1, h2⟩ := hz
  obtain ⟨g1, g2⟩ := hR Z h1
  rcases h2 with ⟨q, -, -⟩ | ⟨q, -, -⟩ | ⟨-, -, rfl, q⟩
  · omega
  · omega
  · rw [g1] at q
    exact ⟨rfl, Z, h1, q⟩
/-- an instruction for which there is no memory -/
theorem cm_b_226 {a b oq : Int} (h : stC 226 S K) (ho : S 31 (S 27 (K.2.1.getD (K.2.1.length - 1) (0, 0, 0, (0, 0, []), 0, 0, 0)).1 + (K.2.1.getD (K.2.1.length - 1) (0, 0, 0, (0, 0, []), 0, 0, 0)).2.1) = oq) (ha : S 32 (S 27 (K.2.1.getD (K.2.1.length - 1) (0, 0, 0, (0, 0, []), 0, 0, 0)).1 + (K.2.1.getD (K.2.1.length - 1) (0, 0, 0, (0, 0, []), 0, 0, 0)).2.1) = a) (hb : S 33 (S 27 (K.2.1.getD (K.2.1.length - 1) (0, 0, 0, (0, 0, []), 0, 0, 0)).1 + (K.2.1.getD (K.2.1.length - 1) (0, 0, 0, (0, 0, []), 0, 0, 0)).2.1) = b) (ho1 : (oq = 28)) (hl : 2000 ≤ K.1.length → ¬ (oq = 0 ∨ oq = 1 ∨ oq = 3 ∨ oq = 6 ∨ oq = 24 ∨ oq = 26 ∨ oq = 33 ∨ (oq = 25 ∧ a = 0))) (hml : ∀ x ∈ [228, 229], x ∈ ml) (hmn : ¬ mS ml 226) (hcal : wJ (pe_GA xs) wY0 (mS ml) (d + 11) t_XK_callBuiltin ((pe_at t_XK_callBuiltin.bl 0).getD (0, [])).2 [(0, (2, 226)), (1, (0, a))] [] (w_up S 226 16 0) (fun o Z => o = .inl none ∧ R Z)) (hR : ∀ Z : wS, R Z → Z 226 16 = 99) : wJ (pe_GA xs) wY0 (mS ml) (d + 12) t_XK_step ((pe_at t_XK_step.bl 0).getD (0, [])).2 [(0, (2, 226))] [] S (fun o Z2 => o = .inl (some (0, 0)) ∧ ∃ Z : wS, R Z ∧ w_up Z 226 13 4 = Z2) := by
  refine wJ_mono (sb_226 (R := R) (xB_of h) ho ha hb ho1 (fun q => hl (by omega)) hml hmn hcal (fun Z hz _ q => absurd (hR Z hz) q)) (fun o Z2 hz => ?_)
  obtain ⟨Z, h1, h2⟩ := hz
  have g1 := hR Z h1
  rcases h2 with ⟨q, -, -⟩ | ⟨-, rfl, rfl⟩ | ⟨-, q, -, -⟩
  · omega
  · exact ⟨rfl, Z, h1, rfl⟩
  · exact absurd g1 q
/-- the pile is full -/
theorem cx_f_226 {a b oq : Int} (h : stC 226 S K) (ho : S 31 (S 27 (K.2.1.getD (K.2.1.length - 1) (0, 0, 0, (0, 0, []), 0, 0, 0)).1 + (K.2.1.getD (K.2.1.length - 1) (0, 0, 0, (0, 0, []), 0, 0, 0)).2.1) = oq) (ha : S 32 (S 27 (K.2.1.getD (K.2.1.length - 1) (0, 0, 0, (0, 0, []), 0, 0, 0)).1 + (K.2.1.getD (K.2.1.length - 1) (0, 0, 0, (0, 0, []), 0, 0, 0)).2.1) = a) (hb : S 33 (S 27 (K.2.1.getD (K.2.1.length - 1) (0, 0, 0, (0, 0, []), 0, 0, 0)).1 + (K.2.1.getD (K.2.1.length - 1) (0, 0, 0, (0, 0, []), 0, 0, 0)).2.1) = b) (ho1 : (oq = 0 ∨ oq = 1 ∨ oq = 3 ∨ oq = 6 ∨ oq = 24 ∨ oq = 26 ∨ oq = 33 ∨ (oq = 25 ∧ a = 0))) (hl : 2000 ≤ K.1.length) : wJ (pe_GA xs) wY0 (mS [228, 229]) (d + 12) t_XK_step ((pe_at t_XK_step.bl 0).getD (0, [])).2 [(0, (2, 226))] [] S (fun o Z => o = .inl (some (0, 1)) ∧ cTk 226 Z (kTh K (2, 11, [])) ∧ cFr 226 S Z) := by
  obtain ⟨h1, ⟨h2, h2b⟩, ⟨h3, h4, h5⟩, -⟩ := id h
  have hf : cFr 226 S (w_up (w_up S 226 16 0) 226 16 11) := cFr_up (Or.inr rfl) (cFr_up (Or.inr rfl) (cFr_rfl h2b) (by decide) (by omega)) (by decide) (by omega)
  have hk : cTk 226 (w_up (w_up S 226 16 0) 226 16 11) K := cTk_16 (cTk_16 h1 (Or.inr rfl)) (Or.inr rfl)
  have hx := xR_of hk (cFr_cl (Or.inr rfl) hf h2) hf.2.2.1 h5
  refine wJ_mono (xpe_226 (xB_of h) ho ha hb ho1 (by omega) hx) (fun o Z2 hz => ?_)
  obtain ⟨rfl, hr⟩ := hz
  exact ⟨rfl, cTk_rs hk (Or.inr rfl) hr ⟨rfl, fun _ => ⟨rfl, rfl⟩, fun q => absurd (show (2 : Int) = 3 from q) (by decide)⟩ h5 (by omega), cFr_rs (Or.inr rfl) hf hr (fun q => (hx.2.2.2 q).1.1) (fun q => (hx.2.2.2 q).2.1)⟩
end Weg
