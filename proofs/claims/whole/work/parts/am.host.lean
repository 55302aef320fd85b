/-! PART am: host() of both: the same answer, the same tables. -/
section Wam
variable {xs : List (Nat × List Int32)} {M : Nat → Prop} {d c : Nat} {A B C S Z : wS} {Q : wO → wS → Prop} {T : Int → Int} {n : Int}
theorem wy_lt : ∀ q ∈ wy_n, 236 < q.1 ∧ q.1 < 388 := by decide +kernel
theorem cW_ag (h : cW S) (hI : gI Z) (e : ∀ j : Nat, j < 237 → Z j = S j) : cW Z := by
  obtain ⟨k1, k2, k3, k4, k5, k6, k7, k8, k9, k10, k11⟩ := h
  refine ⟨fun y hy => (congrFun (e y.1 (wz_lt y hy).1) (-1)).trans (k1 y hy), hI, w2_ag k3 (fun x hx => e _ (by omega)), hi_ag k4 (fun x hx => e _ (by omega)) (congrFun (e 117 (by decide)) _) (congrFun (e 118 (by decide)) _), hi_ag k5 (fun x hx => e _ (by omega)) (congrFun (e 206 (by decide)) _) (congrFun (e 207 (by decide)) _), ?_, ?_, ?_, ?_, ?_, ?_⟩
  · unfold hs_R; rw [e 15 (by decide), e 16 (by decide), e 17 (by decide)]; exact k6
  · rw [e 161 (by decide)]; exact k7
  · rw [e 0 (by decide), e 1 (by decide)]; exact k8
  · rw [e 0 (by decide), e 1 (by decide)]; exact k9
  · rw [e 48 (by decide)]; exact k10
  · rw [e 144 (by decide), e 145 (by decide), e 146 (by decide), e 147 (by decide), e 148 (by decide)]; exact k11
theorem cH_ag {p q : Nat} (h : cH p q S) (hp : p < 237) (e : ∀ j : Nat, j < 237 → Z j = S j) : cH p q Z := by
  unfold cH at h ⊢
  rw [e 72 (by decide), e 0 (by decide), e 150 (by decide), e p hp]; exact h
theorem KQ_ag {t0 m0 ob p b lo hi : Nat} (h : KQ t0 m0 ob p b S) (e : ∀ j : Nat, lo ≤ j → j ≤ hi → Z j = S j) (eb : ∀ j : Nat, b ≤ j → j ≤ b + 19 → Z j = S j) (hp : (lo ≤ p ∧ p ≤ hi) ∧ (lo ≤ t0 ∧ t0 + 4 ≤ hi) ∧ (lo ≤ m0 ∧ m0 + 14 ≤ hi) ∧ (lo ≤ ob ∧ ob ≤ hi)) : KQ t0 m0 ob p b Z := by
  obtain ⟨h1, h2, h3, h4⟩ := h
  refine ⟨?_, fun k k0 k1 => ?_, ?_, fun k k0 k1 => ?_⟩
  · rw [e p (by omega) (by omega), eb b (by omega) (by omega)]; exact h1
  · rw [eb b (by omega) (by omega)] at k1
    rw [e t0 (by omega) (by omega), e (t0 + 1) (by omega) (by omega), e (t0 + 2) (by omega) (by omega), e (t0 + 3) (by omega) (by omega), e (t0 + 4) (by omega) (by omega), e ob (by omega) (by omega), eb (b + 2) (by omega) (by omega), eb (b + 3) (by omega) (by omega), eb (b + 4) (by omega) (by omega), eb (b + 8) (by omega) (by omega), eb (b + 7) (by omega) (by omega), eb (b + 6) (by omega) (by omega)]
    exact h2 k k0 k1
  · rw [e p (by omega) (by omega), eb b (by omega) (by omega)]; exact h3
  · rw [eb b (by omega) (by omega)] at k1
    obtain ⟨g1, g2, g3⟩ := h4 k k0 k1
    rw [e m0 (by omega) (by omega), e (m0 + 1) (by omega) (by omega), e (m0 + 2) (by omega) (by omega), e (m0 + 3) (by omega) (by omega), e (m0 + 4) (by omega) (by omega), e (m0 + 5) (by omega) (by omega), eb (b + 11) (by omega) (by omega), eb (b + 12) (by omega) (by omega), eb (b + 13) (by omega) (by omega), eb (b + 14) (by omega) (by omega), eb (b + 15) (by omega) (by omega), eb (b + 16) (by omega) (by omega)]
    refine ⟨g1, g2, fun q hq => ?_⟩
    rw [e (m0 + 6 + q) (by omega) (by omega), eb (b + 17) (by omega) (by omega)]
    exact g3 q hq
theorem KC_ag {t0 m0 o6 oo ob w p : Nat} {cs : List hCR} {ms : List hMR} {os : Int → List Int} (h : KC t0 m0 o6 oo ob w p T cs ms os S) (h2 : Z p 2 = S p 2) (h4 : Z p 4 = S p 4) (e : ∀ j : Nat, ((t0 ≤ j ∧ j ≤ t0 + 4) ∨ (m0 ≤ j ∧ j ≤ m0 + 14) ∨ j = o6 ∨ j = oo ∨ j = ob ∨ (w ≤ j ∧ j ≤ w + 3)) → Z j = S j) : KC t0 m0 o6 oo ob w p T cs ms os Z := by
  obtain ⟨g1, g2, g3, g4, g5, g6, g7⟩ := h
  refine ⟨h2.trans g1, g2, h4.trans g3, fun k r hr => ?_, ⟨g5.1, fun k r hr => mr_at_ag (g5.2 k r hr) (fun x hx => by rw [e (m0 + x) (by omega)]) (fun x hx => e (w + x) (by omega))⟩, fun q q0 q1 => ?_, g7⟩
  · unfold tr_at
    rw [e t0 (by omega), e (t0 + 1) (by omega), e (t0 + 2) (by omega), e (t0 + 3) (by omega), e (t0 + 4) (by omega)]
    exact g4 k r hr
  · unfold od_1
    rw [e o6 (by omega), e oo (by omega), e ob (by omega)]
    exact g6 q q0 q1
theorem hc_all_ag {b : Nat} {cs : List hCR} (h : hc_all b S cs) (e : ∀ j : Nat, b ≤ j → j ≤ b + 19 → Z j = S j) : hc_all b Z cs := by
  intro k r hr
  have g := h k r hr
  unfold hc_at su_rows at g ⊢
  rw [e (b + 2) (by omega) (by omega), e (b + 9) (by omega) (by omega), e (b + 10) (by omega) (by omega), e (b + 4) (by omega) (by omega), e (b + 3) (by omega) (by omega), e (b + 6) (by omega) (by omega), e (b + 5) (by omega) (by omega), e (b + 7) (by omega) (by omega), e (b + 8) (by omega) (by omega)]
  exact g
theorem hr_all_ag {b : Nat} {ms : List hMR} (h : hr_all b S ms) (e : ∀ j : Nat, b ≤ j → j ≤ b + 19 → Z j = S j) : hr_all b Z ms := by
  intro k r hr
  have g := h k r hr
  unfold hr_at hm_rec hm_ps at g ⊢
  rw [e (b + 11) (by omega) (by omega), e (b + 12) (by omega) (by omega), e (b + 13) (by omega) (by omega), e (b + 14) (by omega) (by omega), e (b + 18) (by omega) (by omega), e (b + 19) (by omega) (by omega), e (b + 15) (by omega) (by omega), e (b + 16) (by omega) (by omega), e (b + 17) (by omega) (by omega)]
  exact g
/-- the same tape, the same host: p of the class, b of the reference; q and b2 are the others -/
def RA (t0 m0 ob p q b b2 : Nat) (S : wS) : Prop := cW S ∧ cH p q S ∧ w_ML S ∧ (S 237 13 = b ∧ S 237 14 = b2) ∧ (S 0 1 = S 237 3) ∧ (∀ i : Int, 0 ≤ i → i < S 0 1 → S 1 i = S 239 i) ∧ KQ t0 m0 ob p b S
/-- host() read into 73 and 241 -/
theorem bh_73 {o1 o2 : wO} {S2 : wS} (hR : RA 176 186 204 162 73 261 241 S) (h1 : (∃ (c : Nat) (cs : List hCR) (ms : List hMR) (os : Int → List Int) (Zr : wS), o1 = .inl (some (0, 0)) ∧ ho_f_241 (hb_0 S) 61 [] [] (tp (S 239) (S 237 3) 1 0) = .inr (cs, ms) ∧ JT_73 (hb_0 S) (S 239) (S 237 3) c cs ms os Zr ∧ hs_P 73 74 117 118 125 S Zr ∧ rmR S Zr ∧ JO cs os ∧ cl_ch 162 73 Zr Z) ∨ (∃ (e x : Int) (Zr : wS), o1 = .inl (some (0, e + 16 * x)) ∧ ho_f_241 (hb_0 S) 61 [] [] (tp (S 239) (S 237 3) 1 0) = .inl (e, x) ∧ (0 < e + 16 * x ∧ e + 16 * x ≤ 2000000) ∧ hs_P 73 74 117 118 125 S Zr ∧ xr_G S Zr ∧ Z = w_up Zr 0 1 0)) (h2 : (∃ (e q : Int) (Y : wS), ho_f_241 (hb_0 Z) 61 [] [] (lx_go (Z 239) (Z 237 3) 0) = .inl (e, q) ∧ o2 = .inl (some (0, e + 16 * q)) ∧ hh_ag 241 Z Y ∧ Y 237 0 = 0 ∧ Y 237 13 = 261 ∧ Y 237 14 = 241 ∧ S2 = w_up Y 237 3 0) ∨ (∃ (cs : List hCR) (ms : List hMR) (Y X : wS), ho_f_241 (hb_0 Z) 61 [] [] (lx_go (Z 239) (Z 237 3) 0) = .inr (cs, ms) ∧ o2 = .inl (some (0, 0)) ∧ hh_ag 241 Z Y ∧ Y 237 0 = 0 ∧ Y 237 13 = 241 ∧ Y 237 14 = 261 ∧ hc_all 241 Y cs ∧ (∀ r ∈ cs, hq_ok (Z 237 3) r) ∧ cs.length ≤ 60 ∧ Y 241 1 = (cs.length : Int) ∧ Y 241 11 = (ms.length : Int) ∧ hr_all 241 Y ms ∧ ms.length ≤ 400 ∧ (∀ i : Int, 0 ≤ i → i < Z 237 3 → Y 242 i = Z 239 i) ∧ an_fr Y X (ms.length : Int) ∧ an_va X ∧ (∀ i : Int, 0 ≤ i → i < (ms.length : Int) → X 340 i = an_ft (Y 255 i) ∧ X 341 i = 0) ∧ S2 = w_up X 237 3 0)) : (∃ v : Int, o1 = .inl (some (0, v)) ∧ o2 = .inl (some (0, v))) ∧ (o1 = .inl (some (0, 0)) → RA 87 97 115 73 162 241 261 S2) ∧ (o1 ≠ .inl (some (0, 0)) → RA 176 186 204 162 73 261 241 S2) := by
  obtain ⟨r1, r2, r3, ⟨r4, r5⟩, r6, r7, r8⟩ := hR
  -- the reference's own is as it was behind the class's run
  have hP0 : ∃ Zr : wS, hs_P 73 74 117 118 125 S Zr ∧ (cl_ch 162 73 Zr Z ∨ Z = w_up Zr 0 1 0) := by
    rcases h1 with ⟨c, cs, ms, os, Zr, -, -, -, g1, -, -, g2⟩ | ⟨e, x, Zr, -, -, -, g1, -, g2⟩
    · exact ⟨Zr, g1, Or.inl g2⟩
    · exact ⟨Zr, g1, Or.inr g2⟩
  obtain ⟨Zr, hP, hcl⟩ := hP0
  have zr : ∀ j : Nat, 214 < j → j < 4000000 → j ≠ wG → Zr j = S j := fun j j0 j1 j2 => funext fun i => hP.1 j i j1 j2 (by omega) (by omega) (by omega) (by omega)
  have zz : ∀ j : Nat, 236 < j → Z j = Zr j := by
    intro j j0
    funext i
    rcases hcl with hcl | rfl
    · exact (cl_all_73 hcl).2.2 j i (cl_fr_lo (fun _ => by omega) (by decide))
    · exact w_up_slot (by omega)
  have zs : ∀ j : Nat, 236 < j → j < 4000000 → j ≠ wG → Z j = S j := fun j j0 j1 j2 => (zz j j0).trans (zr j (by omega) j1 j2)
  have hG : ∀ j : Nat, j < 400 → j ≠ wG := fun j hj => by unfold wG; omega
  have z239 : Z 239 = S 239 := zs 239 (by decide) (by decide) (by decide)
  have z237 : Z 237 = S 237 := zs 237 (by decide) (by decide) (by decide)
  have hb0 : zG (hb_0 Z) (hb_0 S) 241 := by
    refine ⟨?_, ?_, ?_, fun j j0 j1 => ?_⟩
    · show w_up (w_up Z 237 4 (Z 237 3)) 237 5 1 239 = w_up (w_up S 237 4 (S 237 3)) 237 5 1 239
      rw [w_up_row (by decide), w_up_row (by decide), w_up_row (by decide), w_up_row (by decide)]; exact z239
    · show w_up (w_up Z 237 4 (Z 237 3)) 237 5 1 237 4 = w_up (w_up S 237 4 (S 237 3)) 237 5 1 237 4
      rw [w_up_at (by decide), w_up_same, w_up_at (by decide), w_up_same, z237]
    · rfl
    · show w_up (w_up Z 237 4 (Z 237 3)) 237 5 1 j = w_up (w_up S 237 4 (S 237 3)) 237 5 1 j
      rw [w_up_row (by omega), w_up_row (by omega), w_up_row (by omega), w_up_row (by omega)]; exact zs j (by omega) (by omega) (hG j (by omega))
  have hho : ho_f_241 (hb_0 Z) 61 [] [] (lx_go (Z 239) (Z 237 3) 0) = ho_f_241 (hb_0 S) 61 [] [] (tp (S 239) (S 237 3) 1 0) := by
    rw [ho_f_F_241 hb0, z239, z237]; rfl
  rw [hho] at h2
  have hMZ : w_ML Z := fun y hy => by
    have hlt := wy_lt y hy
    exact (congrFun (zs y.1 (by omega) (by omega) (hG y.1 (by omega))) (-1)).trans (r3 y hy)
  rcases h1 with ⟨c, cs, ms, os, Zq, e1, f1, j1, p1, m1, o1', c1⟩ | ⟨e, x, Zq, e1, f1, x1, p1, m1, c1⟩
  · rcases h2 with ⟨e, x, Y, f2, -⟩ | ⟨cs2, ms2, Y, X, f2, e2, y1, y2, y3, y4, y5, y6, y7, y8, y9, y10, y11, y12, x1, x2, x3, rfl⟩
    · rw [f1] at f2; cases f2
    · rw [f1] at f2
      cases f2
      refine ⟨⟨0, e1, e2⟩, fun _ => ?_, fun q => absurd e1 q⟩
      obtain ⟨cw, ch, -⟩ := cl_W_73 r1 r2 p1 m1 c1
      obtain ⟨-, cv, cf⟩ := cl_all_73 c1
      have xj : ∀ j : Nat, j < 237 → w_up X 237 3 0 j = Z j := fun j j0 => funext fun i => (w_up_slot (by omega)).trans ((x1 j i (by omega) (by omega) (by omega) (by omega) (by omega) (by omega)).trans (y1 j i (by omega) (by omega) (by omega) (by omega)))
      have xb : ∀ j : Nat, 241 ≤ j → j ≤ 280 → w_up X 237 3 0 j = Y j := fun j j0 j1 => funext fun i => (w_up_slot (by omega)).trans (x1 j i (by omega) (by omega) (by omega) (by omega) (by omega) (by omega))
      have xn : ∀ j : Nat, 388 ≤ j → w_up X 237 3 0 j = Z j := fun j j0 => funext fun i => (w_up_slot (by omega)).trans ((x1 j i (by omega) (by omega) (by omega) (by omega) (by omega) (by omega)).trans (y1 j i (by omega) (by omega) (by omega) (by omega)))
      have xl : ∀ j : Nat, w_up X 237 3 0 j (-1) = Z j (-1) := fun j => (w_up_at (by decide)).trans ((x1 j (-1) (by omega) (by omega) (by omega) (by omega) (by omega) (by omega)).trans (y1 j (-1) (by omega) (by omega) (by omega) (by omega)))
      have gz : gI (w_up X 237 3 0) := gI_ag2 cw.2.1 (fun j j0 => xl j) (fun y hy => (w_up_slot (by decide)).trans ((x1 238 (y : Int) (by omega) (by omega) (by omega) (by omega) (by omega) (by omega)).trans (y1 238 (y : Int) (by omega) (by omega) (by omega) (by omega)))) (congrFun (xj 14 (by decide)) 5)
      have hz2 : Z 0 1 = 0 := cv.1.1
      refine ⟨cW_ag cw gz xj, cH_ag ch (by decide) xj, fun y hy => (xl y.1).trans (hMZ y hy), ⟨?_, ?_⟩, ?_, fun i i0 i1 => ?_, ?_⟩
      · exact (w_up_at (by decide)).trans ((x1 237 13 (by omega) (by omega) (by omega) (by omega) (by omega) (by omega)).trans y3)
      · exact (w_up_at (by decide)).trans ((x1 237 14 (by omega) (by omega) (by omega) (by omega) (by omega) (by omega)).trans y4)
      · rw [xj 0 (by decide), hz2, w_up_same]
      · rw [xj 0 (by decide), hz2] at i1; omega
      · have kc : KC 87 97 93 114 115 74 73 (S 239) cs ms os Zq := ⟨j1.1.2.2.2.2.2.2.1.1.trans (if_pos ⟨rfl, rfl⟩), y7, j1.2.2.2.2.1, j1.2.2.2.2.2.1, j1.2.2.2.1, j1.2.2.1, o1'⟩
        have kz : ∀ j : Nat, 73 < j → j ≤ 125 → w_up X 237 3 0 j = Zq j := fun j j0 j1 => (xj j (by omega)).trans (funext fun i => cf j i (cl_fr_lo (fun _ => by omega) (by decide)))
        exact KQ_mk (KC_ag kc ((congrFun (xj 73 (by decide)) 2).trans (cf 73 2 (cl_fr_lo (fun _ => by omega) (by decide)))) ((congrFun (xj 73 (by decide)) 4).trans (cf 73 4 (cl_fr_lo (fun _ => by omega) (by decide)))) (fun j hj => kz j (by omega) (by omega))) (hc_all_ag y5 (fun j j0 j1 => xb j (by omega) (by omega))) ((congrFun (xb 241 (by decide) (by decide)) 1).trans y8) ((congrFun (xb 241 (by decide) (by decide)) 11).trans y9) (hr_all_ag y10 (fun j j0 j1 => xb j (by omega) (by omega)))
  · rcases h2 with ⟨e', x', Y, f2, e2, y1, y2, y3, y4, rfl⟩ | ⟨cs2, ms2, Y, X, f2, -⟩
    · rw [f1] at f2
      cases f2
      refine ⟨⟨e + 16 * x, e1, e2⟩, fun q0 => ?_, fun _ => ?_⟩
      · rw [e1] at q0
        have q1 : e + 16 * x = 0 := congrArg (fun (u : wv) => u.2) (Option.some.inj (Sum.inl.inj q0))
        omega
      obtain ⟨cw, ch⟩ := no_W_73 r1 r2 p1
      rw [← c1] at cw ch
      have xj : ∀ j : Nat, j < 237 → w_up Y 237 3 0 j = Z j := fun j j0 => funext fun i => (w_up_slot (by omega)).trans (y1 j i (by omega) (by omega) (by omega) (by omega))
      have xl : ∀ j : Nat, w_up Y 237 3 0 j (-1) = Z j (-1) := fun j => (w_up_at (by decide)).trans (y1 j (-1) (by omega) (by omega) (by omega) (by omega))
      have gz : gI (w_up Y 237 3 0) := gI_ag2 cw.2.1 (fun j j0 => xl j) (fun y hy => (w_up_slot (by decide)).trans (y1 238 (y : Int) (by omega) (by omega) (by omega) (by omega))) (congrFun (xj 14 (by decide)) 5)
      have hz2 : Z 0 1 = 0 := by rw [c1]; exact w_up_same _ _ _ _
      refine ⟨cW_ag cw gz xj, cH_ag ch (by decide) xj, fun y hy => (xl y.1).trans (hMZ y hy), ⟨?_, ?_⟩, ?_, fun i i0 i1 => ?_, ?_⟩
      · exact (w_up_at (by decide)).trans y3
      · exact (w_up_at (by decide)).trans y4
      · rw [xj 0 (by decide), hz2, w_up_same]
      · rw [xj 0 (by decide), hz2] at i1; omega
      · refine KQ_ag (lo := 162) (hi := 214) r8 (fun j j0 j1 => (xj j (by omega)).trans ?_) (fun j j0 j1 => ?_) (by omega)
        · rw [c1, w_up_row (by omega)]
          exact funext fun i => p1.1 j i (by omega) (hG j (by omega)) (by omega) (by omega) (by omega) (by omega)
        · refine (funext fun i => ?_ : w_up Y 237 3 0 j = Z j).trans (zs j (by omega) (by omega) (hG j (by omega)))
          exact (w_up_slot (by omega)).trans (y1 j i (by omega) (by omega) (by omega) (by omega))
    · rw [f1] at f2; cases f2
/-- host() read into 162 and 261 -/
theorem bh_162 {o1 o2 : wO} {S2 : wS} (hR : RA 87 97 115 73 162 241 261 S) (h1 : (∃ (c : Nat) (cs : List hCR) (ms : List hMR) (os : Int → List Int) (Zr : wS), o1 = .inl (some (0, 0)) ∧ ho_f_261 (hb_0 S) 61 [] [] (tp (S 239) (S 237 3) 1 0) = .inr (cs, ms) ∧ JT_162 (hb_0 S) (S 239) (S 237 3) c cs ms os Zr ∧ hs_P 162 163 206 207 214 S Zr ∧ rmR S Zr ∧ JO cs os ∧ cl_ch 73 162 Zr Z) ∨ (∃ (e x : Int) (Zr : wS), o1 = .inl (some (0, e + 16 * x)) ∧ ho_f_261 (hb_0 S) 61 [] [] (tp (S 239) (S 237 3) 1 0) = .inl (e, x) ∧ (0 < e + 16 * x ∧ e + 16 * x ≤ 2000000) ∧ hs_P 162 163 206 207 214 S Zr ∧ xr_G S Zr ∧ Z = w_up Zr 0 1 0)) (h2 : (∃ (e q : Int) (Y : wS), ho_f_261 (hb_0 Z) 61 [] [] (lx_go (Z 239) (Z 237 3) 0) = .inl (e, q) ∧ o2 = .inl (some (0, e + 16 * q)) ∧ hh_ag 261 Z Y ∧ Y 237 0 = 0 ∧ Y 237 13 = 241 ∧ Y 237 14 = 261 ∧ S2 = w_up Y 237 3 0) ∨ (∃ (cs : List hCR) (ms : List hMR) (Y X : wS), ho_f_261 (hb_0 Z) 61 [] [] (lx_go (Z 239) (Z 237 3) 0) = .inr (cs, ms) ∧ o2 = .inl (some (0, 0)) ∧ hh_ag 261 Z Y ∧ Y 237 0 = 0 ∧ Y 237 13 = 261 ∧ Y 237 14 = 241 ∧ hc_all 261 Y cs ∧ (∀ r ∈ cs, hq_ok (Z 237 3) r) ∧ cs.length ≤ 60 ∧ Y 261 1 = (cs.length : Int) ∧ Y 261 11 = (ms.length : Int) ∧ hr_all 261 Y ms ∧ ms.length ≤ 400 ∧ (∀ i : Int, 0 ≤ i → i < Z 237 3 → Y 262 i = Z 239 i) ∧ an_fr Y X (ms.length : Int) ∧ an_va X ∧ (∀ i : Int, 0 ≤ i → i < (ms.length : Int) → X 340 i = an_ft (Y 275 i) ∧ X 341 i = 0) ∧ S2 = w_up X 237 3 0)) : (∃ v : Int, o1 = .inl (some (0, v)) ∧ o2 = .inl (some (0, v))) ∧ (o1 = .inl (some (0, 0)) → RA 176 186 204 162 73 261 241 S2) ∧ (o1 ≠ .inl (some (0, 0)) → RA 87 97 115 73 162 241 261 S2) := by
  obtain ⟨r1, r2, r3, ⟨r4, r5⟩, r6, r7, r8⟩ := hR
  -- the reference's own is as it was behind the class's run
  have hP0 : ∃ Zr : wS, hs_P 162 163 206 207 214 S Zr ∧ (cl_ch 73 162 Zr Z ∨ Z = w_up Zr 0 1 0) := by
    rcases h1 with ⟨c, cs, ms, os, Zr, -, -, -, g1, -, -, g2⟩ | ⟨e, x, Zr, -, -, -, g1, -, g2⟩
    · exact ⟨Zr, g1, Or.inl g2⟩
    · exact ⟨Zr, g1, Or.inr g2⟩
  obtain ⟨Zr, hP, hcl⟩ := hP0
  have zr : ∀ j : Nat, 214 < j → j < 4000000 → j ≠ wG → Zr j = S j := fun j j0 j1 j2 => funext fun i => hP.1 j i j1 j2 (by omega) (by omega) (by omega) (by omega)
  have zz : ∀ j : Nat, 236 < j → Z j = Zr j := by
    intro j j0
    funext i
    rcases hcl with hcl | rfl
    · exact (cl_all_162 hcl).2.2 j i (cl_fr_lo (fun _ => by omega) (by decide))
    · exact w_up_slot (by omega)
  have zs : ∀ j : Nat, 236 < j → j < 4000000 → j ≠ wG → Z j = S j := fun j j0 j1 j2 => (zz j j0).trans (zr j (by omega) j1 j2)
  have hG : ∀ j : Nat, j < 400 → j ≠ wG := fun j hj => by unfold wG; omega
  have z239 : Z 239 = S 239 := zs 239 (by decide) (by decide) (by decide)
  have z237 : Z 237 = S 237 := zs 237 (by decide) (by decide) (by decide)
  have hb0 : zG (hb_0 Z) (hb_0 S) 261 := by
    refine ⟨?_, ?_, ?_, fun j j0 j1 => ?_⟩
    · show w_up (w_up Z 237 4 (Z 237 3)) 237 5 1 239 = w_up (w_up S 237 4 (S 237 3)) 237 5 1 239
      rw [w_up_row (by decide), w_up_row (by decide), w_up_row (by decide), w_up_row (by decide)]; exact z239
    · show w_up (w_up Z 237 4 (Z 237 3)) 237 5 1 237 4 = w_up (w_up S 237 4 (S 237 3)) 237 5 1 237 4
      rw [w_up_at (by decide), w_up_same, w_up_at (by decide), w_up_same, z237]
    · rfl
    · show w_up (w_up Z 237 4 (Z 237 3)) 237 5 1 j = w_up (w_up S 237 4 (S 237 3)) 237 5 1 j
      rw [w_up_row (by omega), w_up_row (by omega), w_up_row (by omega), w_up_row (by omega)]; exact zs j (by omega) (by omega) (hG j (by omega))
  have hho : ho_f_261 (hb_0 Z) 61 [] [] (lx_go (Z 239) (Z 237 3) 0) = ho_f_261 (hb_0 S) 61 [] [] (tp (S 239) (S 237 3) 1 0) := by
    rw [ho_f_F_261 hb0, z239, z237]; rfl
  rw [hho] at h2
  have hMZ : w_ML Z := fun y hy => by
    have hlt := wy_lt y hy
    exact (congrFun (zs y.1 (by omega) (by omega) (hG y.1 (by omega))) (-1)).trans (r3 y hy)
  rcases h1 with ⟨c, cs, ms, os, Zq, e1, f1, j1, p1, m1, o1', c1⟩ | ⟨e, x, Zq, e1, f1, x1, p1, m1, c1⟩
  · rcases h2 with ⟨e, x, Y, f2, -⟩ | ⟨cs2, ms2, Y, X, f2, e2, y1, y2, y3, y4, y5, y6, y7, y8, y9, y10, y11, y12, x1, x2, x3, rfl⟩
    · rw [f1] at f2; cases f2
    · rw [f1] at f2
      cases f2
      refine ⟨⟨0, e1, e2⟩, fun _ => ?_, fun q => absurd e1 q⟩
      obtain ⟨cw, ch, -⟩ := cl_W_162 r1 r2 p1 m1 c1
      obtain ⟨-, cv, cf⟩ := cl_all_162 c1
      have xj : ∀ j : Nat, j < 237 → w_up X 237 3 0 j = Z j := fun j j0 => funext fun i => (w_up_slot (by omega)).trans ((x1 j i (by omega) (by omega) (by omega) (by omega) (by omega) (by omega)).trans (y1 j i (by omega) (by omega) (by omega) (by omega)))
      have xb : ∀ j : Nat, 241 ≤ j → j ≤ 280 → w_up X 237 3 0 j = Y j := fun j j0 j1 => funext fun i => (w_up_slot (by omega)).trans (x1 j i (by omega) (by omega) (by omega) (by omega) (by omega) (by omega))
      have xn : ∀ j : Nat, 388 ≤ j → w_up X 237 3 0 j = Z j := fun j j0 => funext fun i => (w_up_slot (by omega)).trans ((x1 j i (by omega) (by omega) (by omega) (by omega) (by omega) (by omega)).trans (y1 j i (by omega) (by omega) (by omega) (by omega)))
      have xl : ∀ j : Nat, w_up X 237 3 0 j (-1) = Z j (-1) := fun j => (w_up_at (by decide)).trans ((x1 j (-1) (by omega) (by omega) (by omega) (by omega) (by omega) (by omega)).trans (y1 j (-1) (by omega) (by omega) (by omega) (by omega)))
      have gz : gI (w_up X 237 3 0) := gI_ag2 cw.2.1 (fun j j0 => xl j) (fun y hy => (w_up_slot (by decide)).trans ((x1 238 (y : Int) (by omega) (by omega) (by omega) (by omega) (by omega) (by omega)).trans (y1 238 (y : Int) (by omega) (by omega) (by omega) (by omega)))) (congrFun (xj 14 (by decide)) 5)
      have hz2 : Z 0 1 = 0 := cv.1.1
      refine ⟨cW_ag cw gz xj, cH_ag ch (by decide) xj, fun y hy => (xl y.1).trans (hMZ y hy), ⟨?_, ?_⟩, ?_, fun i i0 i1 => ?_, ?_⟩
      · exact (w_up_at (by decide)).trans ((x1 237 13 (by omega) (by omega) (by omega) (by omega) (by omega) (by omega)).trans y3)
      · exact (w_up_at (by decide)).trans ((x1 237 14 (by omega) (by omega) (by omega) (by omega) (by omega) (by omega)).trans y4)
      · rw [xj 0 (by decide), hz2, w_up_same]
      · rw [xj 0 (by decide), hz2] at i1; omega
      · have kc : KC 176 186 182 203 204 163 162 (S 239) cs ms os Zq := ⟨j1.1.2.2.2.2.2.2.1.1.trans (if_pos ⟨rfl, rfl⟩), y7, j1.2.2.2.2.1, j1.2.2.2.2.2.1, j1.2.2.2.1, j1.2.2.1, o1'⟩
        have kz : ∀ j : Nat, 162 < j → j ≤ 214 → w_up X 237 3 0 j = Zq j := fun j j0 j1 => (xj j (by omega)).trans (funext fun i => cf j i (cl_fr_lo (fun _ => by omega) (by decide)))
        exact KQ_mk (KC_ag kc ((congrFun (xj 162 (by decide)) 2).trans (cf 162 2 (cl_fr_lo (fun _ => by omega) (by decide)))) ((congrFun (xj 162 (by decide)) 4).trans (cf 162 4 (cl_fr_lo (fun _ => by omega) (by decide)))) (fun j hj => kz j (by omega) (by omega))) (hc_all_ag y5 (fun j j0 j1 => xb j (by omega) (by omega))) ((congrFun (xb 261 (by decide) (by decide)) 1).trans y8) ((congrFun (xb 261 (by decide) (by decide)) 11).trans y9) (hr_all_ag y10 (fun j j0 j1 => xb j (by omega) (by omega)))
  · rcases h2 with ⟨e', x', Y, f2, e2, y1, y2, y3, y4, rfl⟩ | ⟨cs2, ms2, Y, X, f2, -⟩
    · rw [f1] at f2
      cases f2
      refine ⟨⟨e + 16 * x, e1, e2⟩, fun q0 => ?_, fun _ => ?_⟩
      · rw [e1] at q0
        have q1 : e + 16 * x = 0 := congrArg (fun (u : wv) => u.2) (Option.some.inj (Sum.inl.inj q0))
        omega
      obtain ⟨cw, ch⟩ := no_W_162 r1 r2 p1
      rw [← c1] at cw ch
      have xj : ∀ j : Nat, j < 237 → w_up Y 237 3 0 j = Z j := fun j j0 => funext fun i => (w_up_slot (by omega)).trans (y1 j i (by omega) (by omega) (by omega) (by omega))
      have xl : ∀ j : Nat, w_up Y 237 3 0 j (-1) = Z j (-1) := fun j => (w_up_at (by decide)).trans (y1 j (-1) (by omega) (by omega) (by omega) (by omega))
      have gz : gI (w_up Y 237 3 0) := gI_ag2 cw.2.1 (fun j j0 => xl j) (fun y hy => (w_up_slot (by decide)).trans (y1 238 (y : Int) (by omega) (by omega) (by omega) (by omega))) (congrFun (xj 14 (by decide)) 5)
      have hz2 : Z 0 1 = 0 := by rw [c1]; exact w_up_same _ _ _ _
      refine ⟨cW_ag cw gz xj, cH_ag ch (by decide) xj, fun y hy => (xl y.1).trans (hMZ y hy), ⟨?_, ?_⟩, ?_, fun i i0 i1 => ?_, ?_⟩
      · exact (w_up_at (by decide)).trans y3
      · exact (w_up_at (by decide)).trans y4
      · rw [xj 0 (by decide), hz2, w_up_same]
      · rw [xj 0 (by decide), hz2] at i1; omega
      · refine KQ_ag (lo := 73) (hi := 125) r8 (fun j j0 j1 => (xj j (by omega)).trans ?_) (fun j j0 j1 => ?_) (by omega)
        · rw [c1, w_up_row (by omega)]
          exact funext fun i => p1.1 j i (by omega) (hG j (by omega)) (by omega) (by omega) (by omega) (by omega)
        · refine (funext fun i => ?_ : w_up Y 237 3 0 j = Z j).trans (zs j (by omega) (by omega) (hG j (by omega)))
          exact (w_up_slot (by omega)).trans (y1 j i (by omega) (by omega) (by omega) (by omega))
    · rw [f1] at f2; cases f2
end Wam
