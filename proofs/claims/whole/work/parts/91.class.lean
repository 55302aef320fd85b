/-! PART 91: the reference's readsClass. -/
section W91
variable {xs : List (Nat × List Int32)} {M : Nat → Prop} {d : Nat} {S A B Z : wS} {Q : wO → wS → Prop} {p : Int} {b : Nat}
theorem wb_lshl_rg (x y : Int) : -9223372036854775808 ≤ wb_lshl x y ∧ wb_lshl x y ≤ 9223372036854775807 := by
  unfold wb_lshl
  have h1 := Int64.le_toInt (Int64.ofInt x <<< ((Int32.ofInt y).toInt64 &&& 63))
  have h2 := Int64.toInt_lt (Int64.ofInt x <<< ((Int32.ofInt y).toInt64 &&& 63))
  omega
/-- the rows of the class c -/
def hc_at (b : Nat) (c : Int) (Z : wS) (r : hCR) : Prop := Z (b + 2) c = r.1 ∧ Z (b + 9) c = r.2.1 ∧ Z (b + 10) c = r.2.2.1 ∧ su_rows b c Z r.2.2.2.2.1 r.2.2.2.1 r.2.2.2.2.2.1 ∧ Z (b + 7) c = r.2.2.2.2.2.2.1 ∧ Z (b + 8) c = r.2.2.2.2.2.2.2
theorem cl_12_241 {c itf p1 q a al : Int} {l : List Int} {ms : List hMR} {R : (Int × Int) ⊕ (Int × hCR × List hMR)} {B1 Z : wS} (hX : w_X xs) (hA15 : A 237 15 = 241) (hAc : A 241 1 = c) (hcc : 0 ≤ c ∧ c ≤ 60) (hAn : ho_nm A 241) (hA11 : A 241 11 = (ms.length : Int)) (hms : hr_all 241 A ms) (hm4 : ms.length ≤ 400) (hc6 : c < 60) (hR1 : rc_ag 241 c (ms.length : Int) A B1) (hB15 : B1 237 15 = 241) (hBn : ho_nm B1 241) (hn1 : 0 ≤ B1 250 c ∧ B1 250 c ≤ B1 251 c ∧ B1 251 c ≤ 65536) (hBc : B1 241 1 = c) (k2 : B1 243 c = itf) (k9 : B1 250 c = p1) (k10 : B1 251 c = zq A p1 237 8) (k7 : B1 248 c = (ms.length : Int)) (k8 : B1 249 c = 0) (k11 : B1 241 11 = (ms.length : Int)) (kT : B1 239 = A 239 ∧ B1 237 4 = A 237 4 ∧ B1 237 5 = A 237 5) (kms : hr_all 241 B1 ms) (hag : su_ag 241 c B1 Z) (hE : lx_E Z A q) (hr : su_rows 241 c Z l a al) (he : (if lx_is (zq A q) 123 = true then (match mb_f (w_up B1 241 1 (c + 1)) 241 c itf ms.length ((A 237 4 - lx_ne (zq A q) q).toNat + 1) (lx_ne (zq A q) q) ms with
    | .inl e => (.inl e : (Int × Int) ⊕ (Int × hCR × List hMR))
    | .inr (z, ms2) => .inr (lx_ne (zq A z) z, (itf, p1, zq A p1 237 8, a, l, al, (ms.length : Int), (ms2.length : Int) - (ms.length : Int)), ms2)) else .inl (1, q)) = R) : wJ (pe_GA xs) wY0 M (d + 8) t_M_readsClass ((pe_at t_M_readsClass.bl 12).getD (0, [])).2 [(0, (2, 237)), (2, (0, c))] [] Z (fun o S2 => (∃ (p2 : Int) (cr : hCR) (ms2 : List hMR), R = .inr (p2, cr, ms2) ∧ o = .inl none ∧ rc_ag 241 c (ms.length : Int) A S2 ∧ lx_E S2 A p2 ∧ S2 241 1 = c + 1 ∧ hc_at 241 c S2 cr ∧ S2 241 11 = (ms2.length : Int) ∧ hr_all 241 S2 ms2 ∧ ms.length ≤ ms2.length ∧ ms2.length ≤ 400) ∨ (∃ e q : Int, R = .inl (e, q) ∧ o = .inr 238 ∧ rc_ag 241 c (ms.length : Int) A S2 ∧ S2 238 5 = e ∧ S2 238 6 = q)) := by
  have hb15 : Z 237 15 = 241 := (hag 237 15 (by omega) (by omega) (by omega) (by omega) (by omega)).trans hB15
  have z1 : Z 241 1 = c := (hag 241 1 (by omega) (by omega) (by omega) (by omega) (by omega)).trans hBc
  have hEu : lx_E (w_up Z 241 1 (c + 1)) A q := lx_E_up hE (by decide) (by omega)
  have hRZ : rc_ag 241 c (ms.length : Int) A (w_up Z 241 1 (c + 1)) := rc_ag_up (rc_ag_su hR1 hag) (by omega)
  have h7 : Z 237 7 = q := hE.1.2.2.2.1
  refine wa_aload_n (n := 0) rfl ?_
  refine wb_gf5 237 rfl (wy_pr rfl) wt_237 wf_15_15 (v := 241) (hb15) (fun r1 => ?_)
  refine wa_dup (by decide) ?_
  refine wb_gfi 241 rfl (wy_pr rfl) wt_241 wf_12_1 (v := c) (z1) (fun r2 => ?_)
  refine wa_iconst ?_
  refine wa_iadd ?_
  refine wb_pfi 241 rfl (wy_pr rfl) wt_241 wf_12_1 (n := 1) rfl ⟨(by omega), (by omega)⟩ ?_
  refine wa_aload_n (n := 0) rfl ?_
  refine wa_bipush (w_rg2 (by omega) (by omega)) ?_
  refine wa_cv 237 rfl (wy_pr rfl) wt_237 (M2 := fun _ => False) rfl at_M_takes ⟨_, rfl⟩ rfl rfl ⟨(Or.inr ⟨wy_pr rfl, fun q => q⟩), trivial, trivial⟩ trivial (fun _ _ q => False.elim q) (takes_ok (S := w_up Z 241 1 (c + 1)) hEu.1 ⟨by omega, by omega⟩) (fun oq3 Sq3 hp4 q3 => ?_)
  rcases q3 with ⟨rfl, gk, a1, a2⟩ | ⟨rfl, gk, rfl⟩
  · skip
    rw [lx_E_is hEu] at gk
    show wJ _ _ _ _ _ _ _ _ _ _
    rw [if_pos gk] at he
    rw [lx_E_ne hEu] at a2
    have hE2 : lx_E Sq3 A (lx_ne (zq A q) q) := lx_E_ag hEu a1 a2
    have hRY : rc_ag 241 c (ms.length : Int) A Sq3 := rc_ag_lx hRZ a1
    have y1 : Sq3 241 1 = c + 1 := (a1 241 1 (by omega) (by omega)).trans (w_up_same _ _ _ _)
    have y11 : Sq3 241 11 = (ms.length : Int) := (a1 241 11 (by omega) (by omega)).trans ((w_up_at (by decide)).trans ((hag 241 11 (by omega) (by omega) (by omega) (by omega) (by omega)).trans k11))
    have y15 : Sq3 237 15 = 241 := (a1 237 15 (by omega) (by omega)).trans ((w_up_slot (by decide)).trans ((hag 237 15 (by omega) (by omega) (by omega) (by omega) (by omega)).trans hB15))
    have y_2 : Sq3 243 c = _ := (a1 243 c (by omega) (by omega)).trans ((w_up_slot (by decide)).trans ((hag 243 c (by omega) (by omega) (by omega) (by omega) (by omega)).trans k2))
    have y_7 : Sq3 248 c = _ := (a1 248 c (by omega) (by omega)).trans ((w_up_slot (by decide)).trans ((hag 248 c (by omega) (by omega) (by omega) (by omega) (by omega)).trans k7))
    have y_8 : Sq3 249 c = _ := (a1 249 c (by omega) (by omega)).trans ((w_up_slot (by decide)).trans ((hag 249 c (by omega) (by omega) (by omega) (by omega) (by omega)).trans k8))
    have y_9 : Sq3 250 c = _ := (a1 250 c (by omega) (by omega)).trans ((w_up_slot (by decide)).trans ((hag 250 c (by omega) (by omega) (by omega) (by omega) (by omega)).trans k9))
    have y_10 : Sq3 251 c = _ := (a1 251 c (by omega) (by omega)).trans ((w_up_slot (by decide)).trans ((hag 251 c (by omega) (by omega) (by omega) (by omega) (by omega)).trans k10))
    have yr9 : Sq3 250 = B1 250 := (lx_ag_row a1 (by decide)).trans ((w_up_row (by decide)).trans (su_ag_row hag (by decide)))
    have yr10 : Sq3 251 = B1 251 := (lx_ag_row a1 (by decide)).trans ((w_up_row (by decide)).trans (su_ag_row hag (by decide)))
    have yn : ho_nm Sq3 241 := by
      refine ⟨by rw [y1]; omega, fun k h0 h1 => ?_⟩
      rw [y1] at h1
      rw [show Sq3 (241 + 9) = B1 250 from yr9, show Sq3 (241 + 10) = B1 251 from yr10]
      by_cases hk : k = c
      · rw [hk]; exact hn1
      · exact hBn.2 k h0 (by rw [hBc]; omega)
    have yms : hr_all 241 Sq3 ms := by
      intro k r hk
      obtain ⟨q1, q2, q3, q4⟩ := kms k r hk
      have e : ∀ n : Nat, 252 ≤ n → n ≤ 260 → ∀ i : Int, Sq3 n i = B1 n i := fun n n1 n2 i => (a1 n i (by omega) (by omega)).trans ((w_up_slot (by omega)).trans (hag n i (by omega) (by omega) (by omega) (by omega) (by omega)))
      exact ⟨⟨(e _ (by decide) (by decide) _).trans q1.1, (e _ (by decide) (by decide) _).trans q1.2.1, (e _ (by decide) (by decide) _).trans q1.2.2.1, (e _ (by decide) (by decide) _).trans q1.2.2.2.1, (e _ (by decide) (by decide) _).trans q1.2.2.2.2.1, (e _ (by decide) (by decide) _).trans q1.2.2.2.2.2⟩, ⟨(e _ (by decide) (by decide) _).trans q2.1, (e _ (by decide) (by decide) _).trans q2.2.1, fun i hi => (e _ (by decide) (by decide) _).trans (q2.2.2 i hi)⟩, q3, q4⟩
    have yz : zE Sq3 (w_up B1 241 1 (c + 1)) 241 := ⟨hE2.2.1.trans ((w_up_row (by decide)).trans kT.1).symm, hE2.2.2.1.trans ((w_up_slot (by decide)).trans kT.2.1).symm, hE2.2.2.2.trans ((w_up_slot (by decide)).trans kT.2.2).symm, y1.trans (w_up_same _ _ _ _).symm, yr9.trans (w_up_row (by decide)).symm, yr10.trans (w_up_row (by decide)).symm⟩
    rw [← zE_mb yz (by decide)] at he
    refine wa_fall ⟨_, rfl⟩ ?_
    refine wJ_S (mb_13_241 (B := Sq3) (itf := itf) (m0 := ms.length) hX y15 yn ⟨hcc.1, hc6⟩ y_2 y_7 (fun Z2 z ms2 hr2 g1 g2 g3 g4 g5 g6 g7 g8 => ?_) (fun Z2 e z hr2 g1 g2 g3 => ?_) ((A 237 4 - lx_ne (zq A q) q).toNat + 1) _ ms _ (by rw [hE2.2.2.1]; omega) rfl mb_ag_rf ⟨hE2.1, rfl, rfl, rfl⟩ y11 yms (Nat.le_refl _) hm4 (by rw [y_8]; omega)) ⟨rfl, rfl, trivial⟩
    · skip
      rw [hr2] at he
      dsimp only at he
      have hE3 : lx_E Z2 A z := ⟨g2.1, g2.2.1.trans hE2.2.1, g2.2.2.1.trans hE2.2.2.1, g2.2.2.2.trans hE2.2.2.2⟩
      have zy : zE Sq3 A 241 → True := fun _ => trivial
      have g125 : lx_is Z2 125 = true := by rw [lx_E_is g2]; exact g3
      have hRF : rc_ag 241 c (ms.length : Int) A Z2 := rc_ag_mb (by decide) hRY g1
      refine wa_aload_n (n := 0) rfl ?_
      refine wa_cv 237 rfl (wy_pr rfl) wt_237 (M2 := fun _ => False) rfl at_M_next ⟨_, rfl⟩ rfl rfl ⟨(Or.inr ⟨wy_pr rfl, fun q => q⟩), trivial⟩ trivial (fun _ _ q => False.elim q) (nx_I hE3.1 (by rw [(lx_is4 g125).1]; decide)) (fun o3 S3 hp3 q3 => ?_)
      rcases q3 with ⟨rfl, x1, x2⟩
      show wJ _ _ _ _ _ _ _ _ _ _
      refine wa_return rfl ?_
      rw [lx_E_ne hE3] at x2
      refine Or.inl ⟨_, _, _, he.symm, rfl, rc_ag_lx hRF x1, lx_E_ag hE3 x1 x2, (x1 241 1 (by omega) (by omega)).trans ((g1 241 1 (by omega) (by omega) (by omega) (by omega) (by omega) (by omega)).trans y1), ⟨(x1 243 c (by omega) (by omega)).trans ((g1 243 c (by omega) (by omega) (by omega) (by omega) (by omega) (by omega)).trans y_2), (x1 250 c (by omega) (by omega)).trans ((g1 250 c (by omega) (by omega) (by omega) (by omega) (by omega) (by omega)).trans y_9), (x1 251 c (by omega) (by omega)).trans ((g1 251 c (by omega) (by omega) (by omega) (by omega) (by omega) (by omega)).trans y_10), ?_, (x1 248 c (by omega) (by omega)).trans ((g1 248 c (by omega) (by omega) (by omega) (by omega) (by omega) (by omega)).trans y_7), (x1 249 c (by omega) (by omega)).trans g8⟩, (x1 241 11 (by omega) (by omega)).trans g4, ?_, g6, g7⟩
      · have hrY := su_rows_ag (b := 241) (by decide) (show su_rows 241 c (w_up Z 241 1 (c + 1)) l a al from ⟨(w_up_slot (by decide)).trans hr.1, (w_up_slot (by decide)).trans hr.2.1, (w_up_slot (by decide)).trans hr.2.2.1, fun i hi => (w_up_slot (by decide)).trans (hr.2.2.2 i hi)⟩) a1
        exact ⟨(x1 245 c (by omega) (by omega)).trans ((g1 245 c (by omega) (by omega) (by omega) (by omega) (by omega) (by omega)).trans hrY.1), (x1 244 c (by omega) (by omega)).trans ((g1 244 c (by omega) (by omega) (by omega) (by omega) (by omega) (by omega)).trans hrY.2.1), (x1 247 c (by omega) (by omega)).trans ((g1 247 c (by omega) (by omega) (by omega) (by omega) (by omega) (by omega)).trans hrY.2.2.1), fun i hi => (x1 246 _ (by omega) (by omega)).trans ((g1 246 _ (by omega) (by omega) (by omega) (by omega) (by omega) (by omega)).trans (hrY.2.2.2 i hi))⟩
      · intro k r hk
        obtain ⟨q1, q2, q3, q4⟩ := g5 k r hk
        have e : ∀ n : Nat, 252 ≤ n → n ≤ 260 → ∀ i : Int, S3 n i = Z2 n i := fun n n1 n2 i => x1 n i (by omega) (by omega)
        exact ⟨⟨(e _ (by decide) (by decide) _).trans q1.1, (e _ (by decide) (by decide) _).trans q1.2.1, (e _ (by decide) (by decide) _).trans q1.2.2.1, (e _ (by decide) (by decide) _).trans q1.2.2.2.1, (e _ (by decide) (by decide) _).trans q1.2.2.2.2.1, (e _ (by decide) (by decide) _).trans q1.2.2.2.2.2⟩, ⟨(e _ (by decide) (by decide) _).trans q2.1, (e _ (by decide) (by decide) _).trans q2.2.1, fun i hi => (e _ (by decide) (by decide) _).trans (q2.2.2 i hi)⟩, q3, q4⟩
    · skip
      rw [hr2] at he
      dsimp only at he
      exact Or.inr ⟨_, _, he.symm, rfl, rc_ag_mb (by decide) hRY g1, g2, g3⟩
  · skip
    rw [lx_E_is hEu] at gk
    refine ⟨rfl, ?_⟩
    rw [if_neg (by rw [gk]; decide)] at he
    exact Or.inr ⟨_, _, he.symm, rfl, rc_ag_hl hRZ, rfl, rfl⟩
theorem cl_12_261 {c itf p1 q a al : Int} {l : List Int} {ms : List hMR} {R : (Int × Int) ⊕ (Int × hCR × List hMR)} {B1 Z : wS} (hX : w_X xs) (hA15 : A 237 15 = 261) (hAc : A 261 1 = c) (hcc : 0 ≤ c ∧ c ≤ 60) (hAn : ho_nm A 261) (hA11 : A 261 11 = (ms.length : Int)) (hms : hr_all 261 A ms) (hm4 : ms.length ≤ 400) (hc6 : c < 60) (hR1 : rc_ag 261 c (ms.length : Int) A B1) (hB15 : B1 237 15 = 261) (hBn : ho_nm B1 261) (hn1 : 0 ≤ B1 270 c ∧ B1 270 c ≤ B1 271 c ∧ B1 271 c ≤ 65536) (hBc : B1 261 1 = c) (k2 : B1 263 c = itf) (k9 : B1 270 c = p1) (k10 : B1 271 c = zq A p1 237 8) (k7 : B1 268 c = (ms.length : Int)) (k8 : B1 269 c = 0) (k11 : B1 261 11 = (ms.length : Int)) (kT : B1 239 = A 239 ∧ B1 237 4 = A 237 4 ∧ B1 237 5 = A 237 5) (kms : hr_all 261 B1 ms) (hag : su_ag 261 c B1 Z) (hE : lx_E Z A q) (hr : su_rows 261 c Z l a al) (he : (if lx_is (zq A q) 123 = true then (match mb_f (w_up B1 261 1 (c + 1)) 261 c itf ms.length ((A 237 4 - lx_ne (zq A q) q).toNat + 1) (lx_ne (zq A q) q) ms with
    | .inl e => (.inl e : (Int × Int) ⊕ (Int × hCR × List hMR))
    | .inr (z, ms2) => .inr (lx_ne (zq A z) z, (itf, p1, zq A p1 237 8, a, l, al, (ms.length : Int), (ms2.length : Int) - (ms.length : Int)), ms2)) else .inl (1, q)) = R) : wJ (pe_GA xs) wY0 M (d + 8) t_M_readsClass ((pe_at t_M_readsClass.bl 12).getD (0, [])).2 [(0, (2, 237)), (2, (0, c))] [] Z (fun o S2 => (∃ (p2 : Int) (cr : hCR) (ms2 : List hMR), R = .inr (p2, cr, ms2) ∧ o = .inl none ∧ rc_ag 261 c (ms.length : Int) A S2 ∧ lx_E S2 A p2 ∧ S2 261 1 = c + 1 ∧ hc_at 261 c S2 cr ∧ S2 261 11 = (ms2.length : Int) ∧ hr_all 261 S2 ms2 ∧ ms.length ≤ ms2.length ∧ ms2.length ≤ 400) ∨ (∃ e q : Int, R = .inl (e, q) ∧ o = .inr 238 ∧ rc_ag 261 c (ms.length : Int) A S2 ∧ S2 238 5 = e ∧ S2 238 6 = q)) := by
  have hb15 : Z 237 15 = 261 := (hag 237 15 (by omega) (by omega) (by omega) (by omega) (by omega)).trans hB15
  have z1 : Z 261 1 = c := (hag 261 1 (by omega) (by omega) (by omega) (by omega) (by omega)).trans hBc
  have hEu : lx_E (w_up Z 261 1 (c + 1)) A q := lx_E_up hE (by decide) (by omega)
  have hRZ : rc_ag 261 c (ms.length : Int) A (w_up Z 261 1 (c + 1)) := rc_ag_up (rc_ag_su hR1 hag) (by omega)
  have h7 : Z 237 7 = q := hE.1.2.2.2.1
  refine wa_aload_n (n := 0) rfl ?_
  refine wb_gf5 237 rfl (wy_pr rfl) wt_237 wf_15_15 (v := 261) (hb15) (fun r1 => ?_)
  refine wa_dup (by decide) ?_
  refine wb_gfi 261 rfl (wy_pr rfl) wt_261 wf_12_1 (v := c) (z1) (fun r2 => ?_)
  refine wa_iconst ?_
  refine wa_iadd ?_
  refine wb_pfi 261 rfl (wy_pr rfl) wt_261 wf_12_1 (n := 1) rfl ⟨(by omega), (by omega)⟩ ?_
  refine wa_aload_n (n := 0) rfl ?_
  refine wa_bipush (w_rg2 (by omega) (by omega)) ?_
  refine wa_cv 237 rfl (wy_pr rfl) wt_237 (M2 := fun _ => False) rfl at_M_takes ⟨_, rfl⟩ rfl rfl ⟨(Or.inr ⟨wy_pr rfl, fun q => q⟩), trivial, trivial⟩ trivial (fun _ _ q => False.elim q) (takes_ok (S := w_up Z 261 1 (c + 1)) hEu.1 ⟨by omega, by omega⟩) (fun oq3 Sq3 hp4 q3 => ?_)
  rcases q3 with ⟨rfl, gk, a1, a2⟩ | ⟨rfl, gk, rfl⟩
  · skip
    rw [lx_E_is hEu] at gk
    show wJ _ _ _ _ _ _ _ _ _ _
    rw [if_pos gk] at he
    rw [lx_E_ne hEu] at a2
    have hE2 : lx_E Sq3 A (lx_ne (zq A q) q) := lx_E_ag hEu a1 a2
    have hRY : rc_ag 261 c (ms.length : Int) A Sq3 := rc_ag_lx hRZ a1
    have y1 : Sq3 261 1 = c + 1 := (a1 261 1 (by omega) (by omega)).trans (w_up_same _ _ _ _)
    have y11 : Sq3 261 11 = (ms.length : Int) := (a1 261 11 (by omega) (by omega)).trans ((w_up_at (by decide)).trans ((hag 261 11 (by omega) (by omega) (by omega) (by omega) (by omega)).trans k11))
    have y15 : Sq3 237 15 = 261 := (a1 237 15 (by omega) (by omega)).trans ((w_up_slot (by decide)).trans ((hag 237 15 (by omega) (by omega) (by omega) (by omega) (by omega)).trans hB15))
    have y_2 : Sq3 263 c = _ := (a1 263 c (by omega) (by omega)).trans ((w_up_slot (by decide)).trans ((hag 263 c (by omega) (by omega) (by omega) (by omega) (by omega)).trans k2))
    have y_7 : Sq3 268 c = _ := (a1 268 c (by omega) (by omega)).trans ((w_up_slot (by decide)).trans ((hag 268 c (by omega) (by omega) (by omega) (by omega) (by omega)).trans k7))
    have y_8 : Sq3 269 c = _ := (a1 269 c (by omega) (by omega)).trans ((w_up_slot (by decide)).trans ((hag 269 c (by omega) (by omega) (by omega) (by omega) (by omega)).trans k8))
    have y_9 : Sq3 270 c = _ := (a1 270 c (by omega) (by omega)).trans ((w_up_slot (by decide)).trans ((hag 270 c (by omega) (by omega) (by omega) (by omega) (by omega)).trans k9))
    have y_10 : Sq3 271 c = _ := (a1 271 c (by omega) (by omega)).trans ((w_up_slot (by decide)).trans ((hag 271 c (by omega) (by omega) (by omega) (by omega) (by omega)).trans k10))
    have yr9 : Sq3 270 = B1 270 := (lx_ag_row a1 (by decide)).trans ((w_up_row (by decide)).trans (su_ag_row hag (by decide)))
    have yr10 : Sq3 271 = B1 271 := (lx_ag_row a1 (by decide)).trans ((w_up_row (by decide)).trans (su_ag_row hag (by decide)))
    have yn : ho_nm Sq3 261 := by
      refine ⟨by rw [y1]; omega, fun k h0 h1 => ?_⟩
      rw [y1] at h1
      rw [show Sq3 (261 + 9) = B1 270 from yr9, show Sq3 (261 + 10) = B1 271 from yr10]
      by_cases hk : k = c
      · rw [hk]; exact hn1
      · exact hBn.2 k h0 (by rw [hBc]; omega)
    have yms : hr_all 261 Sq3 ms := by
      intro k r hk
      obtain ⟨q1, q2, q3, q4⟩ := kms k r hk
      have e : ∀ n : Nat, 272 ≤ n → n ≤ 280 → ∀ i : Int, Sq3 n i = B1 n i := fun n n1 n2 i => (a1 n i (by omega) (by omega)).trans ((w_up_slot (by omega)).trans (hag n i (by omega) (by omega) (by omega) (by omega) (by omega)))
      exact ⟨⟨(e _ (by decide) (by decide) _).trans q1.1, (e _ (by decide) (by decide) _).trans q1.2.1, (e _ (by decide) (by decide) _).trans q1.2.2.1, (e _ (by decide) (by decide) _).trans q1.2.2.2.1, (e _ (by decide) (by decide) _).trans q1.2.2.2.2.1, (e _ (by decide) (by decide) _).trans q1.2.2.2.2.2⟩, ⟨(e _ (by decide) (by decide) _).trans q2.1, (e _ (by decide) (by decide) _).trans q2.2.1, fun i hi => (e _ (by decide) (by decide) _).trans (q2.2.2 i hi)⟩, q3, q4⟩
    have yz : zE Sq3 (w_up B1 261 1 (c + 1)) 261 := ⟨hE2.2.1.trans ((w_up_row (by decide)).trans kT.1).symm, hE2.2.2.1.trans ((w_up_slot (by decide)).trans kT.2.1).symm, hE2.2.2.2.trans ((w_up_slot (by decide)).trans kT.2.2).symm, y1.trans (w_up_same _ _ _ _).symm, yr9.trans (w_up_row (by decide)).symm, yr10.trans (w_up_row (by decide)).symm⟩
    rw [← zE_mb yz (by decide)] at he
    refine wa_fall ⟨_, rfl⟩ ?_
    refine wJ_S (mb_13_261 (B := Sq3) (itf := itf) (m0 := ms.length) hX y15 yn ⟨hcc.1, hc6⟩ y_2 y_7 (fun Z2 z ms2 hr2 g1 g2 g3 g4 g5 g6 g7 g8 => ?_) (fun Z2 e z hr2 g1 g2 g3 => ?_) ((A 237 4 - lx_ne (zq A q) q).toNat + 1) _ ms _ (by rw [hE2.2.2.1]; omega) rfl mb_ag_rf ⟨hE2.1, rfl, rfl, rfl⟩ y11 yms (Nat.le_refl _) hm4 (by rw [y_8]; omega)) ⟨rfl, rfl, trivial⟩
    · skip
      rw [hr2] at he
      dsimp only at he
      have hE3 : lx_E Z2 A z := ⟨g2.1, g2.2.1.trans hE2.2.1, g2.2.2.1.trans hE2.2.2.1, g2.2.2.2.trans hE2.2.2.2⟩
      have zy : zE Sq3 A 261 → True := fun _ => trivial
      have g125 : lx_is Z2 125 = true := by rw [lx_E_is g2]; exact g3
      have hRF : rc_ag 261 c (ms.length : Int) A Z2 := rc_ag_mb (by decide) hRY g1
      refine wa_aload_n (n := 0) rfl ?_
      refine wa_cv 237 rfl (wy_pr rfl) wt_237 (M2 := fun _ => False) rfl at_M_next ⟨_, rfl⟩ rfl rfl ⟨(Or.inr ⟨wy_pr rfl, fun q => q⟩), trivial⟩ trivial (fun _ _ q => False.elim q) (nx_I hE3.1 (by rw [(lx_is4 g125).1]; decide)) (fun o3 S3 hp3 q3 => ?_)
      rcases q3 with ⟨rfl, x1, x2⟩
      show wJ _ _ _ _ _ _ _ _ _ _
      refine wa_return rfl ?_
      rw [lx_E_ne hE3] at x2
      refine Or.inl ⟨_, _, _, he.symm, rfl, rc_ag_lx hRF x1, lx_E_ag hE3 x1 x2, (x1 261 1 (by omega) (by omega)).trans ((g1 261 1 (by omega) (by omega) (by omega) (by omega) (by omega) (by omega)).trans y1), ⟨(x1 263 c (by omega) (by omega)).trans ((g1 263 c (by omega) (by omega) (by omega) (by omega) (by omega) (by omega)).trans y_2), (x1 270 c (by omega) (by omega)).trans ((g1 270 c (by omega) (by omega) (by omega) (by omega) (by omega) (by omega)).trans y_9), (x1 271 c (by omega) (by omega)).trans ((g1 271 c (by omega) (by omega) (by omega) (by omega) (by omega) (by omega)).trans y_10), ?_, (x1 268 c (by omega) (by omega)).trans ((g1 268 c (by omega) (by omega) (by omega) (by omega) (by omega) (by omega)).trans y_7), (x1 269 c (by omega) (by omega)).trans g8⟩, (x1 261 11 (by omega) (by omega)).trans g4, ?_, g6, g7⟩
      · have hrY := su_rows_ag (b := 261) (by decide) (show su_rows 261 c (w_up Z 261 1 (c + 1)) l a al from ⟨(w_up_slot (by decide)).trans hr.1, (w_up_slot (by decide)).trans hr.2.1, (w_up_slot (by decide)).trans hr.2.2.1, fun i hi => (w_up_slot (by decide)).trans (hr.2.2.2 i hi)⟩) a1
        exact ⟨(x1 265 c (by omega) (by omega)).trans ((g1 265 c (by omega) (by omega) (by omega) (by omega) (by omega) (by omega)).trans hrY.1), (x1 264 c (by omega) (by omega)).trans ((g1 264 c (by omega) (by omega) (by omega) (by omega) (by omega) (by omega)).trans hrY.2.1), (x1 267 c (by omega) (by omega)).trans ((g1 267 c (by omega) (by omega) (by omega) (by omega) (by omega) (by omega)).trans hrY.2.2.1), fun i hi => (x1 266 _ (by omega) (by omega)).trans ((g1 266 _ (by omega) (by omega) (by omega) (by omega) (by omega) (by omega)).trans (hrY.2.2.2 i hi))⟩
      · intro k r hk
        obtain ⟨q1, q2, q3, q4⟩ := g5 k r hk
        have e : ∀ n : Nat, 272 ≤ n → n ≤ 280 → ∀ i : Int, S3 n i = Z2 n i := fun n n1 n2 i => x1 n i (by omega) (by omega)
        exact ⟨⟨(e _ (by decide) (by decide) _).trans q1.1, (e _ (by decide) (by decide) _).trans q1.2.1, (e _ (by decide) (by decide) _).trans q1.2.2.1, (e _ (by decide) (by decide) _).trans q1.2.2.2.1, (e _ (by decide) (by decide) _).trans q1.2.2.2.2.1, (e _ (by decide) (by decide) _).trans q1.2.2.2.2.2⟩, ⟨(e _ (by decide) (by decide) _).trans q2.1, (e _ (by decide) (by decide) _).trans q2.2.1, fun i hi => (e _ (by decide) (by decide) _).trans (q2.2.2 i hi)⟩, q3, q4⟩
    · skip
      rw [hr2] at he
      dsimp only at he
      exact Or.inr ⟨_, _, he.symm, rfl, rc_ag_mb (by decide) hRY g1, g2, g3⟩
  · skip
    rw [lx_E_is hEu] at gk
    refine ⟨rfl, ?_⟩
    rw [if_neg (by rw [gk]; decide)] at he
    exact Or.inr ⟨_, _, he.symm, rfl, rc_ag_hl hRZ, rfl, rfl⟩
end W91
