/-! PART fm: has, by tasks, of both. -/
section Wfm
variable {xs : List (Nat × List Int32)} {d : Nat} {S Z A B : wS} {K Kr : aK} {k v q t a b r : Int} {u : aV} {w m : Nat} {L : List aC} {T : List aO} {H : List aH} {G : Int → aV} {sl : Nat → List Int} {N : List (List Int)}
/-- a text as the class has it, taken apart -/
theorem cV_t (h : cVl S k v u) (hu : u.1 = 3) : ∃ s : Int, v = s * 4294967296 + (u.2.2.length : Int) ∧ (0 ≤ s ∧ s + (u.2.2.length : Int) ≤ S 2 1) ∧ ∀ i : Nat, i < u.2.2.length → S 3 (s + (i : Int)) = u.2.2.getD i 0 := by
  obtain ⟨-, s, h1, h2, h3, h4⟩ := h.2.2 hu
  exact ⟨s, h1, ⟨h2, h3⟩, h4⟩
theorem rV_t (h : rVl S k v u) (hu : u.1 = 3) (ht : rTt S) : (0 ≤ v ∧ v < 16000) ∧ S 285 v = (u.2.2.length : Int) ∧ (0 ≤ S 284 v ∧ S 284 v + (u.2.2.length : Int) ≤ 269632) ∧ ∀ i : Nat, i < u.2.2.length → S 283 (S 284 v + (i : Int)) = u.2.2.getD i 0 := by
  obtain ⟨-, h1, h2, h3⟩ := h.2.2 hu
  obtain ⟨⟨t1, t2⟩, ⟨t3, t4⟩, t5⟩ := ht
  obtain ⟨g1, g2, g3⟩ := t5 v h1
  exact ⟨by omega, h2, ⟨g1, by rw [← h2]; exact g3⟩, h3⟩
/-- two values go, one comes: of the reference's builtins -/
theorem rp_Y (h : stR t S K) (hh : 2 ≤ K.1.length) (hv : rVl S k v u) (hz : pYZ t (K.1.length : Int) k v (w_up (w_up S 237 154 (200 * t + (K.2.1.length : Int) - 1)) 237 155 ((K.2.1.getD (K.2.1.length - 1) (0, 0, 0, (0, 0, []), 0, 0, 0)).2.1 + 1)) = Z) : (w_ML Z ∧ Z 237 154 = (200 * t + (K.2.1.length : Int) - 1)) ∧ rTk t (w_up Z 366 (200 * t + (K.2.1.length : Int) - 1) (Z 237 155)) (kP K 2 u) ∧ rTf t S (w_up Z 366 (200 * t + (K.2.1.length : Int) - 1) (Z 237 155)) := by
  obtain ⟨h1, h2, h3, h4b, ⟨h7, h8, h9, h9b⟩, -⟩ := id h
  have es : ∀ (j : Nat) (x : Int), (j ≠ 359 ∨ x ≠ t) → ((j ≠ 363 ∧ j ≠ 364) ∨ x ≠ 2100 * t + (K.1.length : Int) - 1 - 1) → Z j x = (w_up (w_up S 237 154 (200 * t + (K.2.1.length : Int) - 1)) 237 155 ((K.2.1.getD (K.2.1.length - 1) (0, 0, 0, (0, 0, []), 0, 0, 0)).2.1 + 1)) j x := fun j x j0 j1 => by rw [← hz]; exact (w_up_no (by omega)).trans ((w_up_no (by omega)).trans (w_up_no (by omega)))
  have e : rTx (w_up (w_up S 237 154 (200 * t + (K.2.1.length : Int) - 1)) 237 155 ((K.2.1.getD (K.2.1.length - 1) (0, 0, 0, (0, 0, []), 0, 0, 0)).2.1 + 1)) Z := rTx_of (es 237 19 (by omega) (by omega)) (es 237 102 (by omega) (by omega)) (fun j x j0 j1 => es j x (by omega) (by omega))
  have e3 : Z 363 (2100 * t + ((K.1.length - 2 : Nat) : Int)) = k := by
    rw [← hz, show 2100 * t + ((K.1.length - 2 : Nat) : Int) = 2100 * t + (K.1.length : Int) - 1 - 1 by omega]
    exact (w_up_slot (by first | decide | omega)).trans (w_up_same _ _ _ _)
  have e4 : Z 364 (2100 * t + ((K.1.length - 2 : Nat) : Int)) = v := by
    rw [← hz, show 2100 * t + ((K.1.length - 2 : Nat) : Int) = 2100 * t + (K.1.length : Int) - 1 - 1 by omega]
    exact w_up_same _ _ _ _
  have e9 : Z 359 t = (K.1.length : Int) - 1 := by rw [← hz]; exact (w_up_slot (by first | decide | omega)).trans ((w_up_slot (by first | decide | omega)).trans (w_up_same _ _ _ _))
  have hk := rTk_l1 (m := K.1.length - 2) (a := u) (T0_k (x := (200 * t + (K.2.1.length : Int) - 1)) (y := (K.2.1.getD (K.2.1.length - 1) (0, 0, 0, (0, 0, []), 0, 0, 0)).2.1 + 1) h1) e ⟨fun j hj => es j t (by omega) (by omega), fun j x j0 j1 _ _ => es j x (by omega) (by omega), fun j x j0 j1 _ _ => es j x (by omega) (by omega)⟩ (by omega) (e9.trans (by omega)) (fun x x0 x1 => ⟨es 363 x (by omega) (by omega), es 364 x (by omega) (by omega)⟩) (by rw [e3, e4]; exact rVl_mo (T0_V hv) e)
  have hM : w_ML Z := by rw [← hz]; exact w_ML_up (w_ML_up (w_ML_up (T0_ml h2) (by omega)) (by omega)) (by omega)
  have hF : rTf t S Z := by rw [← hz]; exact rTf_up (rTf_up (rTf_up T0_f (no_t (by first | decide | omega))) (no_p (Or.inl rfl) (by omega))) (no_p (Or.inr rfl) (by omega))
  exact rp_g h hM ((es 237 154 (by omega) (by omega)).trans T0_4) ((es 237 155 (by omega) (by omega)).trans T0_5) hk rfl hF
theorem zb5_215 (h : stC 215 S K) (hi : cIn S K 28 5 b) (hWd : wd_at S 2 1024) (hWL : wd_L S 2 1024) (hWv : wv_L S 2) (hN : cL 9 10 N S) (hp3 : cTt S) (hW : cWd S T L G) (hsw : cSw S T H) (hwS : wSh T H) (hT : (T.length : Int) ≤ 8000) (hh1 : 2 ≤ K.1.length) (hx : (K.1.getD (K.1.length - 2) (0, 0, [])).1 = 4 ∨ (K.1.getD (K.1.length - 2) (0, 0, [])).1 = 5) (hq : isO T (K.1.getD (K.1.length - 2) (0, 0, [])).2.1) (hy : (K.1.getD (K.1.length - 1) (0, 0, [])).1 = 3) : cSt xs d 215 S (kP K 2 (1, (if ixL N (K.1.getD (K.1.length - 1) (0, 0, [])).2.2 = -1 ∨ aUp T H (ixL N (K.1.getD (K.1.length - 1) (0, 0, [])).2.2) (K.1.getD (K.1.length - 2) (0, 0, [])).2.1 = -1 then 0 else 1), [])) := by
  obtain ⟨h1, -, -⟩ := id h
  have hcy := c_at h1 (i := K.1.length - 1) (by omega) (j := (K.1.length : Int) - 1) (by omega)
  have hcx := c_at h1 (i := K.1.length - 2) (by omega) (j := (K.1.length : Int) - 1 - 1) (by omega)
  have hvx : S 218 ((K.1.length : Int) - 1 - 1) = (K.1.getD (K.1.length - 2) (0, 0, [])).2.1 := cV_v hcx (by omega)
  obtain ⟨s, s1, s2, s3⟩ := cV_t hcy hy
  have ef : ∀ (j : Nat) (x : Int), j < 215 → (w_up S 215 16 0) j x = S j x := fun j x j0 => w_up_slot (by omega)
  have ek : ∀ j : Nat, j < 215 → (w_up S 215 16 0) j = S j := fun j j0 => funext (fun x => ef j x j0)
  have hWd2 : wd_at (w_up S 215 16 0) 2 1024 := wd_at_ag hWd (fun x hx => ek (2 + x) (by omega))
  have hWL2 : wd_L (w_up S 215 16 0) 2 1024 := wd_L_ag hWL (fun x hx => ef (2 + x) _ (by omega))
  have hWv2 : wv_L (w_up S 215 16 0) 2 := by
    unfold wv_L
    rw [ek 7 (by first | decide | omega), ek 9 (by first | decide | omega), ek 8 (by first | decide | omega), ek 10 (by first | decide | omega), ef 2 10 (by first | decide | omega), ef 2 7 (by first | decide | omega), ef 2 12 (by first | decide | omega)]
    exact hWv
  have hN2 : cL 9 10 N (w_up S 215 16 0) := by
    unfold cL wqL
    rw [ef 2 10 (by first | decide | omega), ef 2 7 (by first | decide | omega), ek 9 (by first | decide | omega), ek 3 (by first | decide | omega), ek 4 (by first | decide | omega), ek 5 (by first | decide | omega)]
    exact hN
  exact cs_b_215 (m := 2) h hi.1 hi.2.1 hi.2.2 (by first | decide | omega) (fun q => by omega) (fun x hx => hx) (by unfold mS; decide) (xb5_215 (x := (K.1.getD (K.1.length - 1) (0, 0, [])).2.2) (s := s) (xP_of (Or.inl rfl) h) ((w_up_slot (by first | decide | omega)).trans (hcy.1.trans hy)) rfl ((w_up_slot (by first | decide | omega)).trans hcx.1) ((w_up_slot (by first | decide | omega)).trans hvx) (by omega) ((w_up_slot (by first | decide | omega)).trans s1) (by rw [ef 2 1 (by first | decide | omega)]; exact s2) (fun i hi2 => (ef 3 _ (by first | decide | omega)).trans (s3 i hi2)) hWd2 hWL2 hWv2 hN2 (by rw [ef 2 1 (by first | decide | omega), ef 3 _ (by first | decide | omega)]; exact ⟨hp3.2.1, hp3.2.2⟩) (cSw_up hsw (by first | decide | omega)) (cWd_up hW (by first | decide | omega)).1 (cWd_up hW (by first | decide | omega)).2.2.2.2.1 hwS hq hT hx) rfl hh1 (cV_e (by first | decide | omega) rfl)
theorem zb4e_215 (h : stC 215 S K) (hi : cIn S K 28 4 b) (hh1 : 2 ≤ K.1.length) (hy : ¬ (((K.1.getD (K.1.length - 2) (0, 0, [])).1 = 4 ∨ (K.1.getD (K.1.length - 2) (0, 0, [])).1 = 5) ∧ (K.1.getD (K.1.length - 1) (0, 0, [])).1 = 3)) : cSt xs d 215 S (kTh K (2, 12, [])) := by
  have hcy := c_at h.1 (i := K.1.length - 1) (by omega) (j := (K.1.length : Int) - 1) (by omega)
  have hcx := c_at h.1 (i := K.1.length - 2) (by omega) (j := (K.1.length : Int) - 1 - 1) (by omega)
  exact cx_b_215 h hi.1 hi.2.1 hi.2.2 (by first | decide | omega) (fun q => by omega) (fun x hx => hx) (by unfold mS; decide) (by first | decide | omega) (xb4e_215 (xP_of (Or.inl rfl) h) ((w_up_slot (by first | decide | omega)).trans hcy.1) rfl ((w_up_slot (by first | decide | omega)).trans hcx.1) rfl (by omega) hy)
theorem zb5e_215 (h : stC 215 S K) (hi : cIn S K 28 5 b) (hh1 : 2 ≤ K.1.length) (hy : ¬ (((K.1.getD (K.1.length - 2) (0, 0, [])).1 = 4 ∨ (K.1.getD (K.1.length - 2) (0, 0, [])).1 = 5) ∧ (K.1.getD (K.1.length - 1) (0, 0, [])).1 = 3)) : cSt xs d 215 S (kTh K (2, 12, [])) := by
  have hcy := c_at h.1 (i := K.1.length - 1) (by omega) (j := (K.1.length : Int) - 1) (by omega)
  have hcx := c_at h.1 (i := K.1.length - 2) (by omega) (j := (K.1.length : Int) - 1 - 1) (by omega)
  exact cx_b_215 h hi.1 hi.2.1 hi.2.2 (by first | decide | omega) (fun q => by omega) (fun x hx => hx) (by unfold mS; decide) (by first | decide | omega) (xb5e_215 (xP_of (Or.inl rfl) h) ((w_up_slot (by first | decide | omega)).trans hcy.1) rfl ((w_up_slot (by first | decide | omega)).trans hcx.1) rfl (by omega) hy)
theorem zb5_226 (h : stC 226 S K) (hi : cIn S K 28 5 b) (hWd : wd_at S 2 1024) (hWL : wd_L S 2 1024) (hWv : wv_L S 2) (hN : cL 9 10 N S) (hp3 : cTt S) (hW : cWd S T L G) (hsw : cSw S T H) (hwS : wSh T H) (hT : (T.length : Int) ≤ 8000) (hh1 : 2 ≤ K.1.length) (hx : (K.1.getD (K.1.length - 2) (0, 0, [])).1 = 4 ∨ (K.1.getD (K.1.length - 2) (0, 0, [])).1 = 5) (hq : isO T (K.1.getD (K.1.length - 2) (0, 0, [])).2.1) (hy : (K.1.getD (K.1.length - 1) (0, 0, [])).1 = 3) : cSt xs d 226 S (kP K 2 (1, (if ixL N (K.1.getD (K.1.length - 1) (0, 0, [])).2.2 = -1 ∨ aUp T H (ixL N (K.1.getD (K.1.length - 1) (0, 0, [])).2.2) (K.1.getD (K.1.length - 2) (0, 0, [])).2.1 = -1 then 0 else 1), [])) := by
  obtain ⟨h1, -, -⟩ := id h
  have hcy := c_at h1 (i := K.1.length - 1) (by omega) (j := (K.1.length : Int) - 1) (by omega)
  have hcx := c_at h1 (i := K.1.length - 2) (by omega) (j := (K.1.length : Int) - 1 - 1) (by omega)
  have hvx : S 229 ((K.1.length : Int) - 1 - 1) = (K.1.getD (K.1.length - 2) (0, 0, [])).2.1 := cV_v hcx (by omega)
  obtain ⟨s, s1, s2, s3⟩ := cV_t hcy hy
  have ef : ∀ (j : Nat) (x : Int), j < 215 → (w_up S 226 16 0) j x = S j x := fun j x j0 => w_up_slot (by omega)
  have ek : ∀ j : Nat, j < 215 → (w_up S 226 16 0) j = S j := fun j j0 => funext (fun x => ef j x j0)
  have hWd2 : wd_at (w_up S 226 16 0) 2 1024 := wd_at_ag hWd (fun x hx => ek (2 + x) (by omega))
  have hWL2 : wd_L (w_up S 226 16 0) 2 1024 := wd_L_ag hWL (fun x hx => ef (2 + x) _ (by omega))
  have hWv2 : wv_L (w_up S 226 16 0) 2 := by
    unfold wv_L
    rw [ek 7 (by first | decide | omega), ek 9 (by first | decide | omega), ek 8 (by first | decide | omega), ek 10 (by first | decide | omega), ef 2 10 (by first | decide | omega), ef 2 7 (by first | decide | omega), ef 2 12 (by first | decide | omega)]
    exact hWv
  have hN2 : cL 9 10 N (w_up S 226 16 0) := by
    unfold cL wqL
    rw [ef 2 10 (by first | decide | omega), ef 2 7 (by first | decide | omega), ek 9 (by first | decide | omega), ek 3 (by first | decide | omega), ek 4 (by first | decide | omega), ek 5 (by first | decide | omega)]
    exact hN
  exact cs_b_226 (m := 2) h hi.1 hi.2.1 hi.2.2 (by first | decide | omega) (fun q => by omega) (fun x hx => hx) (by unfold mS; decide) (xb5_226 (x := (K.1.getD (K.1.length - 1) (0, 0, [])).2.2) (s := s) (xP_of (Or.inr rfl) h) ((w_up_slot (by first | decide | omega)).trans (hcy.1.trans hy)) rfl ((w_up_slot (by first | decide | omega)).trans hcx.1) ((w_up_slot (by first | decide | omega)).trans hvx) (by omega) ((w_up_slot (by first | decide | omega)).trans s1) (by rw [ef 2 1 (by first | decide | omega)]; exact s2) (fun i hi2 => (ef 3 _ (by first | decide | omega)).trans (s3 i hi2)) hWd2 hWL2 hWv2 hN2 (by rw [ef 2 1 (by first | decide | omega), ef 3 _ (by first | decide | omega)]; exact ⟨hp3.2.1, hp3.2.2⟩) (cSw_up hsw (by first | decide | omega)) (cWd_up hW (by first | decide | omega)).1 (cWd_up hW (by first | decide | omega)).2.2.2.2.1 hwS hq hT hx) rfl hh1 (cV_e (by first | decide | omega) rfl)
theorem zb4e_226 (h : stC 226 S K) (hi : cIn S K 28 4 b) (hh1 : 2 ≤ K.1.length) (hy : ¬ (((K.1.getD (K.1.length - 2) (0, 0, [])).1 = 4 ∨ (K.1.getD (K.1.length - 2) (0, 0, [])).1 = 5) ∧ (K.1.getD (K.1.length - 1) (0, 0, [])).1 = 3)) : cSt xs d 226 S (kTh K (2, 12, [])) := by
  have hcy := c_at h.1 (i := K.1.length - 1) (by omega) (j := (K.1.length : Int) - 1) (by omega)
  have hcx := c_at h.1 (i := K.1.length - 2) (by omega) (j := (K.1.length : Int) - 1 - 1) (by omega)
  exact cx_b_226 h hi.1 hi.2.1 hi.2.2 (by first | decide | omega) (fun q => by omega) (fun x hx => hx) (by unfold mS; decide) (by first | decide | omega) (xb4e_226 (xP_of (Or.inr rfl) h) ((w_up_slot (by first | decide | omega)).trans hcy.1) rfl ((w_up_slot (by first | decide | omega)).trans hcx.1) rfl (by omega) hy)
theorem zb5e_226 (h : stC 226 S K) (hi : cIn S K 28 5 b) (hh1 : 2 ≤ K.1.length) (hy : ¬ (((K.1.getD (K.1.length - 2) (0, 0, [])).1 = 4 ∨ (K.1.getD (K.1.length - 2) (0, 0, [])).1 = 5) ∧ (K.1.getD (K.1.length - 1) (0, 0, [])).1 = 3)) : cSt xs d 226 S (kTh K (2, 12, [])) := by
  have hcy := c_at h.1 (i := K.1.length - 1) (by omega) (j := (K.1.length : Int) - 1) (by omega)
  have hcx := c_at h.1 (i := K.1.length - 2) (by omega) (j := (K.1.length : Int) - 1 - 1) (by omega)
  exact cx_b_226 h hi.1 hi.2.1 hi.2.2 (by first | decide | omega) (fun q => by omega) (fun x hx => hx) (by unfold mS; decide) (by first | decide | omega) (xb5e_226 (xP_of (Or.inr rfl) h) ((w_up_slot (by first | decide | omega)).trans hcy.1) rfl ((w_up_slot (by first | decide | omega)).trans hcx.1) rfl (by omega) hy)
theorem rnb5 (h : stR t S K) (hs : S 357 t = 1) (hi : rIn S K 28 5 b) (hN : mN N S) (ht : rTt S) (hW : rWd S sl T L G) (hH : rHs S H) (hwS : wSh T H) (hT : (T.length : Int) ≤ 8000) (h82 : S 237 82 ≤ 60000) (hh1 : 2 ≤ K.1.length) (hx : (K.1.getD (K.1.length - 2) (0, 0, [])).1 = 4 ∨ (K.1.getD (K.1.length - 2) (0, 0, [])).1 = 5) (hq : isO T (K.1.getD (K.1.length - 2) (0, 0, [])).2.1) (hy : (K.1.getD (K.1.length - 1) (0, 0, [])).1 = 3) : rSt xs d t S (kP K 2 (1, (if ixL N (K.1.getD (K.1.length - 1) (0, 0, [])).2.2 = -1 ∨ aUp T H (ixL N (K.1.getD (K.1.length - 1) (0, 0, [])).2.2) (K.1.getD (K.1.length - 2) (0, 0, [])).2.1 = -1 then 0 else 1), [])) := by
  have hk0 : rTk t (w_up (w_up S 237 154 (200 * t + (K.2.1.length : Int) - 1)) 237 155 ((K.2.1.getD (K.2.1.length - 1) (0, 0, 0, (0, 0, []), 0, 0, 0)).2.1 + 1)) K := T0_k h.1
  have hcy := r_at h.1 (i := K.1.length - 1) (by omega) (j := (2100 * t + (K.1.length : Int) - 1)) (by omega)
  have hcx := r_at h.1 (i := K.1.length - 2) (by omega) (j := (2100 * t + (K.1.length : Int) - 1) - 1) (by omega)
  have hvx : S 364 ((2100 * t + (K.1.length : Int) - 1) - 1) = (K.1.getD (K.1.length - 2) (0, 0, [])).2.1 := rV_v hcx (by omega)
  obtain ⟨g1, g2, g3, g4⟩ := rV_t hcy hy ht
  have ef : ∀ (j : Nat) (x : Int), j ≠ 237 → (w_up (w_up S 237 154 (200 * t + (K.2.1.length : Int) - 1)) 237 155 ((K.2.1.getD (K.2.1.length - 1) (0, 0, 0, (0, 0, []), 0, 0, 0)).2.1 + 1)) j x = S j x := fun j x j0 => r_16 rfl j0
  have et : ∀ x : Int, x ≠ 154 → x ≠ 155 → (w_up (w_up S 237 154 (200 * t + (K.2.1.length : Int) - 1)) 237 155 ((K.2.1.getD (K.2.1.length - 1) (0, 0, 0, (0, 0, []), 0, 0, 0)).2.1 + 1)) 237 x = S 237 x := fun x x0 x1 => (w_up_at x1).trans (w_up_at x0)
  have hN2 : mN N (w_up (w_up S 237 154 (200 * t + (K.2.1.length : Int) - 1)) 237 155 ((K.2.1.getD (K.2.1.length - 1) (0, 0, 0, (0, 0, []), 0, 0, 0)).2.1 + 1)) := by
    obtain ⟨n1, n2, n3⟩ := hN
    refine ⟨(et 16 (by first | decide | omega) (by first | decide | omega)).trans n1, n2, fun k hk => ?_⟩
    rw [ef 282 _ (by first | decide | omega)]
    exact ⟨(n3 k hk).1, (n3 k hk).2.1, fun x hx => (ef 281 _ (by first | decide | omega)).trans ((n3 k hk).2.2 x hx)⟩
  refine rg_t h hs hi.1 hi.2.1 hi.2.2 (by first | decide | omega) (yb5 (x := (K.1.getD (K.1.length - 1) (0, 0, [])).2.2) (N := N) (q := (K.1.getD (K.1.length - 2) (0, 0, [])).2.1) (tx := S 364 (2100 * t + (K.1.length : Int) - 1)) (mP_of h) ((ef 363 _ (by first | decide | omega)).trans (hcy.1.trans hy)) (ef 364 _ (by first | decide | omega)) ((ef 363 _ (by first | decide | omega)).trans hcx.1) ((ef 364 _ (by first | decide | omega)).trans hvx) (by omega) hx (rWd_T0 hW).1 (rHs_up (rHs_up hH (by first | decide | omega)) (by first | decide | omega)) hwS hT (by rw [et 82 (by first | decide | omega) (by first | decide | omega)]; exact h82) g1 ((ef 285 _ (by first | decide | omega)).trans g2) (by rw [ef 284 _ (by first | decide | omega)]; exact g3) (fun i hi2 => by rw [ef 284 _ (by first | decide | omega), ef 283 _ (by first | decide | omega)]; exact g4 i hi2) hN2 hq) (fun Z hz => rp_Y h hh1 (rV_e (by first | decide | omega) rfl) hz)
theorem rnb4e (h : stR t S K) (hs : S 357 t = 1) (hi : rIn S K 28 4 b) (hh1 : 2 ≤ K.1.length) (hy : ¬ (((K.1.getD (K.1.length - 2) (0, 0, [])).1 = 4 ∨ (K.1.getD (K.1.length - 2) (0, 0, [])).1 = 5) ∧ (K.1.getD (K.1.length - 1) (0, 0, [])).1 = 3)) : rSt xs d t S (kTh K (2, 12, [])) := by
  have hk0 : rTk t (w_up (w_up S 237 154 (200 * t + (K.2.1.length : Int) - 1)) 237 155 ((K.2.1.getD (K.2.1.length - 1) (0, 0, 0, (0, 0, []), 0, 0, 0)).2.1 + 1)) K := T0_k h.1
  have hcy := r_at hk0 (i := K.1.length - 1) (by omega) (j := (2100 * t + (K.1.length : Int) - 1)) (by omega)
  have hcx := r_at hk0 (i := K.1.length - 2) (by omega) (j := (2100 * t + (K.1.length : Int) - 1) - 1) (by omega)
  exact rx_t h hs hi.1 hi.2.1 hi.2.2 (by first | decide | omega) (by first | decide | omega) (yb4e (mP_of h) hcy.1 rfl hcx.1 rfl (by omega) hy)
theorem rnb5e (h : stR t S K) (hs : S 357 t = 1) (hi : rIn S K 28 5 b) (hh1 : 2 ≤ K.1.length) (hy : ¬ (((K.1.getD (K.1.length - 2) (0, 0, [])).1 = 4 ∨ (K.1.getD (K.1.length - 2) (0, 0, [])).1 = 5) ∧ (K.1.getD (K.1.length - 1) (0, 0, [])).1 = 3)) : rSt xs d t S (kTh K (2, 12, [])) := by
  have hk0 : rTk t (w_up (w_up S 237 154 (200 * t + (K.2.1.length : Int) - 1)) 237 155 ((K.2.1.getD (K.2.1.length - 1) (0, 0, 0, (0, 0, []), 0, 0, 0)).2.1 + 1)) K := T0_k h.1
  have hcy := r_at hk0 (i := K.1.length - 1) (by omega) (j := (2100 * t + (K.1.length : Int) - 1)) (by omega)
  have hcx := r_at hk0 (i := K.1.length - 2) (by omega) (j := (2100 * t + (K.1.length : Int) - 1) - 1) (by omega)
  exact rx_t h hs hi.1 hi.2.1 hi.2.2 (by first | decide | omega) (by first | decide | omega) (yb5e (mP_of h) hcy.1 rfl hcx.1 rfl (by omega) hy)
end Wfm
