/-! PART g8: print of the class, by tasks. -/
section Wg8
variable {xs : List (Nat × List Int32)} {d : Nat} {S Z A : wS} {K : aK} {b : Int} {o : List Int} {w : Nat}
/-- what a value prints that is no host's -/
def pL (u : aV) : List Int := if u.1 = 3 then u.2.2 else vL u.1 u.2.1
def cMp (j : Nat) (x : Int) : Prop := j = 151 ∨ (j = 157 ∧ 0 ≤ x) ∨ (j = 72 ∧ (x = 13 ∨ x = 19))
def cMq (j : Nat) (x : Int) : Prop := (j = 157 ∧ 0 ≤ x) ∨ (j = 72 ∧ x = 19)
theorem co_fm {on : Int} {l : List Int} (hw : w = 215 ∨ w = 226) (h : coA on l S Z) : cFm w cMp S Z := by
  have hg : wG = 1000000 := rfl
  obtain ⟨-, -, -, -, fr, -, g, r⟩ := h
  exact ⟨fun j x j0 j1 _ j3 => fr j x j0 j1 (by unfold cMp at j3; omega) (by unfold cMp at j3; omega) (by unfold cMp at j3; omega), fun j j0 j1 => fr j (-1) (by omega) (by omega) (by omega) (by omega) (by omega), g, r⟩
theorem pr_fm (hw : w = 215 ∨ w = 226) (h : prN S Z) : cFm w cMq S Z := ⟨fun j x _ _ _ j3 => h.1 j x (by unfold cMq at j3; omega) (by unfold cMq at j3; omega), fun j j0 j1 => h.1 j (-1) (by omega) (by omega), h.2.1, h.2.2⟩
theorem zb0_215 (h : stC 215 S K) (hi : cIn S K 28 0 b) (hX : w_X xs) (h57 : S 157 (-1) = 64) (hou : cOu S o) (hp3 : cTt S) (hh1 : 1 ≤ K.1.length) (hk : 0 ≤ (K.1.getD (K.1.length - 1) (0, 0, [])).1 ∧ (K.1.getD (K.1.length - 1) (0, 0, [])).1 ≤ 6) (hvr : -9223372036854775808 ≤ S 218 ((K.1.length : Int) - 1) ∧ S 218 ((K.1.length : Int) - 1) ≤ 9223372036854775807) (hm : (o.length : Int) + ((pL (K.1.getD (K.1.length - 1) (0, 0, []))).length : Int) + 1 ≤ 65536) : cSm xs d 215 [217, 218, 151] cMp S (kP K 1 (0, 0, [])) (fun Z => cOu Z (o ++ (pL (K.1.getD (K.1.length - 1) (0, 0, []))) ++ [10])) := by
  obtain ⟨h1, ⟨h2, h2b⟩, ⟨h3, h4, h5⟩, -⟩ := id h
  have hk0 : cTk 215 (w_up S 215 16 0) K := cTk_16 h1 (Or.inl rfl)
  have hf : cFr 215 S (w_up S 215 16 0) := cFr_up (Or.inl rfl) (cFr_rfl h2b) (by first | decide | omega) (by omega)
  have hcy := c_at h1 (i := K.1.length - 1) (by omega) (j := (K.1.length : Int) - 1) (by omega)
  have ef : ∀ (j : Nat) (x : Int), j < 215 → (w_up S 215 16 0) j x = S j x := fun j x j0 => w_up_slot (by omega)
  obtain ⟨o1, o2, ⟨o3, o4, o5⟩, o6⟩ := id hou
  have hIT : gI (w_up S 215 16 0) := gI_up h2b (by first | decide | omega) (by first | decide | omega) (by first | decide | omega)
  have e51 : (w_up S 215 16 0) 151 (-1) = S 151 (-1) := ef 151 _ (by first | decide | omega)
  have hpr : wJ (pe_GA xs) wY0 (mS [151]) (d + 9) t_XH_print ((pe_at t_XH_print.bl 0).getD (0, [])).2 [(0, (2, 72)), (1, (0, (K.1.getD (K.1.length - 1) (0, 0, [])).1)), (2, (1, S 218 ((K.1.length : Int) - 1)))] [] (w_up S 215 16 0) (fun z Z => (65536 < (o.length : Int) + ((pL (K.1.getD (K.1.length - 1) (0, 0, []))).length : Int) + 1 ∧ z = .inl (some (0, 0)) ∧ prN (w_up S 215 16 0) Z) ∨ ((o.length : Int) + ((pL (K.1.getD (K.1.length - 1) (0, 0, []))).length : Int) + 1 ≤ 65536 ∧ z = .inl (some (0, 1)) ∧ coA (o.length : Int) (pL (K.1.getD (K.1.length - 1) (0, 0, []))) (w_up S 215 16 0) Z)) := by
    by_cases c : (K.1.getD (K.1.length - 1) (0, 0, [])).1 = 3
    · obtain ⟨s, s1, s2, s3⟩ := cV_t hcy c
      have ep : (pL (K.1.getD (K.1.length - 1) (0, 0, []))) = (K.1.getD (K.1.length - 1) (0, 0, [])).2.2 := if_pos c
      rw [ep, c]
      refine wJ_mono (xprt (s := s) (l := (K.1.getD (K.1.length - 1) (0, 0, [])).2.2) ((ef 157 _ (by first | decide | omega)).trans h57) hIT s1 ⟨s2.1, by rw [ef 3 _ (by first | decide | omega)]; have := hp3.2.1; omega⟩ (by rw [ef 3 _ (by first | decide | omega)]; exact hp3.2.2) (fun i hi2 => (ef 3 _ (by first | decide | omega)).trans (s3 i hi2)) ((ef 72 13 (by first | decide | omega)).trans o1) ⟨by omega, by omega, by rw [e51]; exact o3⟩ (by rw [e51]; exact ⟨o4, o5⟩)) (fun z Z hz => ?_)
      rcases hz with ⟨z1, z2, z3⟩ | hz
      · exact Or.inl ⟨z1, z2, by rw [← z3]; exact prN_t hIT⟩
      · exact Or.inr hz
    · have ep : (pL (K.1.getD (K.1.length - 1) (0, 0, []))) = vL (K.1.getD (K.1.length - 1) (0, 0, [])).1 (K.1.getD (K.1.length - 1) (0, 0, [])).2.1 := if_neg c
      have ev : S 218 ((K.1.length : Int) - 1) = (K.1.getD (K.1.length - 1) (0, 0, [])).2.1 := cV_v hcy c
      rw [ep, ev]
      rw [ev] at hvr
      refine wJ_mono (xprn (k := (K.1.getD (K.1.length - 1) (0, 0, [])).1) (v := (K.1.getD (K.1.length - 1) (0, 0, [])).2.1) hX ((ef 157 _ (by first | decide | omega)).trans h57) hIT (by omega) hvr ((ef 72 13 (by first | decide | omega)).trans o1) ⟨by omega, by omega, by rw [e51]; exact o3⟩ (by rw [e51]; exact ⟨o4, o5⟩)) (fun z Z hz => ?_)
      rcases hz with ⟨z1, z2, z3⟩ | hz
      · exact Or.inl ⟨z1, z2, prN_s z3 (by have := vL_len (k := (K.1.getD (K.1.length - 1) (0, 0, [])).1) (v := (K.1.getD (K.1.length - 1) (0, 0, [])).2.1); omega)⟩
      · exact Or.inr hz
  have hcal := xb0_215 (xs := xs) (d := d) (xP_of (Or.inl rfl) h) ((w_up_slot (by first | decide | omega)).trans hcy.1) (w_up_slot (by first | decide | omega)) (by omega) hpr
  refine cg_b_215 h hi.1 hi.2.1 hi.2.2 (by first | decide | omega) (fun q => by omega) (by first | decide | omega) (by unfold mS; decide) hcal (fun Z hz => ?_)
  rcases hz with ⟨z, -⟩ | ⟨-, A, hA, hs⟩
  · omega
  have hg : wG = 1000000 := rfl
  have fA := co_fm (w := 215) (Or.inl rfl) hA
  have frA := hA.2.2.2.2.1
  have hkA : cTk 215 A K := cTk_fr hk0 (cTx_of (frA 2 1 (by first | decide | omega) (by first | decide | omega) (by first | decide | omega) (Or.inl (by first | decide | omega)) (Or.inl (by first | decide | omega))) (fun x => frA 3 x (by first | decide | omega) (by first | decide | omega) (by first | decide | omega) (Or.inl (by first | decide | omega)) (Or.inl (by first | decide | omega)))) (fun j y j0 j1 => frA j y (by omega) (by omega) (by omega) (by omega) (by omega))
  have fZ := cFr_sO (Or.inl rfl) (cFr_rfl fA.2.2.1) (by omega) hs
  have ouT : cOu (w_up S 215 16 0) o := cOu_ag hou (ef 72 13 (by first | decide | omega)) (fun x => ef 151 x (by first | decide | omega))
  refine ⟨(sO_16 (Or.inl rfl) hs).trans ((frA 215 16 (by first | decide | omega) (by first | decide | omega) (by first | decide | omega) (Or.inl (by first | decide | omega)) (Or.inl (by first | decide | omega))).trans (w_up_same _ _ _ _)), cTk_sO hkA (Or.inl rfl) hs rfl rfl h3 rfl hh1 (by omega) (cV_e (by first | decide | omega) rfl), cFm_tr (cFm_tr (cFm_r hf) fA) (cFm_r fZ), cOu_ag (cOu_a ouT hA hm) (fZ.1 72 13 (by first | decide | omega) (by first | decide | omega) (by first | decide | omega)) (fun x => fZ.1 151 x (by first | decide | omega) (by first | decide | omega) (by first | decide | omega))⟩
theorem zb0m_215 (h : stC 215 S K) (hi : cIn S K 28 0 b) (hX : w_X xs) (h57 : S 157 (-1) = 64) (hou : cOu S o) (hp3 : cTt S) (hh1 : 1 ≤ K.1.length) (hk : 0 ≤ (K.1.getD (K.1.length - 1) (0, 0, [])).1 ∧ (K.1.getD (K.1.length - 1) (0, 0, [])).1 ≤ 6) (hvr : -9223372036854775808 ≤ S 218 ((K.1.length : Int) - 1) ∧ S 218 ((K.1.length : Int) - 1) ≤ 9223372036854775807) (hm : 65536 < (o.length : Int) + ((pL (K.1.getD (K.1.length - 1) (0, 0, []))).length : Int) + 1) : cSo xs d 215 [217, 218, 151] cMq S K := by
  obtain ⟨h1, ⟨h2, h2b⟩, ⟨h3, h4, h5⟩, -⟩ := id h
  have hk0 : cTk 215 (w_up S 215 16 0) K := cTk_16 h1 (Or.inl rfl)
  have hf : cFr 215 S (w_up S 215 16 0) := cFr_up (Or.inl rfl) (cFr_rfl h2b) (by first | decide | omega) (by omega)
  have hcy := c_at h1 (i := K.1.length - 1) (by omega) (j := (K.1.length : Int) - 1) (by omega)
  have ef : ∀ (j : Nat) (x : Int), j < 215 → (w_up S 215 16 0) j x = S j x := fun j x j0 => w_up_slot (by omega)
  obtain ⟨o1, o2, ⟨o3, o4, o5⟩, o6⟩ := id hou
  have hIT : gI (w_up S 215 16 0) := gI_up h2b (by first | decide | omega) (by first | decide | omega) (by first | decide | omega)
  have e51 : (w_up S 215 16 0) 151 (-1) = S 151 (-1) := ef 151 _ (by first | decide | omega)
  have hpr : wJ (pe_GA xs) wY0 (mS [151]) (d + 9) t_XH_print ((pe_at t_XH_print.bl 0).getD (0, [])).2 [(0, (2, 72)), (1, (0, (K.1.getD (K.1.length - 1) (0, 0, [])).1)), (2, (1, S 218 ((K.1.length : Int) - 1)))] [] (w_up S 215 16 0) (fun z Z => (65536 < (o.length : Int) + ((pL (K.1.getD (K.1.length - 1) (0, 0, []))).length : Int) + 1 ∧ z = .inl (some (0, 0)) ∧ prN (w_up S 215 16 0) Z) ∨ ((o.length : Int) + ((pL (K.1.getD (K.1.length - 1) (0, 0, []))).length : Int) + 1 ≤ 65536 ∧ z = .inl (some (0, 1)) ∧ coA (o.length : Int) (pL (K.1.getD (K.1.length - 1) (0, 0, []))) (w_up S 215 16 0) Z)) := by
    by_cases c : (K.1.getD (K.1.length - 1) (0, 0, [])).1 = 3
    · obtain ⟨s, s1, s2, s3⟩ := cV_t hcy c
      have ep : (pL (K.1.getD (K.1.length - 1) (0, 0, []))) = (K.1.getD (K.1.length - 1) (0, 0, [])).2.2 := if_pos c
      rw [ep, c]
      refine wJ_mono (xprt (s := s) (l := (K.1.getD (K.1.length - 1) (0, 0, [])).2.2) ((ef 157 _ (by first | decide | omega)).trans h57) hIT s1 ⟨s2.1, by rw [ef 3 _ (by first | decide | omega)]; have := hp3.2.1; omega⟩ (by rw [ef 3 _ (by first | decide | omega)]; exact hp3.2.2) (fun i hi2 => (ef 3 _ (by first | decide | omega)).trans (s3 i hi2)) ((ef 72 13 (by first | decide | omega)).trans o1) ⟨by omega, by omega, by rw [e51]; exact o3⟩ (by rw [e51]; exact ⟨o4, o5⟩)) (fun z Z hz => ?_)
      rcases hz with ⟨z1, z2, z3⟩ | hz
      · exact Or.inl ⟨z1, z2, by rw [← z3]; exact prN_t hIT⟩
      · exact Or.inr hz
    · have ep : (pL (K.1.getD (K.1.length - 1) (0, 0, []))) = vL (K.1.getD (K.1.length - 1) (0, 0, [])).1 (K.1.getD (K.1.length - 1) (0, 0, [])).2.1 := if_neg c
      have ev : S 218 ((K.1.length : Int) - 1) = (K.1.getD (K.1.length - 1) (0, 0, [])).2.1 := cV_v hcy c
      rw [ep, ev]
      rw [ev] at hvr
      refine wJ_mono (xprn (k := (K.1.getD (K.1.length - 1) (0, 0, [])).1) (v := (K.1.getD (K.1.length - 1) (0, 0, [])).2.1) hX ((ef 157 _ (by first | decide | omega)).trans h57) hIT (by omega) hvr ((ef 72 13 (by first | decide | omega)).trans o1) ⟨by omega, by omega, by rw [e51]; exact o3⟩ (by rw [e51]; exact ⟨o4, o5⟩)) (fun z Z hz => ?_)
      rcases hz with ⟨z1, z2, z3⟩ | hz
      · exact Or.inl ⟨z1, z2, prN_s z3 (by have := vL_len (k := (K.1.getD (K.1.length - 1) (0, 0, [])).1) (v := (K.1.getD (K.1.length - 1) (0, 0, [])).2.1); omega)⟩
      · exact Or.inr hz
  have hcal := xb0_215 (xs := xs) (d := d) (xP_of (Or.inl rfl) h) ((w_up_slot (by first | decide | omega)).trans hcy.1) (w_up_slot (by first | decide | omega)) (by omega) hpr
  refine wJ_mono (cm_b_215 (R := fun Z => ∃ A : wS, prN (w_up S 215 16 0) A ∧ w_up A 215 16 99 = Z) h hi.1 hi.2.1 hi.2.2 (by first | decide | omega) (fun q => by omega) (by first | decide | omega) (by unfold mS; decide) (wJ_mono hcal (fun z Z hz => ⟨hz.1, by
    rcases hz.2 with ⟨-, z⟩ | ⟨z, -⟩
    · exact z
    · omega⟩)) (fun Z hz => by obtain ⟨A, -, rfl⟩ := hz; exact w_up_same _ _ _ _)) (fun z Z2 hz => ?_)
  obtain ⟨hz0, Z, ⟨A, hA, rfl⟩, rfl⟩ := hz
  have hkA : cTk 215 A K := cTk_fr hk0 (cTx_of (hA.1 2 1 (by first | decide | omega) (by first | decide | omega)) (fun x => hA.1 3 x (Or.inl (by first | decide | omega)) (Or.inl (by first | decide | omega)))) (fun j y j0 j1 => hA.1 j y (by omega) (by omega))
  exact ⟨hz0, cTk_st (cTk_16 hkA (Or.inl rfl)) (Or.inl rfl), cFm_up (Or.inl rfl) (cFm_up (Or.inl rfl) (cFm_tr (cFm_r hf) (pr_fm (Or.inl rfl) hA)) (by first | decide | omega) (Or.inl (by omega)) (by first | decide | omega)) (by first | decide | omega) (Or.inl (by omega)) (by first | decide | omega)⟩
theorem zb0_226 (h : stC 226 S K) (hi : cIn S K 28 0 b) (hX : w_X xs) (h57 : S 157 (-1) = 64) (hou : cOu S o) (hp3 : cTt S) (hh1 : 1 ≤ K.1.length) (hk : 0 ≤ (K.1.getD (K.1.length - 1) (0, 0, [])).1 ∧ (K.1.getD (K.1.length - 1) (0, 0, [])).1 ≤ 6) (hvr : -9223372036854775808 ≤ S 229 ((K.1.length : Int) - 1) ∧ S 229 ((K.1.length : Int) - 1) ≤ 9223372036854775807) (hm : (o.length : Int) + ((pL (K.1.getD (K.1.length - 1) (0, 0, []))).length : Int) + 1 ≤ 65536) : cSm xs d 226 [228, 229, 151] cMp S (kP K 1 (0, 0, [])) (fun Z => cOu Z (o ++ (pL (K.1.getD (K.1.length - 1) (0, 0, []))) ++ [10])) := by
  obtain ⟨h1, ⟨h2, h2b⟩, ⟨h3, h4, h5⟩, -⟩ := id h
  have hk0 : cTk 226 (w_up S 226 16 0) K := cTk_16 h1 (Or.inr rfl)
  have hf : cFr 226 S (w_up S 226 16 0) := cFr_up (Or.inr rfl) (cFr_rfl h2b) (by first | decide | omega) (by omega)
  have hcy := c_at h1 (i := K.1.length - 1) (by omega) (j := (K.1.length : Int) - 1) (by omega)
  have ef : ∀ (j : Nat) (x : Int), j < 215 → (w_up S 226 16 0) j x = S j x := fun j x j0 => w_up_slot (by omega)
  obtain ⟨o1, o2, ⟨o3, o4, o5⟩, o6⟩ := id hou
  have hIT : gI (w_up S 226 16 0) := gI_up h2b (by first | decide | omega) (by first | decide | omega) (by first | decide | omega)
  have e51 : (w_up S 226 16 0) 151 (-1) = S 151 (-1) := ef 151 _ (by first | decide | omega)
  have hpr : wJ (pe_GA xs) wY0 (mS [151]) (d + 9) t_XH_print ((pe_at t_XH_print.bl 0).getD (0, [])).2 [(0, (2, 72)), (1, (0, (K.1.getD (K.1.length - 1) (0, 0, [])).1)), (2, (1, S 229 ((K.1.length : Int) - 1)))] [] (w_up S 226 16 0) (fun z Z => (65536 < (o.length : Int) + ((pL (K.1.getD (K.1.length - 1) (0, 0, []))).length : Int) + 1 ∧ z = .inl (some (0, 0)) ∧ prN (w_up S 226 16 0) Z) ∨ ((o.length : Int) + ((pL (K.1.getD (K.1.length - 1) (0, 0, []))).length : Int) + 1 ≤ 65536 ∧ z = .inl (some (0, 1)) ∧ coA (o.length : Int) (pL (K.1.getD (K.1.length - 1) (0, 0, []))) (w_up S 226 16 0) Z)) := by
    by_cases c : (K.1.getD (K.1.length - 1) (0, 0, [])).1 = 3
    · obtain ⟨s, s1, s2, s3⟩ := cV_t hcy c
      have ep : (pL (K.1.getD (K.1.length - 1) (0, 0, []))) = (K.1.getD (K.1.length - 1) (0, 0, [])).2.2 := if_pos c
      rw [ep, c]
      refine wJ_mono (xprt (s := s) (l := (K.1.getD (K.1.length - 1) (0, 0, [])).2.2) ((ef 157 _ (by first | decide | omega)).trans h57) hIT s1 ⟨s2.1, by rw [ef 3 _ (by first | decide | omega)]; have := hp3.2.1; omega⟩ (by rw [ef 3 _ (by first | decide | omega)]; exact hp3.2.2) (fun i hi2 => (ef 3 _ (by first | decide | omega)).trans (s3 i hi2)) ((ef 72 13 (by first | decide | omega)).trans o1) ⟨by omega, by omega, by rw [e51]; exact o3⟩ (by rw [e51]; exact ⟨o4, o5⟩)) (fun z Z hz => ?_)
      rcases hz with ⟨z1, z2, z3⟩ | hz
      · exact Or.inl ⟨z1, z2, by rw [← z3]; exact prN_t hIT⟩
      · exact Or.inr hz
    · have ep : (pL (K.1.getD (K.1.length - 1) (0, 0, []))) = vL (K.1.getD (K.1.length - 1) (0, 0, [])).1 (K.1.getD (K.1.length - 1) (0, 0, [])).2.1 := if_neg c
      have ev : S 229 ((K.1.length : Int) - 1) = (K.1.getD (K.1.length - 1) (0, 0, [])).2.1 := cV_v hcy c
      rw [ep, ev]
      rw [ev] at hvr
      refine wJ_mono (xprn (k := (K.1.getD (K.1.length - 1) (0, 0, [])).1) (v := (K.1.getD (K.1.length - 1) (0, 0, [])).2.1) hX ((ef 157 _ (by first | decide | omega)).trans h57) hIT (by omega) hvr ((ef 72 13 (by first | decide | omega)).trans o1) ⟨by omega, by omega, by rw [e51]; exact o3⟩ (by rw [e51]; exact ⟨o4, o5⟩)) (fun z Z hz => ?_)
      rcases hz with ⟨z1, z2, z3⟩ | hz
      · exact Or.inl ⟨z1, z2, prN_s z3 (by have := vL_len (k := (K.1.getD (K.1.length - 1) (0, 0, [])).1) (v := (K.1.getD (K.1.length - 1) (0, 0, [])).2.1); omega)⟩
      · exact Or.inr hz
  have hcal := xb0_226 (xs := xs) (d := d) (xP_of (Or.inr rfl) h) ((w_up_slot (by first | decide | omega)).trans hcy.1) (w_up_slot (by first | decide | omega)) (by omega) hpr
  refine cg_b_226 h hi.1 hi.2.1 hi.2.2 (by first | decide | omega) (fun q => by omega) (by first | decide | omega) (by unfold mS; decide) hcal (fun Z hz => ?_)
  rcases hz with ⟨z, -⟩ | ⟨-, A, hA, hs⟩
  · omega
  have hg : wG = 1000000 := rfl
  have fA := co_fm (w := 226) (Or.inr rfl) hA
  have frA := hA.2.2.2.2.1
  have hkA : cTk 226 A K := cTk_fr hk0 (cTx_of (frA 2 1 (by first | decide | omega) (by first | decide | omega) (by first | decide | omega) (Or.inl (by first | decide | omega)) (Or.inl (by first | decide | omega))) (fun x => frA 3 x (by first | decide | omega) (by first | decide | omega) (by first | decide | omega) (Or.inl (by first | decide | omega)) (Or.inl (by first | decide | omega)))) (fun j y j0 j1 => frA j y (by omega) (by omega) (by omega) (by omega) (by omega))
  have fZ := cFr_sO (Or.inr rfl) (cFr_rfl fA.2.2.1) (by omega) hs
  have ouT : cOu (w_up S 226 16 0) o := cOu_ag hou (ef 72 13 (by first | decide | omega)) (fun x => ef 151 x (by first | decide | omega))
  refine ⟨(sO_16 (Or.inr rfl) hs).trans ((frA 226 16 (by first | decide | omega) (by first | decide | omega) (by first | decide | omega) (Or.inl (by first | decide | omega)) (Or.inl (by first | decide | omega))).trans (w_up_same _ _ _ _)), cTk_sO hkA (Or.inr rfl) hs rfl rfl h3 rfl hh1 (by omega) (cV_e (by first | decide | omega) rfl), cFm_tr (cFm_tr (cFm_r hf) fA) (cFm_r fZ), cOu_ag (cOu_a ouT hA hm) (fZ.1 72 13 (by first | decide | omega) (by first | decide | omega) (by first | decide | omega)) (fun x => fZ.1 151 x (by first | decide | omega) (by first | decide | omega) (by first | decide | omega))⟩
theorem zb0m_226 (h : stC 226 S K) (hi : cIn S K 28 0 b) (hX : w_X xs) (h57 : S 157 (-1) = 64) (hou : cOu S o) (hp3 : cTt S) (hh1 : 1 ≤ K.1.length) (hk : 0 ≤ (K.1.getD (K.1.length - 1) (0, 0, [])).1 ∧ (K.1.getD (K.1.length - 1) (0, 0, [])).1 ≤ 6) (hvr : -9223372036854775808 ≤ S 229 ((K.1.length : Int) - 1) ∧ S 229 ((K.1.length : Int) - 1) ≤ 9223372036854775807) (hm : 65536 < (o.length : Int) + ((pL (K.1.getD (K.1.length - 1) (0, 0, []))).length : Int) + 1) : cSo xs d 226 [228, 229, 151] cMq S K := by
  obtain ⟨h1, ⟨h2, h2b⟩, ⟨h3, h4, h5⟩, -⟩ := id h
  have hk0 : cTk 226 (w_up S 226 16 0) K := cTk_16 h1 (Or.inr rfl)
  have hf : cFr 226 S (w_up S 226 16 0) := cFr_up (Or.inr rfl) (cFr_rfl h2b) (by first | decide | omega) (by omega)
  have hcy := c_at h1 (i := K.1.length - 1) (by omega) (j := (K.1.length : Int) - 1) (by omega)
  have ef : ∀ (j : Nat) (x : Int), j < 215 → (w_up S 226 16 0) j x = S j x := fun j x j0 => w_up_slot (by omega)
  obtain ⟨o1, o2, ⟨o3, o4, o5⟩, o6⟩ := id hou
  have hIT : gI (w_up S 226 16 0) := gI_up h2b (by first | decide | omega) (by first | decide | omega) (by first | decide | omega)
  have e51 : (w_up S 226 16 0) 151 (-1) = S 151 (-1) := ef 151 _ (by first | decide | omega)
  have hpr : wJ (pe_GA xs) wY0 (mS [151]) (d + 9) t_XH_print ((pe_at t_XH_print.bl 0).getD (0, [])).2 [(0, (2, 72)), (1, (0, (K.1.getD (K.1.length - 1) (0, 0, [])).1)), (2, (1, S 229 ((K.1.length : Int) - 1)))] [] (w_up S 226 16 0) (fun z Z => (65536 < (o.length : Int) + ((pL (K.1.getD (K.1.length - 1) (0, 0, []))).length : Int) + 1 ∧ z = .inl (some (0, 0)) ∧ prN (w_up S 226 16 0) Z) ∨ ((o.length : Int) + ((pL (K.1.getD (K.1.length - 1) (0, 0, []))).length : Int) + 1 ≤ 65536 ∧ z = .inl (some (0, 1)) ∧ coA (o.length : Int) (pL (K.1.getD (K.1.length - 1) (0, 0, []))) (w_up S 226 16 0) Z)) := by
    by_cases c : (K.1.getD (K.1.length - 1) (0, 0, [])).1 = 3
    · obtain ⟨s, s1, s2, s3⟩ := cV_t hcy c
      have ep : (pL (K.1.getD (K.1.length - 1) (0, 0, []))) = (K.1.getD (K.1.length - 1) (0, 0, [])).2.2 := if_pos c
      rw [ep, c]
      refine wJ_mono (xprt (s := s) (l := (K.1.getD (K.1.length - 1) (0, 0, [])).2.2) ((ef 157 _ (by first | decide | omega)).trans h57) hIT s1 ⟨s2.1, by rw [ef 3 _ (by first | decide | omega)]; have := hp3.2.1; omega⟩ (by rw [ef 3 _ (by first | decide | omega)]; exact hp3.2.2) (fun i hi2 => (ef 3 _ (by first | decide | omega)).trans (s3 i hi2)) ((ef 72 13 (by first | decide | omega)).trans o1) ⟨by omega, by omega, by rw [e51]; exact o3⟩ (by rw [e51]; exact ⟨o4, o5⟩)) (fun z Z hz => ?_)
      rcases hz with ⟨z1, z2, z3⟩ | hz
      · exact Or.inl ⟨z1, z2, by rw [← z3]; exact prN_t hIT⟩
      · exact Or.inr hz
    · have ep : (pL (K.1.getD (K.1.length - 1) (0, 0, []))) = vL (K.1.getD (K.1.length - 1) (0, 0, [])).1 (K.1.getD (K.1.length - 1) (0, 0, [])).2.1 := if_neg c
      have ev : S 229 ((K.1.length : Int) - 1) = (K.1.getD (K.1.length - 1) (0, 0, [])).2.1 := cV_v hcy c
      rw [ep, ev]
      rw [ev] at hvr
      refine wJ_mono (xprn (k := (K.1.getD (K.1.length - 1) (0, 0, [])).1) (v := (K.1.getD (K.1.length - 1) (0, 0, [])).2.1) hX ((ef 157 _ (by first | decide | omega)).trans h57) hIT (by omega) hvr ((ef 72 13 (by first | decide | omega)).trans o1) ⟨by omega, by omega, by rw [e51]; exact o3⟩ (by rw [e51]; exact ⟨o4, o5⟩)) (fun z Z hz => ?_)
      rcases hz with ⟨z1, z2, z3⟩ | hz
      · exact Or.inl ⟨z1, z2, prN_s z3 (by have := vL_len (k := (K.1.getD (K.1.length - 1) (0, 0, [])).1) (v := (K.1.getD (K.1.length - 1) (0, 0, [])).2.1); omega)⟩
      · exact Or.inr hz
  have hcal := xb0_226 (xs := xs) (d := d) (xP_of (Or.inr rfl) h) ((w_up_slot (by first | decide | omega)).trans hcy.1) (w_up_slot (by first | decide | omega)) (by omega) hpr
  refine wJ_mono (cm_b_226 (R := fun Z => ∃ A : wS, prN (w_up S 226 16 0) A ∧ w_up A 226 16 99 = Z) h hi.1 hi.2.1 hi.2.2 (by first | decide | omega) (fun q => by omega) (by first | decide | omega) (by unfold mS; decide) (wJ_mono hcal (fun z Z hz => ⟨hz.1, by
    rcases hz.2 with ⟨-, z⟩ | ⟨z, -⟩
    · exact z
    · omega⟩)) (fun Z hz => by obtain ⟨A, -, rfl⟩ := hz; exact w_up_same _ _ _ _)) (fun z Z2 hz => ?_)
  obtain ⟨hz0, Z, ⟨A, hA, rfl⟩, rfl⟩ := hz
  have hkA : cTk 226 A K := cTk_fr hk0 (cTx_of (hA.1 2 1 (by first | decide | omega) (by first | decide | omega)) (fun x => hA.1 3 x (Or.inl (by first | decide | omega)) (Or.inl (by first | decide | omega)))) (fun j y j0 j1 => hA.1 j y (by omega) (by omega))
  exact ⟨hz0, cTk_st (cTk_16 hkA (Or.inr rfl)) (Or.inr rfl), cFm_up (Or.inr rfl) (cFm_up (Or.inr rfl) (cFm_tr (cFm_r hf) (pr_fm (Or.inr rfl) hA)) (by first | decide | omega) (Or.inl (by omega)) (by first | decide | omega)) (by first | decide | omega) (Or.inl (by omega)) (by first | decide | omega)⟩
end Wg8
