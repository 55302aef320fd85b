/-! PART ga: print of the reference, by tasks. -/
section Wga
variable {xs : List (Nat × List Int32)} {d : Nat} {S Z A B : wS} {K : aK} {b t : Int} {o : List Int}
theorem rnb0 (h : stR t S K) (hs : S 357 t = 1) (hi : rIn S K 28 0 b) (hX : w_X xs) (hou : rOu S o) (ht : rTt S) (hh1 : 1 ≤ K.1.length) (hk : 0 ≤ (K.1.getD (K.1.length - 1) (0, 0, [])).1 ∧ (K.1.getD (K.1.length - 1) (0, 0, [])).1 ≤ 6) (hvr : -9223372036854775808 ≤ S 364 (2100 * t + (K.1.length : Int) - 1) ∧ S 364 (2100 * t + (K.1.length : Int) - 1) ≤ 9223372036854775807) (hm : (o.length : Int) + ((pL (K.1.getD (K.1.length - 1) (0, 0, []))).length : Int) + 1 ≤ 65536) : rSm xs d t rMp S (kP K 1 (0, 0, [])) (fun Z => rOu Z (o ++ (pL (K.1.getD (K.1.length - 1) (0, 0, []))) ++ [10])) := by
  obtain ⟨h1, h2, h3, h4b, ⟨h7, h8, h9, h9b⟩, -⟩ := id h
  have hcy := r_at h1 (i := K.1.length - 1) (by omega) (j := (2100 * t + (K.1.length : Int) - 1)) (by omega)
  have ef : ∀ (j : Nat) (x : Int), j ≠ 237 → (w_up (w_up S 237 154 (200 * t + (K.2.1.length : Int) - 1)) 237 155 ((K.2.1.getD (K.2.1.length - 1) (0, 0, 0, (0, 0, []), 0, 0, 0)).2.1 + 1)) j x = S j x := fun j x j0 => r_16 rfl j0
  have et : ∀ x : Int, x ≠ 154 → x ≠ 155 → (w_up (w_up S 237 154 (200 * t + (K.2.1.length : Int) - 1)) 237 155 ((K.2.1.getD (K.2.1.length - 1) (0, 0, 0, (0, 0, []), 0, 0, 0)).2.1 + 1)) 237 x = S 237 x := fun x x0 x1 => (w_up_at x1).trans (w_up_at x0)
  obtain ⟨o1, o2, o3⟩ := id hou
  have hM0 : w_ML (w_up (w_up S 237 154 (200 * t + (K.2.1.length : Int) - 1)) 237 155 ((K.2.1.getD (K.2.1.length - 1) (0, 0, 0, (0, 0, []), 0, 0, 0)).2.1 + 1)) := T0_ml h2
  have hpr : wJ (pe_GA xs) wY0 (fun _ => False) (d + 9) t_M_shows ((pe_at t_M_shows.bl 0).getD (0, [])).2 [(0, (2, 237)), (1, (0, (K.1.getD (K.1.length - 1) (0, 0, [])).1)), (2, (1, S 364 (2100 * t + (K.1.length : Int) - 1)))] [] (w_up (w_up S 237 154 (200 * t + (K.2.1.length : Int) - 1)) 237 155 ((K.2.1.getD (K.2.1.length - 1) (0, 0, 0, (0, 0, []), 0, 0, 0)).2.1 + 1)) (fun z Z => (65536 < (o.length : Int) + ((pL (K.1.getD (K.1.length - 1) (0, 0, []))).length : Int) + 1 ∧ ∃ A : wS, spN (w_up (w_up S 237 154 (200 * t + (K.2.1.length : Int) - 1)) 237 155 ((K.2.1.getD (K.2.1.length - 1) (0, 0, 0, (0, 0, []), 0, 0, 0)).2.1 + 1)) A ∧ z = .inr 238 ∧ hZ 99 A = Z) ∨ ((o.length : Int) + ((pL (K.1.getD (K.1.length - 1) (0, 0, []))).length : Int) + 1 ≤ 65536 ∧ z = .inl none ∧ ∃ A : wS, spN (w_up (w_up S 237 154 (200 * t + (K.2.1.length : Int) - 1)) 237 155 ((K.2.1.getD (K.2.1.length - 1) (0, 0, 0, (0, 0, []), 0, 0, 0)).2.1 + 1)) A ∧ ouA (o.length : Int) (pL (K.1.getD (K.1.length - 1) (0, 0, []))) A Z)) := by
    by_cases c : (K.1.getD (K.1.length - 1) (0, 0, [])).1 = 3
    · obtain ⟨g1, g2, g3, g4⟩ := rV_t hcy c ht
      have ep : (pL (K.1.getD (K.1.length - 1) (0, 0, []))) = (K.1.getD (K.1.length - 1) (0, 0, [])).2.2 := if_pos c
      rw [ep, c]
      refine wJ_mono (mst (l := (K.1.getD (K.1.length - 1) (0, 0, [])).2.2) (p0 := S 284 (S 364 (2100 * t + (K.1.length : Int) - 1))) hM0 g1 ((ef 285 _ (by first | decide | omega)).trans g2) (ef 284 _ (by first | decide | omega)) g3 (fun i hi2 => (ef 283 _ (by first | decide | omega)).trans (g4 i hi2)) ((et 104 (by first | decide | omega) (by first | decide | omega)).trans o1) ⟨by omega, by omega⟩) (fun z Z hz => ?_)
      rcases hz with ⟨z1, z2, z3⟩ | ⟨z1, z2, z3⟩
      · exact Or.inl ⟨z1, _, spN_t hM0, z2, z3⟩
      · exact Or.inr ⟨z1, z2, _, spN_t hM0, z3⟩
    · have ep : (pL (K.1.getD (K.1.length - 1) (0, 0, []))) = vL (K.1.getD (K.1.length - 1) (0, 0, [])).1 (K.1.getD (K.1.length - 1) (0, 0, [])).2.1 := if_neg c
      have ev : S 364 (2100 * t + (K.1.length : Int) - 1) = (K.1.getD (K.1.length - 1) (0, 0, [])).2.1 := rV_v hcy c
      rw [ep, ev]
      rw [ev] at hvr
      refine wJ_mono (mso (k := (K.1.getD (K.1.length - 1) (0, 0, [])).1) (v := (K.1.getD (K.1.length - 1) (0, 0, [])).2.1) hX hM0 (by omega) hvr ((et 104 (by first | decide | omega) (by first | decide | omega)).trans o1) ⟨by omega, by omega⟩) (fun z Z hz => ?_)
      rcases hz with ⟨z1, A, a, z2, z3⟩ | ⟨z1, z2, A, a, z3⟩
      · exact Or.inl ⟨z1, A, spN_l a, z2, z3⟩
      · exact Or.inr ⟨z1, z2, A, spN_l a, z3⟩
  have hcal := yb0 (xs := xs) (d := d) (mP_of h) ((ef 363 _ (by first | decide | omega)).trans hcy.1) (ef 364 _ (by first | decide | omega)) (by omega) hpr
  refine rg_t (R := fun Z => ∃ A B : wS, spN (w_up (w_up S 237 154 (200 * t + (K.2.1.length : Int) - 1)) 237 155 ((K.2.1.getD (K.2.1.length - 1) (0, 0, 0, (0, 0, []), 0, 0, 0)).2.1 + 1)) A ∧ ouA (o.length : Int) (pL (K.1.getD (K.1.length - 1) (0, 0, []))) A B ∧ w_up (w_up B 363 (2100 * t + (K.1.length : Int) - 1) 0) 364 (2100 * t + (K.1.length : Int) - 1) 0 = Z) h hs hi.1 hi.2.1 hi.2.2 (by first | decide | omega) (wJ_mono hcal (fun z Z hz => ?_)) (fun Z hz => ?_)
  · rcases hz with ⟨z, -⟩ | ⟨-, z⟩
    · omega
    · exact z
  · obtain ⟨A, B, a, hB, hz⟩ := hz
    have eA : ∀ (j : Nat) (x : Int), j ≠ 345 → (j ≠ 237 ∨ (x ≠ 113 ∧ x ≠ 154 ∧ x ≠ 155)) → A j x = S j x := fun j x j0 j1 => (a.1 j x j0 (by omega)).trans ((w_up_no (by omega)).trans (w_up_no (by omega)))
    obtain ⟨m1, m2, m3, fr, m8⟩ := id hB
    have eB : ∀ (j : Nat) (x : Int), j ≠ 345 → ¬ rMp j x → (j ≠ 237 ∨ (x ≠ 113 ∧ x ≠ 154 ∧ x ≠ 155)) → B j x = S j x := fun j x j0 j1 j2 => (fr j x (by unfold rMp at j1; omega) (by unfold rMp at j1; omega)).trans (eA j x j0 j2)
    have xSB : rTx S B := rTx_of (eB 237 19 (by first | decide | omega) (by unfold rMp; omega) (by first | decide | omega)) (eB 237 102 (by first | decide | omega) (by unfold rMp; omega) (by first | decide | omega)) (fun j x j0 j1 => eB j x (by omega) (by unfold rMp; omega) (by omega))
    have hkB : rTk t B K := rTk_fr h1 xSB (fun j x j0 j1 => eB j x (by omega) (by unfold rMp; omega) (by omega))
    have hkZ := rTk_top (k := 0) (v := 0) (u := (0, 0, [])) hkB hh1 (rV_e (by first | decide | omega) rfl)
    rw [hz] at hkZ
    have eZ : ∀ (j : Nat) (x : Int), j ≠ 363 → j ≠ 364 → Z j x = B j x := fun j x j0 j1 => by rw [← hz]; exact (w_up_slot j1).trans (w_up_slot j0)
    have e154 : B 237 154 = (200 * t + (K.2.1.length : Int) - 1) := (fr 237 154 (Or.inl (by first | decide | omega)) (by first | decide | omega)).trans ((a.1 237 154 (by first | decide | omega) (by first | decide | omega)).trans T0_4)
    have e155 : B 237 155 = (K.2.1.getD (K.2.1.length - 1) (0, 0, 0, (0, 0, []), 0, 0, 0)).2.1 + 1 := (fr 237 155 (Or.inl (by first | decide | omega)) (by first | decide | omega)).trans ((a.1 237 155 (by first | decide | omega) (by first | decide | omega)).trans T0_5)
    have hMZ : w_ML Z := by rw [← hz]; exact w_ML_up (w_ML_up m8 (by omega)) (by omega)
    have hfB : rTm t rMp S B := fun j x o2 nn => eB j x o2.2.2.1 nn (by have := o2.1; omega)
    have hfZ : rTm t rMp S Z := by
      rw [← hz]
      exact rTm_up (rTm_up hfB (Or.inl (no_p (Or.inl rfl) (by omega)))) (Or.inl (no_p (Or.inr rfl) (by omega)))
    have ouA1 : rOu A o := rOu_ag hou (eA 237 104 (by first | decide | omega) (by first | decide | omega)) (fun x => eA 342 x (by first | decide | omega) (Or.inl (by first | decide | omega)))
    have ouB := rOu_a ouA1 hB hm
    unfold kP
    exact rp_m (P := fun Z => rOu Z (o ++ (pL (K.1.getD (K.1.length - 1) (0, 0, []))) ++ [10])) h hMZ ((eZ 237 154 (by first | decide | omega) (by first | decide | omega)).trans e154) ((eZ 237 155 (by first | decide | omega) (by first | decide | omega)).trans e155) hkZ rfl hfZ (rOu_ag ouB ((w_up_slot (by first | decide | omega)).trans (eZ 237 104 (by first | decide | omega) (by first | decide | omega))) (fun x => (w_up_slot (by first | decide | omega)).trans (eZ 342 x (by first | decide | omega) (by first | decide | omega))))
theorem rnb0m (h : stR t S K) (hs : S 357 t = 1) (hi : rIn S K 28 0 b) (hX : w_X xs) (hou : rOu S o) (ht : rTt S) (hh1 : 1 ≤ K.1.length) (hk : 0 ≤ (K.1.getD (K.1.length - 1) (0, 0, [])).1 ∧ (K.1.getD (K.1.length - 1) (0, 0, [])).1 ≤ 6) (hvr : -9223372036854775808 ≤ S 364 (2100 * t + (K.1.length : Int) - 1) ∧ S 364 (2100 * t + (K.1.length : Int) - 1) ≤ 9223372036854775807) (hm : 65536 < (o.length : Int) + ((pL (K.1.getD (K.1.length - 1) (0, 0, []))).length : Int) + 1) : rSn xs d t S K := by
  obtain ⟨h1, h2, h3, h4b, ⟨h7, h8, h9, h9b⟩, -⟩ := id h
  have hcy := r_at h1 (i := K.1.length - 1) (by omega) (j := (2100 * t + (K.1.length : Int) - 1)) (by omega)
  have ef : ∀ (j : Nat) (x : Int), j ≠ 237 → (w_up (w_up S 237 154 (200 * t + (K.2.1.length : Int) - 1)) 237 155 ((K.2.1.getD (K.2.1.length - 1) (0, 0, 0, (0, 0, []), 0, 0, 0)).2.1 + 1)) j x = S j x := fun j x j0 => r_16 rfl j0
  have et : ∀ x : Int, x ≠ 154 → x ≠ 155 → (w_up (w_up S 237 154 (200 * t + (K.2.1.length : Int) - 1)) 237 155 ((K.2.1.getD (K.2.1.length - 1) (0, 0, 0, (0, 0, []), 0, 0, 0)).2.1 + 1)) 237 x = S 237 x := fun x x0 x1 => (w_up_at x1).trans (w_up_at x0)
  obtain ⟨o1, o2, o3⟩ := id hou
  have hM0 : w_ML (w_up (w_up S 237 154 (200 * t + (K.2.1.length : Int) - 1)) 237 155 ((K.2.1.getD (K.2.1.length - 1) (0, 0, 0, (0, 0, []), 0, 0, 0)).2.1 + 1)) := T0_ml h2
  have hpr : wJ (pe_GA xs) wY0 (fun _ => False) (d + 9) t_M_shows ((pe_at t_M_shows.bl 0).getD (0, [])).2 [(0, (2, 237)), (1, (0, (K.1.getD (K.1.length - 1) (0, 0, [])).1)), (2, (1, S 364 (2100 * t + (K.1.length : Int) - 1)))] [] (w_up (w_up S 237 154 (200 * t + (K.2.1.length : Int) - 1)) 237 155 ((K.2.1.getD (K.2.1.length - 1) (0, 0, 0, (0, 0, []), 0, 0, 0)).2.1 + 1)) (fun z Z => (65536 < (o.length : Int) + ((pL (K.1.getD (K.1.length - 1) (0, 0, []))).length : Int) + 1 ∧ ∃ A : wS, spN (w_up (w_up S 237 154 (200 * t + (K.2.1.length : Int) - 1)) 237 155 ((K.2.1.getD (K.2.1.length - 1) (0, 0, 0, (0, 0, []), 0, 0, 0)).2.1 + 1)) A ∧ z = .inr 238 ∧ hZ 99 A = Z) ∨ ((o.length : Int) + ((pL (K.1.getD (K.1.length - 1) (0, 0, []))).length : Int) + 1 ≤ 65536 ∧ z = .inl none ∧ ∃ A : wS, spN (w_up (w_up S 237 154 (200 * t + (K.2.1.length : Int) - 1)) 237 155 ((K.2.1.getD (K.2.1.length - 1) (0, 0, 0, (0, 0, []), 0, 0, 0)).2.1 + 1)) A ∧ ouA (o.length : Int) (pL (K.1.getD (K.1.length - 1) (0, 0, []))) A Z)) := by
    by_cases c : (K.1.getD (K.1.length - 1) (0, 0, [])).1 = 3
    · obtain ⟨g1, g2, g3, g4⟩ := rV_t hcy c ht
      have ep : (pL (K.1.getD (K.1.length - 1) (0, 0, []))) = (K.1.getD (K.1.length - 1) (0, 0, [])).2.2 := if_pos c
      rw [ep, c]
      refine wJ_mono (mst (l := (K.1.getD (K.1.length - 1) (0, 0, [])).2.2) (p0 := S 284 (S 364 (2100 * t + (K.1.length : Int) - 1))) hM0 g1 ((ef 285 _ (by first | decide | omega)).trans g2) (ef 284 _ (by first | decide | omega)) g3 (fun i hi2 => (ef 283 _ (by first | decide | omega)).trans (g4 i hi2)) ((et 104 (by first | decide | omega) (by first | decide | omega)).trans o1) ⟨by omega, by omega⟩) (fun z Z hz => ?_)
      rcases hz with ⟨z1, z2, z3⟩ | ⟨z1, z2, z3⟩
      · exact Or.inl ⟨z1, _, spN_t hM0, z2, z3⟩
      · exact Or.inr ⟨z1, z2, _, spN_t hM0, z3⟩
    · have ep : (pL (K.1.getD (K.1.length - 1) (0, 0, []))) = vL (K.1.getD (K.1.length - 1) (0, 0, [])).1 (K.1.getD (K.1.length - 1) (0, 0, [])).2.1 := if_neg c
      have ev : S 364 (2100 * t + (K.1.length : Int) - 1) = (K.1.getD (K.1.length - 1) (0, 0, [])).2.1 := rV_v hcy c
      rw [ep, ev]
      rw [ev] at hvr
      refine wJ_mono (mso (k := (K.1.getD (K.1.length - 1) (0, 0, [])).1) (v := (K.1.getD (K.1.length - 1) (0, 0, [])).2.1) hX hM0 (by omega) hvr ((et 104 (by first | decide | omega) (by first | decide | omega)).trans o1) ⟨by omega, by omega⟩) (fun z Z hz => ?_)
      rcases hz with ⟨z1, A, a, z2, z3⟩ | ⟨z1, z2, A, a, z3⟩
      · exact Or.inl ⟨z1, A, spN_l a, z2, z3⟩
      · exact Or.inr ⟨z1, z2, A, spN_l a, z3⟩
  have hcal := yb0 (xs := xs) (d := d) (mP_of h) ((ef 363 _ (by first | decide | omega)).trans hcy.1) (ef 364 _ (by first | decide | omega)) (by omega) hpr
  refine rm_tA (R := fun A => spN (w_up (w_up S 237 154 (200 * t + (K.2.1.length : Int) - 1)) 237 155 ((K.2.1.getD (K.2.1.length - 1) (0, 0, 0, (0, 0, []), 0, 0, 0)).2.1 + 1)) A) h hs hi.1 hi.2.1 hi.2.2 (by first | decide | omega) (wJ_mono hcal (fun z Z hz => ?_)) (fun A a => ?_)
  · rcases hz with ⟨-, A, a, z1, z2⟩ | ⟨z1, -⟩
    · exact ⟨z1, A, a, z2⟩
    · omega
  · skip
    have eA : ∀ (j : Nat) (x : Int), j ≠ 345 → (j ≠ 237 ∨ (x ≠ 113 ∧ x ≠ 154 ∧ x ≠ 155)) → A j x = S j x := fun j x j0 j1 => (a.1 j x j0 (by omega)).trans ((w_up_no (by omega)).trans (w_up_no (by omega)))
    exact ⟨rTk_fr h1 (rTx_of (eA 237 19 (by first | decide | omega) (by first | decide | omega)) (eA 237 102 (by first | decide | omega) (by first | decide | omega)) (fun j x j0 j1 => eA j x (by omega) (by omega))) (fun j x j0 j1 => eA j x (by omega) (by omega)), fun j x o2 => eA j x o2.2.2.1 (by have := o2.1; omega), a.2⟩
end Wga
