/-! PART fc: make and proto of the reference, by tasks and worlds. -/
section Wfc
variable {xs : List (Nat × List Int32)} {d : Nat} {S Z A B X : wS} {K Kr : aK} {k v q t a b r sh : Int} {u : aV} {w m : Nat} {L : List aC} {T : List aO} {H : List aH} {G : Int → aV} {sl : Nat → List Int} {mk mk2 : Nat → Int → Prop}
theorem rHs_ag (h : rHs S H) (f7 : Z 237 87 = S 237 87) (f : ∀ (j : Nat) (x : Int), 329 ≤ j → j ≤ 332 → Z j x = S j x) : rHs Z H := ⟨f7.trans h.1, fun k hk => by
  rw [f 329 _ (by first | decide | omega) (by first | decide | omega), f 330 _ (by first | decide | omega) (by first | decide | omega), f 331 _ (by first | decide | omega) (by first | decide | omega), f 332 _ (by first | decide | omega) (by first | decide | omega)]
  exact h.2 k hk⟩
theorem rHs_up {j : Nat} {i x : Int} (h : rHs S H) (hj : 332 < j ∨ (j = 237 ∧ i ≠ 87)) : rHs (w_up S j i x) H := rHs_ag h (w_up_no (by omega)) (fun y z y0 y1 => w_up_no (by omega))
theorem nt_ml {kd n u0 : Int} (h : w_ML S) (hn : 0 ≤ n) : w_ML (ntZ kd n u0 S) := by
  unfold ntZ
  exact w_ML_up (w_ML_up (w_ML_up (w_ML_up (w_ML_up (w_ML_up (w_ML_up (w_ML_up (w_ML_up (w_ML_up (w_ML_up (w_ML_up (h) (by omega)) (by omega)) (by omega)) (by omega)) (by omega)) (by omega)) (by omega)) (by omega)) (by omega)) (by omega)) (by omega)) (by omega)
/-- a thing comes, the newest value is it: of the reference -/
theorem nt_tail (h : stR t S K) (hh1 : 1 ≤ K.1.length) (hk : rTk t A K) (hM : w_ML A) (h4 : A 237 154 = (200 * t + (K.2.1.length : Int) - 1)) (h5 : A 237 155 = (K.2.1.getD (K.2.1.length - 1) (0, 0, 0, (0, 0, []), 0, 0, 0)).2.1 + 1) (hf : rTm t rMb S A) (hW : rWd A sl T L G) (hH : rHs A H) (hz : w_up (w_up (w_up (ntZ 4 (T.length : Int) (A 237 62) A) 315 (T.length : Int) sh) 363 (2100 * t + (K.1.length : Int) - 1) 4) 364 (2100 * t + (K.1.length : Int) - 1) (T.length : Int) = Z) : (w_ML Z ∧ Z 237 154 = (200 * t + (K.2.1.length : Int) - 1)) ∧ rTk t (w_up Z 366 (200 * t + (K.2.1.length : Int) - 1) (Z 237 155)) (kP K 1 (4, (T.length : Int), [])) ∧ rTm t rMb S (w_up Z 366 (200 * t + (K.2.1.length : Int) - 1) (Z 237 155)) ∧ (rWd (w_up Z 366 (200 * t + (K.2.1.length : Int) - 1) (Z 237 155)) (aSl sl T.length) (T ++ [((4, sh, -1, -1, -1, 0, []) : aO)]) L G ∧ rHs (w_up Z 366 (200 * t + (K.2.1.length : Int) - 1) (Z 237 155)) H ∧ (w_up Z 366 (200 * t + (K.2.1.length : Int) - 1) (Z 237 155)) 237 62 = A 237 62 + 1 ∧ ∀ x : Int, x ≠ 62 → x ≠ 68 → (w_up Z 366 (200 * t + (K.2.1.length : Int) - 1) (Z 237 155)) 237 x = A 237 x) := by
  obtain ⟨h1, h2, h3, h4b, ⟨h7, h8, h9, h9b⟩, -⟩ := id h
  have nf : nt_f 4 sh (-1) (-1) (T.length : Int) A (w_up (ntZ 4 (T.length : Int) (A 237 62) A) 315 (T.length : Int) sh) := nt_sh (nt_g (kd := 4) (n := (T.length : Int)) (S := A) rfl (by first | decide | omega) (by first | decide | omega))
  obtain ⟨⟨c8, c2⟩, -, -, fr⟩ := id nf
  have hkX : rTk t (w_up (ntZ 4 (T.length : Int) (A 237 62) A) 315 (T.length : Int) sh) K := rTk_fr hk (rTx_of (fr 237 19 (by first | decide | omega) (Or.inl (by first | decide | omega))) (fr 237 102 (by first | decide | omega) (Or.inl (by first | decide | omega))) (fun j x j0 j1 => fr j x (by omega) (by omega))) (fun j x j0 j1 => fr j x (by omega) (by omega))
  have hkZ := rTk_top (k := 4) (v := (T.length : Int)) (u := (4, (T.length : Int), [])) hkX hh1 (rV_e (by first | decide | omega) rfl)
  rw [hz] at hkZ
  have hWX := rWd_nx hW rfl nf
  have hWZ := rWd_up (j := 364) (i := (2100 * t + (K.1.length : Int) - 1)) (x := (T.length : Int)) (rWd_up (j := 363) (i := (2100 * t + (K.1.length : Int) - 1)) (x := 4) hWX (Or.inl (by first | decide | omega))) (Or.inl (by first | decide | omega))
  rw [hz] at hWZ
  have hMZ : w_ML Z := by
    rw [← hz]
    exact w_ML_up (w_ML_up (w_ML_up (nt_ml hM (by omega)) (by omega)) (by omega)) (by omega)
  have e7 : ∀ (j : Nat) (x : Int), j ≠ 363 → j ≠ 364 → Z j x = (w_up (ntZ 4 (T.length : Int) (A 237 62) A) 315 (T.length : Int) sh) j x := fun j x j0 j1 => by rw [← hz]; exact (w_up_slot j1).trans (w_up_slot j0)
  have e8 : ∀ x : Int, x ≠ 62 → x ≠ 68 → Z 237 x = A 237 x := fun x x0 x1 => (e7 237 x (by first | decide | omega) (by first | decide | omega)).trans (fr 237 x (Or.inr ⟨x1, x0⟩) (Or.inl (by first | decide | omega)))
  have hfX : rTm t rMb S (w_up (ntZ 4 (T.length : Int) (A 237 62) A) 315 (T.length : Int) sh) := fun j x o nn => by
    have n2 := nn
    unfold rMb rMk at n2
    exact (fr j x (by omega) (by omega)).trans (hf j x o nn)
  have hfZ : rTm t rMb S Z := by
    rw [← hz]
    exact rTm_up (rTm_up hfX (Or.inl (no_p (Or.inl rfl) (by omega)))) (Or.inl (no_p (Or.inr rfl) (by omega)))
  have hHZ : rHs Z H := rHs_ag hH (e8 87 (by first | decide | omega) (by first | decide | omega)) (fun j x j0 j1 => (e7 j x (by omega) (by omega)).trans (fr j x (by omega) (by omega)))
  unfold kP
  refine rp_m (P := fun Z => rWd Z (aSl sl T.length) (T ++ [((4, sh, -1, -1, -1, 0, []) : aO)]) L G ∧ rHs Z H ∧ Z 237 62 = A 237 62 + 1 ∧ ∀ x : Int, x ≠ 62 → x ≠ 68 → Z 237 x = A 237 x) h hMZ ((e8 154 (by first | decide | omega) (by first | decide | omega)).trans h4) ((e8 155 (by first | decide | omega) (by first | decide | omega)).trans h5) hkZ rfl hfZ ⟨rWd_366 hWZ, rHs_up hHZ (Or.inl (by first | decide | omega)), ?_, fun x x0 x1 => (w_up_slot (by first | decide | omega)).trans (e8 x x0 x1)⟩
  exact (w_up_slot (by first | decide | omega)).trans ((e7 237 62 (by first | decide | omega) (by first | decide | omega)).trans c2)
theorem rnb1n (h : stR t S K) (hs : S 357 t = 1) (hi : rIn S K 28 1 b) (hW : rWd S sl T L G) (hH : rHs S H) (hwS : wSh T H) (hu : (T.length : Int) ≤ S 237 62 ∧ S 237 62 ≤ 8000) (hu4 : 0 ≤ S 237 66 ∧ S 237 66 ≤ 4000 ∧ (H.length : Int) ≤ S 237 66 + 1) (hh1 : 1 ≤ K.1.length) (hy : (K.1.getD (K.1.length - 1) (0, 0, [])).1 = 0) (hm : S 237 62 < 8000) : rSm xs d t rMb S (kP K 1 (4, (T.length : Int), [])) (fun Z => rWd Z (aSl sl T.length) (T ++ [((4, 0, -1, -1, -1, 0, []) : aO)]) L G ∧ rHs Z H ∧ (Z 237 62 = S 237 62 + 1 ∧ Z 237 66 = S 237 66 ∧ ∀ x : Int, x ≠ 62 → x ≠ 68 → x ≠ 66 → x ≠ 87 → x ≠ 154 → x ≠ 155 → Z 237 x = S 237 x)) := by
  obtain ⟨h1, h2, h3, h4b, ⟨h7, h8, h9, h9b⟩, -⟩ := id h
  have hW2 : rWd (w_up (w_up S 237 154 (200 * t + (K.2.1.length : Int) - 1)) 237 155 ((K.2.1.getD (K.2.1.length - 1) (0, 0, 0, (0, 0, []), 0, 0, 0)).2.1 + 1)) sl T L G := rWd_T0 hW
  have hH2 : rHs (w_up (w_up S 237 154 (200 * t + (K.2.1.length : Int) - 1)) 237 155 ((K.2.1.getD (K.2.1.length - 1) (0, 0, 0, (0, 0, []), 0, 0, 0)).2.1 + 1)) H := rHs_up (rHs_up hH (by first | decide | omega)) (by first | decide | omega)
  have hk0 : rTk t (w_up (w_up S 237 154 (200 * t + (K.2.1.length : Int) - 1)) 237 155 ((K.2.1.getD (K.2.1.length - 1) (0, 0, 0, (0, 0, []), 0, 0, 0)).2.1 + 1)) K := T0_k h1
  have et : ∀ x : Int, x ≠ 154 → x ≠ 155 → (w_up (w_up S 237 154 (200 * t + (K.2.1.length : Int) - 1)) 237 155 ((K.2.1.getD (K.2.1.length - 1) (0, 0, 0, (0, 0, []), 0, 0, 0)).2.1 + 1)) 237 x = S 237 x := fun x x0 x1 => (w_up_at x1).trans (w_up_at x0)
  have eu := et 62 (by first | decide | omega) (by first | decide | omega)
  have e4 := et 66 (by first | decide | omega) (by first | decide | omega)
  have hc := r_at hk0 (i := K.1.length - 1) (by omega) (j := (2100 * t + (K.1.length : Int) - 1)) (by omega)
  have hky : (w_up (w_up S 237 154 (200 * t + (K.2.1.length : Int) - 1)) 237 155 ((K.2.1.getD (K.2.1.length - 1) (0, 0, 0, (0, 0, []), 0, 0, 0)).2.1 + 1)) 363 (2100 * t + (K.1.length : Int) - 1) = 0 := hc.1.trans hy
  refine rg_t h hs hi.1 hi.2.1 hi.2.2 (by first | decide | omega) (wJ_mono (yb1n (n := (T.length : Int)) (mP_of h) hW2.1.1 ⟨by omega, by omega⟩ rfl ⟨by omega, by omega⟩ hky rfl (by omega)) (fun o Z hz => hz.elim (fun z => absurd z.1 (by rw [eu]; omega)) (fun z => z.2))) (fun Z hz => ?_)
  obtain ⟨q1, q2, q3, q4, q5, q6, q7⟩ := nt_tail h hh1 hk0 (T0_ml h2) T0_4 T0_5 (rTm_r T0_f) hW2 hH2 hz
  exact ⟨q1, q2, q3, q4, q5, q6.trans (by rw [eu]), (q7 66 (by first | decide | omega) (by first | decide | omega)).trans e4, fun x x0 x1 _ _ x4 x5 => (q7 x x0 x1).trans (et x x4 x5)⟩
theorem rnb1nm (h : stR t S K) (hs : S 357 t = 1) (hi : rIn S K 28 1 b) (hW : rWd S sl T L G) (hH : rHs S H) (hwS : wSh T H) (hu : (T.length : Int) ≤ S 237 62 ∧ S 237 62 ≤ 8000) (hu4 : 0 ≤ S 237 66 ∧ S 237 66 ≤ 4000 ∧ (H.length : Int) ≤ S 237 66 + 1) (hh1 : 1 ≤ K.1.length) (hy : (K.1.getD (K.1.length - 1) (0, 0, [])).1 = 0) (hm : 8000 ≤ S 237 62) : rSn xs d t S K := by
  obtain ⟨h1, h2, h3, h4b, ⟨h7, h8, h9, h9b⟩, -⟩ := id h
  have hW2 : rWd (w_up (w_up S 237 154 (200 * t + (K.2.1.length : Int) - 1)) 237 155 ((K.2.1.getD (K.2.1.length - 1) (0, 0, 0, (0, 0, []), 0, 0, 0)).2.1 + 1)) sl T L G := rWd_T0 hW
  have hH2 : rHs (w_up (w_up S 237 154 (200 * t + (K.2.1.length : Int) - 1)) 237 155 ((K.2.1.getD (K.2.1.length - 1) (0, 0, 0, (0, 0, []), 0, 0, 0)).2.1 + 1)) H := rHs_up (rHs_up hH (by first | decide | omega)) (by first | decide | omega)
  have hk0 : rTk t (w_up (w_up S 237 154 (200 * t + (K.2.1.length : Int) - 1)) 237 155 ((K.2.1.getD (K.2.1.length - 1) (0, 0, 0, (0, 0, []), 0, 0, 0)).2.1 + 1)) K := T0_k h1
  have et : ∀ x : Int, x ≠ 154 → x ≠ 155 → (w_up (w_up S 237 154 (200 * t + (K.2.1.length : Int) - 1)) 237 155 ((K.2.1.getD (K.2.1.length - 1) (0, 0, 0, (0, 0, []), 0, 0, 0)).2.1 + 1)) 237 x = S 237 x := fun x x0 x1 => (w_up_at x1).trans (w_up_at x0)
  have eu := et 62 (by first | decide | omega) (by first | decide | omega)
  have e4 := et 66 (by first | decide | omega) (by first | decide | omega)
  have hc := r_at hk0 (i := K.1.length - 1) (by omega) (j := (2100 * t + (K.1.length : Int) - 1)) (by omega)
  have hky : (w_up (w_up S 237 154 (200 * t + (K.2.1.length : Int) - 1)) 237 155 ((K.2.1.getD (K.2.1.length - 1) (0, 0, 0, (0, 0, []), 0, 0, 0)).2.1 + 1)) 363 (2100 * t + (K.1.length : Int) - 1) = 0 := hc.1.trans hy
  exact rm_t h hs hi.1 hi.2.1 hi.2.2 (by first | decide | omega) (wJ_mono (yb1n (n := (T.length : Int)) (mP_of h) hW2.1.1 ⟨by omega, by omega⟩ rfl ⟨by omega, by omega⟩ hky rfl (by omega)) (fun o Z hz => hz.elim (fun z => z.2) (fun z => absurd z.1 (by rw [eu]; omega))))
theorem rnb1o (h : stR t S K) (hs : S 357 t = 1) (hi : rIn S K 28 1 b) (hW : rWd S sl T L G) (hH : rHs S H) (hwS : wSh T H) (hu : (T.length : Int) ≤ S 237 62 ∧ S 237 62 ≤ 8000) (hu4 : 0 ≤ S 237 66 ∧ S 237 66 ≤ 4000 ∧ (H.length : Int) ≤ S 237 66 + 1) (hh1 : 1 ≤ K.1.length) (hy : (K.1.getD (K.1.length - 1) (0, 0, [])).1 = 4 ∨ (K.1.getD (K.1.length - 1) (0, 0, [])).1 = 5) (hq : isO T (K.1.getD (K.1.length - 1) (0, 0, [])).2.1) (hr : r = aFs (-1) (K.1.getD (K.1.length - 1) (0, 0, [])).2.1 (-1) H 0) (hm : S 237 62 < 8000 ∧ 0 ≤ r) : rSm xs d t rMb S (kP K 1 (4, (T.length : Int), [])) (fun Z => rWd Z (aSl sl T.length) (T ++ [((4, r, -1, -1, -1, 0, []) : aO)]) L G ∧ rHs Z H ∧ (Z 237 62 = S 237 62 + 1 ∧ Z 237 66 = S 237 66 ∧ ∀ x : Int, x ≠ 62 → x ≠ 68 → x ≠ 66 → x ≠ 87 → x ≠ 154 → x ≠ 155 → Z 237 x = S 237 x)) := by
  obtain ⟨h1, h2, h3, h4b, ⟨h7, h8, h9, h9b⟩, -⟩ := id h
  have hW2 : rWd (w_up (w_up S 237 154 (200 * t + (K.2.1.length : Int) - 1)) 237 155 ((K.2.1.getD (K.2.1.length - 1) (0, 0, 0, (0, 0, []), 0, 0, 0)).2.1 + 1)) sl T L G := rWd_T0 hW
  have hH2 : rHs (w_up (w_up S 237 154 (200 * t + (K.2.1.length : Int) - 1)) 237 155 ((K.2.1.getD (K.2.1.length - 1) (0, 0, 0, (0, 0, []), 0, 0, 0)).2.1 + 1)) H := rHs_up (rHs_up hH (by first | decide | omega)) (by first | decide | omega)
  have hk0 : rTk t (w_up (w_up S 237 154 (200 * t + (K.2.1.length : Int) - 1)) 237 155 ((K.2.1.getD (K.2.1.length - 1) (0, 0, 0, (0, 0, []), 0, 0, 0)).2.1 + 1)) K := T0_k h1
  have et : ∀ x : Int, x ≠ 154 → x ≠ 155 → (w_up (w_up S 237 154 (200 * t + (K.2.1.length : Int) - 1)) 237 155 ((K.2.1.getD (K.2.1.length - 1) (0, 0, 0, (0, 0, []), 0, 0, 0)).2.1 + 1)) 237 x = S 237 x := fun x x0 x1 => (w_up_at x1).trans (w_up_at x0)
  have eu := et 62 (by first | decide | omega) (by first | decide | omega)
  have e4 := et 66 (by first | decide | omega) (by first | decide | omega)
  have hc := r_at hk0 (i := K.1.length - 1) (by omega) (j := (2100 * t + (K.1.length : Int) - 1)) (by omega)
  have hvy : (w_up (w_up S 237 154 (200 * t + (K.2.1.length : Int) - 1)) 237 155 ((K.2.1.getD (K.2.1.length - 1) (0, 0, 0, (0, 0, []), 0, 0, 0)).2.1 + 1)) 364 (2100 * t + (K.1.length : Int) - 1) = (K.1.getD (K.1.length - 1) (0, 0, [])).2.1 := rV_v hc (by omega)
  refine rg_t h hs hi.1 hi.2.1 hi.2.2 (by first | decide | omega) (R := fun Z => w_up (w_up (w_up (ntZ 4 (T.length : Int) ((w_up (w_up S 237 154 (200 * t + (K.2.1.length : Int) - 1)) 237 155 ((K.2.1.getD (K.2.1.length - 1) (0, 0, 0, (0, 0, []), 0, 0, 0)).2.1 + 1)) 237 62) (w_up (w_up S 237 154 (200 * t + (K.2.1.length : Int) - 1)) 237 155 ((K.2.1.getD (K.2.1.length - 1) (0, 0, 0, (0, 0, []), 0, 0, 0)).2.1 + 1))) 315 (T.length : Int) r) 363 (2100 * t + (K.1.length : Int) - 1) 4) 364 (2100 * t + (K.1.length : Int) - 1) (T.length : Int) = Z) (wJ_mono (yb1o (H := H) (T := T) (n := (T.length : Int)) (q := (K.1.getD (K.1.length - 1) (0, 0, [])).2.1) (r := r) (mP_of h) hW2.1.1 ⟨by omega, by omega⟩ rfl ⟨by omega, by omega⟩ hc.1 hvy (by omega) hy hH2 hwS.1 ⟨hq.1.1, by have := hq.1.2; omega⟩ hr rfl (by rw [e4]; exact hu4)) (fun o Z hz => ?_)) (fun Z hz => ?_)
  · rcases hz with ⟨z, -⟩ | ⟨-, -, z3, z4⟩ | ⟨-, z, -⟩
    · exact absurd z (by rw [eu]; omega)
    · exact ⟨z3, z4⟩
    · omega
  obtain ⟨q1, q2, q3, q4, q5, q6, q7⟩ := nt_tail h hh1 hk0 (T0_ml h2) T0_4 T0_5 (rTm_r T0_f) hW2 hH2 hz
  exact ⟨q1, q2, q3, q4, q5, q6.trans (by rw [eu]), (q7 66 (by first | decide | omega) (by first | decide | omega)).trans e4, fun x x0 x1 _ _ x4 x5 => (q7 x x0 x1).trans (et x x4 x5)⟩
theorem rnb1p (h : stR t S K) (hs : S 357 t = 1) (hi : rIn S K 28 1 b) (hW : rWd S sl T L G) (hH : rHs S H) (hwS : wSh T H) (hu : (T.length : Int) ≤ S 237 62 ∧ S 237 62 ≤ 8000) (hu4 : 0 ≤ S 237 66 ∧ S 237 66 ≤ 4000 ∧ (H.length : Int) ≤ S 237 66 + 1) (hh1 : 1 ≤ K.1.length) (hy : (K.1.getD (K.1.length - 1) (0, 0, [])).1 = 4 ∨ (K.1.getD (K.1.length - 1) (0, 0, [])).1 = 5) (hq : isO T (K.1.getD (K.1.length - 1) (0, 0, [])).2.1) (hr : r = aFs (-1) (K.1.getD (K.1.length - 1) (0, 0, [])).2.1 (-1) H 0) (hm : S 237 62 < 8000 ∧ r = -1 ∧ S 237 66 < 4000) : rSm xs d t rMb S (kP K 1 (4, (T.length : Int), [])) (fun Z => rWd Z (aSl sl T.length) ((tEp T (K.1.getD (K.1.length - 1) (0, 0, [])).2.1 0) ++ [((4, (H.length : Int), -1, -1, -1, 0, []) : aO)]) L G ∧ rHs Z (H ++ [((K.1.getD (K.1.length - 1) (0, 0, [])).2.1, -1, -1, 0)]) ∧ (Z 237 62 = S 237 62 + 1 ∧ Z 237 66 = S 237 66 + 1 ∧ ∀ x : Int, x ≠ 62 → x ≠ 68 → x ≠ 66 → x ≠ 87 → x ≠ 154 → x ≠ 155 → Z 237 x = S 237 x)) := by
  obtain ⟨h1, h2, h3, h4b, ⟨h7, h8, h9, h9b⟩, -⟩ := id h
  have hW2 : rWd (w_up (w_up S 237 154 (200 * t + (K.2.1.length : Int) - 1)) 237 155 ((K.2.1.getD (K.2.1.length - 1) (0, 0, 0, (0, 0, []), 0, 0, 0)).2.1 + 1)) sl T L G := rWd_T0 hW
  have hH2 : rHs (w_up (w_up S 237 154 (200 * t + (K.2.1.length : Int) - 1)) 237 155 ((K.2.1.getD (K.2.1.length - 1) (0, 0, 0, (0, 0, []), 0, 0, 0)).2.1 + 1)) H := rHs_up (rHs_up hH (by first | decide | omega)) (by first | decide | omega)
  have hk0 : rTk t (w_up (w_up S 237 154 (200 * t + (K.2.1.length : Int) - 1)) 237 155 ((K.2.1.getD (K.2.1.length - 1) (0, 0, 0, (0, 0, []), 0, 0, 0)).2.1 + 1)) K := T0_k h1
  have et : ∀ x : Int, x ≠ 154 → x ≠ 155 → (w_up (w_up S 237 154 (200 * t + (K.2.1.length : Int) - 1)) 237 155 ((K.2.1.getD (K.2.1.length - 1) (0, 0, 0, (0, 0, []), 0, 0, 0)).2.1 + 1)) 237 x = S 237 x := fun x x0 x1 => (w_up_at x1).trans (w_up_at x0)
  have eu := et 62 (by first | decide | omega) (by first | decide | omega)
  have e4 := et 66 (by first | decide | omega) (by first | decide | omega)
  have hc := r_at hk0 (i := K.1.length - 1) (by omega) (j := (2100 * t + (K.1.length : Int) - 1)) (by omega)
  have hvy : (w_up (w_up S 237 154 (200 * t + (K.2.1.length : Int) - 1)) 237 155 ((K.2.1.getD (K.2.1.length - 1) (0, 0, 0, (0, 0, []), 0, 0, 0)).2.1 + 1)) 364 (2100 * t + (K.1.length : Int) - 1) = (K.1.getD (K.1.length - 1) (0, 0, [])).2.1 := rV_v hc (by omega)
  have hfn : aFs (-1) (K.1.getD (K.1.length - 1) (0, 0, [])).2.1 (-1) H 0 = -1 := hr.symm.trans hm.2.1
  obtain ⟨m1, m2, m3, m4⟩ := r_msb (u4 := (w_up (w_up S 237 154 (200 * t + (K.2.1.length : Int) - 1)) 237 155 ((K.2.1.getD (K.2.1.length - 1) (0, 0, 0, (0, 0, []), 0, 0, 0)).2.1 + 1)) 237 66) hH2 hW2 hq hwS hfn
  have lT : (tEp T (K.1.getD (K.1.length - 1) (0, 0, [])).2.1 0).length = T.length := tEp_l
  have ea : ∀ x : Int, x ≠ 87 → x ≠ 66 → (msZ (-1) (K.1.getD (K.1.length - 1) (0, 0, [])).2.1 (-1) (H.length : Int) ((w_up (w_up S 237 154 (200 * t + (K.2.1.length : Int) - 1)) 237 155 ((K.2.1.getD (K.2.1.length - 1) (0, 0, 0, (0, 0, []), 0, 0, 0)).2.1 + 1)) 237 66) (w_up (w_up S 237 154 (200 * t + (K.2.1.length : Int) - 1)) 237 155 ((K.2.1.getD (K.2.1.length - 1) (0, 0, 0, (0, 0, []), 0, 0, 0)).2.1 + 1))) 237 x = (w_up (w_up S 237 154 (200 * t + (K.2.1.length : Int) - 1)) 237 155 ((K.2.1.getD (K.2.1.length - 1) (0, 0, 0, (0, 0, []), 0, 0, 0)).2.1 + 1)) 237 x := fun x x0 x1 => m4 237 x (Or.inr ⟨x0, x1⟩) (Or.inl (by first | decide | omega)) (Or.inl (by first | decide | omega))
  refine rg_t h hs hi.1 hi.2.1 hi.2.2 (by first | decide | omega) (R := fun Z => w_up (w_up (w_up (ntZ 4 (T.length : Int) ((w_up (w_up S 237 154 (200 * t + (K.2.1.length : Int) - 1)) 237 155 ((K.2.1.getD (K.2.1.length - 1) (0, 0, 0, (0, 0, []), 0, 0, 0)).2.1 + 1)) 237 62) (msZ (-1) (K.1.getD (K.1.length - 1) (0, 0, [])).2.1 (-1) (H.length : Int) ((w_up (w_up S 237 154 (200 * t + (K.2.1.length : Int) - 1)) 237 155 ((K.2.1.getD (K.2.1.length - 1) (0, 0, 0, (0, 0, []), 0, 0, 0)).2.1 + 1)) 237 66) (w_up (w_up S 237 154 (200 * t + (K.2.1.length : Int) - 1)) 237 155 ((K.2.1.getD (K.2.1.length - 1) (0, 0, 0, (0, 0, []), 0, 0, 0)).2.1 + 1)))) 315 (T.length : Int) (H.length : Int)) 363 (2100 * t + (K.1.length : Int) - 1) 4) 364 (2100 * t + (K.1.length : Int) - 1) (T.length : Int) = Z) (wJ_mono (yb1o (H := H) (T := T) (n := (T.length : Int)) (q := (K.1.getD (K.1.length - 1) (0, 0, [])).2.1) (r := r) (mP_of h) hW2.1.1 ⟨by omega, by omega⟩ rfl ⟨by omega, by omega⟩ hc.1 hvy (by omega) hy hH2 hwS.1 ⟨hq.1.1, by have := hq.1.2; omega⟩ hr rfl (by rw [e4]; exact hu4)) (fun o Z hz => ?_)) (fun Z hz => ?_)
  · rcases hz with ⟨z, -⟩ | ⟨-, z, -⟩ | ⟨-, -, -, z3, z4⟩
    · exact absurd z (by rw [eu, e4]; omega)
    · omega
    · exact ⟨z3, z4⟩
  have hkM : rTk t (msZ (-1) (K.1.getD (K.1.length - 1) (0, 0, [])).2.1 (-1) (H.length : Int) ((w_up (w_up S 237 154 (200 * t + (K.2.1.length : Int) - 1)) 237 155 ((K.2.1.getD (K.2.1.length - 1) (0, 0, 0, (0, 0, []), 0, 0, 0)).2.1 + 1)) 237 66) (w_up (w_up S 237 154 (200 * t + (K.2.1.length : Int) - 1)) 237 155 ((K.2.1.getD (K.2.1.length - 1) (0, 0, 0, (0, 0, []), 0, 0, 0)).2.1 + 1))) K := rTk_fr hk0 (rTx_of (ea 19 (by first | decide | omega) (by first | decide | omega)) (ea 102 (by first | decide | omega) (by first | decide | omega)) (fun j x j0 j1 => m4 j x (by omega) (by omega) (by omega))) (fun j x j0 j1 => m4 j x (by omega) (by omega) (by omega))
  have hMM : w_ML (msZ (-1) (K.1.getD (K.1.length - 1) (0, 0, [])).2.1 (-1) (H.length : Int) ((w_up (w_up S 237 154 (200 * t + (K.2.1.length : Int) - 1)) 237 155 ((K.2.1.getD (K.2.1.length - 1) (0, 0, 0, (0, 0, []), 0, 0, 0)).2.1 + 1)) 237 66) (w_up (w_up S 237 154 (200 * t + (K.2.1.length : Int) - 1)) 237 155 ((K.2.1.getD (K.2.1.length - 1) (0, 0, 0, (0, 0, []), 0, 0, 0)).2.1 + 1))) := by
    rw [msZ_b ⟨hq.1.1, by
      have np := noP hwS.1 hq.1.1 hfn
      have e1 : (tO T (K.1.getD (K.1.length - 1) (0, 0, [])).2.1).2.2.2.2.1 = -1 := (hwS.2.2.2.2.2.2.1 _ hq.1.1 hq.1.2).mpr (fun s s0 s1 => np s.toNat (by omega))
      rw [(r_th hW2.1 hq.1.1 hq.1.2).2.2.2.2.2.1, if_pos e1]⟩]
    have := hq.1.1
    exact w_ML_up (w_ML_up (w_ML_up (w_ML_up (w_ML_up (w_ML_up (w_ML_up (w_ML_up (T0_ml h2) (by omega)) (by omega)) (by omega)) (by omega)) (by omega)) (by omega)) (by omega)) (by omega)
  have hfM : rTm t rMb S (msZ (-1) (K.1.getD (K.1.length - 1) (0, 0, [])).2.1 (-1) (H.length : Int) ((w_up (w_up S 237 154 (200 * t + (K.2.1.length : Int) - 1)) 237 155 ((K.2.1.getD (K.2.1.length - 1) (0, 0, 0, (0, 0, []), 0, 0, 0)).2.1 + 1)) 237 66) (w_up (w_up S 237 154 (200 * t + (K.2.1.length : Int) - 1)) 237 155 ((K.2.1.getD (K.2.1.length - 1) (0, 0, 0, (0, 0, []), 0, 0, 0)).2.1 + 1))) := fun j x o nn => by
    have n2 := nn
    unfold rMb rMk at n2
    exact (m4 j x (by omega) (by omega) (by omega)).trans (T0_f j x o)
  have hz2 : w_up (w_up (w_up (ntZ 4 ((tEp T (K.1.getD (K.1.length - 1) (0, 0, [])).2.1 0).length : Int) ((msZ (-1) (K.1.getD (K.1.length - 1) (0, 0, [])).2.1 (-1) (H.length : Int) ((w_up (w_up S 237 154 (200 * t + (K.2.1.length : Int) - 1)) 237 155 ((K.2.1.getD (K.2.1.length - 1) (0, 0, 0, (0, 0, []), 0, 0, 0)).2.1 + 1)) 237 66) (w_up (w_up S 237 154 (200 * t + (K.2.1.length : Int) - 1)) 237 155 ((K.2.1.getD (K.2.1.length - 1) (0, 0, 0, (0, 0, []), 0, 0, 0)).2.1 + 1))) 237 62) (msZ (-1) (K.1.getD (K.1.length - 1) (0, 0, [])).2.1 (-1) (H.length : Int) ((w_up (w_up S 237 154 (200 * t + (K.2.1.length : Int) - 1)) 237 155 ((K.2.1.getD (K.2.1.length - 1) (0, 0, 0, (0, 0, []), 0, 0, 0)).2.1 + 1)) 237 66) (w_up (w_up S 237 154 (200 * t + (K.2.1.length : Int) - 1)) 237 155 ((K.2.1.getD (K.2.1.length - 1) (0, 0, 0, (0, 0, []), 0, 0, 0)).2.1 + 1)))) 315 ((tEp T (K.1.getD (K.1.length - 1) (0, 0, [])).2.1 0).length : Int) (H.length : Int)) 363 (2100 * t + (K.1.length : Int) - 1) 4) 364 (2100 * t + (K.1.length : Int) - 1) ((tEp T (K.1.getD (K.1.length - 1) (0, 0, [])).2.1 0).length : Int) = Z := by
    rw [lT, ea 62 (by first | decide | omega) (by first | decide | omega)]; exact hz
  obtain ⟨q1, q2, q3, q4, q5, q6, q7⟩ := nt_tail (T := (tEp T (K.1.getD (K.1.length - 1) (0, 0, [])).2.1 0)) h hh1 hkM hMM ((ea 154 (by first | decide | omega) (by first | decide | omega)).trans T0_4) ((ea 155 (by first | decide | omega) (by first | decide | omega)).trans T0_5) hfM m2 m1 hz2
  rw [lT] at q2 q4
  exact ⟨q1, q2, q3, q4, q5, q6.trans (by rw [ea 62 (by first | decide | omega) (by first | decide | omega), eu]), (q7 66 (by first | decide | omega) (by first | decide | omega)).trans (m3.trans (by rw [e4])), fun x x0 x1 x2 x3 x4 x5 => (q7 x x0 x1).trans ((ea x x3 x2).trans (et x x4 x5))⟩
theorem rnb1m (h : stR t S K) (hs : S 357 t = 1) (hi : rIn S K 28 1 b) (hW : rWd S sl T L G) (hH : rHs S H) (hwS : wSh T H) (hu : (T.length : Int) ≤ S 237 62 ∧ S 237 62 ≤ 8000) (hu4 : 0 ≤ S 237 66 ∧ S 237 66 ≤ 4000 ∧ (H.length : Int) ≤ S 237 66 + 1) (hh1 : 1 ≤ K.1.length) (hy : (K.1.getD (K.1.length - 1) (0, 0, [])).1 = 4 ∨ (K.1.getD (K.1.length - 1) (0, 0, [])).1 = 5) (hq : isO T (K.1.getD (K.1.length - 1) (0, 0, [])).2.1) (hr : r = aFs (-1) (K.1.getD (K.1.length - 1) (0, 0, [])).2.1 (-1) H 0) (hm : 8000 ≤ S 237 62 ∨ (r = -1 ∧ 4000 ≤ S 237 66)) : rSn xs d t S K := by
  obtain ⟨h1, h2, h3, h4b, ⟨h7, h8, h9, h9b⟩, -⟩ := id h
  have hW2 : rWd (w_up (w_up S 237 154 (200 * t + (K.2.1.length : Int) - 1)) 237 155 ((K.2.1.getD (K.2.1.length - 1) (0, 0, 0, (0, 0, []), 0, 0, 0)).2.1 + 1)) sl T L G := rWd_T0 hW
  have hH2 : rHs (w_up (w_up S 237 154 (200 * t + (K.2.1.length : Int) - 1)) 237 155 ((K.2.1.getD (K.2.1.length - 1) (0, 0, 0, (0, 0, []), 0, 0, 0)).2.1 + 1)) H := rHs_up (rHs_up hH (by first | decide | omega)) (by first | decide | omega)
  have hk0 : rTk t (w_up (w_up S 237 154 (200 * t + (K.2.1.length : Int) - 1)) 237 155 ((K.2.1.getD (K.2.1.length - 1) (0, 0, 0, (0, 0, []), 0, 0, 0)).2.1 + 1)) K := T0_k h1
  have et : ∀ x : Int, x ≠ 154 → x ≠ 155 → (w_up (w_up S 237 154 (200 * t + (K.2.1.length : Int) - 1)) 237 155 ((K.2.1.getD (K.2.1.length - 1) (0, 0, 0, (0, 0, []), 0, 0, 0)).2.1 + 1)) 237 x = S 237 x := fun x x0 x1 => (w_up_at x1).trans (w_up_at x0)
  have eu := et 62 (by first | decide | omega) (by first | decide | omega)
  have e4 := et 66 (by first | decide | omega) (by first | decide | omega)
  have hc := r_at hk0 (i := K.1.length - 1) (by omega) (j := (2100 * t + (K.1.length : Int) - 1)) (by omega)
  have hvy : (w_up (w_up S 237 154 (200 * t + (K.2.1.length : Int) - 1)) 237 155 ((K.2.1.getD (K.2.1.length - 1) (0, 0, 0, (0, 0, []), 0, 0, 0)).2.1 + 1)) 364 (2100 * t + (K.1.length : Int) - 1) = (K.1.getD (K.1.length - 1) (0, 0, [])).2.1 := rV_v hc (by omega)
  refine rm_t h hs hi.1 hi.2.1 hi.2.2 (by first | decide | omega) (wJ_mono (yb1o (H := H) (T := T) (n := (T.length : Int)) (q := (K.1.getD (K.1.length - 1) (0, 0, [])).2.1) (r := r) (mP_of h) hW2.1.1 ⟨by omega, by omega⟩ rfl ⟨by omega, by omega⟩ hc.1 hvy (by omega) hy hH2 hwS.1 ⟨hq.1.1, by have := hq.1.2; omega⟩ hr rfl (by rw [e4]; exact hu4)) (fun o Z hz => ?_))
  rcases hz with ⟨-, z⟩ | ⟨z1, z2, -⟩ | ⟨z1, z2, z3, -⟩
  · exact z
  · rw [eu] at z1; omega
  · rw [eu] at z1; rw [e4] at z3; omega
theorem rnb1e (h : stR t S K) (hs : S 357 t = 1) (hi : rIn S K 28 1 b) (hh1 : 1 ≤ K.1.length) (hy : (K.1.getD (K.1.length - 1) (0, 0, [])).1 ≠ 0 ∧ (K.1.getD (K.1.length - 1) (0, 0, [])).1 ≠ 4 ∧ (K.1.getD (K.1.length - 1) (0, 0, [])).1 ≠ 5) : rSt xs d t S (kTh K (2, 12, [])) := by
  have hc := r_at (T0_k (x := (200 * t + (K.2.1.length : Int) - 1)) (y := (K.2.1.getD (K.2.1.length - 1) (0, 0, 0, (0, 0, []), 0, 0, 0)).2.1 + 1) h.1) (i := K.1.length - 1) (by omega) (j := (2100 * t + (K.1.length : Int) - 1)) (by omega)
  exact rx_t h hs hi.1 hi.2.1 hi.2.2 (by first | decide | omega) (by first | decide | omega) (yb1e (mP_of h) hc.1 rfl (by omega) hy)
theorem rnb2e (h : stR t S K) (hs : S 357 t = 1) (hi : rIn S K 28 2 b) (hh1 : 1 ≤ K.1.length) (hy : (K.1.getD (K.1.length - 1) (0, 0, [])).1 ≠ 4 ∧ (K.1.getD (K.1.length - 1) (0, 0, [])).1 ≠ 5) : rSt xs d t S (kTh K (2, 12, [])) := by
  have hc := r_at (T0_k (x := (200 * t + (K.2.1.length : Int) - 1)) (y := (K.2.1.getD (K.2.1.length - 1) (0, 0, 0, (0, 0, []), 0, 0, 0)).2.1 + 1) h.1) (i := K.1.length - 1) (by omega) (j := (2100 * t + (K.1.length : Int) - 1)) (by omega)
  exact rx_t h hs hi.1 hi.2.1 hi.2.2 (by first | decide | omega) (by first | decide | omega) (yb2e (mP_of h) hc.1 rfl (by omega) hy)
theorem rnb2 (h : stR t S K) (hs : S 357 t = 1) (hi : rIn S K 28 2 b) (hW : rWd S sl T L G) (hH : rHs S H) (hwS : wSh T H) (hT : (T.length : Int) ≤ 8000) (hh1 : 1 ≤ K.1.length) (hy : (K.1.getD (K.1.length - 1) (0, 0, [])).1 = 4 ∨ (K.1.getD (K.1.length - 1) (0, 0, [])).1 = 5) (hq : isO T (K.1.getD (K.1.length - 1) (0, 0, [])).2.1) : rSt xs d t S (kP K 1 (if aPr T H (K.1.getD (K.1.length - 1) (0, 0, [])).2.1 = -1 then (0, 0, []) else ((tO T (aPr T H (K.1.getD (K.1.length - 1) (0, 0, [])).2.1)).1, aPr T H (K.1.getD (K.1.length - 1) (0, 0, [])).2.1, []))) := by
  have hk0 : rTk t (w_up (w_up S 237 154 (200 * t + (K.2.1.length : Int) - 1)) 237 155 ((K.2.1.getD (K.2.1.length - 1) (0, 0, 0, (0, 0, []), 0, 0, 0)).2.1 + 1)) K := T0_k h.1
  have hc := r_at hk0 (i := K.1.length - 1) (by omega) (j := (2100 * t + (K.1.length : Int) - 1)) (by omega)
  have hvy : (w_up (w_up S 237 154 (200 * t + (K.2.1.length : Int) - 1)) 237 155 ((K.2.1.getD (K.2.1.length - 1) (0, 0, 0, (0, 0, []), 0, 0, 0)).2.1 + 1)) 364 (2100 * t + (K.1.length : Int) - 1) = (K.1.getD (K.1.length - 1) (0, 0, [])).2.1 := rV_v hc (by omega)
  have hs1 := wSh_sh hwS hq
  have hL := hwS.1.2.1
  have e5 := (r_th hW.1 hq.1.1 hq.1.2).2.1
  have e9 := (rHs_e hH hs1.1 hs1.2).1
  have f5 : (w_up (w_up S 237 154 (200 * t + (K.2.1.length : Int) - 1)) 237 155 ((K.2.1.getD (K.2.1.length - 1) (0, 0, 0, (0, 0, []), 0, 0, 0)).2.1 + 1)) 315 (K.1.getD (K.1.length - 1) (0, 0, [])).2.1 = (tO T (K.1.getD (K.1.length - 1) (0, 0, [])).2.1).2.1 := r_16 e5 (by first | decide | omega)
  have f9 : (w_up (w_up S 237 154 (200 * t + (K.2.1.length : Int) - 1)) 237 155 ((K.2.1.getD (K.2.1.length - 1) (0, 0, 0, (0, 0, []), 0, 0, 0)).2.1 + 1)) 329 (tO T (K.1.getD (K.1.length - 1) (0, 0, [])).2.1).2.1 = aPr T H (K.1.getD (K.1.length - 1) (0, 0, [])).2.1 := r_16 e9 (by first | decide | omega)
  have hg := wSh_pr hwS hq
  by_cases c : aPr T H (K.1.getD (K.1.length - 1) (0, 0, [])).2.1 = -1
  · rw [if_pos c]
    exact rg_t h hs hi.1 hi.2.1 hi.2.2 (by first | decide | omega) (yb2n (q := (K.1.getD (K.1.length - 1) (0, 0, [])).2.1) (mP_of h) hc.1 hvy (by omega) hy f5 ⟨hq.1.1, by have := hq.1.2; omega⟩ f9 ⟨hs1.1, by omega⟩ c) (fun Z hz => by subst hz; exact rp_1 h hh1 (rV_e (by first | decide | omega) rfl) rfl)
  · rw [if_neg c]
    have g := hg.elim (fun z => absurd z c) id
    have e7 := (r_th hW.1 g.1.1 g.1.2).1
    exact rg_t h hs hi.1 hi.2.1 hi.2.2 (by first | decide | omega) (yb2o (q := (K.1.getD (K.1.length - 1) (0, 0, [])).2.1) (mP_of h) hc.1 hvy (by omega) hy f5 ⟨hq.1.1, by have := hq.1.2; omega⟩ f9 ⟨hs1.1, by omega⟩ ⟨g.1.1, by have := g.1.2; omega⟩ (r_16 e7 (by first | decide | omega))) (fun Z hz => by subst hz; exact rp_1 h hh1 (rV_e (by have := g.2; omega) rfl) rfl)
end Wfc
