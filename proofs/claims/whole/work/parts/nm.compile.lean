/-! PART nm: compile, with what it leaves of the pool and of texts that were made. -/
section Wnm0
variable {xs : List (Nat × List Int32)} {M : Nat → Prop} {d : Nat} {A B C S Z : wS} {Q : wO → wS → Prop}
variable {f0 u a b op : Int} {I : List pz_I} {F : List pz_F} {x : pz_I} {k r : Nat}
variable {n p sb un : Int} {T : Int → Int} {N X N2 X2 : List (List Int)} {c m pm pm2 i2 : Nat} {Z1 S1 Z2 : wS} {F2 : List pz_F} {I2 : List pz_I} {t0 m0 ob ph qh b b2 : Nat}
/-- what compile leaves of the tape's row and of the instructions' rows -/
def oP (S Z : wS) : Prop := Z 1 (-1) = S 1 (-1) ∧ (Z 31 (-1) ≤ S 31 (-1) ∨ Z 31 (-1) ≤ 2 * Z 19 7) ∧ Z 19 7 ≤ S 19 7 + S 0 1 + 16
/-- what compile leaves of the class's pool -/
def ct_P (S Z : wS) : Prop := cTx S Z ∧ rd_L Z ∧ (Z 3 (-1) ≤ S 3 (-1) ∨ Z 3 (-1) ≤ 2 * (S 2 1 + S 0 1)) ∧ (Z 4 (-1) ≤ S 4 (-1) ∨ Z 4 (-1) ≤ 2 * (S 2 7 + S 0 1)) ∧ oP S Z
/-- and of the reference's texts that were made -/
def c5T (S Z : wS) : Prop := (ct_P S Z ∧ Z 0 1 = 0) ∧ (gX S → ∀ (j : Nat) (x : Int), (((j = 284 ∨ j = 285) ∧ 4000 ≤ x) ∨ (j = 283 ∧ 69632 ≤ x)) → Z j x = S j x)
theorem ct_a (h01 : S 0 1 = n) (h0 : 0 ≤ n) (hrq : rq_I T n N X (cB n (w_up S 0 1 0)) A c) : ct_P S A := by
  have fA := rq_fr0 hrq
  have f1 := fA 1 (-1) (by decide) (by decide) (by omega) (by decide)
  have f31 := fA 31 (-1) (by decide) (by decide) (by omega) (by decide)
  have f19 := fA 19 7 (by decide) (by decide) (by omega) (by decide)
  obtain ⟨⟨⟨-, a2, -⟩, -, a3, -, -, -, ⟨a4, a5, -⟩, -, -, -, -, a6, -⟩, -, -, -, -, b1, b2, b3, -⟩ := hrq
  replace b2 : A 2 7 ≤ S 2 7 + (c : Int) := b2
  replace b3 : A 2 1 ≤ S 2 1 + n := b3
  replace a4 : A 4 (-1) ≤ S 4 (-1) ∨ A 4 (-1) ≤ 2 * A 2 7 := a4
  replace a5 : A 3 (-1) ≤ S 3 (-1) ∨ A 3 (-1) ≤ 2 * A 2 1 := a5
  exact ⟨⟨a2, fun x x0 x1 => a3 x x0 x1⟩, a6, by omega, by omega, f1, Or.inl (by omega), by omega⟩
theorem ct_to {B : wS} (h : ct_P S A) (h21 : S 2 1 ≤ B 2 1) (ho : oP S B) (e : ∀ (j : Nat) (x : Int), j = 3 ∨ (j = 4 ∧ x = -1) ∨ (j = 14 ∧ x = 3) ∨ ((j = 15 ∨ j = 16 ∨ j = 17) ∧ x = -1) → B j x = A j x) : ct_P S B := by
  obtain ⟨h1, h2, h3, h4, -⟩ := h
  unfold ct_P cTx rd_L at *
  rw [e 3 (-1) (by omega), e 4 (-1) (by omega), e 14 3 (by omega), e 15 (-1) (by omega), e 16 (-1) (by omega), e 17 (-1) (by omega)]
  exact ⟨⟨h21, fun x x0 x1 => (e 3 x (by omega)).trans (h1.2 x x0 x1)⟩, h2, h3, h4, ho⟩
theorem ct_s {I : List pz_I} (h01 : S 0 1 = n) (h0 : 0 ≤ n) (hp : p = S 19 7) (hIl : (I.length : Int) ≤ n + 16) (hrq : rq_I T n N X (cB n (w_up S 0 1 0)) A c) (hg : cQg f0 0 0 A S1) (hC : kC f0 I F un p sb (w_up S1 63 11 (-1)) Z) : ct_P S Z := by
  have hw : wG = 1000000 := rfl
  have e : ∀ (j : Nat) (x : Int), j = 1 ∨ (j = 2 ∧ x = 1) ∨ j = 3 ∨ (j = 4 ∧ x = -1) ∨ (j = 14 ∧ x = 3) ∨ ((j = 15 ∨ j = 16 ∨ j = 17) ∧ x = -1) → Z j x = A j x := fun j x hj => (hC.2.2.1 j x (by omega) (by omega) (by omega) (by omega) (by omega) (by omega) (by omega)).trans ((w_up_no (by omega)).trans (hg.1 j x (by omega) (by omega) (by omega) (by omega) (by omega) (by omega) (by omega)))
  have ha := ct_a h01 h0 hrq
  have fA := rq_fr0 hrq
  have g31 : (w_up S1 63 11 (-1)) 31 (-1) = S 31 (-1) := (w_up_no (by omega)).trans ((hg.1 31 (-1) (by omega) (by omega) (by omega) (by omega) (by omega) (by omega) (by omega)).trans (fA 31 (-1) (by decide) (by decide) (by omega) (by decide)))
  have k31 := hC.2.2.2.2.1.2.2.2.2.2
  have k19 := hC.1.2.2.1
  rw [g31] at k31
  have f1 : Z 1 (-1) = S 1 (-1) := (e 1 (-1) (by omega)).trans (fA 1 (-1) (by decide) (by decide) (by omega) (by decide))
  exact ct_to ha (by rw [e 2 1 (by omega)]; exact ha.1.1) ⟨f1, by omega, by omega⟩ (fun j x hj => e j x (by omega))
theorem ct_f {v : Nat} {x0 : Int} (h01 : S 0 1 = n) (h0 : 0 ≤ n) (hK : cK N X S) (hrq : rq_I T n N X (cB n (w_up S 0 1 0)) A c) (hf : cQf f0 A Z1 v x0) (ht : tb_ag 2 1024 Z1 Z) : ct_P S Z := by
  have hw : wG = 1000000 := rfl
  obtain ⟨S1, ⟨hg, hnq⟩, hy⟩ := hf
  obtain ⟨y1, y2, y3, y4, y5, y6⟩ := hy
  have z0 : ∀ (j : Nat) (x : Int), j < 4000000 → j ≠ wG → (j ≠ 63 ∨ x ≠ 17) → (x < 0 ∨ ((j ≠ 7 ∧ j ≠ 8 ∧ j ≠ 12) ∧ j ≠ 2)) → Z j x = S1 j x := fun j x h1 h2 h3 h4 => (ht.2.2.2.2 j x (by omega)).trans (y2 j x h1 h2 h3)
  have z2 : ∀ (j : Nat) (x : Int), j < 4000000 → j ≠ wG → j ≠ 63 → (j < 64 ∨ j = 68 ∨ 71 < j) → (j ≠ 14 ∨ x ≠ 4) → (j < 21 ∨ 29 < j ∨ x < f0) → S1 j x = A j x := fun j x h1 h2 h3 h4 h5 h6 => hg.1 j x h1 h2 h3 (by omega) (by omega) h5 h6
  have e1 : ∀ x : Nat, x ≤ 10 → Z1 (2 + x) = A (2 + x) := fun x hx => funext fun y => (y2 (2 + x) y (by omega) (by omega) (by omega)).trans (z2 (2 + x) y (by omega) (by omega) (by omega) (by omega) (by omega) (by omega))
  obtain ⟨hN, t7, t1⟩ := cN_f (cN_01 hK.1) hrq e1 ht
  replace t7 : Z 2 7 = S 2 7 := t7
  replace t1 : Z 2 1 = S 2 1 := t1
  have e : ∀ (j : Nat) (x : Int), j = 3 ∨ (j = 4 ∧ x = -1) ∨ (j = 14 ∧ x = 3) ∨ ((j = 15 ∨ j = 16 ∨ j = 17) ∧ x = -1) → Z j x = A j x := fun j x hj => (z0 j x (by omega) (by omega) (by omega) (by omega)).trans (z2 j x (by omega) (by omega) (by omega) (by omega) (by omega) (by omega))
  have fA := rq_fr0 hrq
  have f1 : Z 1 (-1) = S 1 (-1) := ((z0 1 (-1) (by omega) (by omega) (by omega) (by omega)).trans (z2 1 (-1) (by omega) (by omega) (by omega) (by omega) (by omega) (by omega))).trans (fA 1 (-1) (by decide) (by decide) (by omega) (by decide))
  have f31 : Z 31 (-1) = S 31 (-1) := ((z0 31 (-1) (by omega) (by omega) (by omega) (by omega)).trans (z2 31 (-1) (by omega) (by omega) (by omega) (by omega) (by omega) (by omega))).trans (fA 31 (-1) (by decide) (by decide) (by omega) (by decide))
  have f19 : Z 19 7 = S 19 7 := ((z0 19 7 (by omega) (by omega) (by omega) (by omega)).trans (z2 19 7 (by omega) (by omega) (by omega) (by omega) (by omega) (by omega))).trans (fA 19 7 (by decide) (by decide) (by omega) (by decide))
  exact ct_to (ct_a h01 h0 hrq) (by omega) ⟨f1, Or.inl (by omega), by omega⟩ e
theorem gX_ag (g : gX S) (e : ∀ (j : Nat) (x : Int), 237 ≤ j → j < 400 → Z j x = S j x) : gX Z := fun X9 h => by
  have e239 : Z 239 = S 239 := funext fun x => e 239 x (by omega) (by omega)
  have z := g X9 (by
    unfold mX at h ⊢
    rw [e 237 19 (by omega) (by omega), e 237 20 (by omega) (by omega), show Z 283 = S 283 from funext fun x => e 283 x (by omega) (by omega), show Z 284 = S 284 from funext fun x => e 284 x (by omega) (by omega), show Z 285 = S 285 from funext fun x => e 285 x (by omega) (by omega)] at h
    exact h)
  rw [e239, e 237 3 (by omega) (by omega)]
  exact z
theorem ct_P2 (h : ct_P S Z) (e : ∀ (j : Nat) (x : Int), j < 237 → Z2 j x = Z j x) : ct_P S Z2 := by
  have hz : Z2 2 1 = Z 2 1 := e 2 1 (by omega)
  unfold ct_P cTx rd_L oP at h ⊢
  rw [hz, e 1 (-1) (by omega), e 31 (-1) (by omega), e 19 7 (by omega), e 3 (-1) (by omega), e 4 (-1) (by omega), e 14 3 (by omega), e 15 (-1) (by omega), e 16 (-1) (by omega), e 17 (-1) (by omega)]
  exact ⟨⟨h.1.1, fun x x0 x1 => (e 3 x (by omega)).trans (h.1.2 x x0 x1)⟩, h.2⟩
theorem c5T_of (h : ct_P S Z) (h0 : Z 0 1 = 0) (f : ∀ (j : Nat) (x : Int), 237 ≤ j → j < 400 → Z j x = S j x) (hcp : cpr Z Z2) : c5T S Z2 := by
  have hw : wG = 1000000 := rfl
  have e : ∀ (j : Nat) (x : Int), j < 237 → Z2 j x = Z j x := fun j x hj => hcp j x (by omega) (by omega) (by omega) (by omega) (by omega) (by omega)
  refine ⟨⟨ct_P2 h e, (e 0 1 (by omega)).trans h0⟩, fun g j x hj => ?_⟩
  exact (hcp j x (by omega) (by omega) (by omega) (Or.inr (Or.inr ⟨gX_ag g f, hj⟩)) (by omega) (by omega)).trans (f j x (by omega) (by omega))
theorem c5T_kW {I : List pz_I} (h : ct_P S Z) (h0 : Z 0 1 = 0) (f : ∀ (j : Nat) (x : Int), 237 ≤ j → j < 400 → Z j x = S j x) (hk : kW f0 I F un p sb Z Z2) : c5T S Z2 := by
  have hw : wG = 1000000 := rfl
  have e : ∀ (j : Nat) (x : Int), j < 237 → Z2 j x = Z j x := fun j x hj => hk.2.2.1 j x (by omega) (by omega) (by omega) (by omega) (by omega) (by omega) (by omega) (by omega)
  refine ⟨⟨ct_P2 h e, (e 0 1 (by omega)).trans h0⟩, fun g j x hj => ?_⟩
  exact (hk.2.2.1 j x (by omega) (by omega) (by omega) (Or.inr (Or.inr ⟨gX_ag g f, hj⟩)) (by omega) (by omega) (by omega) (by omega)).trans (f j x (by omega) (by omega))
end Wnm0
section Wnm
variable {xs : List (Nat × List Int32)} {M : Nat → Prop} {d : Nat} {A B C S Z : wS} {Q : wO → wS → Prop}
variable {f0 u a b op : Int} {I : List pz_I} {F : List pz_F} {x : pz_I} {k r : Nat}
variable {n p sb un : Int} {T : Int → Int} {N X N2 X2 : List (List Int)} {c m pm pm2 i2 : Nat} {Z1 S1 Z2 : wS} {F2 : List pz_F} {I2 : List pz_I} {t0 m0 ob ph qh b b2 : Nat}
theorem c5G {fa : Int → Int} (hfa : mWf fa S) (hph : 72 < ph ∧ ph < 237) (hbb : 240 < b ∧ b + 19 < 281) (htt : 72 < t0 ∧ t0 + 4 < 237 ∧ 72 < m0 ∧ m0 + 14 < 237 ∧ 72 < ob ∧ ob < 237) {D : Nat} (hX : w_X xs) (hx101 : pe_at (pe_GA xs).xs 101 = some (1, tx_101)) (hx107 : pe_at (pe_GA xs).xs 107 = some (1, tx_101)) (hR : RA t0 m0 ob ph qh b b2 S) (hK : RK N X m pm S) (hrd : rd_L S) : wJ (pe_GA xs) wY0 (mS [3, 4, 5, 6, 7, 8, 9, 10, 15, 16, 17, 64, 65, 66, 67, 69, 70, 31, 32, 33, 35, 36, 37, 38, 39, 40, 41, 42, 43, 44, 45, 46, 58, 59]) (D + 546) t_X_compile ((pe_at t_X_compile.bl 0).getD (0, [])).2 [(0, (2, 0))] [] S (fun o1 Z => ∀ (M2 : Nat → Prop) (D2 : Nat), wJ (pe_GA xs) wY0 M2 (D2 + 1061) t_M_compile ((pe_at t_M_compile.bl 0).getD (0, [])).2 [(0, (2, 237))] [] Z (fun o2 Z2 => (∃ v : Int, o1 = .inl (some (0, v))) ∧ o1 = o2 ∧ ∃ (N2 X2 : List (List Int)) (pm2 : Nat), RA t0 m0 ob ph qh b b2 Z2 ∧ RK N2 X2 m pm2 Z2 ∧ rmB pm pm2 (24 * S 237 3 + 246) S Z2 ∧ c5P fa N X N2 X2 S Z2 ∧ c5T S Z2)) := by
  have hK0 := hK
  obtain ⟨k1, k2, ⟨k3, k4, k5, k6⟩, k7⟩ := hK
  obtain ⟨⟨c1, c2, c3, c4⟩, ⟨c5, c6, c7⟩, c8, ⟨c9, c10, c11, c12, c13⟩, c14, c15⟩ := k1
  obtain ⟨w1, w2, w3⟩ := k2
  obtain ⟨⟨m1, m2, m3, m4, m5, m6, m7, m8⟩, mww⟩ := k7
  have hR0 := hR
  obtain ⟨r1, r2, r3, ⟨r4, r5⟩, r6, r7, r8⟩ := hR
  have a8 := r1.2.2.2.2.2.2.2.1
  have a9 := r1.2.2.2.2.2.2.2.2.1
  have u7 := c1.1.1.1
  have u1 := c1.1.2.1.1
  have v7 := c1.2.2.2.2.1.1
  have v1 := c1.2.2.2.2.1.2
  have hw : wG = 1000000 := rfl
  refine wJ_mono (xc_w (D := D) (T := S 239) (n := S 237 3) (N := N) (X := X) (f0 := S 237 34) (un := S 237 33) (p := S 237 43) (sb := S 237 47) (wx_49 hX) hx101 r1.1 r1.2.1 ⟨by omega, by omega, by omega, by omega⟩ r6 (fun i i0 i1 => r7 i i0 (by omega)) (fun i i0 i1 => by rw [← r7 i i0 (by omega)]; exact a9 i i0 (by omega)) c1.1 c1.2.1 c1.2.2.1 r1.2.2.2.2.2.1 v7 c2 ⟨by omega, by omega, c8.1, c8.2⟩ c3 c4 c5 c6 c7 m1.1 m1.2 m2.1 m2.2 m3.1 ⟨m3.2.1, m3.2.2, by omega⟩ c9 c10 ⟨c11, c12⟩ c14 c15 m4.1) (fun o1 Z hz => ?_)
  intro M2 D2
  have ho1 : ∃ v : Int, o1 = .inl (some (0, v)) := by rcases hz with ⟨-, rfl, -⟩ | ⟨-, c, A, Z1, v, x, -, -, -, -, rfl⟩ | ⟨-, c, A, S1, i2, I2, F2, t, -, -, -, -, -, -, -, rfl⟩ <;> exact ⟨_, rfl⟩
  refine wJ_mono ?_ (fun o2 Z2 h9 => ⟨ho1, h9⟩)
  rcases hz with ⟨h16, rfl, rfl⟩ | ⟨hlt, c, A, Z1, v, x, hrq, hqf, hxF, htb, rfl⟩ | ⟨hlt, c, A, S1, i2, I2, F2, t, hrq, hD, hk0, hfit, hq, hg, hkC, rfl⟩
  · refine c5_rF (P9 := fun N2 X2 Z2 => c5P fa N X N2 X2 S Z2 ∧ c5T S Z2) (o := .inl 0) hph hbb htt hX hR0 hK0 (cW_01 r1 ⟨c1, c2, c3, c4⟩) cfr_01 (w_up_same _ _ _ _) ?_ (fun b0 b1 q => absurd q (by omega)) (fun _ _ _ _ q => by cases q) (fun v hv => ⟨?_, fun Z2 hcp => ⟨cK_01 hK0.1, ⟨?_, ?_, w3.1, w3.2.1, by rw [w_up_same]; decide⟩, ?_, fun y1 y2 => ?_⟩⟩) (fun _ _ _ _ q => by cases q)
    · exact rm6_R (rmR_up (rmR_rfl S) (by omega) (by decide))
    · rcases hv with ⟨-, rfl⟩ | ⟨q, -⟩ | ⟨q, -⟩ | ⟨q, -⟩
      · rfl
      · omega
      · omega
      · omega
    · show S 2 7 + 0 ≤ _; omega
    · show S 2 1 + 0 ≤ _; omega
    · have f : ∀ (j : Nat) (x : Int), j < 400 → j ≠ 0 → (j < 281 ∨ 292 < j) → j ≠ 237 → j ≠ 238 → j ≠ 240 → Z2 j x = S j x := fun j x q1 q2 q3 q4 q5 q6 => (hcp j x (by omega) (by omega) q6 (q3.imp id Or.inl) (by omega) (by omega)).trans (w_up_slot q2)
      exact mK_ag ⟨m1, m2, m3, m4, m5, m6, m7, m8⟩ (fun x => f 19 x (by first | decide | omega) (by first | decide | omega) (by first | decide | omega) (by first | decide | omega) (by first | decide | omega) (by first | decide | omega)) (fun x hx => (hcp 237 x (by first | decide | omega) (by first | decide | omega) (by first | decide | omega) (by first | decide | omega) (Or.inl (by first | decide | omega)) (by omega)).trans (w_up_slot (by first | decide | omega))) (fun j x hj _ _ => f j x (by omega) (by omega) (by omega) (by omega) (by omega) (by omega)) (fun j x hj _ _ => f j x (by omega) (by omega) (by omega) (by omega) (by omega) (by omega)) (fun j x hj _ _ => f j x (by omega) (by omega) (by omega) (by omega) (by omega) (by omega)) (fun j x hj _ _ => f j x (by omega) (by omega) (by omega) (by omega) (by omega) (by omega))
    · have f : ∀ (j : Nat) (x : Int), j < 400 → j ≠ 0 → (j < 281 ∨ 292 < j) → (j ≠ 237 ∨ (29 < x ∧ x < 59) ∨ 61 < x) → j ≠ 238 → j ≠ 240 → Z2 j x = S j x := fun j x q1 q2 q3 q4 q5 q6 => (hcp j x (by omega) (by omega) q6 (q3.imp id Or.inl) (by omega) (by omega)).trans (w_up_slot q2)
      refine ⟨?_, c5T_of (Z := w_up S 0 1 0) ⟨⟨Int.le_refl _, fun _ _ _ => rfl⟩, hrd, Or.inl (Int.le_refl _), Or.inl (Int.le_refl _), w_up_slot (by decide), Or.inl (Int.le_refl _), by show S 19 7 ≤ S 19 7 + S 0 1 + 16; have h0t := hR0.1.2.2.2.2.2.2.2.1.1; omega⟩ (w_up_same _ _ _ _) (fun j x j0 _ => w_up_slot (by omega)) hcp⟩
      exact c5P_f hfa (by omega) ⟨⟨m1, m2, m3, m4, m5, m6, m7, m8⟩, mww⟩ k3 k4 y1 y2 (fun j x hj => f j x (by omega) (by omega) (by omega) (by omega) (by omega) (by omega)) (fun x hx => f 237 x (by first | decide | omega) (by first | decide | omega) (by first | decide | omega) (by omega) (by first | decide | omega) (by first | decide | omega))
  · obtain ⟨g1, g2, g3, g4, g5, g6, g7, g8⟩ := ck_f r1 hK0.1 hK0.2.1 r6 (by omega) hrq hqf htb
    have hmK : ∀ Z2 : wS, cpr Z Z2 → mK Z2 := fun Z2 hcp => by
      have f : ∀ (j : Nat) (x : Int), ((18 < j ∧ j < 21) ∨ (29 < j ∧ j < 63) ∨ (292 < j ∧ j < 400)) → Z2 j x = S j x := fun j x hj => (hcp j x (by omega) (by omega) (by omega) (by omega) (by omega) (by omega)).trans (by
        by_cases e : j < 63
        · exact g6 j x (by omega)
        · exact g5 j x (by omega) (by omega) (by omega))
      have f2 : ∀ (j : Nat) (x : Int), 21 ≤ j → j ≤ 29 → x < S 237 34 → Z2 j x = S j x := fun j x j0 j1 j2 => (hcp j x (by omega) (by omega) (by omega) (by omega) (by omega) (by omega)).trans (g7 j x j0 j1 j2)
      exact mK_ag ⟨m1, m2, m3, m4, m5, m6, m7, m8⟩ (fun x => f 19 x (by omega)) (fun x hx => (hcp 237 x (by first | decide | omega) (by first | decide | omega) (by first | decide | omega) (by first | decide | omega) (Or.inl (by first | decide | omega)) (by omega)).trans (g5 237 x (by first | decide | omega) (by first | decide | omega) (by omega))) (fun j x hj _ x1 => by
        by_cases e : j ≤ 29
        · exact f2 j x (by omega) e x1
        · exact f j x (by omega)) (fun j x hj _ _ => f j x (by omega)) (fun j x hj _ _ => f j x (by omega)) (fun j x hj _ _ => f j x (by omega))
    have hcP : ∀ Z2 : wS, cpr Z Z2 → mN N Z2 → mX X Z2 → c5P fa N X N X S Z2 := fun Z2 hcp y1 y2 => by
      have f : ∀ (j : Nat) (x : Int), ((18 < j ∧ j < 21) ∨ (29 < j ∧ j < 63) ∨ (72 ≤ j ∧ j < 237) ∨ (241 ≤ j ∧ j ≤ 280) ∨ (292 < j ∧ j < 400) ∨ j = 13) → Z2 j x = S j x := fun j x hj => (hcp j x (by omega) (by omega) (by omega) (by omega) (by omega) (by omega)).trans (by
        by_cases e : (18 < j ∧ j < 21) ∨ (29 < j ∧ j < 63)
        · exact g6 j x e
        · exact g5 j x (by omega) (by omega) (by omega))
      exact c5P_f hfa (by omega) ⟨⟨m1, m2, m3, m4, m5, m6, m7, m8⟩, mww⟩ k3 k4 y1 y2 (fun j x hj => f j x (by omega)) (fun x hx => (hcp 237 x (by first | decide | omega) (by first | decide | omega) (by first | decide | omega) (by first | decide | omega) (Or.inl (by first | decide | omega)) (by omega)).trans (g5 237 x (by first | decide | omega) (by first | decide | omega) (by omega)))
    have hcT : ∀ Z2 : wS, cpr Z Z2 → c5T S Z2 := fun Z2 hcp => c5T_of (ct_f r6 (by omega) hK0.1 hrq hqf htb) g4 (fun j x j0 j1 => g5 j x (by omega) (by omega) (by omega)) hcp
    rcases hxF with ⟨q1, q2⟩ | ⟨q1, q2⟩ | ⟨q1, i2, I2, F2, t, q2, q3⟩
    · refine c5_rF (P9 := fun N2 X2 Z2 => c5P fa N X N2 X2 S Z2 ∧ c5T S Z2) (o := .inl 0) hph hbb htt hX hR0 hK0 g1 g5 g4 (xr_rm g8) (fun b0 b1 _ q => absurd q (by omega)) (fun _ _ _ _ q => by cases q) (fun v hv => ⟨?_, fun Z2 hcp => ⟨g2, g3, hmK Z2 hcp, fun y1 y2 => ⟨hcP Z2 hcp y1 y2, hcT Z2 hcp⟩⟩⟩) (fun _ _ _ _ q => by cases q)
      rcases hv with ⟨q, -⟩ | ⟨-, -, q⟩ | ⟨-, q, -⟩ | ⟨-, q, -⟩
      · omega
      · rcases q2 with ⟨a, b⟩ | ⟨a, b⟩
        · rcases q with ⟨a', b'⟩ | ⟨a', b'⟩
          · rw [b, b']
          · exact absurd a (fun z => z.elim a'.1 a'.2)
        · rcases q with ⟨a', b'⟩ | ⟨a', b'⟩
          · exact absurd a' (fun z => z.elim a.1 a.2)
          · rw [b, b']
      · omega
      · omega
    · refine c5_rF (P9 := fun N2 X2 Z2 => c5P fa N X N2 X2 S Z2 ∧ c5T S Z2) (o := .inl x) hph hbb htt hX hR0 hK0 g1 g5 g4 (xr_rm g8) (fun b0 b1 _ _ => q2 _ (rRA_C hX hx107)) (fun _ _ _ _ q => by cases q) (fun v hv => ⟨?_, fun Z2 hcp => ⟨g2, g3, hmK Z2 hcp, fun y1 y2 => ⟨hcP Z2 hcp y1 y2, hcT Z2 hcp⟩⟩⟩) (fun _ _ _ _ q => by cases q)
      rcases hv with ⟨q, -⟩ | ⟨-, q, -⟩ | ⟨-, -, q⟩ | ⟨-, -, i2, I2, F2, t, q, -⟩
      · omega
      · omega
      · rw [Sum.inl.inj q]
      · cases q
    · refine c5_rF (P9 := fun N2 X2 Z2 => c5P fa N X N2 X2 S Z2 ∧ c5T S Z2) (o := .inr (i2, I2, F2, t)) hph hbb htt hX hR0 hK0 g1 g5 g4 (xr_rm g8) (fun b0 b1 _ _ => q2 _ (rRA_C hX hx107)) (fun i3 I3 F3 t3 q => by cases q; exact ⟨cD_nK m1.2.1 q2, fun nn nx hV => q2 _ (RT_C hV)⟩) (fun v hv => ⟨?_, fun Z2 hcp => ⟨g2, g3, hmK Z2 hcp, fun y1 y2 => ⟨hcP Z2 hcp y1 y2, hcT Z2 hcp⟩⟩⟩) (fun i3 I3 F3 t3 q z1 z2 => by
        cases q
        rcases q3 with ⟨a, -⟩ | ⟨-, a, -⟩
        · exact absurd z1 a
        · exact absurd z2 a)
      rcases hv with ⟨q, -⟩ | ⟨-, q, -⟩ | ⟨-, -, q⟩ | ⟨-, -, i3, I3, F3, t3, q, z⟩
      · omega
      · omega
      · cases q
      · cases q
        rcases q3 with ⟨a, b⟩ | ⟨a, -, b⟩
        · rcases z with ⟨-, z⟩ | ⟨z, -⟩
          · rw [b, z]
          · exact absurd z a
        · rcases z with ⟨z, -⟩ | ⟨-, -, z⟩
          · exact absurd a z
          · rw [b, z]
  · obtain ⟨g1, g2, g3, g4, g5, g6⟩ := ck_s r1 hK0.1 hK0.2.1 r6 hrq hq hg hkC m2.2.1
    have ht := ck_t hrq hg hkC
    have hx1 := hq.1.1.2.2.2.2.1
    have hx2 := cQ_ic hq
    have hx3 := hq.2.2.2.2.2.2.1.1
    obtain ⟨q1, -, -, q6, q7, -⟩ := hq
    have hc : i2 = c := by
      have a := qx_at q1.1 q1.2
      have b1 := q1.2.2.1
      have hq := kq_cs (S 239) (S 237 3) N X i2
      have hs := sk_rx (lx_si (S 239) (S 237 3) 0 (tp (S 239) (S 237 3) 0 i2))
      have h0 := tk_x0 (T := S 239) (n := S 237 3) (h := 0) (p := tp (S 239) (S 237 3) 0 i2)
      have ha := a.2.2.2.1
      by_cases e : i2 < c
      · have := (ha e).1
        omega
      · omega
    have hF : S 237 34 + (F2.length : Int) ≤ 400 ∧ 0 < F2.length := by
      have a := q6.2.2.1
      have b := q7.2.2
      omega
    have hl3 : (((I2 ++ [((0, 0, 0, S 237 34) : pz_I)] ++ [(29, 0, 0, S 237 34)]).length : Nat) : Int) = (I2.length : Int) + 2 := by rw [List.length_append, List.length_append]; show ((I2.length + 1 + 1 : Nat) : Int) = _; omega
    have hs3 := pz_s_2 I2 (S 237 34)
    refine c5_rF (P9 := fun N2 X2 Z2 => c5P fa N X N2 X2 S Z2 ∧ c5T S Z2) (o := .inr (i2, I2, F2, t)) hph hbb htt hX hR0 hK0 g1 g5 g4 (rm6_R g6) (fun b0 b1 _ _ => hD _ (rRA_C hX hx107)) (fun i3 I3 F3 t3 q => by cases q; exact ⟨cD_nK m1.2.1 hD, fun nn nx hV => hD _ (RT_C hV)⟩) (fun v hv => ?_) (fun i3 I3 F3 t3 q z1 z2 => ?_)
    · exfalso
      rcases hv with ⟨q, -⟩ | ⟨-, q, -⟩ | ⟨-, -, q⟩ | ⟨-, -, i3, I3, F3, t3, q, z⟩
      · omega
      · omega
      · cases q
      · cases q
        rcases z with ⟨z, -⟩ | ⟨-, z, -⟩
        · exact z hk0
        · exact z hfit
    · cases q
      refine ⟨rfl, fun Z2 hkW => ⟨by rw [hc]; exact g2, g3, ?_, fun y1 y2 hTy => ?_⟩⟩
      rotate_left
      · refine ⟨?_, c5T_kW (ct_s r6 (by omega) (by omega) (by omega) hrq hg hkC) g4 (fun j x j0 j1 => g5 j x (by omega) (by omega) (by omega)) hkW⟩
        exact c5P_s hfa ⟨⟨m1, m2, m3, m4, m5, m6, m7, m8⟩, mww⟩ ⟨rfl, by omega⟩ (fun i i0 i1 => by rw [← r7 i i0 (by omega)]; exact a9 i i0 (by omega)) k3 k4 y1 y2 hF hkC hkW ht (fun j x hj => g5 j x (by omega) (by omega) (by omega)) (by omega) (fun x hx => ck_19 hrq hg hkC x hx) ((hD _ R10_C) _ _ _ _ rfl (fun q hq => by rw [List.mem_singleton.mp hq]; exact ⟨Int.le_refl _, Int.le_refl _⟩)) hTy
      have hz : (∀ (j : Nat) (x : Int), j ≠ wG → (j < 2000000 ∨ 4000000 ≤ j) → j ≠ 240 → (j < 281 ∨ 292 < j) → (j ≠ 238 ∨ (x ≠ 5 ∧ x ≠ 6)) → (j ≠ 237 ∨ (x < 0 ∨ x = 1 ∨ x = 2 ∨ (12 < x ∧ x < 16) ∨ (16 < x ∧ x < 19) ∨ (20 < x ∧ x < 25) ∨ (29 < x ∧ x < 59) ∨ 61 < x)) → ((j < 293 ∨ 313 < j) ∧ j ≠ 376) → (j ≠ 237 ∨ (x ≠ 33 ∧ x ≠ 34 ∧ x ≠ 43 ∧ x ≠ 47 ∧ x ≠ 48)) → Z2 j x = Z j x) := fun j x q1 q2 q3 q4 q5 q6 q7 q8 => hkW.2.2.1 j x q1 q2 q3 (q4.imp id Or.inl) q5 q6 (by omega) q8
      have lo := lo_c5 hz
      obtain ⟨y1, y2, y3, y4⟩ := hkW
      refine mK_s (I := I2 ++ [(0, 0, 0, S 237 34)] ++ [(29, 0, 0, S 237 34)]) (F := F2) ⟨m1, m2, m3, m4, m5, m6, m7, m8⟩ rfl rfl rfl rfl hF hlt ⟨by omega, by omega⟩ q6.2.2.2.2.1 (by rw [lo 19 (by first | decide | omega), lo 30 (by first | decide | omega)]; exact hkC.1) (fun k hk => cR_ag (hkC.2.1 k hk) lo) y1 y2 (fun j x hj x0 x1 => ?_) (fun j x hj x0 x1 => ?_) (fun j x hj x0 x1 => ?_) (fun j x hj x0 x1 => ?_)
      · by_cases e : j < 237
        · rw [lo j e]; exact ht j x (by omega)
        · rw [y3 j x (by omega) (by omega) (by omega) (by omega) (by omega) (by omega) (by omega) (by omega)]; exact g5 j x (by omega) (by omega) (by omega)
      · by_cases e : j < 237
        · rw [lo j e]; exact ht j x (by omega)
        · rw [y3 j x (by omega) (by omega) (by omega) (by omega) (by omega) (by omega) (by omega) (by omega)]; exact g5 j x (by omega) (by omega) (by omega)
      · by_cases e : j < 237
        · rw [lo j e]; exact ht j x (by omega)
        · rw [y3 j x (by omega) (by omega) (by omega) (by omega) (by omega) (by omega) (by omega) (by omega)]; exact g5 j x (by omega) (by omega) (by omega)
      · by_cases e : j < 237
        · rw [lo j e]; exact ht j x (by omega)
        · rw [y3 j x (by omega) (by omega) (by omega) (by omega) (by omega) (by omega) (by omega) (by omega)]; exact g5 j x (by omega) (by omega) (by omega)
end Wnm
