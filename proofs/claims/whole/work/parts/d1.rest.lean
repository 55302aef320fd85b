/-! PART d1: the class at rest behind a compile. -/
section Wd1
variable {xs : List (Nat × List Int32)} {M : Nat → Prop} {d : Nat} {A B C S Z : wS} {Q : wO → wS → Prop}
variable {f0 u a b op : Int} {I : List pz_I} {F : List pz_F} {x : pz_I} {k r : Nat}
variable {n p sb un : Int} {T : Int → Int} {N X : List (List Int)} {c m i2 : Nat} {Z1 S1 : wS} {F2 : List pz_F} {I2 : List pz_I}
/-- what the class keeps of code, between calls -/
def cK (N X : List (List Int)) (S : wS) : Prop := cN N X S ∧ (nt_L S ∧ va_L S ∧ S 64 (-1) ≤ 16383) ∧ (S 4 (-1) ≤ 1000000 ∧ S 3 (-1) ≤ 10000000) ∧ (S 32 (-1) = S 31 (-1) ∧ S 33 (-1) = S 31 (-1) ∧ 64 ≤ S 31 (-1) ∧ S 31 (-1) ≤ 40000 ∧ S 19 7 ≤ S 31 (-1)) ∧ si_L S ∧ dN (S 35) (S 36) (S 37) (S 40) (S 19 9) (S 19 16)
/-- words and tape, by the number of calls so far -/
def wk (m : Nat) (S : wS) : Prop := S 2 7 + S 0 1 ≤ ((m % 1000000 : Nat) : Int) ∧ S 2 1 + S 0 1 ≤ ((m / 1000000 : Nat) : Int) ∧ m % 1000000 ≤ 200000 ∧ m / 1000000 ≤ 2000000 ∧ S 0 1 ≤ 8176
/-- what compile leaves alone -/
def cfr (S Z : wS) : Prop := ∀ (j : Nat) (x : Int), j < 4000000 → j ≠ wG → (j = 1 ∨ j = 13 ∨ j = 20 ∨ j = 34 ∨ (47 ≤ j ∧ j ≤ 57) ∨ j = 61 ∨ j = 62 ∨ 72 ≤ j ∨ (j = 0 ∧ x ≠ 1)) → Z j x = S j x
theorem cN_01 {v : Int} (h : cN N X S) : cN N X (w_up S 0 1 v) := by
  have e : ∀ x : Nat, x ≤ 10 → (w_up S 0 1 v) (2 + x) = S (2 + x) := fun x hx => w_up_row (by omega)
  exact ⟨w2_ag h.1 e, fun k hk => wqL_eq (h.2.1 k hk) ⟨e 1 (by first | decide | omega), e 2 (by first | decide | omega), e 3 (by first | decide | omega)⟩, cL_eq h.2.2.1 e (Or.inl rfl), cL_eq h.2.2.2 e (Or.inr rfl)⟩
theorem cB_rm (n : Int) (S : wS) : rmR S (cB n S) := by
  unfold cB
  repeat (refine rmR_up ?_ (by first | decide | omega) (by first | decide | omega))
  exact rmR_rfl S
/-- the class's invariant, piece by piece -/
theorem cW_mk (h : cW S) (hC : w_CL Z) (hI : gI Z) (h2 : w2_I Z) (hR : hs_R Z) (h0 : Z 0 1 = 0) (e : cfr S Z) : cW Z := by
  obtain ⟨k1, k2, k3, k4, k5, k6, k7, k8, k9, k10, k11⟩ := h
  have hw : wG = 1000000 := rfl
  have r : ∀ j : Nat, (j = 1 ∨ (47 ≤ j ∧ j ≤ 57) ∨ (72 ≤ j ∧ j < 4000000)) → j ≠ wG → Z j = S j := fun j hj hg => funext fun x => e j x (by omega) hg (by omega)
  have l1 : Z 1 (-1) = S 1 (-1) := congrFun (r 1 (by omega) (by first | decide | omega)) _
  refine ⟨hC, hI, h2, hi_ag k4 (fun x hx => r _ (by omega) (by omega)) (congrFun (r 117 (by omega) (by first | decide | omega)) _) (congrFun (r 118 (by omega) (by first | decide | omega)) _), hi_ag k5 (fun x hx => r _ (by omega) (by omega)) (congrFun (r 206 (by omega) (by first | decide | omega)) _) (congrFun (r 207 (by omega) (by first | decide | omega)) _), hR, ?_, ?_, fun i i0 i1 => ?_, ?_, ?_⟩
  · rw [r 161 (by omega) (by first | decide | omega)]; exact k7
  · rw [h0, l1]; omega
  · omega
  · rw [r 48 (by omega) (by first | decide | omega)]; exact k10
  · rw [r 144 (by omega) (by first | decide | omega), r 145 (by omega) (by first | decide | omega), r 146 (by omega) (by first | decide | omega), r 147 (by omega) (by first | decide | omega), r 148 (by omega) (by first | decide | omega)]; exact k11
/-- the reader's part -/
theorem rq_fr (hrq : rq_I T n N X (cB n (w_up S 0 1 0)) A c) (h15 : S 15 (-1) ≤ 16383) (hn8 : n ≤ 8176) : (∀ (j : Nat) (x : Int), j < 4000000 → j ≠ wG → (j = 1 ∨ j = 13 ∨ 18 < j ∨ (j = 0 ∧ x ≠ 1)) → j ≠ 63 → A j x = S j x) ∧ A 0 1 = 0 ∧ (A 16 (-1) = A 15 (-1) ∧ A 17 (-1) = A 15 (-1) ∧ 64 ≤ A 15 (-1) ∧ A 15 (-1) ≤ 16383) ∧ (A 2 7 ≤ S 2 7 + n ∧ A 2 1 ≤ S 2 1 + n ∧ (A 4 (-1) ≤ S 4 (-1) ∨ A 4 (-1) ≤ 2 * A 2 7) ∧ (A 3 (-1) ≤ S 3 (-1) ∨ A 3 (-1) ≤ 2 * A 2 1)) ∧ rmR S A := by
  obtain ⟨g, q1, q2, q3, q4, q5, q6, q7, q8, q9⟩ := hrq
  obtain ⟨b1, b6, b7, b8, b9, b10, b11, b12, b13, b14, b15, b16, b17, b18⟩ := g
  have e : ∀ (j : Nat) (x : Int), (j ≠ 63 ∧ j ≠ 11 ∧ j ≠ 14) → (j ≠ 0 ∨ x ≠ 1) → cB n (w_up S 0 1 0) j x = S j x := fun j x h1 h2 => (cB_o h1).trans (w_up_no (by omega))
  have e2 : ∀ x : Int, cB n (w_up S 0 1 0) 2 x = S 2 x := fun x => e 2 x (by first | decide | omega) (Or.inl (by first | decide | omega))
  rw [e2] at q6 q7
  rw [e 4 (-1) (by first | decide | omega) (by first | decide | omega), e 3 (-1) (by first | decide | omega) (by first | decide | omega), e 15 (-1) (by first | decide | omega) (by first | decide | omega)] at b11
  have q15 := b11.2.2
  refine ⟨fun j x h1 h2 h3 h4 => (b12 j x h1 h2 (by omega)).trans (e j x (by omega) (by omega)), (b12 0 1 (by first | decide | omega) (by first | decide | omega) (by omega)).trans ((cB_o (by first | decide | omega)).trans (w_up_same _ _ _ _)), ⟨b16.2.1, b16.2.2.1, b16.2.2.2.1, by omega⟩, ⟨by omega, by omega, b11.1, b11.2.1⟩, rmR_tr (rmR_up (rmR_rfl S) (by first | decide | omega) (by first | decide | omega)) (rmR_tr (cB_rm n _) b18)⟩
theorem rq_fr0 (hrq : rq_I T n N X (cB n (w_up S 0 1 0)) A c) : ∀ (j : Nat) (x : Int), j < 4000000 → j ≠ wG → (j = 1 ∨ j = 13 ∨ 18 < j ∨ (j = 0 ∧ x ≠ 1)) → j ≠ 63 → A j x = S j x := by
  obtain ⟨g, -⟩ := hrq
  obtain ⟨b1, b6, b7, b8, b9, b10, b11, b12, b13, b14, b15, b16, b17, b18⟩ := g
  have e : ∀ (j : Nat) (x : Int), (j ≠ 63 ∧ j ≠ 11 ∧ j ≠ 14) → (j ≠ 0 ∨ x ≠ 1) → cB n (w_up S 0 1 0) j x = S j x := fun j x h1 h2 => (cB_o h1).trans (w_up_no (by omega))
  exact fun j x h1 h2 h3 h4 => (b12 j x h1 h2 (by omega)).trans (e j x (by omega) (by omega))
theorem ntL_ag (h : nt_L S) (e7 : Z 63 7 = S 63 7) (e : ∀ j : Nat, 64 ≤ j → j ≤ 67 → Z j (-1) = S j (-1)) : nt_L Z := by
  unfold nt_L
  rw [e7, e 64 (by first | decide | omega) (by first | decide | omega), e 65 (by first | decide | omega) (by first | decide | omega), e 66 (by first | decide | omega) (by first | decide | omega), e 67 (by first | decide | omega) (by first | decide | omega)]
  exact h
theorem vaL_ag (h : va_L S) (e13 : Z 63 13 = S 63 13) (e : ∀ j : Nat, 68 ≤ j → j ≤ 70 → Z j (-1) = S j (-1)) : va_L Z := by
  unfold va_L
  rw [e13, e 68 (by first | decide | omega) (by first | decide | omega), e 69 (by first | decide | omega) (by first | decide | omega), e 70 (by first | decide | omega) (by first | decide | omega)]
  exact h
/-- behind a unit that has come -/
theorem ck_s (hW : cW S) (hK : cK N X S) (hm : wk m S) (h01 : S 0 1 = n) (hrq : rq_I T n N X (cB n (w_up S 0 1 0)) A c) (hq : cQ T n N X c f0 f0 0 i2 (I2 ++ [(0, 0, 0, f0)] ++ [(29, 0, 0, f0)]) F2 S1) (hg : cQg f0 0 0 A S1) (hC : kC f0 (I2 ++ [(0, 0, 0, f0)] ++ [(29, 0, 0, f0)]) F2 un p sb (w_up S1 63 11 (-1)) Z) (hu : 0 ≤ un) : cW Z ∧ cK (NL T n N c) (XL T n X c) Z ∧ wk m Z ∧ Z 0 1 = 0 ∧ cfr S Z ∧ rmR S Z := by
  obtain ⟨fA, a01, aR, ⟨aw1, aw2, aw3, aw4⟩, arm⟩ := rq_fr hrq hW.2.2.2.2.2.1.2.2.2 (by have := hm.2.2.2.2; omega)
  obtain ⟨kc1, kR, kf, ⟨ks1, ks2⟩, ⟨kl1, kl2, kl3, kl4, kl5⟩, klen, kgI, krm⟩ := hC
  obtain ⟨q1, ⟨q2, q3⟩, ⟨q4, q5⟩, q6, q7, ⟨q8, q8b⟩, ⟨q9, q9b⟩, q10⟩ := hq
  have hw : wG = 1000000 := rfl
  have hf : 0 ≤ f0 := q6.2.2.1.1
  have z1 : ∀ (j : Nat) (x : Int), j < 4000000 → j ≠ wG → (j < 21 ∨ 46 < j ∨ (x < 0 ∧ 21 ≤ j ∧ j ≤ 30) ∨ j = 34) → j ≠ 58 → j ≠ 59 → j ≠ 60 → j ≠ 19 → (j ≠ 63 ∨ x ≠ 11) → Z j x = S1 j x := fun j x h1 h2 h3 h4 h5 h6 h7 h8 => (kf j x h1 h2 (by omega) h4 h5 h6 (Or.inl h7)).trans (w_up_no (by omega))
  have z2 : ∀ (j : Nat) (x : Int), j < 4000000 → j ≠ wG → j ≠ 63 → (j < 64 ∨ j = 68 ∨ 71 < j) → j ≠ 14 → (j < 21 ∨ 29 < j) → S1 j x = A j x := fun j x h1 h2 h3 h4 h5 h6 => hg.1 j x h1 h2 h3 (by omega) (by omega) (by omega) (by omega)
  have hfr : cfr S Z := fun j x h1 h2 h3 => (z1 j x h1 h2 (by omega) (by omega) (by omega) (by omega) (by omega) (by omega)).trans ((z2 j x h1 h2 (by omega) (by omega) (by omega) (by omega)).trans (fA j x h1 h2 (by omega) (by omega)))
  have hCL : w_CL Z := fun q hq => (z1 q.1 (-1) (by have := wz_lt q hq; omega) (by have := wz_lt q hq; omega) (by have := wz_fi q hq; omega) (by have := wz_fi q hq; omega) (by have := wz_fi q hq; omega) (by have := wz_fi q hq; omega) (by
    intro e
    have : ∀ q ∈ wz_n, q.1 ≠ 19 := by decide +kernel
    exact this q hq e) (by omega)).trans (q3 q hq)
  have e : ∀ x : Nat, x ≤ 10 → Z (2 + x) = A (2 + x) := fun x hx => funext fun y => (z1 (2 + x) y (by omega) (by omega) (by omega) (by omega) (by omega) (by omega) (by omega) (by omega)).trans (z2 (2 + x) y (by omega) (by omega) (by omega) (by omega) (by omega) (by omega))
  have hN := cN_s (cN_01 hK.1) hrq e
  have r15 : ∀ j : Nat, 15 ≤ j → j ≤ 17 → Z j (-1) = A j (-1) := fun j j0 j1 => (z1 j (-1) (by omega) (by omega) (by omega) (by omega) (by omega) (by omega) (by omega) (by omega)).trans (z2 j (-1) (by omega) (by omega) (by omega) (by omega) (by omega) (by omega))
  have h0 : Z 0 1 = 0 := (z1 0 1 (by first | decide | omega) (by first | decide | omega) (by first | decide | omega) (by first | decide | omega) (by first | decide | omega) (by first | decide | omega) (by first | decide | omega) (by first | decide | omega)).trans ((z2 0 1 (by first | decide | omega) (by first | decide | omega) (by first | decide | omega) (by first | decide | omega) (by first | decide | omega) (by first | decide | omega)).trans a01)
  have eZ2 : ∀ y : Int, Z 2 y = A 2 y := fun y => congrFun (e 0 (by first | decide | omega)) y
  have hcn : (c : Int) ≤ n := q1.1.2.2.2.2.1
  obtain ⟨w1, w2, w3⟩ := hm
  rw [h01] at w1 w2
  have zk : ∀ (j : Nat) (x : Int), 63 ≤ j → j ≤ 70 → (j ≠ 63 ∨ x ≠ 11) → Z j x = S1 j x := fun j x j0 j1 j2 => z1 j x (by omega) (by omega) (by omega) (by omega) (by omega) (by omega) (by omega) j2
  refine ⟨cW_mk hW hCL kgI hN.1 ⟨by rw [r15 16 (by first | decide | omega) (by first | decide | omega), r15 15 (by first | decide | omega) (by first | decide | omega)]; exact aR.1, by rw [r15 17 (by first | decide | omega) (by first | decide | omega), r15 15 (by first | decide | omega) (by first | decide | omega)]; exact aR.2.1, by rw [r15 15 (by first | decide | omega) (by first | decide | omega)]; exact aR.2.2.1, by rw [r15 15 (by first | decide | omega) (by first | decide | omega)]; exact aR.2.2.2⟩ h0 hfr, ⟨hN, ⟨ntL_ag q4 (zk 63 7 (by first | decide | omega) (by first | decide | omega) (by first | decide | omega)) (fun j j0 j1 => zk j (-1) (by omega) (by omega) (by omega)), vaL_ag q8 (zk 63 13 (by first | decide | omega) (by first | decide | omega) (by first | decide | omega)) (fun j j0 j1 => zk j (-1) (by omega) (by omega) (by omega)), by rw [zk 64 (-1) (by first | decide | omega) (by first | decide | omega) (by first | decide | omega)]; exact q9b⟩, ⟨?_, ?_⟩, ⟨kl1, kl2, kl4, kl5.1, by rw [kc1.2.2.1]; exact kl3⟩, ks1, ks2⟩, ⟨by rw [eZ2, h0]; omega, by rw [eZ2, h0]; omega, w3.1, w3.2.1, by rw [h0]; decide⟩, h0, hfr, rmR_tr arm (rmR_tr hg.2.2 (rmR_tr (rmR_up (rmR_rfl S1) (by first | decide | omega) (by first | decide | omega)) krm))⟩
  · have := hK.2.2.1.1
    rw [show Z 4 (-1) = A 4 (-1) from congrFun (e 2 (by first | decide | omega)) (-1)]
    omega
  · have := hK.2.2.1.2
    rw [show Z 3 (-1) = A 3 (-1) from congrFun (e 1 (by first | decide | omega)) (-1)]
    omega
/-- behind a refused one -/
theorem ck_f {v : Nat} {x0 : Int} (hW : cW S) (hK : cK N X S) (hm : wk m S) (h01 : S 0 1 = n) (hn : 0 ≤ n) (hrq : rq_I T n N X (cB n (w_up S 0 1 0)) A c) (hf : cQf f0 A Z1 v x0) (ht : tb_ag 2 1024 Z1 Z) : cW Z ∧ cK N X Z ∧ wk m Z ∧ Z 0 1 = 0 ∧ cfr S Z ∧ (∀ (j : Nat) (x : Int), ((18 < j ∧ j < 21) ∨ (29 < j ∧ j < 63)) → Z j x = S j x) ∧ (∀ (j : Nat) (x : Int), 21 ≤ j → j ≤ 29 → x < f0 → Z j x = S j x) ∧ xr_G S Z := by
  obtain ⟨fA, a01, aR, ⟨aw1, aw2, aw3, aw4⟩, arm⟩ := rq_fr hrq hW.2.2.2.2.2.1.2.2.2 (by have := hm.2.2.2.2; omega)
  obtain ⟨S1, ⟨hg, hnq⟩, hy⟩ := hf
  obtain ⟨y1, y2, y3, y4, y5, y6⟩ := hy
  have hw : wG = 1000000 := rfl
  have z0 : ∀ (j : Nat) (x : Int), j < 4000000 → j ≠ wG → (j ≠ 63 ∨ x ≠ 17) → (x < 0 ∨ ((j ≠ 7 ∧ j ≠ 8 ∧ j ≠ 12) ∧ j ≠ 2)) → Z j x = S1 j x := fun j x h1 h2 h3 h4 => (ht.2.2.2.2 j x (by omega)).trans (y2 j x h1 h2 h3)
  have z2 : ∀ (j : Nat) (x : Int), j < 4000000 → j ≠ wG → j ≠ 63 → (j < 64 ∨ j = 68 ∨ 71 < j) → j ≠ 14 → (j < 21 ∨ 29 < j ∨ x < f0) → S1 j x = A j x := fun j x h1 h2 h3 h4 h5 h6 => hg.1 j x h1 h2 h3 (by omega) (by omega) (by omega) h6
  have hfr : cfr S Z := fun j x h1 h2 h3 => (z0 j x h1 h2 (by omega) (by omega)).trans ((z2 j x h1 h2 (by omega) (by omega) (by omega) (by omega)).trans (fA j x h1 h2 (by omega) (by omega)))
  have hf2 : ∀ (j : Nat) (x : Int), ((18 < j ∧ j < 21) ∨ (29 < j ∧ j < 63)) → Z j x = S j x := fun j x hj => (z0 j x (by omega) (by omega) (by omega) (by omega)).trans ((z2 j x (by omega) (by omega) (by omega) (by omega) (by omega) (by omega)).trans (fA j x (by omega) (by omega) (by omega) (by omega)))
  have hCL : w_CL Z := fun q hq => (z0 q.1 (-1) (by have := wz_lt q hq; omega) (by have := wz_lt q hq; omega) (by omega) (by omega)).trans (hnq.1 q hq)
  have e1 : ∀ x : Nat, x ≤ 10 → Z1 (2 + x) = A (2 + x) := fun x hx => funext fun y => (y2 (2 + x) y (by omega) (by omega) (by omega)).trans (z2 (2 + x) y (by omega) (by omega) (by omega) (by omega) (by omega) (by omega))
  obtain ⟨hN, t7, t1⟩ := cN_f (cN_01 hK.1) hrq e1 ht
  have t7 : Z 2 7 = S 2 7 := t7
  have t1 : Z 2 1 = S 2 1 := t1
  have hgI : gI Z := gI_ag y3 (fun j hj => funext fun x => ht.2.2.2.2 j x (by omega))
  have r15 : ∀ j : Nat, 15 ≤ j → j ≤ 17 → Z j (-1) = A j (-1) := fun j j0 j1 => (z0 j (-1) (by omega) (by omega) (by omega) (by omega)).trans (z2 j (-1) (by omega) (by omega) (by omega) (by omega) (by omega) (by omega))
  have r3 : ∀ j : Nat, 3 ≤ j → j ≤ 4 → Z j (-1) = A j (-1) := fun j j0 j1 => (z0 j (-1) (by omega) (by omega) (by omega) (by omega)).trans (z2 j (-1) (by omega) (by omega) (by omega) (by omega) (by omega) (by omega))
  have h0 : Z 0 1 = 0 := (z0 0 1 (by first | decide | omega) (by first | decide | omega) (by first | decide | omega) (by first | decide | omega)).trans ((z2 0 1 (by first | decide | omega) (by first | decide | omega) (by first | decide | omega) (by first | decide | omega) (by first | decide | omega) (by omega)).trans a01)
  obtain ⟨w1, w2, w3⟩ := hm
  rw [h01] at w1 w2
  have zk : ∀ (j : Nat) (x : Int), 63 ≤ j → j ≤ 70 → (j ≠ 63 ∨ x ≠ 17) → Z j x = S1 j x := fun j x j0 j1 j2 => z0 j x (by omega) (by omega) j2 (by omega)
  have rr : ∀ j : Nat, 29 < j → j < 63 → Z j = S j := fun j j0 j1 => funext fun x => hf2 j x (by omega)
  refine ⟨cW_mk hW hCL hgI hN.1 ⟨by rw [r15 16 (by first | decide | omega) (by first | decide | omega), r15 15 (by first | decide | omega) (by first | decide | omega)]; exact aR.1, by rw [r15 17 (by first | decide | omega) (by first | decide | omega), r15 15 (by first | decide | omega) (by first | decide | omega)]; exact aR.2.1, by rw [r15 15 (by first | decide | omega) (by first | decide | omega)]; exact aR.2.2.1, by rw [r15 15 (by first | decide | omega) (by first | decide | omega)]; exact aR.2.2.2⟩ h0 hfr, ⟨hN, ⟨ntL_ag hnq.2.1 (zk 63 7 (by first | decide | omega) (by first | decide | omega) (by first | decide | omega)) (fun j j0 j1 => zk j (-1) (by omega) (by omega) (by omega)), vaL_ag hnq.2.2.1 (zk 63 13 (by first | decide | omega) (by first | decide | omega) (by first | decide | omega)) (fun j j0 j1 => zk j (-1) (by omega) (by omega) (by omega)), by rw [zk 64 (-1) (by first | decide | omega) (by first | decide | omega) (by first | decide | omega)]; exact hnq.2.2.2⟩, ⟨?_, ?_⟩, ?_, si_L_ag hK.2.2.2.2.1 (fun j x hj => hf2 j x (by omega)), ?_⟩, ⟨by rw [t7, h0]; omega, by rw [t1, h0]; omega, w3.1, w3.2.1, by rw [h0]; decide⟩, h0, hfr, hf2, fun j x j0 j1 j2 => (z0 j x (by omega) (by omega) (by omega) (by omega)).trans ((z2 j x (by omega) (by omega) (by omega) (by omega) (by omega) (by omega)).trans (fA j x (by omega) (by omega) (by omega) (by omega))), S1, rmR_tr arm hg.2.2, fun k hk => ?_, ?_, ?_⟩
  · have := hK.2.2.1.1
    rw [r3 4 (by first | decide | omega) (by first | decide | omega)]
    omega
  · have := hK.2.2.1.2
    rw [r3 3 (by first | decide | omega) (by first | decide | omega)]
    omega
  · rw [rr 31 (by first | decide | omega) (by first | decide | omega), rr 32 (by first | decide | omega) (by first | decide | omega), rr 33 (by first | decide | omega) (by first | decide | omega), hf2 19 7 (by omega)]
    exact hK.2.2.2.1
  · rw [rr 35 (by first | decide | omega) (by first | decide | omega), rr 36 (by first | decide | omega) (by first | decide | omega), rr 37 (by first | decide | omega) (by first | decide | omega), rr 40 (by first | decide | omega) (by first | decide | omega), hf2 19 9 (by omega), hf2 19 16 (by omega)]
    exact hK.2.2.2.2.2
  · exact z0 k (-1) (by omega) (by omega) (by omega) (by omega)
  · rw [ht.2.2.2.2 wG 0 (by omega)]; exact y4.1
  · rw [ht.2.2.2.2 wG 1 (by omega)]; exact y4.2.1
end Wd1
