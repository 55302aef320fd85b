/-! PART g0: spellNumber of the reference. -/
section Wg0
variable {xs : List (Nat × List Int32)} {M : Nat → Prop} {d : Nat} {S Z A B : wS} {Q : wO → wS → Prop} {b : Bool} {c : Int} {l l2 : List Int} {tx : List Int32}
/-- a list has come behind what is spelled -/
def spL (c : Int) (l : List Int) (S Z : wS) : Prop := (∀ k : Nat, k < l.length → Z 345 (c + (k : Int)) = l.getD k 0) ∧ Z 237 113 = c + (l.length : Int) ∧ (∀ (j : Nat) (x : Int), (j ≠ 345 ∨ x < c ∨ c + (l.length : Int) ≤ x) → (j ≠ 237 ∨ x ≠ 113) → Z j x = S j x) ∧ w_ML Z
theorem spL_ap (h : spL c l S A) (g : spL (c + (l.length : Int)) l2 A Z) : spL c (l ++ l2) S Z := by
  obtain ⟨h1, h2, h3, h4⟩ := h
  obtain ⟨g1, g2, g3, g4⟩ := g
  have ll : (l ++ l2).length = l.length + l2.length := List.length_append
  refine ⟨fun k hk => ?_, by rw [g2, ll]; omega, fun j x j0 j1 => (g3 j x (by omega) j1).trans (h3 j x (by omega) j1), g4⟩
  rw [ll] at hk
  by_cases q : k < l.length
  · rw [g3 345 _ (Or.inr (Or.inl (by omega))) (Or.inl (by first | decide | omega)), h1 k q, List.getD_eq_getElem?_getD, List.getD_eq_getElem?_getD, List.getElem?_append_left q]
  · have e := g1 (k - l.length) (by omega)
    rw [show c + (l.length : Int) + ((k - l.length : Nat) : Int) = c + (k : Int) by omega] at e
    rw [e, List.getD_eq_getElem?_getD, List.getD_eq_getElem?_getD, List.getElem?_append_right (by omega)]
theorem spL_1 {v w : Int} (hM : w_ML S) (hc : 0 ≤ c) (hv : v = w) : spL c [w] S (w_up (w_up S 345 c v) 237 113 (c + 1)) := by
  have l1 : (([w] : List Int).length : Int) = 1 := rfl
  refine ⟨fun k hk => ?_, by rw [l1]; exact w_up_same _ _ _ _, fun j x j0 j1 => ?_, w_ML_up (w_ML_up hM hc) (by first | decide | omega)⟩
  · have k0 : k = 0 := by
      have : ([w] : List Int).length = 1 := rfl
      omega
    rw [k0, show c + ((0 : Nat) : Int) = c by omega]
    exact (w_up_slot (by first | decide | omega)).trans ((w_up_same _ _ _ _).trans hv)
  · rw [l1] at j0
    exact (w_up_no (by omega)).trans (w_up_no (by omega))
theorem spL_0 (hM : w_ML S) (h : S 237 113 = c) : spL c [] S S := ⟨fun k hk => absurd hk (Nat.not_lt_zero _), h.trans (Int.add_zero c).symm, fun _ _ _ _ => rfl, hM⟩
theorem spA_L (h : spA c tx S Z) : spL c (tx.map (fun z => z.toInt)) S Z := by
  obtain ⟨h1, h2, h3, h4⟩ := h
  refine ⟨fun k hk => ?_, by rw [List.length_map]; exact h2, fun j x j0 j1 => h3 j x (by rw [List.length_map] at j0; exact j0) j1, h4⟩
  rw [List.length_map] at hk
  rw [h1 k hk]
  unfold w_tx
  rw [show ((k : Int)).toNat = k by omega, List.getD_eq_getElem?_getD, List.getD_eq_getElem?_getD, List.getElem?_map, List.getElem?_eq_getElem hk]
  rfl
theorem un_s {u u2 : Nat} (h : u = u2 * 10) (hu : u ≤ 9223372036854775807) : wb_ldiv (u : Int) 10 = (u2 : Int) := by
  have e := ld_s (b := false) (n := u) (m := 10) ⟨by show -9223372036854775808 ≤ (u : Int); omega, by show (u : Int) ≤ 9223372036854775807; omega⟩ ⟨by decide, by decide⟩
  have e2 : u / 10 = u2 := by omega
  rw [e2] at e
  exact e
theorem un_0 : wb_ldiv ((1 : Nat) : Int) 10 = 0 := by
  have e := ld_s (b := false) (n := 1) (m := 10) ⟨by decide, by decide⟩ ⟨by decide, by decide⟩
  exact e
theorem p18 {k : Nat} (hk : k ≤ 18) : 0 < 10 ^ k ∧ 10 ^ k ≤ 1000000000000000000 := ⟨Nat.pow_pos (by first | decide | omega), Nat.pow_le_pow_right (n := 10) (by first | decide | omega) hk⟩
set_option maxHeartbeats 4000000 in
theorem nd_l {n : Nat} (hr : sgR b n) : ∀ (k u : Nat) (c : Int) (S : wS), u = 10 ^ k → k ≤ 18 → w_ML S → S 237 113 = c → 0 ≤ c → c + (k : Int) + 1 ≤ 256 → wJ (pe_GA xs) wY0 M (d + 1) t_M_spellNumber ((pe_at t_M_spellNumber.bl 4).getD (0, [])).2 [(0, (2, 237)), (1, (1, sgV b n)), (3, (1, (u : Int)))] [] S (fun o Z => o = .inl none ∧ spL c (dgU k n) S Z) := by
  intro k
  induction k with
  | zero =>
    intro u c S hu hk hM h13 hc0 hc1
    have hu1 : u = 1 := hu
    subst hu1
    have hqe : n / 1 = n := Nat.div_one n
    obtain ⟨u, hu0⟩ : ∃ u : Nat, u = 1 := ⟨_, rfl⟩
    rw [show ((1 : Nat) : Int) = (u : Int) by rw [hu0]]
    have hul : u ≤ 1000000000000000000 := by omega
    obtain ⟨q, hq⟩ : ∃ q : Nat, q = n / u := ⟨_, rfl⟩
    have hqn : q ≤ n := by rw [hq]; exact Nat.div_le_self n u
    have hrq := sgR_le hr hqn
    have hrq2 : -9223372036854775808 ≤ sgV b q ∧ sgV b q ≤ 9223372036854775807 := hrq
    have hdv : wb_ldiv (sgV b n) (u : Int) = sgV b q := by rw [hq]; exact ld_s hr ⟨by omega, by omega⟩
    have hrm : wb_lrem (sgV b q) 10 = sgV b (q % 10) := lr_s (m := 10) hrq ⟨by decide, by decide⟩
    have hd := sgV_c (b := b) (q % 10)
    refine wa_lload_n (n := 3) rfl ?_
    refine wb_lconst (m := 0) rfl ?_
    refine wa_lcmp (w_rg1 (by omega) (by omega)) (w_rg1 (by omega) (by omega)) ?_
    refine wa_ifle (by have := @wb_lcmp_cases; exact w_lcmp_rg) ⟨_, rfl⟩ (fun c1 => ?_) (fun c1 => ?_)
    · skip
      have c1x := @wb_lcmp_cases (u : Int) 0
      exfalso; omega
    · skip
      have c1x := @wb_lcmp_cases (u : Int) 0
      refine wa_lload_n (n := 1) rfl ?_
      refine wa_lload_n (n := 3) rfl ?_
      refine wa_ldiv (w_rg1 (by omega) (by omega)) (by omega) ?_
      rw [hdv]
      refine wb_kl (n := 10) rfl ?_
      refine wa_lrem (w_rg1 (by omega) (by omega)) (by omega) ?_
      rw [hrm]
      refine wa_lstore (n := 5) rfl ?_
      refine wa_aload_n (n := 0) rfl ?_
      refine wb_gf4 237 rfl (wy_pr rfl) wt_237 wf_15_112 (v := 345) wl_237_112 ?_
      refine wa_aload_n (n := 0) rfl ?_
      refine wb_gfi 237 rfl (wy_pr rfl) wt_237 wf_15_113 (v := c) (h13) (fun r2 => ?_)
      refine wb_kl (n := 48) rfl ?_
      refine wa_lload (n := 5) rfl ?_
      refine wb_lconst (m := 0) rfl ?_
      refine wa_lcmp (w_rg1 (by omega) (by omega)) (w_rg1 (by omega) (by omega)) ?_
      refine wa_ifge (by have := @wb_lcmp_cases; exact w_lcmp_rg) ⟨_, rfl⟩ (fun c3 => ?_) (fun c3 => ?_)
      · skip
        have c3x := @wb_lcmp_cases (sgV b (q % 10)) 0
        refine wa_lload (n := 5) rfl ?_
        refine wa_fall ⟨_, rfl⟩ ?_
        refine wa_ladd ?_
        refine wb_l2i_r (wb_l2i_id ⟨(by omega), (by omega)⟩) ?_
        refine wb_i2b_r (wb_i2b_id ⟨(by omega), (by omega)⟩) ?_
        refine wb_bast 345 rfl (wy_pr rfl) wt_345 (n := 256) ((ml_345 hM)) (by omega) (by omega) ⟨(by omega), (by omega)⟩ ?_
        refine wa_aload_n (n := 0) rfl ?_
        refine wa_dup (by decide) ?_
        refine wb_gfi 237 rfl (wy_pr rfl) wt_237 wf_15_113 (v := c) ((w_up_slot (by decide)).trans (h13)) (fun r4 => ?_)
        refine wa_iconst ?_
        refine wa_iadd ?_
        refine wb_pfi 237 rfl (wy_pr rfl) wt_237 wf_15_113 (n := 113) rfl ⟨(by omega), (by omega)⟩ ?_
        refine wa_lload_n (n := 3) rfl ?_
        refine wb_kl (n := 10) rfl ?_
        refine wa_ldiv (w_rg1 (by omega) (by omega)) (by omega) ?_
        rw [show wb_ldiv (u : Int) 10 = 0 by rw [hu0]; exact un_0]
        refine wa_lstore_n (n := 3) rfl ?_
        refine wa_goto ⟨_, rfl⟩ ?_
        have h1 : spL c [48 + ((q % 10 : Nat) : Int)] S (w_up (w_up S 345 c (48 + (sgV b (q % 10)))) 237 113 (c + 1)) := spL_1 hM hc0 (by omega)
        have e1 : dgU 0 n = [48 + ((q % 10 : Nat) : Int)] := by rw [hq, hu0, Nat.div_one]; rfl
        rw [e1]
        refine wa_lload_n (n := 3) rfl ?_
        refine wb_lconst (m := 0) rfl ?_
        refine wa_lcmp (w_rg1 (by omega) (by omega)) (w_rg1 (by omega) (by omega)) ?_
        refine wa_ifle (by have := @wb_lcmp_cases; exact w_lcmp_rg) ⟨_, rfl⟩ (fun c5 => ?_) (fun c5 => ?_)
        · skip
          have c5x := @wb_lcmp_cases 0 0
          refine wa_return rfl ?_
          exact ⟨rfl, h1⟩
        · skip
          have c5x := @wb_lcmp_cases 0 0
          exfalso; omega
      · skip
        have c3x := @wb_lcmp_cases (sgV b (q % 10)) 0
        refine wa_lload (n := 5) rfl ?_
        refine wa_lneg ?_
        refine wa_goto ⟨_, rfl⟩ ?_
        refine wa_ladd ?_
        refine wb_l2i_r (wb_l2i_id ⟨(by omega), (by omega)⟩) ?_
        refine wb_i2b_r (wb_i2b_id ⟨(by omega), (by omega)⟩) ?_
        refine wb_bast 345 rfl (wy_pr rfl) wt_345 (n := 256) ((ml_345 hM)) (by omega) (by omega) ⟨(by omega), (by omega)⟩ ?_
        refine wa_aload_n (n := 0) rfl ?_
        refine wa_dup (by decide) ?_
        refine wb_gfi 237 rfl (wy_pr rfl) wt_237 wf_15_113 (v := c) ((w_up_slot (by decide)).trans (h13)) (fun r6 => ?_)
        refine wa_iconst ?_
        refine wa_iadd ?_
        refine wb_pfi 237 rfl (wy_pr rfl) wt_237 wf_15_113 (n := 113) rfl ⟨(by omega), (by omega)⟩ ?_
        refine wa_lload_n (n := 3) rfl ?_
        refine wb_kl (n := 10) rfl ?_
        refine wa_ldiv (w_rg1 (by omega) (by omega)) (by omega) ?_
        rw [show wb_ldiv (u : Int) 10 = 0 by rw [hu0]; exact un_0]
        refine wa_lstore_n (n := 3) rfl ?_
        refine wa_goto ⟨_, rfl⟩ ?_
        have h1 : spL c [48 + ((q % 10 : Nat) : Int)] S (w_up (w_up S 345 c (48 + (-(sgV b (q % 10))))) 237 113 (c + 1)) := spL_1 hM hc0 (by omega)
        have e1 : dgU 0 n = [48 + ((q % 10 : Nat) : Int)] := by rw [hq, hu0, Nat.div_one]; rfl
        rw [e1]
        refine wa_lload_n (n := 3) rfl ?_
        refine wb_lconst (m := 0) rfl ?_
        refine wa_lcmp (w_rg1 (by omega) (by omega)) (w_rg1 (by omega) (by omega)) ?_
        refine wa_ifle (by have := @wb_lcmp_cases; exact w_lcmp_rg) ⟨_, rfl⟩ (fun c7 => ?_) (fun c7 => ?_)
        · skip
          have c7x := @wb_lcmp_cases 0 0
          refine wa_return rfl ?_
          exact ⟨rfl, h1⟩
        · skip
          have c7x := @wb_lcmp_cases 0 0
          exfalso; omega
  | succ k ih =>
    intro u c S hu hk hM h13 hc0 hc1
    have hu0 := (p18 hk).1
    have hul := (p18 hk).2
    rw [← hu] at hu0 hul
    obtain ⟨u2, hu2⟩ : ∃ u2 : Nat, u2 = 10 ^ k := ⟨_, rfl⟩
    have huu : u = u2 * 10 := by rw [hu, hu2]; exact Nat.pow_succ 10 k
    have hun := un_s huu (by omega)
    obtain ⟨q, hq⟩ : ∃ q : Nat, q = n / u := ⟨_, rfl⟩
    have hqn : q ≤ n := by rw [hq]; exact Nat.div_le_self n u
    have hrq := sgR_le hr hqn
    have hrq2 : -9223372036854775808 ≤ sgV b q ∧ sgV b q ≤ 9223372036854775807 := hrq
    have hdv : wb_ldiv (sgV b n) (u : Int) = sgV b q := by rw [hq]; exact ld_s hr ⟨by omega, by omega⟩
    have hrm : wb_lrem (sgV b q) 10 = sgV b (q % 10) := lr_s (m := 10) hrq ⟨by decide, by decide⟩
    have hd := sgV_c (b := b) (q % 10)
    refine wa_lload_n (n := 3) rfl ?_
    refine wb_lconst (m := 0) rfl ?_
    refine wa_lcmp (w_rg1 (by omega) (by omega)) (w_rg1 (by omega) (by omega)) ?_
    refine wa_ifle (by have := @wb_lcmp_cases; exact w_lcmp_rg) ⟨_, rfl⟩ (fun c101 => ?_) (fun c101 => ?_)
    · skip
      have c101x := @wb_lcmp_cases (u : Int) 0
      exfalso; omega
    · skip
      have c101x := @wb_lcmp_cases (u : Int) 0
      refine wa_lload_n (n := 1) rfl ?_
      refine wa_lload_n (n := 3) rfl ?_
      refine wa_ldiv (w_rg1 (by omega) (by omega)) (by omega) ?_
      rw [hdv]
      refine wb_kl (n := 10) rfl ?_
      refine wa_lrem (w_rg1 (by omega) (by omega)) (by omega) ?_
      rw [hrm]
      refine wa_lstore (n := 5) rfl ?_
      refine wa_aload_n (n := 0) rfl ?_
      refine wb_gf4 237 rfl (wy_pr rfl) wt_237 wf_15_112 (v := 345) wl_237_112 ?_
      refine wa_aload_n (n := 0) rfl ?_
      refine wb_gfi 237 rfl (wy_pr rfl) wt_237 wf_15_113 (v := c) (h13) (fun r102 => ?_)
      refine wb_kl (n := 48) rfl ?_
      refine wa_lload (n := 5) rfl ?_
      refine wb_lconst (m := 0) rfl ?_
      refine wa_lcmp (w_rg1 (by omega) (by omega)) (w_rg1 (by omega) (by omega)) ?_
      refine wa_ifge (by have := @wb_lcmp_cases; exact w_lcmp_rg) ⟨_, rfl⟩ (fun c103 => ?_) (fun c103 => ?_)
      · skip
        have c103x := @wb_lcmp_cases (sgV b (q % 10)) 0
        refine wa_lload (n := 5) rfl ?_
        refine wa_fall ⟨_, rfl⟩ ?_
        refine wa_ladd ?_
        refine wb_l2i_r (wb_l2i_id ⟨(by omega), (by omega)⟩) ?_
        refine wb_i2b_r (wb_i2b_id ⟨(by omega), (by omega)⟩) ?_
        refine wb_bast 345 rfl (wy_pr rfl) wt_345 (n := 256) ((ml_345 hM)) (by omega) (by omega) ⟨(by omega), (by omega)⟩ ?_
        refine wa_aload_n (n := 0) rfl ?_
        refine wa_dup (by decide) ?_
        refine wb_gfi 237 rfl (wy_pr rfl) wt_237 wf_15_113 (v := c) ((w_up_slot (by decide)).trans (h13)) (fun r104 => ?_)
        refine wa_iconst ?_
        refine wa_iadd ?_
        refine wb_pfi 237 rfl (wy_pr rfl) wt_237 wf_15_113 (n := 113) rfl ⟨(by omega), (by omega)⟩ ?_
        refine wa_lload_n (n := 3) rfl ?_
        refine wb_kl (n := 10) rfl ?_
        refine wa_ldiv (w_rg1 (by omega) (by omega)) (by omega) ?_
        rw [hun]
        refine wa_lstore_n (n := 3) rfl ?_
        refine wa_goto ⟨_, rfl⟩ ?_
        have h1 : spL c [48 + ((q % 10 : Nat) : Int)] S (w_up (w_up S 345 c (48 + (sgV b (q % 10)))) 237 113 (c + 1)) := spL_1 hM hc0 (by omega)
        have e1 : dgU (k + 1) n = [48 + ((q % 10 : Nat) : Int)] ++ dgU k n := by rw [dgU_c k n, hq, hu]; rfl
        refine wJ_mono (wJ_S (ih u2 (c + 1) (w_up (w_up S 345 c (48 + (sgV b (q % 10)))) 237 113 (c + 1)) hu2 (by omega) h1.2.2.2 (w_up_same _ _ _ _) (by omega) (by omega)) ⟨rfl, rfl, rfl, trivial⟩) (fun o Z hz => ⟨hz.1, ?_⟩)
        rw [e1]
        exact spL_ap h1 hz.2
      · skip
        have c103x := @wb_lcmp_cases (sgV b (q % 10)) 0
        refine wa_lload (n := 5) rfl ?_
        refine wa_lneg ?_
        refine wa_goto ⟨_, rfl⟩ ?_
        refine wa_ladd ?_
        refine wb_l2i_r (wb_l2i_id ⟨(by omega), (by omega)⟩) ?_
        refine wb_i2b_r (wb_i2b_id ⟨(by omega), (by omega)⟩) ?_
        refine wb_bast 345 rfl (wy_pr rfl) wt_345 (n := 256) ((ml_345 hM)) (by omega) (by omega) ⟨(by omega), (by omega)⟩ ?_
        refine wa_aload_n (n := 0) rfl ?_
        refine wa_dup (by decide) ?_
        refine wb_gfi 237 rfl (wy_pr rfl) wt_237 wf_15_113 (v := c) ((w_up_slot (by decide)).trans (h13)) (fun r105 => ?_)
        refine wa_iconst ?_
        refine wa_iadd ?_
        refine wb_pfi 237 rfl (wy_pr rfl) wt_237 wf_15_113 (n := 113) rfl ⟨(by omega), (by omega)⟩ ?_
        refine wa_lload_n (n := 3) rfl ?_
        refine wb_kl (n := 10) rfl ?_
        refine wa_ldiv (w_rg1 (by omega) (by omega)) (by omega) ?_
        rw [hun]
        refine wa_lstore_n (n := 3) rfl ?_
        refine wa_goto ⟨_, rfl⟩ ?_
        have h1 : spL c [48 + ((q % 10 : Nat) : Int)] S (w_up (w_up S 345 c (48 + (-(sgV b (q % 10))))) 237 113 (c + 1)) := spL_1 hM hc0 (by omega)
        have e1 : dgU (k + 1) n = [48 + ((q % 10 : Nat) : Int)] ++ dgU k n := by rw [dgU_c k n, hq, hu]; rfl
        refine wJ_mono (wJ_S (ih u2 (c + 1) (w_up (w_up S 345 c (48 + (-(sgV b (q % 10))))) 237 113 (c + 1)) hu2 (by omega) h1.2.2.2 (w_up_same _ _ _ _) (by omega) (by omega)) ⟨rfl, rfl, rfl, trivial⟩) (fun o Z hz => ⟨hz.1, ?_⟩)
        rw [e1]
        exact spL_ap h1 hz.2
set_option maxHeartbeats 4000000 in
theorem nu_l {n : Nat} (hr : sgR b n) (hn : n < 10 ^ 19) : ∀ (g k u : Nat), k + g = 18 → u = 10 ^ k → (k = 0 ∨ 10 ^ k ≤ n) → (∀ k2 u2 : Nat, u2 = 10 ^ k2 → k2 ≤ 18 → n / 10 ^ k2 < 10 → (k2 = 0 ∨ 10 ^ k2 ≤ n) → wJ (pe_GA xs) wY0 M (d + 1) t_M_spellNumber ((pe_at t_M_spellNumber.bl 4).getD (0, [])).2 [(0, (2, 237)), (1, (1, sgV b n)), (3, (1, (u2 : Int)))] [] S Q) → wJ (pe_GA xs) wY0 M (d + 1) t_M_spellNumber ((pe_at t_M_spellNumber.bl 2).getD (0, [])).2 [(0, (2, 237)), (1, (1, sgV b n)), (3, (1, (u : Int)))] [] S Q := by
  intro g
  induction g with
  | zero =>
    intro k u hg hu hk0 hk
    have hk18 : k = 18 := by omega
    have hsm : n / 10 ^ k < 10 := by
      rw [hk18]
      have e : (10 : Nat) ^ 19 = 10 * 10 ^ 18 := rfl
      exact Nat.div_lt_of_lt_mul (by rw [Nat.mul_comm, ← e]; exact hn)
    have hu0 := (p18 (k := k) (by omega)).1
    have hul := (p18 (k := k) (by omega)).2
    rw [← hu] at hu0 hul
    obtain ⟨q, hq⟩ : ∃ q : Nat, q = n / u := ⟨_, rfl⟩
    have hqn : q ≤ n := by rw [hq]; exact Nat.div_le_self n u
    have hrq2 : -9223372036854775808 ≤ sgV b q ∧ sgV b q ≤ 9223372036854775807 := sgR_le hr hqn
    have hdv : wb_ldiv (sgV b n) (u : Int) = sgV b q := by rw [hq]; exact ld_s hr ⟨by omega, by omega⟩
    have hqc := sgV_c (b := b) q
    have hq10 : q < 10 := by rw [hq, hu]; exact hsm
    refine wa_lload_n (n := 1) rfl ?_
    refine wa_lload_n (n := 3) rfl ?_
    refine wa_ldiv (w_rg1 (by omega) (by omega)) (by omega) ?_
    rw [hdv]
    refine wb_kl (n := 9) rfl ?_
    refine wa_lcmp (w_rg1 (by omega) (by omega)) (w_rg1 (by omega) (by omega)) ?_
    refine wa_ifgt (by have := @wb_lcmp_cases; exact w_lcmp_rg) ⟨_, rfl⟩ (fun c1 => ?_) (fun c1 => ?_)
    · skip
      have c1x := @wb_lcmp_cases (sgV b q) 9
      exfalso; omega
    · skip
      have c1x := @wb_lcmp_cases (sgV b q) 9
      refine wa_lload_n (n := 1) rfl ?_
      refine wa_lload_n (n := 3) rfl ?_
      refine wa_ldiv (w_rg1 (by omega) (by omega)) (by omega) ?_
      rw [hdv]
      refine wb_kl (n := (-9)) rfl ?_
      refine wa_lcmp (w_rg1 (by omega) (by omega)) (w_rg1 (by omega) (by omega)) ?_
      refine wa_ifge (by have := @wb_lcmp_cases; exact w_lcmp_rg) ⟨_, rfl⟩ (fun c2 => ?_) (fun c2 => ?_)
      · skip
        have c2x := @wb_lcmp_cases (sgV b q) (-9)
        exact wJ_S (hk k u hu (by omega) (by rw [← hu, ← hq]; omega) hk0) ⟨rfl, rfl, rfl, trivial⟩
      · skip
        have c2x := @wb_lcmp_cases (sgV b q) (-9)
        refine wa_fall ⟨_, rfl⟩ ?_
        exfalso; omega
  | succ g ih =>
    intro k u hg hu hk0 hk
    have hu0 := (p18 (k := k) (by omega)).1
    have hul := (p18 (k := k) (by omega)).2
    rw [← hu] at hu0 hul
    obtain ⟨q, hq⟩ : ∃ q : Nat, q = n / u := ⟨_, rfl⟩
    have hqn : q ≤ n := by rw [hq]; exact Nat.div_le_self n u
    have hrq2 : -9223372036854775808 ≤ sgV b q ∧ sgV b q ≤ 9223372036854775807 := sgR_le hr hqn
    have hdv : wb_ldiv (sgV b n) (u : Int) = sgV b q := by rw [hq]; exact ld_s hr ⟨by omega, by omega⟩
    have hqc := sgV_c (b := b) q
    refine wa_lload_n (n := 1) rfl ?_
    refine wa_lload_n (n := 3) rfl ?_
    refine wa_ldiv (w_rg1 (by omega) (by omega)) (by omega) ?_
    rw [hdv]
    refine wb_kl (n := 9) rfl ?_
    refine wa_lcmp (w_rg1 (by omega) (by omega)) (w_rg1 (by omega) (by omega)) ?_
    refine wa_ifgt (by have := @wb_lcmp_cases; exact w_lcmp_rg) ⟨_, rfl⟩ (fun c101 => ?_) (fun c101 => ?_)
    · skip
      have c101x := @wb_lcmp_cases (sgV b q) 9
      refine wa_lload_n (n := 3) rfl ?_
      refine wb_kl (n := 10) rfl ?_
      refine wa_lmul ?_
      refine wa_lstore_n (n := 3) rfl ?_
      refine wa_goto ⟨_, rfl⟩ ?_
      have hun : (u : Int) * 10 = ((u * 10 : Nat) : Int) := by rw [Int.natCast_mul]; rfl
      rw [hun]
      have hpu : u * 10 = 10 ^ (k + 1) := by rw [hu]; exact (Nat.pow_succ 10 k).symm
      have hge : 10 ≤ n / u := by rw [← hq]; omega
      have hle := (Nat.le_div_iff_mul_le hu0).mp hge
      exact wJ_S (ih (k + 1) (u * 10) (by omega) hpu (Or.inr (by rw [← hpu]; omega)) hk) ⟨rfl, rfl, rfl, trivial⟩
    · skip
      have c101x := @wb_lcmp_cases (sgV b q) 9
      refine wa_lload_n (n := 1) rfl ?_
      refine wa_lload_n (n := 3) rfl ?_
      refine wa_ldiv (w_rg1 (by omega) (by omega)) (by omega) ?_
      rw [hdv]
      refine wb_kl (n := (-9)) rfl ?_
      refine wa_lcmp (w_rg1 (by omega) (by omega)) (w_rg1 (by omega) (by omega)) ?_
      refine wa_ifge (by have := @wb_lcmp_cases; exact w_lcmp_rg) ⟨_, rfl⟩ (fun c102 => ?_) (fun c102 => ?_)
      · skip
        have c102x := @wb_lcmp_cases (sgV b q) (-9)
        exact wJ_S (hk k u hu (by omega) (by rw [← hu, ← hq]; omega) hk0) ⟨rfl, rfl, rfl, trivial⟩
      · skip
        have c102x := @wb_lcmp_cases (sgV b q) (-9)
        refine wa_fall ⟨_, rfl⟩ ?_
        refine wa_lload_n (n := 3) rfl ?_
        refine wb_kl (n := 10) rfl ?_
        refine wa_lmul ?_
        refine wa_lstore_n (n := 3) rfl ?_
        refine wa_goto ⟨_, rfl⟩ ?_
        have hun : (u : Int) * 10 = ((u * 10 : Nat) : Int) := by rw [Int.natCast_mul]; rfl
        rw [hun]
        have hpu : u * 10 = 10 ^ (k + 1) := by rw [hu]; exact (Nat.pow_succ 10 k).symm
        have hge : 10 ≤ n / u := by rw [← hq]; omega
        have hle := (Nat.le_div_iff_mul_le hu0).mp hge
        exact wJ_S (ih (k + 1) (u * 10) (by omega) hpu (Or.inr (by rw [← hpu]; omega)) hk) ⟨rfl, rfl, rfl, trivial⟩
theorem spn_ok {v : Int} (hX : w_X xs) (hM : w_ML S) (hv : -9223372036854775808 ≤ v ∧ v ≤ 9223372036854775807) (h13 : S 237 113 = c) (hc : 0 ≤ c ∧ c ≤ 200) : wJ (pe_GA xs) wY0 M (d + 5) t_M_spellNumber ((pe_at t_M_spellNumber.bl 0).getD (0, [])).2 [(0, (2, 237)), (1, (1, v))] [] S (fun o Z => o = .inl none ∧ spL c (shN v) S Z) := by
  have hs := sgV_of v
  have hr : sgR (decide (v < 0)) v.natAbs := by
    show -9223372036854775808 ≤ sgV (decide (v < 0)) v.natAbs ∧ sgV (decide (v < 0)) v.natAbs ≤ 9223372036854775807
    rw [← hs]; exact hv
  have hn : v.natAbs < 10 ^ 19 := by
    have : (10 : Nat) ^ 19 = 10000000000000000000 := rfl
    omega
  refine wa_lload_n (n := 1) rfl ?_
  refine wb_lconst (m := 0) rfl ?_
  refine wa_lcmp (w_rg1 (by omega) (by omega)) (w_rg1 (by omega) (by omega)) ?_
  refine wa_ifge (by have := @wb_lcmp_cases; exact w_lcmp_rg) ⟨_, rfl⟩ (fun c301 => ?_) (fun c301 => ?_)
  · skip
    have c301x := @wb_lcmp_cases v 0
    refine wb_lconst (m := 1) rfl ?_
    refine wa_lstore_n (n := 3) rfl ?_
    refine wa_fall ⟨_, rfl⟩ ?_
    refine wJ_S (L2 := [(0, (2, 237)), (1, (1, sgV (decide (v < 0)) v.natAbs)), (3, (1, ((1 : Nat) : Int)))]) (nu_l hr hn 18 0 1 (by first | decide | omega) rfl (Or.inl rfl) (fun k2 u2 hu2 hk2 hs2 hz2 => wJ_mono (nd_l hr k2 u2 c S hu2 hk2 hM h13 (by omega) (by omega)) (fun o Z hz => ⟨hz.1, ?_⟩))) ⟨rfl, (by rw [← hs]; rfl), rfl, trivial⟩
    have hz3 := hz.2
    rw [← dgF_U k2 20 v.natAbs (by omega) hs2 hz2] at hz3
    have es : shN v = dgF 20 v.natAbs := by unfold shN; rw [if_neg (by omega)]; rfl
    rw [es]
    exact hz3
  · skip
    have c301x := @wb_lcmp_cases v 0
    refine wa_aload_n (n := 0) rfl ?_
    refine wa_ks ?_
    refine wa_cv 237 rfl (wy_pr rfl) wt_237 (M2 := fun _ => False) rfl at_M_spell ⟨_, rfl⟩ rfl rfl ⟨(Or.inr ⟨wy_pr rfl, fun q => q⟩), trivial, trivial⟩ trivial (fun _ _ q => False.elim q) (sp_ok (j := 99) (tx := tx_99) (n0 := c) (wx_99 hX) (by decide) (hb_l (by decide)) ⟨by omega, by show c + 1 ≤ 256; omega⟩ hM h13) (fun oq302 Sq302 hp303 q302 => ?_)
    rcases q302 with ⟨rfl, hsp⟩
    show wJ _ _ _ _ _ _ _ _ _ _
    refine wa_fall ⟨_, rfl⟩ ?_
    refine wb_lconst (m := 1) rfl ?_
    refine wa_lstore_n (n := 3) rfl ?_
    refine wa_fall ⟨_, rfl⟩ ?_
    refine wJ_S (L2 := [(0, (2, 237)), (1, (1, sgV (decide (v < 0)) v.natAbs)), (3, (1, ((1 : Nat) : Int)))]) (nu_l hr hn 18 0 1 (by first | decide | omega) rfl (Or.inl rfl) (fun k2 u2 hu2 hk2 hs2 hz2 => wJ_mono (nd_l hr k2 u2 (c + 1) Sq302 hu2 hk2 hsp.2.2.2 hsp.2.1 (by omega) (by omega)) (fun o Z hz => ⟨hz.1, ?_⟩))) ⟨rfl, (by rw [← hs]; rfl), rfl, trivial⟩
    have hz3 := hz.2
    rw [← dgF_U k2 20 v.natAbs (by omega) hs2 hz2] at hz3
    have es : shN v = [45] ++ dgF 20 v.natAbs := by unfold shN; rw [if_pos (by omega)]
    rw [es]
    exact spL_ap (l := [45]) (spA_L hsp) hz3
end Wg0
