/-! PART gx: hits and links of the reference. -/
section Wgx
variable {xs : List (Nat × List Int32)} {M : Nat → Prop} {d : Nat} {S S0 Z A : wS} {E : Int → List aE} {e : aE} {s rw h1 w1 t1 r lk : Int} {cl : List Int} {Q : wO → wS → Prop}
/-- an entry is hit: what it says is found; a: it is wrong -/
def htQ (e : aE) (a : Int) (S Z : wS) : Prop := (Z 237 166 = e.1 ∧ Z 237 169 = e.2.2.2.1 ∧ Z 237 170 = e.2.2.2.2.1 ∧ Z 237 171 = e.2.2.2.2.2.1) ∧ Z 237 108 = S 237 108 + a ∧ (∀ (j : Nat) (x : Int), (j ≠ 237 ∨ (x ≠ 108 ∧ (x < 166 ∨ 172 < x))) → Z j x = S j x) ∧ w_ML Z
/-- entries of a site go up by one row -/
def shU (s : Int) (i n : Nat) (S0 S : wS) : Prop := (∀ q : Nat, i < q → q ≤ n → ∀ j : Nat, 377 ≤ j → j ≤ 385 → S j (5 * s + (q : Int)) = S0 j (5 * s + (q : Int) - 1)) ∧ (∀ (j : Nat) (x : Int), ((j < 377 ∨ 385 < j) ∨ x ≤ 5 * s + (i : Int) ∨ 5 * s + (n : Int) < x) → S j x = S0 j x) ∧ w_ML S
theorem shU_s {i n : Nat} (h : shU s (i + 1) n S0 S) (hi : i + 1 ≤ n) (hs : 0 ≤ s) : shU s i n S0 (cpZ (5 * s + (i : Int)) (5 * s + (i : Int) + 1) S) := by
  obtain ⟨h1, h2, h3⟩ := h
  refine ⟨fun q q0 q1 j j0 j1 => ?_, fun j x hx => (cpZ_e j x (by omega)).trans (h2 j x (by omega)), cpZ_m h3 (by omega)⟩
  by_cases c : q = i + 1
  · have e : 5 * s + (q : Int) = 5 * s + (i : Int) + 1 := by omega
    rw [e, cpZ_b j j0 j1, show 5 * s + (i : Int) + 1 - 1 = 5 * s + (i : Int) by omega]
    exact h2 j _ (Or.inr (Or.inl (by omega)))
  · rw [cpZ_e j _ (Or.inr (by omega))]
    exact h1 q (by omega) q1 j j0 j1
/-- an entry has come, ahead of the others -/
theorem rSe_lk {n : Nat} (h : rSe S0 E) (hs : 0 ≤ s ∧ s < S0 237 47) (hn : (E s).length = n) (hI : shU s 0 n S0 S) (f : ∀ (j : Nat) (x : Int), (377 ≤ j ∧ j ≤ 385 ∧ x ≠ 5 * s) ∨ (j = 376 ∧ x ≠ s) ∨ (j = 237 ∧ x = 47) → Z j x = S j x) (he : rEc Z e (5 * s)) (hz : Z 376 s = if (n : Int) < 4 then (n : Int) + 1 else 4) : rSe Z (fUp E s ((e :: E s).take 4)) := by
  obtain ⟨h1, h2⟩ := h
  obtain ⟨i1, i2, i3⟩ := hI
  have e47 : Z 237 47 = S0 237 47 := (f 237 47 (by omega)).trans (i2 237 47 (Or.inl (by omega)))
  refine ⟨by rw [e47]; exact h1, fun t t0 t1 => ?_⟩
  rw [e47] at t1
  by_cases c : t = s
  · obtain ⟨a1, a2, a3⟩ := h2 s hs.1 hs.2
    rw [hn] at a2 a3
    have hl : ((e :: E s).take 4).length = if n < 4 then n + 1 else 4 := by
      rw [List.length_take, List.length_cons, hn]
      by_cases q : n < 4
      · rw [if_pos q]; omega
      · rw [if_neg q]; omega
    rw [c, fUp_s, hl]
    refine ⟨?_, by by_cases q : n < 4 <;> simp only [q, if_true, if_false] <;> omega, fun i hi => ?_⟩
    · rw [hz]
      by_cases q : n < 4
      · rw [if_pos q, if_pos (by omega)]; omega
      · rw [if_neg q, if_neg (by omega)]; rfl
    have hi4 : i < 4 ∧ i ≤ n := by
      by_cases q : n < 4
      · rw [if_pos q] at hi; omega
      · rw [if_neg q] at hi; omega
    have eg : ((e :: E s).take 4).getD i (0, 0, 0, 0, 0, 0, 0, 0, 0) = (e :: E s).getD i (0, 0, 0, 0, 0, 0, 0, 0, 0) := by
      rw [List.getD_eq_getElem?_getD, List.getD_eq_getElem?_getD, List.getElem?_take, if_pos hi4.1]
    rw [eg]
    cases i with
    | zero => rw [List.getD_cons_zero, show 5 * s + ((0 : Nat) : Int) = 5 * s by omega]; exact he
    | succ i =>
      rw [List.getD_cons_succ]
      exact rEc_ag (a3 i (by omega)) (fun j j0 j1 => by
        rw [f j _ (Or.inl ⟨j0, j1, by omega⟩), i1 (i + 1) (by omega) (by omega) j j0 j1]
        congr 1
        omega)
  · obtain ⟨a1, a2, a3⟩ := h2 t t0 t1
    have a4 := (h2 s hs.1 hs.2).2.1
    rw [fUp_n c]
    refine ⟨(f 376 t (Or.inr (Or.inl ⟨rfl, c⟩))).trans ((i2 376 t (Or.inl (by omega))).trans a1), a2, fun i hi => ?_⟩
    exact rEc_ag (a3 i hi) (fun j j0 j1 => (f j _ (Or.inl ⟨j0, j1, by omega⟩)).trans (i2 j _ (Or.inr (by omega))))
theorem rSe_0 (h : rSe S E) (f : ∀ (j : Nat) (x : Int), (377 ≤ j ∧ j ≤ 385) ∨ (j = 376 ∧ x ≠ s) ∨ (j = 237 ∧ x = 47) → Z j x = S j x) (hz : Z 376 s = 0) : rSe Z (fUp E s []) := by
  obtain ⟨h1, h2⟩ := h
  have e47 : Z 237 47 = S 237 47 := f 237 47 (by omega)
  refine ⟨by rw [e47]; exact h1, fun t t0 t1 => ?_⟩
  rw [e47] at t1
  by_cases c : t = s
  · rw [c, fUp_s]
    exact ⟨hz, Nat.zero_le _, fun i hi => absurd hi (Nat.not_lt_zero _)⟩
  · obtain ⟨a1, a2, a3⟩ := h2 t t0 t1
    rw [fUp_n c]
    exact ⟨(f 376 t (Or.inr (Or.inl ⟨rfl, c⟩))).trans a1, a2, fun i hi => rEc_ag (a3 i hi) (fun j j0 j1 => f j _ (Or.inl ⟨j0, j1⟩))⟩
theorem hit_ok (hM : w_ML S) (hs : 0 ≤ s ∧ s < 4000) (he : rEc S e rw) (hrw : 0 ≤ rw ∧ rw < 20000) (h108 : 0 ≤ S 237 108 ∧ S 237 108 ≤ 1000000) (hlk : wJ (pe_GA xs) wY0 (fun _ => False) (d + 8) t_M_looks ((pe_at t_M_looks.bl 0).getD (0, [])).2 [(0, (2, 237)), (1, (0, s)), (2, (0, 0))] [] S (fun o Z => o = .inl none ∧ (Z 237 169 = h1 ∧ Z 237 170 = w1 ∧ Z 237 171 = t1) ∧ (∀ (j : Nat) (x : Int), (j ≠ 237 ∨ x < 166 ∨ 172 < x) → Z j x = S j x) ∧ w_ML Z)) : wJ (pe_GA xs) wY0 M (d + 9) t_M_hits ((pe_at t_M_hits.bl 0).getD (0, [])).2 [(0, (2, 237)), (1, (0, s)), (2, (0, rw))] [] S (fun o Z => o = .inl none ∧ htQ e (if h1 = e.2.2.2.1 ∧ w1 = e.2.2.2.2.1 ∧ t1 = e.2.2.2.2.2.1 then 0 else 1) S Z) := by
  obtain ⟨⟨a1, a2, a3, a4, a5, a6⟩, a7, a8, a9⟩ := id he
  refine wa_iconst ?_
  refine wa_istore_n (n := 3) rfl ?_
  refine wa_aload_n (n := 0) rfl ?_
  refine wa_iload_n (n := 1) rfl ?_
  refine wa_iconst ?_
  refine wa_cx 237 rfl (wy_pr rfl) wt_237 (M2 := fun _ => False) rfl at_M_looks ⟨_, rfl⟩ rfl rfl ⟨trivial, (Or.inr ⟨wy_pr rfl, fun q => q⟩), trivial, trivial, trivial⟩ trivial (fun _ _ q => False.elim q) (hlk) (fun oq1 Sq1 hp2 q1 => ?_)
  rcases q1 with ⟨rfl, ⟨z69, z70, z71⟩, zf, zM⟩
  show wJ _ _ _ _ _ _ _ _ _ _
  have hM := zM
  have z77 := (zf 377 rw (by first | decide | omega)).trans a1
  have z80 := (zf 380 rw (by first | decide | omega)).trans a4
  have z81 := (zf 381 rw (by first | decide | omega)).trans a5
  have z82 := (zf 382 rw (by first | decide | omega)).trans a6
  have z108 := zf 237 108 (by first | decide | omega)
  refine wa_aload_n (n := 0) rfl ?_
  refine wb_gfi 237 rfl (wy_pr rfl) wt_237 wf_15_169 (v := h1) (z69) (fun r3 => ?_)
  refine wa_aload_n (n := 0) rfl ?_
  refine wb_gf4 237 rfl (wy_pr rfl) wt_237 wf_15_160 (v := 380) wl_237_160 ?_
  refine wa_iload_n (n := 2) rfl ?_
  refine wb_iald 380 rfl (wy_pr rfl) wt_380 (n := 20000) ((ml_380 hM)) (by omega) (by omega) (v := (e.2.2.2.1)) (z80) (fun r4 => ?_)
  refine wa_icmpne (w_rg0 (by omega) (by omega)) (w_rg0 (by omega) (by omega)) ⟨_, rfl⟩ (fun c5 => ?_) (fun c5 => ?_)
  · skip
    refine wa_iconst ?_
    refine wa_fall ⟨_, rfl⟩ ?_
    refine wa_istore_n (n := 3) rfl ?_
    refine wa_goto ⟨_, rfl⟩ ?_
    refine wa_aload_n (n := 0) rfl ?_
    refine wa_dup (by decide) ?_
    refine wb_gfi 237 rfl (wy_pr rfl) wt_237 wf_15_108 (v := (S 237 108)) (z108) (fun r6 => ?_)
    refine wa_iload_n (n := 3) rfl ?_
    refine wa_ifeq (w_rg0 (by omega) (by omega)) ⟨_, rfl⟩ (fun c7 => ?_) (fun c7 => ?_)
    · skip
      refine wa_iconst ?_
      refine wa_fall ⟨_, rfl⟩ ?_
      refine wa_iadd ?_
      refine wb_pfi 237 rfl (wy_pr rfl) wt_237 wf_15_108 (n := 108) rfl ⟨(by omega), (by omega)⟩ ?_
      refine wa_aload_n (n := 0) rfl ?_
      refine wa_aload_n (n := 0) rfl ?_
      refine wb_gf4 237 rfl (wy_pr rfl) wt_237 wf_15_157 (v := 377) wl_237_157 ?_
      refine wa_iload_n (n := 2) rfl ?_
      refine wb_iald 377 rfl (wy_pr rfl) wt_377 (n := 20000) ((w_up_slot (by decide)).trans ((ml_377 hM))) (by omega) (by omega) (v := (e.1)) ((w_up_slot (by decide)).trans (z77)) (fun r8 => ?_)
      refine wb_pfi 237 rfl (wy_pr rfl) wt_237 wf_15_166 (n := 166) rfl ⟨(by omega), (by omega)⟩ ?_
      refine wa_aload_n (n := 0) rfl ?_
      refine wa_aload_n (n := 0) rfl ?_
      refine wb_gf4 237 rfl (wy_pr rfl) wt_237 wf_15_160 (v := 380) wl_237_160 ?_
      refine wa_iload_n (n := 2) rfl ?_
      refine wb_iald 380 rfl (wy_pr rfl) wt_380 (n := 20000) ((w_up_slot (by decide)).trans ((w_up_slot (by decide)).trans ((ml_380 hM)))) (by omega) (by omega) (v := (e.2.2.2.1)) ((w_up_slot (by decide)).trans ((w_up_slot (by decide)).trans (z80))) (fun r9 => ?_)
      refine wb_pfi 237 rfl (wy_pr rfl) wt_237 wf_15_169 (n := 169) rfl ⟨(by omega), (by omega)⟩ ?_
      refine wa_aload_n (n := 0) rfl ?_
      refine wa_aload_n (n := 0) rfl ?_
      refine wb_gf4 237 rfl (wy_pr rfl) wt_237 wf_15_161 (v := 381) wl_237_161 ?_
      refine wa_iload_n (n := 2) rfl ?_
      refine wb_iald 381 rfl (wy_pr rfl) wt_381 (n := 20000) ((w_up_slot (by decide)).trans ((w_up_slot (by decide)).trans ((w_up_slot (by decide)).trans ((ml_381 hM))))) (by omega) (by omega) (v := (e.2.2.2.2.1)) ((w_up_slot (by decide)).trans ((w_up_slot (by decide)).trans ((w_up_slot (by decide)).trans (z81)))) (fun r10 => ?_)
      refine wb_pfi 237 rfl (wy_pr rfl) wt_237 wf_15_170 (n := 170) rfl ⟨(by omega), (by omega)⟩ ?_
      refine wa_aload_n (n := 0) rfl ?_
      refine wa_aload_n (n := 0) rfl ?_
      refine wb_gf4 237 rfl (wy_pr rfl) wt_237 wf_15_162 (v := 382) wl_237_162 ?_
      refine wa_iload_n (n := 2) rfl ?_
      refine wb_iald 382 rfl (wy_pr rfl) wt_382 (n := 20000) ((w_up_slot (by decide)).trans ((w_up_slot (by decide)).trans ((w_up_slot (by decide)).trans ((w_up_slot (by decide)).trans ((ml_382 hM)))))) (by omega) (by omega) (v := (e.2.2.2.2.2.1)) ((w_up_slot (by decide)).trans ((w_up_slot (by decide)).trans ((w_up_slot (by decide)).trans ((w_up_slot (by decide)).trans (z82))))) (fun r11 => ?_)
      refine wb_pfi 237 rfl (wy_pr rfl) wt_237 wf_15_171 (n := 171) rfl ⟨(by omega), (by omega)⟩ ?_
      refine wa_return rfl ?_
      have ea : (if h1 = e.2.2.2.1 ∧ w1 = e.2.2.2.2.1 ∧ t1 = e.2.2.2.2.2.1 then 0 else 1 : Int) = 1 := by first | exact if_pos (by omega) | exact if_neg (by omega)
      rw [ea]
      exact ⟨rfl, ⟨((w_up_at (by first | decide | omega)).trans ((w_up_at (by first | decide | omega)).trans ((w_up_at (by first | decide | omega)).trans (w_up_same _ _ _ _)))), ((w_up_at (by first | decide | omega)).trans ((w_up_at (by first | decide | omega)).trans (w_up_same _ _ _ _))), ((w_up_at (by first | decide | omega)).trans (w_up_same _ _ _ _)), (w_up_same _ _ _ _)⟩, ((w_up_at (by first | decide | omega)).trans ((w_up_at (by first | decide | omega)).trans ((w_up_at (by first | decide | omega)).trans ((w_up_at (by first | decide | omega)).trans (w_up_same _ _ _ _))))), fun j x hj => ((w_up_no (by omega)).trans ((w_up_no (by omega)).trans ((w_up_no (by omega)).trans ((w_up_no (by omega)).trans (w_up_no (by omega)))))).trans (zf j x (by omega)), w_ML_up (w_ML_up (w_ML_up (w_ML_up (w_ML_up (zM) (by first | decide | omega)) (by first | decide | omega)) (by first | decide | omega)) (by first | decide | omega)) (by first | decide | omega)⟩
    · skip
      exact absurd c7 (by omega)
  · skip
    refine wa_aload_n (n := 0) rfl ?_
    refine wb_gfi 237 rfl (wy_pr rfl) wt_237 wf_15_170 (v := w1) (z70) (fun r12 => ?_)
    refine wa_aload_n (n := 0) rfl ?_
    refine wb_gf4 237 rfl (wy_pr rfl) wt_237 wf_15_161 (v := 381) wl_237_161 ?_
    refine wa_iload_n (n := 2) rfl ?_
    refine wb_iald 381 rfl (wy_pr rfl) wt_381 (n := 20000) ((ml_381 hM)) (by omega) (by omega) (v := (e.2.2.2.2.1)) (z81) (fun r13 => ?_)
    refine wa_icmpne (w_rg0 (by omega) (by omega)) (w_rg0 (by omega) (by omega)) ⟨_, rfl⟩ (fun c14 => ?_) (fun c14 => ?_)
    · skip
      refine wa_iconst ?_
      refine wa_fall ⟨_, rfl⟩ ?_
      refine wa_istore_n (n := 3) rfl ?_
      refine wa_goto ⟨_, rfl⟩ ?_
      refine wa_aload_n (n := 0) rfl ?_
      refine wa_dup (by decide) ?_
      refine wb_gfi 237 rfl (wy_pr rfl) wt_237 wf_15_108 (v := (S 237 108)) (z108) (fun r15 => ?_)
      refine wa_iload_n (n := 3) rfl ?_
      refine wa_ifeq (w_rg0 (by omega) (by omega)) ⟨_, rfl⟩ (fun c16 => ?_) (fun c16 => ?_)
      · skip
        refine wa_iconst ?_
        refine wa_fall ⟨_, rfl⟩ ?_
        refine wa_iadd ?_
        refine wb_pfi 237 rfl (wy_pr rfl) wt_237 wf_15_108 (n := 108) rfl ⟨(by omega), (by omega)⟩ ?_
        refine wa_aload_n (n := 0) rfl ?_
        refine wa_aload_n (n := 0) rfl ?_
        refine wb_gf4 237 rfl (wy_pr rfl) wt_237 wf_15_157 (v := 377) wl_237_157 ?_
        refine wa_iload_n (n := 2) rfl ?_
        refine wb_iald 377 rfl (wy_pr rfl) wt_377 (n := 20000) ((w_up_slot (by decide)).trans ((ml_377 hM))) (by omega) (by omega) (v := (e.1)) ((w_up_slot (by decide)).trans (z77)) (fun r17 => ?_)
        refine wb_pfi 237 rfl (wy_pr rfl) wt_237 wf_15_166 (n := 166) rfl ⟨(by omega), (by omega)⟩ ?_
        refine wa_aload_n (n := 0) rfl ?_
        refine wa_aload_n (n := 0) rfl ?_
        refine wb_gf4 237 rfl (wy_pr rfl) wt_237 wf_15_160 (v := 380) wl_237_160 ?_
        refine wa_iload_n (n := 2) rfl ?_
        refine wb_iald 380 rfl (wy_pr rfl) wt_380 (n := 20000) ((w_up_slot (by decide)).trans ((w_up_slot (by decide)).trans ((ml_380 hM)))) (by omega) (by omega) (v := (e.2.2.2.1)) ((w_up_slot (by decide)).trans ((w_up_slot (by decide)).trans (z80))) (fun r18 => ?_)
        refine wb_pfi 237 rfl (wy_pr rfl) wt_237 wf_15_169 (n := 169) rfl ⟨(by omega), (by omega)⟩ ?_
        refine wa_aload_n (n := 0) rfl ?_
        refine wa_aload_n (n := 0) rfl ?_
        refine wb_gf4 237 rfl (wy_pr rfl) wt_237 wf_15_161 (v := 381) wl_237_161 ?_
        refine wa_iload_n (n := 2) rfl ?_
        refine wb_iald 381 rfl (wy_pr rfl) wt_381 (n := 20000) ((w_up_slot (by decide)).trans ((w_up_slot (by decide)).trans ((w_up_slot (by decide)).trans ((ml_381 hM))))) (by omega) (by omega) (v := (e.2.2.2.2.1)) ((w_up_slot (by decide)).trans ((w_up_slot (by decide)).trans ((w_up_slot (by decide)).trans (z81)))) (fun r19 => ?_)
        refine wb_pfi 237 rfl (wy_pr rfl) wt_237 wf_15_170 (n := 170) rfl ⟨(by omega), (by omega)⟩ ?_
        refine wa_aload_n (n := 0) rfl ?_
        refine wa_aload_n (n := 0) rfl ?_
        refine wb_gf4 237 rfl (wy_pr rfl) wt_237 wf_15_162 (v := 382) wl_237_162 ?_
        refine wa_iload_n (n := 2) rfl ?_
        refine wb_iald 382 rfl (wy_pr rfl) wt_382 (n := 20000) ((w_up_slot (by decide)).trans ((w_up_slot (by decide)).trans ((w_up_slot (by decide)).trans ((w_up_slot (by decide)).trans ((ml_382 hM)))))) (by omega) (by omega) (v := (e.2.2.2.2.2.1)) ((w_up_slot (by decide)).trans ((w_up_slot (by decide)).trans ((w_up_slot (by decide)).trans ((w_up_slot (by decide)).trans (z82))))) (fun r20 => ?_)
        refine wb_pfi 237 rfl (wy_pr rfl) wt_237 wf_15_171 (n := 171) rfl ⟨(by omega), (by omega)⟩ ?_
        refine wa_return rfl ?_
        have ea : (if h1 = e.2.2.2.1 ∧ w1 = e.2.2.2.2.1 ∧ t1 = e.2.2.2.2.2.1 then 0 else 1 : Int) = 1 := by first | exact if_pos (by omega) | exact if_neg (by omega)
        rw [ea]
        exact ⟨rfl, ⟨((w_up_at (by first | decide | omega)).trans ((w_up_at (by first | decide | omega)).trans ((w_up_at (by first | decide | omega)).trans (w_up_same _ _ _ _)))), ((w_up_at (by first | decide | omega)).trans ((w_up_at (by first | decide | omega)).trans (w_up_same _ _ _ _))), ((w_up_at (by first | decide | omega)).trans (w_up_same _ _ _ _)), (w_up_same _ _ _ _)⟩, ((w_up_at (by first | decide | omega)).trans ((w_up_at (by first | decide | omega)).trans ((w_up_at (by first | decide | omega)).trans ((w_up_at (by first | decide | omega)).trans (w_up_same _ _ _ _))))), fun j x hj => ((w_up_no (by omega)).trans ((w_up_no (by omega)).trans ((w_up_no (by omega)).trans ((w_up_no (by omega)).trans (w_up_no (by omega)))))).trans (zf j x (by omega)), w_ML_up (w_ML_up (w_ML_up (w_ML_up (w_ML_up (zM) (by first | decide | omega)) (by first | decide | omega)) (by first | decide | omega)) (by first | decide | omega)) (by first | decide | omega)⟩
      · skip
        exact absurd c16 (by omega)
    · skip
      refine wa_aload_n (n := 0) rfl ?_
      refine wb_gfi 237 rfl (wy_pr rfl) wt_237 wf_15_171 (v := t1) (z71) (fun r21 => ?_)
      refine wa_aload_n (n := 0) rfl ?_
      refine wb_gf4 237 rfl (wy_pr rfl) wt_237 wf_15_162 (v := 382) wl_237_162 ?_
      refine wa_iload_n (n := 2) rfl ?_
      refine wb_iald 382 rfl (wy_pr rfl) wt_382 (n := 20000) ((ml_382 hM)) (by omega) (by omega) (v := (e.2.2.2.2.2.1)) (z82) (fun r22 => ?_)
      refine wa_icmpne (w_rg0 (by omega) (by omega)) (w_rg0 (by omega) (by omega)) ⟨_, rfl⟩ (fun c23 => ?_) (fun c23 => ?_)
      · skip
        refine wa_iconst ?_
        refine wa_fall ⟨_, rfl⟩ ?_
        refine wa_istore_n (n := 3) rfl ?_
        refine wa_goto ⟨_, rfl⟩ ?_
        refine wa_aload_n (n := 0) rfl ?_
        refine wa_dup (by decide) ?_
        refine wb_gfi 237 rfl (wy_pr rfl) wt_237 wf_15_108 (v := (S 237 108)) (z108) (fun r24 => ?_)
        refine wa_iload_n (n := 3) rfl ?_
        refine wa_ifeq (w_rg0 (by omega) (by omega)) ⟨_, rfl⟩ (fun c25 => ?_) (fun c25 => ?_)
        · skip
          refine wa_iconst ?_
          refine wa_fall ⟨_, rfl⟩ ?_
          refine wa_iadd ?_
          refine wb_pfi 237 rfl (wy_pr rfl) wt_237 wf_15_108 (n := 108) rfl ⟨(by omega), (by omega)⟩ ?_
          refine wa_aload_n (n := 0) rfl ?_
          refine wa_aload_n (n := 0) rfl ?_
          refine wb_gf4 237 rfl (wy_pr rfl) wt_237 wf_15_157 (v := 377) wl_237_157 ?_
          refine wa_iload_n (n := 2) rfl ?_
          refine wb_iald 377 rfl (wy_pr rfl) wt_377 (n := 20000) ((w_up_slot (by decide)).trans ((ml_377 hM))) (by omega) (by omega) (v := (e.1)) ((w_up_slot (by decide)).trans (z77)) (fun r26 => ?_)
          refine wb_pfi 237 rfl (wy_pr rfl) wt_237 wf_15_166 (n := 166) rfl ⟨(by omega), (by omega)⟩ ?_
          refine wa_aload_n (n := 0) rfl ?_
          refine wa_aload_n (n := 0) rfl ?_
          refine wb_gf4 237 rfl (wy_pr rfl) wt_237 wf_15_160 (v := 380) wl_237_160 ?_
          refine wa_iload_n (n := 2) rfl ?_
          refine wb_iald 380 rfl (wy_pr rfl) wt_380 (n := 20000) ((w_up_slot (by decide)).trans ((w_up_slot (by decide)).trans ((ml_380 hM)))) (by omega) (by omega) (v := (e.2.2.2.1)) ((w_up_slot (by decide)).trans ((w_up_slot (by decide)).trans (z80))) (fun r27 => ?_)
          refine wb_pfi 237 rfl (wy_pr rfl) wt_237 wf_15_169 (n := 169) rfl ⟨(by omega), (by omega)⟩ ?_
          refine wa_aload_n (n := 0) rfl ?_
          refine wa_aload_n (n := 0) rfl ?_
          refine wb_gf4 237 rfl (wy_pr rfl) wt_237 wf_15_161 (v := 381) wl_237_161 ?_
          refine wa_iload_n (n := 2) rfl ?_
          refine wb_iald 381 rfl (wy_pr rfl) wt_381 (n := 20000) ((w_up_slot (by decide)).trans ((w_up_slot (by decide)).trans ((w_up_slot (by decide)).trans ((ml_381 hM))))) (by omega) (by omega) (v := (e.2.2.2.2.1)) ((w_up_slot (by decide)).trans ((w_up_slot (by decide)).trans ((w_up_slot (by decide)).trans (z81)))) (fun r28 => ?_)
          refine wb_pfi 237 rfl (wy_pr rfl) wt_237 wf_15_170 (n := 170) rfl ⟨(by omega), (by omega)⟩ ?_
          refine wa_aload_n (n := 0) rfl ?_
          refine wa_aload_n (n := 0) rfl ?_
          refine wb_gf4 237 rfl (wy_pr rfl) wt_237 wf_15_162 (v := 382) wl_237_162 ?_
          refine wa_iload_n (n := 2) rfl ?_
          refine wb_iald 382 rfl (wy_pr rfl) wt_382 (n := 20000) ((w_up_slot (by decide)).trans ((w_up_slot (by decide)).trans ((w_up_slot (by decide)).trans ((w_up_slot (by decide)).trans ((ml_382 hM)))))) (by omega) (by omega) (v := (e.2.2.2.2.2.1)) ((w_up_slot (by decide)).trans ((w_up_slot (by decide)).trans ((w_up_slot (by decide)).trans ((w_up_slot (by decide)).trans (z82))))) (fun r29 => ?_)
          refine wb_pfi 237 rfl (wy_pr rfl) wt_237 wf_15_171 (n := 171) rfl ⟨(by omega), (by omega)⟩ ?_
          refine wa_return rfl ?_
          have ea : (if h1 = e.2.2.2.1 ∧ w1 = e.2.2.2.2.1 ∧ t1 = e.2.2.2.2.2.1 then 0 else 1 : Int) = 1 := by first | exact if_pos (by omega) | exact if_neg (by omega)
          rw [ea]
          exact ⟨rfl, ⟨((w_up_at (by first | decide | omega)).trans ((w_up_at (by first | decide | omega)).trans ((w_up_at (by first | decide | omega)).trans (w_up_same _ _ _ _)))), ((w_up_at (by first | decide | omega)).trans ((w_up_at (by first | decide | omega)).trans (w_up_same _ _ _ _))), ((w_up_at (by first | decide | omega)).trans (w_up_same _ _ _ _)), (w_up_same _ _ _ _)⟩, ((w_up_at (by first | decide | omega)).trans ((w_up_at (by first | decide | omega)).trans ((w_up_at (by first | decide | omega)).trans ((w_up_at (by first | decide | omega)).trans (w_up_same _ _ _ _))))), fun j x hj => ((w_up_no (by omega)).trans ((w_up_no (by omega)).trans ((w_up_no (by omega)).trans ((w_up_no (by omega)).trans (w_up_no (by omega)))))).trans (zf j x (by omega)), w_ML_up (w_ML_up (w_ML_up (w_ML_up (w_ML_up (zM) (by first | decide | omega)) (by first | decide | omega)) (by first | decide | omega)) (by first | decide | omega)) (by first | decide | omega)⟩
        · skip
          exact absurd c25 (by omega)
      · skip
        refine wa_iconst ?_
        refine wa_goto ⟨_, rfl⟩ ?_
        refine wa_istore_n (n := 3) rfl ?_
        refine wa_goto ⟨_, rfl⟩ ?_
        refine wa_aload_n (n := 0) rfl ?_
        refine wa_dup (by decide) ?_
        refine wb_gfi 237 rfl (wy_pr rfl) wt_237 wf_15_108 (v := (S 237 108)) (z108) (fun r30 => ?_)
        refine wa_iload_n (n := 3) rfl ?_
        refine wa_ifeq (w_rg0 (by omega) (by omega)) ⟨_, rfl⟩ (fun c31 => ?_) (fun c31 => ?_)
        · skip
          exact absurd c31 (by omega)
        · skip
          refine wa_iconst ?_
          refine wa_goto ⟨_, rfl⟩ ?_
          refine wa_iadd ?_
          refine wb_pfi 237 rfl (wy_pr rfl) wt_237 wf_15_108 (n := 108) rfl ⟨(by omega), (by omega)⟩ ?_
          refine wa_aload_n (n := 0) rfl ?_
          refine wa_aload_n (n := 0) rfl ?_
          refine wb_gf4 237 rfl (wy_pr rfl) wt_237 wf_15_157 (v := 377) wl_237_157 ?_
          refine wa_iload_n (n := 2) rfl ?_
          refine wb_iald 377 rfl (wy_pr rfl) wt_377 (n := 20000) ((w_up_slot (by decide)).trans ((ml_377 hM))) (by omega) (by omega) (v := (e.1)) ((w_up_slot (by decide)).trans (z77)) (fun r32 => ?_)
          refine wb_pfi 237 rfl (wy_pr rfl) wt_237 wf_15_166 (n := 166) rfl ⟨(by omega), (by omega)⟩ ?_
          refine wa_aload_n (n := 0) rfl ?_
          refine wa_aload_n (n := 0) rfl ?_
          refine wb_gf4 237 rfl (wy_pr rfl) wt_237 wf_15_160 (v := 380) wl_237_160 ?_
          refine wa_iload_n (n := 2) rfl ?_
          refine wb_iald 380 rfl (wy_pr rfl) wt_380 (n := 20000) ((w_up_slot (by decide)).trans ((w_up_slot (by decide)).trans ((ml_380 hM)))) (by omega) (by omega) (v := (e.2.2.2.1)) ((w_up_slot (by decide)).trans ((w_up_slot (by decide)).trans (z80))) (fun r33 => ?_)
          refine wb_pfi 237 rfl (wy_pr rfl) wt_237 wf_15_169 (n := 169) rfl ⟨(by omega), (by omega)⟩ ?_
          refine wa_aload_n (n := 0) rfl ?_
          refine wa_aload_n (n := 0) rfl ?_
          refine wb_gf4 237 rfl (wy_pr rfl) wt_237 wf_15_161 (v := 381) wl_237_161 ?_
          refine wa_iload_n (n := 2) rfl ?_
          refine wb_iald 381 rfl (wy_pr rfl) wt_381 (n := 20000) ((w_up_slot (by decide)).trans ((w_up_slot (by decide)).trans ((w_up_slot (by decide)).trans ((ml_381 hM))))) (by omega) (by omega) (v := (e.2.2.2.2.1)) ((w_up_slot (by decide)).trans ((w_up_slot (by decide)).trans ((w_up_slot (by decide)).trans (z81)))) (fun r34 => ?_)
          refine wb_pfi 237 rfl (wy_pr rfl) wt_237 wf_15_170 (n := 170) rfl ⟨(by omega), (by omega)⟩ ?_
          refine wa_aload_n (n := 0) rfl ?_
          refine wa_aload_n (n := 0) rfl ?_
          refine wb_gf4 237 rfl (wy_pr rfl) wt_237 wf_15_162 (v := 382) wl_237_162 ?_
          refine wa_iload_n (n := 2) rfl ?_
          refine wb_iald 382 rfl (wy_pr rfl) wt_382 (n := 20000) ((w_up_slot (by decide)).trans ((w_up_slot (by decide)).trans ((w_up_slot (by decide)).trans ((w_up_slot (by decide)).trans ((ml_382 hM)))))) (by omega) (by omega) (v := (e.2.2.2.2.2.1)) ((w_up_slot (by decide)).trans ((w_up_slot (by decide)).trans ((w_up_slot (by decide)).trans ((w_up_slot (by decide)).trans (z82))))) (fun r35 => ?_)
          refine wb_pfi 237 rfl (wy_pr rfl) wt_237 wf_15_171 (n := 171) rfl ⟨(by omega), (by omega)⟩ ?_
          refine wa_return rfl ?_
          have ea : (if h1 = e.2.2.2.1 ∧ w1 = e.2.2.2.2.1 ∧ t1 = e.2.2.2.2.2.1 then 0 else 1 : Int) = 0 := by first | exact if_pos (by omega) | exact if_neg (by omega)
          rw [ea]
          exact ⟨rfl, ⟨((w_up_at (by first | decide | omega)).trans ((w_up_at (by first | decide | omega)).trans ((w_up_at (by first | decide | omega)).trans (w_up_same _ _ _ _)))), ((w_up_at (by first | decide | omega)).trans ((w_up_at (by first | decide | omega)).trans (w_up_same _ _ _ _))), ((w_up_at (by first | decide | omega)).trans (w_up_same _ _ _ _)), (w_up_same _ _ _ _)⟩, ((w_up_at (by first | decide | omega)).trans ((w_up_at (by first | decide | omega)).trans ((w_up_at (by first | decide | omega)).trans ((w_up_at (by first | decide | omega)).trans (w_up_same _ _ _ _))))), fun j x hj => ((w_up_no (by omega)).trans ((w_up_no (by omega)).trans ((w_up_no (by omega)).trans ((w_up_no (by omega)).trans (w_up_no (by omega)))))).trans (zf j x (by omega)), w_ML_up (w_ML_up (w_ML_up (w_ML_up (w_ML_up (zM) (by first | decide | omega)) (by first | decide | omega)) (by first | decide | omega)) (by first | decide | omega)) (by first | decide | omega)⟩
theorem lk_up {n : Nat} (hs : 0 ≤ s ∧ s < 4000) (hn : n ≤ 4) (hq : ∀ Z : wS, shU s 0 n S0 Z → wJ (pe_GA xs) wY0 M (d + 4) t_M_links ((pe_at t_M_links.bl 3).getD (0, [])).2 [(0, (2, 237)), (1, (0, s))] [] Z Q) : ∀ (f : Nat) (S : wS), f ≤ n → shU s f n S0 S → wJ (pe_GA xs) wY0 M (d + 4) t_M_links ((pe_at t_M_links.bl 2).getD (0, [])).2 [(0, (2, 237)), (1, (0, s)), (2, (0, (f : Int)))] [] S Q := by
  intro f
  induction f with
  | zero =>
    intro S hf hS
    have hM := hS.2.2
    refine wa_iload_n (n := 2) rfl ?_
    refine wa_ifle (w_rg0 (by omega) (by omega)) ⟨_, rfl⟩ (fun c1 => ?_) (fun c1 => ?_)
    · skip
      exact wJ_S (hq S hS) ⟨rfl, rfl, trivial⟩
    · skip
      exfalso; omega
  | succ f ih =>
    intro S hf hS
    have hM := hS.2.2
    refine wa_iload_n (n := 2) rfl ?_
    refine wa_ifle (w_rg0 (by omega) (by omega)) ⟨_, rfl⟩ (fun c51 => ?_) (fun c51 => ?_)
    · skip
      exfalso; omega
    · skip
      refine wa_aload_n (n := 0) rfl ?_
      refine wa_iconst ?_
      refine wa_iload_n (n := 1) rfl ?_
      refine wa_imul ?_
      refine wa_iload_n (n := 2) rfl ?_
      refine wa_iadd ?_
      refine wa_iconst ?_
      refine wa_isub ?_
      refine wa_iconst ?_
      refine wa_iload_n (n := 1) rfl ?_
      refine wa_imul ?_
      refine wa_iload_n (n := 2) rfl ?_
      refine wa_iadd ?_
      have ea : (((5 * s) + ((f + 1 : Nat) : Int)) - 1) = 5 * s + (f : Int) := by omega
      have eb : ((5 * s) + ((f + 1 : Nat) : Int)) = 5 * s + (f : Int) + 1 := by omega
      rw [ea, eb]
      refine wa_cv 237 rfl (wy_pr rfl) wt_237 (M2 := fun _ => False) rfl at_M_copies ⟨_, rfl⟩ rfl rfl ⟨(Or.inr ⟨wy_pr rfl, fun q => q⟩), trivial, trivial, trivial⟩ trivial (fun _ _ q => False.elim q) (cps_ok (S := S) (a := 5 * s + (f : Int)) (b := 5 * s + (f : Int) + 1) hM ⟨by omega, by omega⟩ ⟨by omega, by omega⟩) (fun oq52 Sq52 hp53 q52 => ?_)
      rcases q52 with ⟨rfl, rfl⟩
      show wJ _ _ _ _ _ _ _ _ _ _
      refine wa_iinc rfl rfl ?_
      refine wa_goto ⟨_, rfl⟩ ?_
      exact wJ_S (ih _ (by omega) (shU_s hS hf hs.1)) ⟨rfl, rfl, by rw [show (f : Int) = (((f + 1 : Nat) : Int) + (-1)) by omega]; rfl, trivial⟩
/-- a new entry's types are being packed -/
def lkI (s lk r : Int) (n : Nat) (cl : List Int) (v : Int) (S0 S : wS) : Prop := S 385 (5 * s) = v ∧ (∀ (j : Nat) (x : Int), (j ≠ 385 ∨ x ≠ 5 * s) → S j x = S0 j x) ∧ w_ML S
set_option maxHeartbeats 4000000 in
theorem lk_ty {n : Nat} (hs : 0 ≤ s ∧ s < 4000) (h72 : S0 237 172 = (n : Int)) (hn : n ≤ cl.length) (hl8 : cl.length ≤ 8) (hok : esOk cl) (h73 : S0 237 173 = r) (hr : 0 ≤ r ∧ r + 1 + (cl.length : Int) ≤ 4200) (hcl : rCl S0 r cl) (hq : ∀ Z : wS, lkI s lk r n cl (esV (cl.take n)) S0 Z → wJ (pe_GA xs) wY0 M (d + 4) t_M_links ((pe_at t_M_links.bl 6).getD (0, [])).2 [(0, (2, 237)), (1, (0, s))] [] Z Q) : ∀ (f i : Nat) (S : wS), i + f = n → lkI s lk r n cl (esV (cl.take i)) S0 S → wJ (pe_GA xs) wY0 M (d + 4) t_M_links ((pe_at t_M_links.bl 5).getD (0, [])).2 [(0, (2, 237)), (1, (0, s)), (2, (0, 5 * s)), (3, (0, (i : Int)))] [] S Q := by
  intro f
  induction f with
  | zero =>
    intro i S hi hS
    obtain ⟨z1, z2, hM⟩ := id hS
    have ei : i = n := by omega
    subst ei
    have e72 := (z2 237 172 (by first | decide | omega)).trans h72
    refine wa_iload_n (n := 3) rfl ?_
    refine wa_aload_n (n := 0) rfl ?_
    refine wb_gfi 237 rfl (wy_pr rfl) wt_237 wf_15_172 (v := (i : Int)) (e72) (fun r1 => ?_)
    refine wa_icmpge (w_rg0 (by omega) (by omega)) (w_rg0 (by omega) (by omega)) ⟨_, rfl⟩ (fun c2 => ?_) (fun c2 => ?_)
    · skip
      exact wJ_S (hq S hS) ⟨rfl, rfl, trivial⟩
    · skip
      exfalso; omega
  | succ f ih =>
    intro i S hi hS
    obtain ⟨z1, z2, hM⟩ := id hS
    have e72 := (z2 237 172 (by first | decide | omega)).trans h72
    have e73 := (z2 237 173 (by first | decide | omega)).trans h73
    obtain ⟨q1, q2, q3⟩ := hcl i (by omega)
    have ef : ∀ (j : Nat) (x : Int), j ≠ 385 → S j x = S0 j x := fun j x hj => z2 j x (Or.inl hj)
    rw [← ef 363 _ (by first | decide | omega)] at q1 q2 q3
    rw [← ef 364 _ (by first | decide | omega)] at q1 q3
    have q3b : S 363 (r + 1 + (i : Int)) = 7 → 0 ≤ S 364 (r + 1 + (i : Int)) ∧ S 364 (r + 1 + (i : Int)) < 8000 ∧ 0 ≤ S 321 (S 364 (r + 1 + (i : Int))) ∧ S 321 (S 364 (r + 1 + (i : Int))) < 60 := fun z => by
      rw [ef 321 _ (by first | decide | omega)]; exact q3 z
    have lt : (cl.take i).length = i := by rw [List.length_take]; omega
    have hesr := esV_rg (cl.take i) (fun x hx => hok x (List.mem_of_mem_take hx))
    rw [lt] at hesr
    have hp8 := p7_le (n := i) (by omega)
    have hci : 0 ≤ cl.getD i 0 ∧ cl.getD i 0 < 128 := hok _ (by rw [List.getD_eq_getElem?_getD, List.getElem?_eq_getElem (by omega)]; exact List.getElem_mem _)
    obtain ⟨ci, hcie⟩ : ∃ c : Int, c = cl.getD i 0 := ⟨_, rfl⟩
    obtain ⟨ev, heve⟩ : ∃ c : Int, c = esV (cl.take i) := ⟨_, rfl⟩
    have hadd := es_add (n := i) (by omega) hesr hci
    have hap : esV (cl.take (i + 1)) = esV (cl.take i) + cl.getD i 0 * p7 i := by
      have e : cl.take (i + 1) = cl.take i ++ [cl.getD i 0] := by
        rw [List.take_succ, List.getD_eq_getElem?_getD, List.getElem?_eq_getElem (by omega)]
        rfl
      rw [e, esV_ap, lt]
    have hesr2 := esV_rg (cl.take (i + 1)) (fun x hx => hok x (List.mem_of_mem_take hx))
    rw [show (cl.take (i + 1)).length = i + 1 by rw [List.length_take]; omega] at hesr2
    have hp9 := p7_le (n := i + 1) (by omega)
    rw [← hap] at hadd
    rw [← heve, ← hcie] at hadd
    rw [← heve] at z1 hesr
    rw [← hcie] at q1 hci
    obtain ⟨en, hen⟩ : ∃ c : Int, c = esV (cl.take (i + 1)) := ⟨_, rfl⟩
    rw [← hen] at hadd hesr2
    have q1c : clR S (S 363 (r + 1 + (i : Int))) (S 364 (r + 1 + (i : Int))) = ci := by
      rw [← q1]
      unfold clR
      rw [ef 321 _ (by first | decide | omega)]
    refine wa_iload_n (n := 3) rfl ?_
    refine wa_aload_n (n := 0) rfl ?_
    refine wb_gfi 237 rfl (wy_pr rfl) wt_237 wf_15_172 (v := (n : Int)) (e72) (fun r201 => ?_)
    refine wa_icmpge (w_rg0 (by omega) (by omega)) (w_rg0 (by omega) (by omega)) ⟨_, rfl⟩ (fun c202 => ?_) (fun c202 => ?_)
    · skip
      exfalso; omega
    · skip
      refine wa_aload_n (n := 0) rfl ?_
      refine wb_gf4 237 rfl (wy_pr rfl) wt_237 wf_15_165 (v := 385) wl_237_165 ?_
      refine wa_iload_n (n := 2) rfl ?_
      refine wa_dup2 (by decide) (by decide) ?_
      refine wb_lald 385 rfl (wy_pr rfl) wt_385 (n := 20000) ((ml_385 hM)) (by omega) (by omega) (v := ev) (z1) (fun r203 => ?_)
      refine wa_aload_n (n := 0) rfl ?_
      refine wa_aload_n (n := 0) rfl ?_
      refine wb_gf4 237 rfl (wy_pr rfl) wt_237 wf_15_138 (v := 363) wl_237_138 ?_
      refine wa_aload_n (n := 0) rfl ?_
      refine wb_gfi 237 rfl (wy_pr rfl) wt_237 wf_15_173 (v := r) (e73) (fun r204 => ?_)
      refine wa_iconst ?_
      refine wa_iadd ?_
      refine wa_iload_n (n := 3) rfl ?_
      refine wa_iadd ?_
      refine wb_iald 363 rfl (wy_pr rfl) wt_363 (n := 4200) ((ml_363 hM)) (by omega) (by omega) (v := (S 363 ((r + 1) + (i : Int)))) rfl (fun r205 => ?_)
      refine wa_aload_n (n := 0) rfl ?_
      refine wb_gf4 237 rfl (wy_pr rfl) wt_237 wf_15_139 (v := 364) wl_237_139 ?_
      refine wa_aload_n (n := 0) rfl ?_
      refine wb_gfi 237 rfl (wy_pr rfl) wt_237 wf_15_173 (v := r) (e73) (fun r206 => ?_)
      refine wa_iconst ?_
      refine wa_iadd ?_
      refine wa_iload_n (n := 3) rfl ?_
      refine wa_iadd ?_
      refine wb_lald 364 rfl (wy_pr rfl) wt_364 (n := 4200) ((ml_364 hM)) (by omega) (by omega) (v := (S 364 ((r + 1) + (i : Int)))) rfl (fun r207 => ?_)
      refine wa_cv 237 rfl (wy_pr rfl) wt_237 (M2 := fun _ => False) rfl at_M_typeOf ⟨_, rfl⟩ rfl rfl ⟨(Or.inr ⟨wy_pr rfl, fun q => q⟩), trivial, trivial, trivial, trivial⟩ ⟨trivial, trivial, (Or.inr ⟨wy_pr rfl, fun q => q⟩), trivial⟩ (fun _ _ q => False.elim q) (wJ_mono (mty_ok hM q2 q3b ⟨by omega, by omega⟩) (fun o Z hz => (⟨hz.1, by rw [← q1c]; exact hz.2⟩ : S = Z ∧ o = .inl (some (0, ci))))) (fun oq208 Sq208 hp209 q208 => ?_)
      rcases q208 with ⟨rfl, rfl⟩
      show wJ _ _ _ _ _ _ _ _ _ _
      refine wa_i2l (w_rg0 (by omega) (by omega)) ?_
      refine wa_bipush (w_rg2 (by omega) (by omega)) ?_
      refine wa_iload_n (n := 3) rfl ?_
      refine wa_imul ?_
      refine wa_lshl ?_
      refine wa_lor ?_
      rw [hadd]
      refine wb_last 385 rfl (wy_pr rfl) wt_385 (n := 20000) ((ml_385 hM)) (by omega) (by omega) ⟨(by omega), (by omega)⟩ ?_
      refine wa_iinc rfl rfl ?_
      refine wa_goto ⟨_, rfl⟩ ?_
      refine wJ_S (ih (i + 1) (w_up S 385 (5 * s) en) (by omega) ⟨(w_up_same _ _ _ _).trans hen, fun j x hj => (w_up_no (by omega)).trans (z2 j x hj), w_ML_up hM (by omega)⟩) ⟨rfl, rfl, rfl, rfl, trivial⟩
set_option maxHeartbeats 4000000 in
theorem lks_ok {n : Nat} (hM : w_ML S) (hse : rSe S E) (hs : 0 ≤ s ∧ s < S 237 47) (h10 : S 310 s = lk) (hlk : 0 ≤ lk ∧ lk ≤ 8) (hf : S 237 166 = e.1 ∧ S 237 167 = e.2.1 ∧ S 237 177 = e.2.2.1 ∧ S 237 169 = e.2.2.2.1 ∧ S 237 170 = e.2.2.2.2.1 ∧ S 237 171 = e.2.2.2.2.2.1 ∧ S 237 81 = e.2.2.2.2.2.2.1) (h72 : S 237 172 = (n : Int)) (he8 : e.2.2.2.2.2.2.2.1 = (n : Int) ∧ e.2.2.2.2.2.2.2.2 = esV (cl.take n)) (hn : n ≤ cl.length) (hl8 : cl.length ≤ 8) (hok : esOk cl) (h73 : S 237 173 = r) (hr : 0 ≤ r ∧ r + 1 + (cl.length : Int) ≤ 4200) (hcl : rCl S r cl) : wJ (pe_GA xs) wY0 M (d + 4) t_M_links ((pe_at t_M_links.bl 0).getD (0, [])).2 [(0, (2, 237)), (1, (0, s))] [] S (fun o Z => o = .inl none ∧ w_ML Z ∧ Z 310 s = lk + 1 ∧ ((lk = 8 ∧ Z 313 s = 1 ∧ rSe Z (fUp E s [])) ∨ (lk ≠ 8 ∧ Z 313 s = S 313 s ∧ rSe Z (fUp E s ((e :: E s).take 4)))) ∧ ∀ (j : Nat) (x : Int), (j < 376 ∨ 385 < j) → (j ≠ 310 ∨ x ≠ s) → (j ≠ 313 ∨ x ≠ s) → Z j x = S j x) := by
  obtain ⟨⟨g47, g47b⟩, gs⟩ := id hse
  obtain ⟨y1, y2, y3⟩ := gs s hs.1 hs.2
  obtain ⟨m, hm⟩ : ∃ m : Nat, m = (E s).length := ⟨_, rfl⟩
  rw [← hm] at y1 y2
  obtain ⟨f1, f2, f3, f4, f5, f6, f7⟩ := hf
  refine wa_aload_n (n := 0) rfl ?_
  refine wb_gf4 237 rfl (wy_pr rfl) wt_237 wf_15_55 (v := 310) wl_237_55 ?_
  refine wa_iload_n (n := 1) rfl ?_
  refine wa_dup2 (by decide) (by decide) ?_
  refine wb_iald 310 rfl (wy_pr rfl) wt_310 (n := 4000) ((ml_310 hM)) (by omega) (by omega) (v := lk) (h10) (fun r501 => ?_)
  refine wa_iconst ?_
  refine wa_iadd ?_
  refine wb_iast 310 rfl (wy_pr rfl) wt_310 (n := 4000) ((ml_310 hM)) (by omega) (by omega) ⟨(by omega), (by omega)⟩ ?_
  refine wa_aload_n (n := 0) rfl ?_
  refine wb_gf4 237 rfl (wy_pr rfl) wt_237 wf_15_55 (v := 310) wl_237_55 ?_
  refine wa_iload_n (n := 1) rfl ?_
  refine wb_iald 310 rfl (wy_pr rfl) wt_310 (n := 4000) ((w_up_at (by omega)).trans ((ml_310 hM))) (by omega) (by omega) (v := (lk + 1)) (w_up_same _ _ _ _) (fun r502 => ?_)
  refine wa_bipush (w_rg2 (by omega) (by omega)) ?_
  refine wa_icmpne (w_rg0 (by omega) (by omega)) (w_rg0 (by omega) (by omega)) ⟨_, rfl⟩ (fun c503 => ?_) (fun c503 => ?_)
  · skip
    refine wa_aload_n (n := 0) rfl ?_
    refine wb_gf4 237 rfl (wy_pr rfl) wt_237 wf_15_156 (v := 376) wl_237_156 ?_
    refine wa_iload_n (n := 1) rfl ?_
    refine wb_iald 376 rfl (wy_pr rfl) wt_376 (n := 4000) ((w_up_slot (by decide)).trans ((ml_376 hM))) (by omega) (by omega) (v := (m : Int)) ((w_up_slot (by decide)).trans (y1)) (fun r504 => ?_)
    refine wa_istore_n (n := 2) rfl ?_
    refine wa_fall ⟨_, rfl⟩ ?_
    have hS1 : ∀ (j : Nat) (x : Int), (j ≠ 310 ∨ x ≠ s) → (w_up S 310 s (lk + 1)) j x = S j x := fun j x hj => w_up_no (by omega)
    refine wJ_S (lk_up (S0 := (w_up S 310 s (lk + 1))) (n := m) ⟨hs.1, by omega⟩ y2 (fun Z hZ => ?_) m (w_up S 310 s (lk + 1)) (Nat.le_refl _) ⟨fun q q0 q1 => absurd q1 (by omega), fun _ _ _ => rfl, w_ML_up hM hs.1⟩) ⟨rfl, rfl, rfl, trivial⟩
    obtain ⟨i1, i2, hMZ⟩ := id hZ
    have hM2 := hM
    have zf : ∀ (j : Nat) (x : Int), (j < 377 ∨ 385 < j) → (j ≠ 310 ∨ x ≠ s) → Z j x = S j x := fun j x hj hx => (i2 j x (Or.inl hj)).trans (hS1 j x hx)
    have k1 := (zf 237 166 (by first | decide | omega) (by first | decide | omega)).trans f1
    have k2 := (zf 237 167 (by first | decide | omega) (by first | decide | omega)).trans f2
    have k3 := (zf 237 177 (by first | decide | omega) (by first | decide | omega)).trans f3
    have k4 := (zf 237 169 (by first | decide | omega) (by first | decide | omega)).trans f4
    have k5 := (zf 237 170 (by first | decide | omega) (by first | decide | omega)).trans f5
    have k6 := (zf 237 171 (by first | decide | omega) (by first | decide | omega)).trans f6
    have k7 := (zf 237 81 (by first | decide | omega) (by first | decide | omega)).trans f7
    have k8 := (zf 237 172 (by first | decide | omega) (by first | decide | omega)).trans h72
    replace hM := hMZ
    refine wa_iconst ?_
    refine wa_iload_n (n := 1) rfl ?_
    refine wa_imul ?_
    refine wa_istore_n (n := 2) rfl ?_
    refine wa_aload_n (n := 0) rfl ?_
    refine wb_gf4 237 rfl (wy_pr rfl) wt_237 wf_15_157 (v := 377) wl_237_157 ?_
    refine wa_iload_n (n := 2) rfl ?_
    refine wa_aload_n (n := 0) rfl ?_
    refine wb_gfi 237 rfl (wy_pr rfl) wt_237 wf_15_166 (v := (e.1)) (k1) (fun r505 => ?_)
    refine wb_iast 377 rfl (wy_pr rfl) wt_377 (n := 20000) ((ml_377 hM)) (by omega) (by omega) ⟨(by omega), (by omega)⟩ ?_
    refine wa_aload_n (n := 0) rfl ?_
    refine wb_gf4 237 rfl (wy_pr rfl) wt_237 wf_15_158 (v := 378) wl_237_158 ?_
    refine wa_iload_n (n := 2) rfl ?_
    refine wa_aload_n (n := 0) rfl ?_
    refine wb_gfi 237 rfl (wy_pr rfl) wt_237 wf_15_167 (v := (e.2.1)) ((w_up_slot (by decide)).trans (k2)) (fun r506 => ?_)
    refine wb_iast 378 rfl (wy_pr rfl) wt_378 (n := 20000) ((w_up_slot (by decide)).trans ((ml_378 hM))) (by omega) (by omega) ⟨(by omega), (by omega)⟩ ?_
    refine wa_aload_n (n := 0) rfl ?_
    refine wb_gf4 237 rfl (wy_pr rfl) wt_237 wf_15_159 (v := 379) wl_237_159 ?_
    refine wa_iload_n (n := 2) rfl ?_
    refine wa_aload_n (n := 0) rfl ?_
    refine wb_gfi 237 rfl (wy_pr rfl) wt_237 wf_15_177 (v := (e.2.2.1)) ((w_up_slot (by decide)).trans ((w_up_slot (by decide)).trans (k3))) (fun r507 => ?_)
    refine wb_iast 379 rfl (wy_pr rfl) wt_379 (n := 20000) ((w_up_slot (by decide)).trans ((w_up_slot (by decide)).trans ((ml_379 hM)))) (by omega) (by omega) ⟨(by omega), (by omega)⟩ ?_
    refine wa_aload_n (n := 0) rfl ?_
    refine wb_gf4 237 rfl (wy_pr rfl) wt_237 wf_15_160 (v := 380) wl_237_160 ?_
    refine wa_iload_n (n := 2) rfl ?_
    refine wa_aload_n (n := 0) rfl ?_
    refine wb_gfi 237 rfl (wy_pr rfl) wt_237 wf_15_169 (v := (e.2.2.2.1)) ((w_up_slot (by decide)).trans ((w_up_slot (by decide)).trans ((w_up_slot (by decide)).trans (k4)))) (fun r508 => ?_)
    refine wb_iast 380 rfl (wy_pr rfl) wt_380 (n := 20000) ((w_up_slot (by decide)).trans ((w_up_slot (by decide)).trans ((w_up_slot (by decide)).trans ((ml_380 hM))))) (by omega) (by omega) ⟨(by omega), (by omega)⟩ ?_
    refine wa_aload_n (n := 0) rfl ?_
    refine wb_gf4 237 rfl (wy_pr rfl) wt_237 wf_15_161 (v := 381) wl_237_161 ?_
    refine wa_iload_n (n := 2) rfl ?_
    refine wa_aload_n (n := 0) rfl ?_
    refine wb_gfi 237 rfl (wy_pr rfl) wt_237 wf_15_170 (v := (e.2.2.2.2.1)) ((w_up_slot (by decide)).trans ((w_up_slot (by decide)).trans ((w_up_slot (by decide)).trans ((w_up_slot (by decide)).trans (k5))))) (fun r509 => ?_)
    refine wb_iast 381 rfl (wy_pr rfl) wt_381 (n := 20000) ((w_up_slot (by decide)).trans ((w_up_slot (by decide)).trans ((w_up_slot (by decide)).trans ((w_up_slot (by decide)).trans ((ml_381 hM)))))) (by omega) (by omega) ⟨(by omega), (by omega)⟩ ?_
    refine wa_aload_n (n := 0) rfl ?_
    refine wb_gf4 237 rfl (wy_pr rfl) wt_237 wf_15_162 (v := 382) wl_237_162 ?_
    refine wa_iload_n (n := 2) rfl ?_
    refine wa_aload_n (n := 0) rfl ?_
    refine wb_gfi 237 rfl (wy_pr rfl) wt_237 wf_15_171 (v := (e.2.2.2.2.2.1)) ((w_up_slot (by decide)).trans ((w_up_slot (by decide)).trans ((w_up_slot (by decide)).trans ((w_up_slot (by decide)).trans ((w_up_slot (by decide)).trans (k6)))))) (fun r510 => ?_)
    refine wb_iast 382 rfl (wy_pr rfl) wt_382 (n := 20000) ((w_up_slot (by decide)).trans ((w_up_slot (by decide)).trans ((w_up_slot (by decide)).trans ((w_up_slot (by decide)).trans ((w_up_slot (by decide)).trans ((ml_382 hM))))))) (by omega) (by omega) ⟨(by omega), (by omega)⟩ ?_
    refine wa_fall ⟨_, rfl⟩ ?_
    refine wa_aload_n (n := 0) rfl ?_
    refine wb_gf4 237 rfl (wy_pr rfl) wt_237 wf_15_163 (v := 383) wl_237_163 ?_
    refine wa_iload_n (n := 2) rfl ?_
    refine wa_aload_n (n := 0) rfl ?_
    refine wb_gfi 237 rfl (wy_pr rfl) wt_237 wf_15_81 (v := (e.2.2.2.2.2.2.1)) ((w_up_slot (by decide)).trans ((w_up_slot (by decide)).trans ((w_up_slot (by decide)).trans ((w_up_slot (by decide)).trans ((w_up_slot (by decide)).trans ((w_up_slot (by decide)).trans (k7))))))) (fun r511 => ?_)
    refine wb_iast 383 rfl (wy_pr rfl) wt_383 (n := 20000) ((w_up_slot (by decide)).trans ((w_up_slot (by decide)).trans ((w_up_slot (by decide)).trans ((w_up_slot (by decide)).trans ((w_up_slot (by decide)).trans ((w_up_slot (by decide)).trans ((ml_383 hM)))))))) (by omega) (by omega) ⟨(by omega), (by omega)⟩ ?_
    refine wa_aload_n (n := 0) rfl ?_
    refine wb_gf4 237 rfl (wy_pr rfl) wt_237 wf_15_164 (v := 384) wl_237_164 ?_
    refine wa_iload_n (n := 2) rfl ?_
    refine wa_aload_n (n := 0) rfl ?_
    refine wb_gfi 237 rfl (wy_pr rfl) wt_237 wf_15_172 (v := (n : Int)) ((w_up_slot (by decide)).trans ((w_up_slot (by decide)).trans ((w_up_slot (by decide)).trans ((w_up_slot (by decide)).trans ((w_up_slot (by decide)).trans ((w_up_slot (by decide)).trans ((w_up_slot (by decide)).trans (k8)))))))) (fun r512 => ?_)
    refine wb_iast 384 rfl (wy_pr rfl) wt_384 (n := 20000) ((w_up_slot (by decide)).trans ((w_up_slot (by decide)).trans ((w_up_slot (by decide)).trans ((w_up_slot (by decide)).trans ((w_up_slot (by decide)).trans ((w_up_slot (by decide)).trans ((w_up_slot (by decide)).trans ((ml_384 hM))))))))) (by omega) (by omega) ⟨(by omega), (by omega)⟩ ?_
    refine wa_aload_n (n := 0) rfl ?_
    refine wb_gf4 237 rfl (wy_pr rfl) wt_237 wf_15_165 (v := 385) wl_237_165 ?_
    refine wa_iload_n (n := 2) rfl ?_
    refine wb_lconst (m := 0) rfl ?_
    refine wb_last 385 rfl (wy_pr rfl) wt_385 (n := 20000) ((w_up_slot (by decide)).trans ((w_up_slot (by decide)).trans ((w_up_slot (by decide)).trans ((w_up_slot (by decide)).trans ((w_up_slot (by decide)).trans ((w_up_slot (by decide)).trans ((w_up_slot (by decide)).trans ((w_up_slot (by decide)).trans ((ml_385 hM)))))))))) (by omega) (by omega) ⟨(by omega), (by omega)⟩ ?_
    refine wa_iconst ?_
    refine wa_istore_n (n := 3) rfl ?_
    refine wa_fall ⟨_, rfl⟩ ?_
    have tf : ∀ (j : Nat) (x : Int), ((j < 377 ∨ 385 < j) ∨ x ≠ 5 * s) → (w_up (w_up (w_up (w_up (w_up (w_up (w_up (w_up (w_up Z 377 (5 * s) (e.1)) 378 (5 * s) (e.2.1)) 379 (5 * s) (e.2.2.1)) 380 (5 * s) (e.2.2.2.1)) 381 (5 * s) (e.2.2.2.2.1)) 382 (5 * s) (e.2.2.2.2.2.1)) 383 (5 * s) (e.2.2.2.2.2.2.1)) 384 (5 * s) (n : Int)) 385 (5 * s) 0) j x = Z j x := fun j x hj => ((w_up_no (by omega)).trans ((w_up_no (by omega)).trans ((w_up_no (by omega)).trans ((w_up_no (by omega)).trans ((w_up_no (by omega)).trans ((w_up_no (by omega)).trans ((w_up_no (by omega)).trans ((w_up_no (by omega)).trans (w_up_no (by omega))))))))))
    have hclT : rCl (w_up (w_up (w_up (w_up (w_up (w_up (w_up (w_up (w_up Z 377 (5 * s) (e.1)) 378 (5 * s) (e.2.1)) 379 (5 * s) (e.2.2.1)) 380 (5 * s) (e.2.2.2.1)) 381 (5 * s) (e.2.2.2.2.1)) 382 (5 * s) (e.2.2.2.2.2.1)) 383 (5 * s) (e.2.2.2.2.2.2.1)) 384 (5 * s) (n : Int)) 385 (5 * s) 0) r cl := fun i hi => by
      have q := hcl i hi
      have e6 : ∀ (j : Nat) (x : Int), j = 363 ∨ j = 364 ∨ j = 321 → (w_up (w_up (w_up (w_up (w_up (w_up (w_up (w_up (w_up Z 377 (5 * s) (e.1)) 378 (5 * s) (e.2.1)) 379 (5 * s) (e.2.2.1)) 380 (5 * s) (e.2.2.2.1)) 381 (5 * s) (e.2.2.2.2.1)) 382 (5 * s) (e.2.2.2.2.2.1)) 383 (5 * s) (e.2.2.2.2.2.2.1)) 384 (5 * s) (n : Int)) 385 (5 * s) 0) j x = S j x := fun j x hj => (tf j x (by omega)).trans (zf j x (by omega) (by omega))
      unfold clR at q ⊢
      rw [e6 363 _ (by first | decide | omega), e6 364 _ (by first | decide | omega), e6 321 _ (by first | decide | omega)]
      exact q
    refine wJ_S (lk_ty (S0 := (w_up (w_up (w_up (w_up (w_up (w_up (w_up (w_up (w_up Z 377 (5 * s) (e.1)) 378 (5 * s) (e.2.1)) 379 (5 * s) (e.2.2.1)) 380 (5 * s) (e.2.2.2.1)) 381 (5 * s) (e.2.2.2.2.1)) 382 (5 * s) (e.2.2.2.2.2.1)) 383 (5 * s) (e.2.2.2.2.2.2.1)) 384 (5 * s) (n : Int)) 385 (5 * s) 0)) (lk := lk) (n := n) (cl := cl) (r := r) ⟨hs.1, by omega⟩ ((tf 237 172 (by first | decide | omega)).trans k8) hn hl8 hok ((tf 237 173 (by first | decide | omega)).trans ((zf 237 173 (by first | decide | omega) (by first | decide | omega)).trans h73)) hr hclT (fun X hX => ?_) n 0 (w_up (w_up (w_up (w_up (w_up (w_up (w_up (w_up (w_up Z 377 (5 * s) (e.1)) 378 (5 * s) (e.2.1)) 379 (5 * s) (e.2.2.1)) 380 (5 * s) (e.2.2.2.1)) 381 (5 * s) (e.2.2.2.2.1)) 382 (5 * s) (e.2.2.2.2.2.1)) 383 (5 * s) (e.2.2.2.2.2.2.1)) 384 (5 * s) (n : Int)) 385 (5 * s) 0) (by omega) ⟨w_up_same _ _ _ _, fun _ _ _ => rfl, w_ML_up (w_ML_up (w_ML_up (w_ML_up (w_ML_up (w_ML_up (w_ML_up (w_ML_up (w_ML_up (hMZ) (by omega)) (by omega)) (by omega)) (by omega)) (by omega)) (by omega)) (by omega)) (by omega)) (by omega)⟩) ⟨rfl, rfl, rfl, rfl, trivial⟩
    obtain ⟨x1, x2, hMX⟩ := id hX
    replace hM := hMX
    have xf : ∀ (j : Nat) (x : Int), ((j < 377 ∨ 385 < j) ∨ x ≠ 5 * s) → X j x = Z j x := fun j x hj => (x2 j x (by omega)).trans (tf j x hj)
    have x76 : X 376 s = (m : Int) := (xf 376 s (by omega)).trans ((zf 376 s (by omega) (by omega)).trans y1)
    have g377 := (x2 377 (5 * s) (by first | decide | omega)).trans (((w_up_slot (by first | decide | omega)).trans ((w_up_slot (by first | decide | omega)).trans ((w_up_slot (by first | decide | omega)).trans ((w_up_slot (by first | decide | omega)).trans ((w_up_slot (by first | decide | omega)).trans ((w_up_slot (by first | decide | omega)).trans ((w_up_slot (by first | decide | omega)).trans ((w_up_slot (by first | decide | omega)).trans (w_up_same _ _ _ _))))))))))
    have g378 := (x2 378 (5 * s) (by first | decide | omega)).trans (((w_up_slot (by first | decide | omega)).trans ((w_up_slot (by first | decide | omega)).trans ((w_up_slot (by first | decide | omega)).trans ((w_up_slot (by first | decide | omega)).trans ((w_up_slot (by first | decide | omega)).trans ((w_up_slot (by first | decide | omega)).trans ((w_up_slot (by first | decide | omega)).trans (w_up_same _ _ _ _)))))))))
    have g379 := (x2 379 (5 * s) (by first | decide | omega)).trans (((w_up_slot (by first | decide | omega)).trans ((w_up_slot (by first | decide | omega)).trans ((w_up_slot (by first | decide | omega)).trans ((w_up_slot (by first | decide | omega)).trans ((w_up_slot (by first | decide | omega)).trans ((w_up_slot (by first | decide | omega)).trans (w_up_same _ _ _ _))))))))
    have g380 := (x2 380 (5 * s) (by first | decide | omega)).trans (((w_up_slot (by first | decide | omega)).trans ((w_up_slot (by first | decide | omega)).trans ((w_up_slot (by first | decide | omega)).trans ((w_up_slot (by first | decide | omega)).trans ((w_up_slot (by first | decide | omega)).trans (w_up_same _ _ _ _)))))))
    have g381 := (x2 381 (5 * s) (by first | decide | omega)).trans (((w_up_slot (by first | decide | omega)).trans ((w_up_slot (by first | decide | omega)).trans ((w_up_slot (by first | decide | omega)).trans ((w_up_slot (by first | decide | omega)).trans (w_up_same _ _ _ _))))))
    have g382 := (x2 382 (5 * s) (by first | decide | omega)).trans (((w_up_slot (by first | decide | omega)).trans ((w_up_slot (by first | decide | omega)).trans ((w_up_slot (by first | decide | omega)).trans (w_up_same _ _ _ _)))))
    have g383 := (x2 383 (5 * s) (by first | decide | omega)).trans (((w_up_slot (by first | decide | omega)).trans ((w_up_slot (by first | decide | omega)).trans (w_up_same _ _ _ _))))
    have g384 := (x2 384 (5 * s) (by first | decide | omega)).trans (((w_up_slot (by first | decide | omega)).trans (w_up_same _ _ _ _)))
    refine wa_aload_n (n := 0) rfl ?_
    refine wb_gf4 237 rfl (wy_pr rfl) wt_237 wf_15_156 (v := 376) wl_237_156 ?_
    refine wa_iload_n (n := 1) rfl ?_
    refine wa_aload_n (n := 0) rfl ?_
    refine wb_gf4 237 rfl (wy_pr rfl) wt_237 wf_15_156 (v := 376) wl_237_156 ?_
    refine wa_iload_n (n := 1) rfl ?_
    refine wb_iald 376 rfl (wy_pr rfl) wt_376 (n := 4000) ((ml_376 hM)) (by omega) (by omega) (v := (m : Int)) (x76) (fun r513 => ?_)
    refine wa_iconst ?_
    refine wa_icmpge (w_rg0 (by omega) (by omega)) (w_rg0 (by omega) (by omega)) ⟨_, rfl⟩ (fun c514 => ?_) (fun c514 => ?_)
    · skip
      refine wa_iconst ?_
      refine wa_fall ⟨_, rfl⟩ ?_
      refine wb_iast 376 rfl (wy_pr rfl) wt_376 (n := 4000) ((ml_376 hM)) (by omega) (by omega) ⟨(by omega), (by omega)⟩ ?_
      refine wa_return rfl ?_
      have vf : ∀ (j : Nat) (x : Int), (j ≠ 376 ∨ x ≠ s) → (w_up X 376 s 4) j x = X j x := fun j x hj => w_up_no (by omega)
      have hEc : rEc (w_up X 376 s 4) e (5 * s) := rEc_ag (S := X) (r := 5 * s) ⟨⟨g377, g378, g379, g380, g381, g382⟩, g383, g384.trans he8.1.symm, x1.trans he8.2.symm⟩ (fun j j0 j1 => vf j _ (by omega))
      have hz : (w_up X 376 s 4) 376 s = if (m : Int) < 4 then (m : Int) + 1 else 4 := (w_up_same _ _ _ _).trans (by first | exact (if_pos (by omega)).symm | exact (if_neg (by omega)).symm)
      have hse1 : rSe (w_up S 310 s (lk + 1)) E := rSe_ag hse (fun j x hj => w_up_no (by omega))
      exact ⟨rfl, w_ML_up hMX hs.1, (vf 310 s (by first | decide | omega)).trans ((xf 310 s (by omega)).trans ((i2 310 s (by omega)).trans (w_up_same _ _ _ _))), Or.inr ⟨by omega, (vf 313 s (by first | decide | omega)).trans ((xf 313 s (by omega)).trans (zf 313 s (by omega) (by omega))), rSe_lk (S := Z) hse1 ⟨hs.1, by rw [hS1 237 47 (by first | decide | omega)]; exact hs.2⟩ hm.symm hZ (fun j x hj => (vf j x (by omega)).trans (xf j x (by omega))) hEc hz⟩, fun j x j0 j1 j2 => (vf j x (by omega)).trans ((xf j x (by omega)).trans (zf j x (by omega) j1))⟩
    · skip
      refine wa_aload_n (n := 0) rfl ?_
      refine wb_gf4 237 rfl (wy_pr rfl) wt_237 wf_15_156 (v := 376) wl_237_156 ?_
      refine wa_iload_n (n := 1) rfl ?_
      refine wb_iald 376 rfl (wy_pr rfl) wt_376 (n := 4000) ((ml_376 hM)) (by omega) (by omega) (v := (m : Int)) (x76) (fun r515 => ?_)
      refine wa_iconst ?_
      refine wa_iadd ?_
      refine wa_goto ⟨_, rfl⟩ ?_
      refine wb_iast 376 rfl (wy_pr rfl) wt_376 (n := 4000) ((ml_376 hM)) (by omega) (by omega) ⟨(by omega), (by omega)⟩ ?_
      refine wa_return rfl ?_
      have vf : ∀ (j : Nat) (x : Int), (j ≠ 376 ∨ x ≠ s) → (w_up X 376 s ((m : Int) + 1)) j x = X j x := fun j x hj => w_up_no (by omega)
      have hEc : rEc (w_up X 376 s ((m : Int) + 1)) e (5 * s) := rEc_ag (S := X) (r := 5 * s) ⟨⟨g377, g378, g379, g380, g381, g382⟩, g383, g384.trans he8.1.symm, x1.trans he8.2.symm⟩ (fun j j0 j1 => vf j _ (by omega))
      have hz : (w_up X 376 s ((m : Int) + 1)) 376 s = if (m : Int) < 4 then (m : Int) + 1 else 4 := (w_up_same _ _ _ _).trans (by first | exact (if_pos (by omega)).symm | exact (if_neg (by omega)).symm)
      have hse1 : rSe (w_up S 310 s (lk + 1)) E := rSe_ag hse (fun j x hj => w_up_no (by omega))
      exact ⟨rfl, w_ML_up hMX hs.1, (vf 310 s (by first | decide | omega)).trans ((xf 310 s (by omega)).trans ((i2 310 s (by omega)).trans (w_up_same _ _ _ _))), Or.inr ⟨by omega, (vf 313 s (by first | decide | omega)).trans ((xf 313 s (by omega)).trans (zf 313 s (by omega) (by omega))), rSe_lk (S := Z) hse1 ⟨hs.1, by rw [hS1 237 47 (by first | decide | omega)]; exact hs.2⟩ hm.symm hZ (fun j x hj => (vf j x (by omega)).trans (xf j x (by omega))) hEc hz⟩, fun j x j0 j1 j2 => (vf j x (by omega)).trans ((xf j x (by omega)).trans (zf j x (by omega) j1))⟩
  · skip
    refine wa_aload_n (n := 0) rfl ?_
    refine wb_gf4 237 rfl (wy_pr rfl) wt_237 wf_15_58 (v := 313) wl_237_58 ?_
    refine wa_iload_n (n := 1) rfl ?_
    refine wa_iconst ?_
    refine wb_zast 313 rfl (wy_pr rfl) wt_313 (n := 4000) ((w_up_slot (by decide)).trans ((ml_313 hM))) (by omega) (by omega) ⟨(by omega), (by omega)⟩ ?_
    refine wa_aload_n (n := 0) rfl ?_
    refine wb_gf4 237 rfl (wy_pr rfl) wt_237 wf_15_156 (v := 376) wl_237_156 ?_
    refine wa_iload_n (n := 1) rfl ?_
    refine wa_iconst ?_
    refine wb_iast 376 rfl (wy_pr rfl) wt_376 (n := 4000) ((w_up_slot (by decide)).trans ((w_up_slot (by decide)).trans ((ml_376 hM)))) (by omega) (by omega) ⟨(by omega), (by omega)⟩ ?_
    refine wa_return rfl ?_
    have vf : ∀ (j : Nat) (x : Int), (j ≠ 310 ∧ j ≠ 313 ∧ j ≠ 376) ∨ x ≠ s → (w_up (w_up (w_up S 310 s (lk + 1)) 313 s 1) 376 s 0) j x = S j x := fun j x hj => ((w_up_no (by omega)).trans ((w_up_no (by omega)).trans (w_up_no (by omega))))
    exact ⟨rfl, w_ML_up (w_ML_up (w_ML_up (hM) hs.1) hs.1) hs.1, ((w_up_slot (by first | decide | omega)).trans ((w_up_slot (by first | decide | omega)).trans (w_up_same _ _ _ _))), Or.inl ⟨by omega, ((w_up_slot (by first | decide | omega)).trans (w_up_same _ _ _ _)), rSe_0 hse (fun j x hj => vf j x (by omega)) (w_up_same _ _ _ _)⟩, fun j x j0 j1 j2 => by
      by_cases c : x = s
      · exact ((w_up_no (by omega)).trans ((w_up_no (by omega)).trans (w_up_no (by omega))))
      · exact vf j x (Or.inr c)⟩
end Wgx
