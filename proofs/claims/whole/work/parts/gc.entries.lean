/-! PART gc: removeEntry, takeEntry of the class; a new first entry. -/
section Wgc
variable {xs : List (Nat × List Int32)} {M : Nat → Prop} {d : Nat} {S Z A : wS} {E : Int → List aE} {ix : Int → List Int} {fl : List Int} {ow : Int → Int} {a b s kd nm fo r : Int} {e : aE}
/-- what takeEntry leaves, and tells -/
def teQ (S : wS) (r : Int) (Z : wS) : Prop := (S 19 12 ≠ -1 ∧ r = S 19 12 ∧ w_up S 19 12 (S 57 (S 19 12)) = Z) ∨ (S 19 12 = -1 ∧ r = S 19 11 ∧ ∃ A : wS, mr_ag 48 10 (S 19 11) S A ∧ w_up A 19 11 (S 19 11 + 1) = Z)
/-- what is found becomes the first entry of a site -/
def lkZ (s fo : Int) (S : wS) : wS := w_up (w_up (w_up S 57 fo (S 46 s)) 46 s fo) 44 s (S 44 s + 1)
theorem lkZ_e (j : Nat) (x : Int) (h1 : (j ≠ 46 ∧ j ≠ 44) ∨ x ≠ s) (h2 : j ≠ 57 ∨ x ≠ fo) : lkZ s fo S j x = S j x := by
  unfold lkZ
  exact (w_up_no (by omega)).trans ((w_up_no (by omega)).trans (w_up_no (by omega)))
theorem lkZ_v : lkZ s fo S 57 fo = S 46 s ∧ lkZ s fo S 46 s = fo ∧ lkZ s fo S 44 s = S 44 s + 1 := ⟨(w_up_slot (by first | decide | omega)).trans ((w_up_slot (by first | decide | omega)).trans (w_up_same _ _ _ _)), (w_up_slot (by first | decide | omega)).trans (w_up_same _ _ _ _), w_up_same _ _ _ _⟩
/-- tables that have grown -/
theorem mr_48 {cnt : Int} (h : mr_ag 48 10 cnt S A) (hl : ∀ x : Nat, x < 10 → S (48 + x) (-1) = S 48 (-1)) (hc : 0 ≤ cnt ∧ cnt ≤ S 48 (-1) ∧ 16 ≤ S 48 (-1)) : (∀ (j : Nat) (x : Int), j < 237 → ((j < 48 ∨ 57 < j) ∨ (0 ≤ x ∧ x < cnt)) → A j x = S j x) ∧ (∀ x : Nat, x < 10 → A (48 + x) (-1) = A 48 (-1)) ∧ (cnt < A 48 (-1) ∧ S 48 (-1) ≤ A 48 (-1) ∧ (A 48 (-1) = S 48 (-1) ∨ A 48 (-1) = 2 * cnt)) := by
  have hg : wG = 1000000 := rfl
  rcases h with ⟨h1, rfl⟩ | ⟨h1, ⟨h2, h3⟩, -, -⟩
  · exact ⟨fun _ _ _ _ => rfl, hl, h1, Int.le_refl _, Or.inl rfl⟩
  · have z0 : A 48 (-1) = cnt * 2 := (h2 0 (by first | decide | omega)).1
    refine ⟨fun j x j0 j1 => ?_, fun x hx => (h2 x hx).1.trans z0.symm, by omega, by omega, Or.inr (by omega)⟩
    by_cases c : j < 48 ∨ 57 < j
    · exact h3 j x (by omega) (by omega) (by omega)
    · have := (h2 (j - 48) (by omega)).2 x (by omega) (by omega)
      rw [show 48 + (j - 48) = j by omega] at this
      exact this
theorem cSe_lk (h : cSe S E ix fl ow) (hs : 0 ≤ s ∧ s < S 19 9) (hfo : S 158 14 = fo) (he : cEc S (S 35 s) (S 36 s) e fo) (h4 : (E s).length < 4) (hq : teQ (lkZ s fo S) r A) : (∃ (fl2 : List Int) (ow2 : Int → Int), cSe (w_up A 158 14 r) (fUp E s (e :: E s)) (fUp ix s (fo :: ix s)) fl2 ow2) ∧ cEc (w_up A 158 14 r) (S 35 s) (S 36 s) e fo ∧ 0 ≤ r := by
  have hg : wG = 1000000 := rfl
  obtain ⟨h1, h2, ⟨h3, h3b, h3c⟩, ⟨f0, f1, f2⟩, h5⟩ := h
  rw [hfo] at f0 f1 f2
  obtain ⟨g1, g2, g3, g4, g5, g6, g7⟩ := h2 s hs.1 hs.2
  obtain ⟨q1, q2, q3, q4⟩ := id h1
  obtain ⟨v1, v2, v3⟩ := lkZ_v (s := s) (fo := fo) (S := S)
  have nf : fo ∉ fl := fun z => by have := (h3c fo z).1; omega
  have ni : ∀ t : Int, 0 ≤ t → t < S 19 9 → fo ∉ ix t := fun t t0 t1 z => by have := ((h2 t t0 t1).2.2.2.2.2.1 fo z).1; omega
  -- the state behind takeEntry, of the two ways that it goes
  have key : ∃ fl2 : List Int, (∀ (j : Nat) (x : Int), j < 237 → ((j < 48 ∨ 57 < j) ∨ (0 ≤ x ∧ x < S 19 11)) → (j ≠ 19 ∨ (x ≠ 11 ∧ x ≠ 12)) → A j x = lkZ s fo S j x) ∧ ((∀ x : Nat, x < 10 → A (48 + x) (-1) = A 48 (-1)) ∧ S 19 11 ≤ A 48 (-1) ∧ 16 ≤ A 48 (-1) ∧ A 48 (-1) ≤ 32767) ∧ chL (S 57) fl2 (A 19 12) ∧ fl2.Nodup ∧ (∀ x ∈ fl2, x ∈ fl ∧ x ≠ r) ∧ (0 ≤ r ∧ r < A 19 11 ∧ r ≠ fo ∧ ∀ t : Int, 0 ≤ t → t < S 19 9 → r ∉ ix t) ∧ (S 19 11 ≤ A 19 11 ∧ A 19 11 ≤ A 48 (-1)) ∧ A 19 11 - (fl2.length : Int) = S 19 11 - (fl.length : Int) + 1 := by
    have e12 : lkZ s fo S 19 12 = S 19 12 := lkZ_e 19 12 (Or.inl (by first | decide | omega)) (Or.inl (by first | decide | omega))
    have e11 : lkZ s fo S 19 11 = S 19 11 := lkZ_e 19 11 (Or.inl (by first | decide | omega)) (Or.inl (by first | decide | omega))
    have l48 : ∀ x : Nat, x < 10 → lkZ s fo S (48 + x) (-1) = S (48 + x) (-1) := fun x hx => lkZ_e _ _ (Or.inl (by omega)) (Or.inr (by omega))
    have l480 : lkZ s fo S 48 (-1) = S 48 (-1) := l48 0 (by first | decide | omega)
    unfold teQ at hq
    rw [e12, e11] at hq
    rcases hq with ⟨z1, z2, z3⟩ | ⟨z1, z2, B, z3, z4⟩
    · cases hfl : fl with
      | nil => rw [hfl] at h3; exact absurd h3 z1
      | cons c fl2 =>
        rw [hfl] at h3 h3b h3c nf
        have ec : r = c := z2.trans h3.1
        have nd := List.nodup_cons.mp h3b
        have oc := h3c c (List.mem_cons.mpr (Or.inl rfl))
        have cf : c ≠ fo := fun y => nf (by rw [← y]; exact List.mem_cons.mpr (Or.inl rfl))
        have e57 : lkZ s fo S 57 (S 19 12) = S 57 c := by rw [h3.1]; exact lkZ_e 57 c (Or.inl (by first | decide | omega)) (Or.inr cf)
        have eA : ∀ (j : Nat) (x : Int), (j ≠ 19 ∨ x ≠ 12) → A j x = lkZ s fo S j x := fun j x j0 => by rw [← z3]; exact w_up_no (by omega)
        have a12 : A 19 12 = S 57 c := by rw [← z3]; exact (w_up_same _ _ _ _).trans e57
        have a11 : A 19 11 = S 19 11 := (eA 19 11 (by first | decide | omega)).trans e11
        have a48 : A 48 (-1) = S 48 (-1) := (eA 48 (-1) (by first | decide | omega)).trans l480
        refine ⟨fl2, fun j x _ _ j2 => eA j x (by omega), ⟨fun x hx => ?_, by omega, by omega, by omega⟩, by rw [a12]; exact h3.2.2, nd.2, fun x hx => ⟨List.mem_cons.mpr (Or.inr hx), fun y => nd.1 (by rw [← ec, ← y]; exact hx)⟩, ⟨by rw [ec]; exact h3.2.1, by rw [ec, a11]; exact oc.2, by rw [ec]; exact cf, fun t t0 t1 y => ?_⟩, by omega, ?_⟩
        · rw [a48, eA (48 + x) (-1) (by omega), l48 x hx]; exact q3 x hx
        · rw [ec] at y
          have := ((h2 t t0 t1).2.2.2.2.2.1 c y).1
          omega
        · rw [a11, List.length_cons]; omega
    · have hfl : fl = [] := by
        cases hfl : fl with
        | nil => rfl
        | cons c fl2 => rw [hfl] at h3; have := h3.2.1; have := h3.1; omega
      have hmr := mr_48 z3 (fun x hx => by rw [l48 x hx, l480]; exact q3 x hx) ⟨by omega, by rw [l480]; omega, by rw [l480]; omega⟩
      obtain ⟨m1, m2, m3, m4, m5⟩ := hmr
      rw [l480] at m4 m5
      have eA : ∀ (j : Nat) (x : Int), (j ≠ 19 ∨ x ≠ 11) → A j x = B j x := fun j x j0 => by rw [← z4]; exact w_up_no (by omega)
      have a11 : A 19 11 = S 19 11 + 1 := by rw [← z4]; exact w_up_same _ _ _ _
      have a12 : A 19 12 = -1 := (eA 19 12 (by first | decide | omega)).trans ((m1 19 12 (by first | decide | omega) (Or.inl (by first | decide | omega))).trans (e12.trans z1))
      have a48 : A 48 (-1) = B 48 (-1) := eA 48 (-1) (by first | decide | omega)
      have hsl := sE_le (f := S 44) (S 19 9).toNat (fun x x0 x1 => by
        have y := h2 x x0 (by omega)
        have := y.1
        have := y.2.1
        omega)
      have hb : S 19 11 ≤ 16001 := by rw [hfl] at h5; have : (([] : List Int).length : Int) = 0 := rfl; omega
      refine ⟨[], fun j x j0 j1 j2 => (eA j x (by omega)).trans (m1 j x j0 j1), ⟨fun x hx => ?_, by omega, by omega, by omega⟩, a12, List.nodup_nil, fun x hx => absurd hx List.not_mem_nil, ⟨by omega, by omega, by omega, fun t t0 t1 y => ?_⟩, by omega, ?_⟩
      · rw [a48, eA (48 + x) (-1) (by omega)]; exact m2 x hx
      · have := ((h2 t t0 t1).2.2.2.2.2.1 r y).2
        omega
      · rw [hfl, a11]; omega
  obtain ⟨fl2, k1, k2, k3, k4, k5, ⟨k6, k7, k8, k9⟩, k10, k11⟩ := key
  have hW : ∀ (j : Nat) (x : Int), (j ≠ 158 ∨ x ≠ 14) → w_up A 158 14 r j x = A j x := fun j x j0 => w_up_no (by omega)
  have c48 : ∀ x : Int, 0 ≤ x → x < S 19 11 → ∀ j : Nat, 48 ≤ j → j ≤ 56 → w_up A 158 14 r j x = S j x := fun x x0 x1 j j0 j1 => (hW j x (by omega)).trans ((k1 j x (by omega) (Or.inr ⟨x0, x1⟩) (by omega)).trans (lkZ_e j x (Or.inl (by omega)) (by omega)))
  have w57 : ∀ x : Int, 0 ≤ x → x < S 19 11 → x ≠ fo → w_up A 158 14 r 57 x = S 57 x := fun x x0 x1 x2 => (hW 57 x (by omega)).trans ((k1 57 x (by omega) (Or.inr ⟨x0, x1⟩) (by omega)).trans (lkZ_e 57 x (Or.inl (by first | decide | omega)) (Or.inr x2)))
  have r9 : w_up A 158 14 r 19 9 = S 19 9 := (hW 19 9 (by first | decide | omega)).trans ((k1 19 9 (by first | decide | omega) (Or.inl (by first | decide | omega)) (by first | decide | omega)).trans (lkZ_e 19 9 (Or.inl (by first | decide | omega)) (Or.inl (by first | decide | omega))))
  have r11 : w_up A 158 14 r 19 11 = A 19 11 := hW 19 11 (by first | decide | omega)
  have r12 : w_up A 158 14 r 19 12 = A 19 12 := hW 19 12 (by first | decide | omega)
  have r35 : ∀ (j : Nat) (x : Int), 35 ≤ j → j ≤ 46 → w_up A 158 14 r j x = lkZ s fo S j x := fun j x j0 j1 => (hW j x (by omega)).trans (k1 j x (by omega) (Or.inl (by omega)) (by omega))
  have hE : cEc (w_up A 158 14 r) (S 35 s) (S 36 s) e fo := cEc_ag he (fun j j0 j1 => c48 fo f0 f1 j j0 j1)
  refine ⟨⟨fl2, fUp (fUp ow fo s) r (-2), ⟨fun x hx => ?_, ?_, fun x hx => ?_, ?_⟩, fun t t0 t1 => ?_, ⟨?_, k4, fun x hx => ?_⟩, ?_, ?_⟩, hE, k6⟩
  · rw [r35 (35 + x) _ (by omega) (by omega), r35 35 _ (by first | decide | omega) (by first | decide | omega), lkZ_e _ _ (Or.inr (by omega)) (Or.inr (by omega)), lkZ_e _ _ (Or.inr (by omega)) (Or.inr (by omega))]
    exact q1 x hx
  · rw [r35 35 _ (by first | decide | omega) (by first | decide | omega), lkZ_e 35 (-1) (Or.inr (by omega)) (Or.inr (by omega)), r9]
    exact q2
  · rw [hW (48 + x) _ (by omega), hW 48 _ (by first | decide | omega)]
    exact k2.1 x hx
  · rw [hW 48 _ (by first | decide | omega), r11]
    omega
  · rw [r9] at t1
    by_cases c : t = s
    · rw [c, fUp_s, fUp_s]
      refine ⟨?_, by rw [List.length_cons]; omega, by rw [List.length_cons, List.length_cons]; omega, ⟨?_, f0, ?_⟩, List.nodup_cons.mpr ⟨ni s hs.1 hs.2, g5⟩, fun x hx => ?_, fun i hi => ?_⟩
      · rw [r35 44 _ (by first | decide | omega) (by first | decide | omega), v3, g1, List.length_cons]; omega
      · rw [r35 46 _ (by first | decide | omega) (by first | decide | omega), v2]
      · rw [hW 57 fo (by first | decide | omega), k1 57 fo (by first | decide | omega) (Or.inr ⟨f0, f1⟩) (by first | decide | omega), v1]
        exact chL_cg _ _ (fun x hx => w57 x (chL_0 _ _ g4 x hx) (g6 x hx).2 (fun y => ni s hs.1 hs.2 (y ▸ hx))) g4
      · rw [r11]
        rcases List.mem_cons.mp hx with z | z
        · rw [z, fUp_n (fun y => k8 y.symm), fUp_s]; exact ⟨rfl, by omega⟩
        · rw [fUp_n (s := r) (x := x) (fun y => k9 s hs.1 hs.2 (by rw [← y]; exact z)), fUp_n (s := fo) (x := x) (fun y => ni s hs.1 hs.2 (by rw [← y]; exact z))]
          have := g6 x z
          exact ⟨this.1, by omega⟩
      · rw [r35 35 _ (by first | decide | omega) (by first | decide | omega), r35 36 _ (by first | decide | omega) (by first | decide | omega), lkZ_e 35 s (Or.inl (by first | decide | omega)) (Or.inl (by first | decide | omega)), lkZ_e 36 s (Or.inl (by first | decide | omega)) (Or.inl (by first | decide | omega))]
        cases i with
        | zero => exact hE
        | succ i =>
          rw [List.length_cons] at hi
          rw [List.getD_cons_succ, List.getD_cons_succ]
          have hm : (ix s).getD i 0 ∈ ix s := by
            rw [List.getD_eq_getElem?_getD, List.getElem?_eq_getElem (by omega)]
            exact List.getElem_mem _
          exact cEc_ag (g7 i (by omega)) (fun j j0 j1 => c48 _ (chL_0 _ _ g4 _ hm) (g6 _ hm).2 j j0 j1)
    · rw [fUp_n c, fUp_n c]
      obtain ⟨y1, y2, y3, y4, y5, y6, y7⟩ := h2 t t0 t1
      refine ⟨?_, y2, y3, ?_, y5, fun x hx => ?_, fun i hi => ?_⟩
      · rw [r35 44 _ (by first | decide | omega) (by first | decide | omega), lkZ_e 44 t (Or.inr c) (Or.inl (by first | decide | omega))]; exact y1
      · rw [r35 46 _ (by first | decide | omega) (by first | decide | omega), lkZ_e 46 t (Or.inr c) (Or.inl (by first | decide | omega))]
        exact chL_cg _ _ (fun x hx => w57 x (chL_0 _ _ y4 x hx) (y6 x hx).2 (fun y => ni t t0 t1 (y ▸ hx))) y4
      · rw [fUp_n (s := r) (x := x) (fun y => k9 t t0 t1 (by rw [← y]; exact hx)), fUp_n (s := fo) (x := x) (fun y => ni t t0 t1 (by rw [← y]; exact hx)), r11]
        have := y6 x hx
        exact ⟨this.1, by omega⟩
      · rw [r35 35 _ (by first | decide | omega) (by first | decide | omega), r35 36 _ (by first | decide | omega) (by first | decide | omega), lkZ_e 35 t (Or.inl (by first | decide | omega)) (Or.inl (by first | decide | omega)), lkZ_e 36 t (Or.inl (by first | decide | omega)) (Or.inl (by first | decide | omega))]
        have hm : (ix t).getD i 0 ∈ ix t := by
          rw [List.getD_eq_getElem?_getD, List.getElem?_eq_getElem (by omega)]
          exact List.getElem_mem _
        exact cEc_ag (y7 i hi) (fun j j0 j1 => c48 _ (chL_0 _ _ y4 _ hm) (y6 _ hm).2 j j0 j1)
  · rw [r12]
    exact chL_cg _ _ (fun x hx => w57 x (chL_0 _ _ k3 x hx) (h3c x (k5 x hx).1).2 (fun y => nf (by rw [← y]; exact (k5 x hx).1))) k3
  · rw [r11, fUp_n (k5 x hx).2, fUp_n (fun y => nf (by rw [← y]; exact (k5 x hx).1))]
    have := h3c x (k5 x hx).1
    exact ⟨this.1, by omega⟩
  · rw [w_up_same, r11, fUp_s]
    exact ⟨k6, k7, rfl⟩
  · have e44 : ∀ x : Int, w_up A 158 14 r 44 x = lkZ s fo S 44 x := fun x => r35 44 x (by first | decide | omega) (by first | decide | omega)
    have hsum := sE_up (f := S 44) (g := w_up A 158 14 r 44) (s := s) (v := 1) (fun x hx2 => (e44 x).trans (lkZ_e 44 x (Or.inr hx2) (Or.inl (by first | decide | omega)))) ((e44 s).trans v3) (S 19 9).toNat
    rw [if_pos (by omega)] at hsum
    rw [r11, r9, hsum]
    omega
theorem re_ok (hl : cSl S) (hs : 0 ≤ s ∧ s < S 35 (-1)) (hb : b = -1 ∨ (0 ≤ b ∧ b < S 48 (-1))) (ha : 0 ≤ a ∧ a < S 48 (-1)) (h44 : 1 ≤ S 44 s ∧ S 44 s ≤ 4) (hC : w_CL S) : wJ (pe_GA xs) wY0 M d t_XC_removeEntry ((pe_at t_XC_removeEntry.bl 0).getD (0, [])).2 [(0, (2, 19)), (1, (0, s)), (2, (0, b)), (3, (0, a))] [] S (fun o Z => o = .inl none ∧ rmZ s b a S = Z) := by
  have h35 := hl.2.1
  have h48 := hl.2.2.2
  refine wa_iload_n (n := 2) rfl ?_
  refine wa_iconst ?_
  refine wa_icmpne (w_rg0 (by omega) (by omega)) (w_rg0 (by omega) (by omega)) ⟨_, rfl⟩ (fun c1 => ?_) (fun c1 => ?_)
  · skip
    refine wa_aload_n (n := 0) rfl ?_
    refine wb_gf4 19 rfl (wy_pr rfl) wt_19 wf_0_10 (v := 47) wl_19_10 ?_
    refine wa_bipush (w_rg2 (by omega) (by omega)) ?_
    refine wb_aald5 47 9 rfl rfl (wy_pr rfl) wt_47 (by rw [show _ = _ from ((cl_47 hC))]; omega) wl_47_9 ?_
    refine wa_iload_n (n := 2) rfl ?_
    refine wa_aload_n (n := 0) rfl ?_
    refine wb_gf4 19 rfl (wy_pr rfl) wt_19 wf_0_10 (v := 47) wl_19_10 ?_
    refine wa_bipush (w_rg2 (by omega) (by omega)) ?_
    refine wb_aald5 47 9 rfl rfl (wy_pr rfl) wt_47 (by rw [show _ = _ from ((cl_47 hC))]; omega) wl_47_9 ?_
    refine wa_iload_n (n := 3) rfl ?_
    refine wb_iald 57 rfl (wy_pr rfl) wt_57 (n := (S 48 (-1))) ((hl.2.2.1 9 (by decide))) (by omega) (by omega) (v := (S 57 a)) rfl (fun r2 => ?_)
    refine wb_iast 57 rfl (wy_pr rfl) wt_57 (n := (S 48 (-1))) ((hl.2.2.1 9 (by decide))) (by omega) (by omega) ⟨(by omega), (by omega)⟩ ?_
    refine wa_fall ⟨_, rfl⟩ ?_
    refine wa_aload_n (n := 0) rfl ?_
    refine wb_gf4 19 rfl (wy_pr rfl) wt_19 wf_0_8 (v := 34) wl_19_8 ?_
    refine wa_bipush (w_rg2 (by omega) (by omega)) ?_
    refine wb_aald5 34 9 rfl rfl (wy_pr rfl) wt_34 (by rw [show _ = _ from ((w_up_slot (by decide)).trans ((cl_34 hC)))]; omega) wl_34_9 ?_
    refine wa_iload_n (n := 1) rfl ?_
    refine wa_dup2 (by decide) (by decide) ?_
    refine wb_iald 44 rfl (wy_pr rfl) wt_44 (n := (S 35 (-1))) ((w_up_slot (by decide)).trans ((hl.1 9 (by decide)))) (by omega) (by omega) (v := (S 44 s)) (w_up_slot (by decide)) (fun r3 => ?_)
    refine wa_iconst ?_
    refine wa_isub ?_
    refine wb_iast 44 rfl (wy_pr rfl) wt_44 (n := (S 35 (-1))) ((w_up_slot (by decide)).trans ((hl.1 9 (by decide)))) (by omega) (by omega) ⟨(by omega), (by omega)⟩ ?_
    refine wa_aload_n (n := 0) rfl ?_
    refine wb_gf4 19 rfl (wy_pr rfl) wt_19 wf_0_10 (v := 47) wl_19_10 ?_
    refine wa_bipush (w_rg2 (by omega) (by omega)) ?_
    refine wb_aald5 47 9 rfl rfl (wy_pr rfl) wt_47 (by rw [show _ = _ from ((w_up_slot (by decide)).trans ((w_up_slot (by decide)).trans ((cl_47 hC))))]; omega) wl_47_9 ?_
    refine wa_iload_n (n := 3) rfl ?_
    refine wa_aload_n (n := 0) rfl ?_
    refine wb_gfi 19 rfl (wy_pr rfl) wt_19 wf_0_12 (v := (S 19 12)) ((w_up_slot (by decide)).trans (w_up_slot (by decide))) (fun r4 => ?_)
    refine wb_iast 57 rfl (wy_pr rfl) wt_57 (n := (S 48 (-1))) ((w_up_slot (by decide)).trans ((w_up_at (by omega)).trans ((hl.2.2.1 9 (by decide))))) (by omega) (by omega) ⟨(by omega), (by omega)⟩ ?_
    refine wa_aload_n (n := 0) rfl ?_
    refine wa_iload_n (n := 3) rfl ?_
    refine wb_pfi 19 rfl (wy_pr rfl) wt_19 wf_0_12 (n := 12) rfl ⟨(by omega), (by omega)⟩ ?_
    refine wa_return rfl ?_
    exact ⟨rfl, by unfold rmZ; first | rw [if_pos (by omega)] | rw [if_neg (by omega)]⟩
  · skip
    refine wa_aload_n (n := 0) rfl ?_
    refine wb_gf4 19 rfl (wy_pr rfl) wt_19 wf_0_8 (v := 34) wl_19_8 ?_
    refine wa_bipush (w_rg2 (by omega) (by omega)) ?_
    refine wb_aald5 34 11 rfl rfl (wy_pr rfl) wt_34 (by rw [show _ = _ from ((cl_34 hC))]; omega) wl_34_11 ?_
    refine wa_iload_n (n := 1) rfl ?_
    refine wa_aload_n (n := 0) rfl ?_
    refine wb_gf4 19 rfl (wy_pr rfl) wt_19 wf_0_10 (v := 47) wl_19_10 ?_
    refine wa_bipush (w_rg2 (by omega) (by omega)) ?_
    refine wb_aald5 47 9 rfl rfl (wy_pr rfl) wt_47 (by rw [show _ = _ from ((cl_47 hC))]; omega) wl_47_9 ?_
    refine wa_iload_n (n := 3) rfl ?_
    refine wb_iald 57 rfl (wy_pr rfl) wt_57 (n := (S 48 (-1))) ((hl.2.2.1 9 (by decide))) (by omega) (by omega) (v := (S 57 a)) rfl (fun r5 => ?_)
    refine wb_iast 46 rfl (wy_pr rfl) wt_46 (n := (S 35 (-1))) ((hl.1 11 (by decide))) (by omega) (by omega) ⟨(by omega), (by omega)⟩ ?_
    refine wa_goto ⟨_, rfl⟩ ?_
    refine wa_aload_n (n := 0) rfl ?_
    refine wb_gf4 19 rfl (wy_pr rfl) wt_19 wf_0_8 (v := 34) wl_19_8 ?_
    refine wa_bipush (w_rg2 (by omega) (by omega)) ?_
    refine wb_aald5 34 9 rfl rfl (wy_pr rfl) wt_34 (by rw [show _ = _ from ((w_up_slot (by decide)).trans ((cl_34 hC)))]; omega) wl_34_9 ?_
    refine wa_iload_n (n := 1) rfl ?_
    refine wa_dup2 (by decide) (by decide) ?_
    refine wb_iald 44 rfl (wy_pr rfl) wt_44 (n := (S 35 (-1))) ((w_up_slot (by decide)).trans ((hl.1 9 (by decide)))) (by omega) (by omega) (v := (S 44 s)) (w_up_slot (by decide)) (fun r6 => ?_)
    refine wa_iconst ?_
    refine wa_isub ?_
    refine wb_iast 44 rfl (wy_pr rfl) wt_44 (n := (S 35 (-1))) ((w_up_slot (by decide)).trans ((hl.1 9 (by decide)))) (by omega) (by omega) ⟨(by omega), (by omega)⟩ ?_
    refine wa_aload_n (n := 0) rfl ?_
    refine wb_gf4 19 rfl (wy_pr rfl) wt_19 wf_0_10 (v := 47) wl_19_10 ?_
    refine wa_bipush (w_rg2 (by omega) (by omega)) ?_
    refine wb_aald5 47 9 rfl rfl (wy_pr rfl) wt_47 (by rw [show _ = _ from ((w_up_slot (by decide)).trans ((w_up_slot (by decide)).trans ((cl_47 hC))))]; omega) wl_47_9 ?_
    refine wa_iload_n (n := 3) rfl ?_
    refine wa_aload_n (n := 0) rfl ?_
    refine wb_gfi 19 rfl (wy_pr rfl) wt_19 wf_0_12 (v := (S 19 12)) ((w_up_slot (by decide)).trans (w_up_slot (by decide))) (fun r7 => ?_)
    refine wb_iast 57 rfl (wy_pr rfl) wt_57 (n := (S 48 (-1))) ((w_up_slot (by decide)).trans ((w_up_slot (by decide)).trans ((hl.2.2.1 9 (by decide))))) (by omega) (by omega) ⟨(by omega), (by omega)⟩ ?_
    refine wa_aload_n (n := 0) rfl ?_
    refine wa_iload_n (n := 3) rfl ?_
    refine wb_pfi 19 rfl (wy_pr rfl) wt_19 wf_0_12 (n := 12) rfl ⟨(by omega), (by omega)⟩ ?_
    refine wa_return rfl ?_
    exact ⟨rfl, by unfold rmZ; first | rw [if_pos (by omega)] | rw [if_neg (by omega)]⟩
theorem te_ok (hl : cSl S) (hI : gI S) (hC : w_CL S) (h12 : S 19 12 = -1 ∨ (0 ≤ S 19 12 ∧ S 19 12 < S 19 11)) : wJ (pe_GA xs) wY0 (mS [48, 49, 50, 51, 52, 53, 54, 55, 56, 57]) (d + 3) t_XC_takeEntry ((pe_at t_XC_takeEntry.bl 0).getD (0, [])).2 [(0, (2, 19))] [] S (fun o Z => ∃ r : Int, o = .inl (some (0, r)) ∧ teQ S r Z ∧ (-1 ≤ r ∧ r ≤ 40000) ∧ gI Z ∧ rmR S Z) := by
  have h35 := hl.2.1
  have h48 := hl.2.2.2
  refine wa_aload_n (n := 0) rfl ?_
  refine wb_gfi 19 rfl (wy_pr rfl) wt_19 wf_0_12 (v := (S 19 12)) rfl (fun r1 => ?_)
  refine wa_istore_n (n := 1) rfl ?_
  refine wa_iload_n (n := 1) rfl ?_
  refine wa_iconst ?_
  refine wa_icmpeq (w_rg0 (by omega) (by omega)) (w_rg0 (by omega) (by omega)) ⟨_, rfl⟩ (fun c2 => ?_) (fun c2 => ?_)
  · skip
    refine wa_aload_n (n := 0) rfl ?_
    refine wb_gf4 19 rfl (wy_pr rfl) wt_19 wf_0_10 (v := 47) wl_19_10 ?_
    refine wa_aload_n (n := 0) rfl ?_
    refine wb_gfi 19 rfl (wy_pr rfl) wt_19 wf_0_11 (v := (S 19 11)) rfl (fun r3 => ?_)
    refine wa_cs (M2 := mS [48, 49, 50, 51, 52, 53, 54, 55, 56, 57]) rfl at_X_makeRoom ⟨_, rfl⟩ rfl rfl ⟨trivial, (Or.inr ⟨wy_pr rfl, mS_no rfl⟩), trivial⟩ trivial (fun _ _ q => q) (mkr_47 (cnt := S 19 11) (cl_47 hC) hI ⟨by omega, by omega⟩ ⟨by omega, by omega⟩ hl.2.2.1) (fun oq4 Sq4 hp5 q4 => ?_)
    rcases q4 with ⟨rfl, hmr⟩
    show wJ _ _ _ _ _ _ _ _ _ _
    have hmf : ∀ (j : Nat) (x : Int), j < 237 → (j < 48 ∨ 57 < j) → Sq4 j x = S j x := fun j x j0 j1 => (mr_48 hmr hl.2.2.1 ⟨by omega, by omega, by omega⟩).1 j x j0 (Or.inl j1)
    refine wa_aload_n (n := 0) rfl ?_
    refine wa_dup (by decide) ?_
    refine wb_gfi 19 rfl (wy_pr rfl) wt_19 wf_0_11 (v := (S 19 11)) ((hmf 19 11 (by decide) (by decide))) (fun r6 => ?_)
    refine wa_iconst ?_
    refine wa_iadd ?_
    refine wb_pfi 19 rfl (wy_pr rfl) wt_19 wf_0_11 (n := 11) rfl ⟨(by omega), (by omega)⟩ ?_
    refine wa_aload_n (n := 0) rfl ?_
    refine wb_gfi 19 rfl (wy_pr rfl) wt_19 wf_0_11 (v := ((S 19 11) + 1)) (w_up_same _ _ _ _) (fun r7 => ?_)
    refine wa_iconst ?_
    refine wa_isub ?_
    refine wa_ireturn rfl ?_
    have hgi : gI Sq4 ∧ rmR S Sq4 := by
      rcases id hmr with ⟨-, z⟩ | ⟨-, -, z⟩
      · rw [← z]; exact ⟨hI, rmR_rfl S⟩
      · exact z
    exact ⟨S 19 11, by rw [show S 19 11 + 1 - 1 = S 19 11 by omega], Or.inr ⟨by omega, rfl, Sq4, hmr, rfl⟩, by omega, gI_up hgi.1 (by first | decide | omega) (by first | decide | omega) (by first | decide | omega), rmR_up hgi.2 (by first | decide | omega) (by first | decide | omega)⟩
  · skip
    refine wa_aload_n (n := 0) rfl ?_
    refine wa_aload_n (n := 0) rfl ?_
    refine wb_gf4 19 rfl (wy_pr rfl) wt_19 wf_0_10 (v := 47) wl_19_10 ?_
    refine wa_bipush (w_rg2 (by omega) (by omega)) ?_
    refine wb_aald5 47 9 rfl rfl (wy_pr rfl) wt_47 (by rw [show _ = _ from ((cl_47 hC))]; omega) wl_47_9 ?_
    refine wa_iload_n (n := 1) rfl ?_
    refine wb_iald 57 rfl (wy_pr rfl) wt_57 (n := (S 48 (-1))) ((hl.2.2.1 9 (by decide))) (by omega) (by omega) (v := (S 57 (S 19 12))) rfl (fun r8 => ?_)
    refine wb_pfi 19 rfl (wy_pr rfl) wt_19 wf_0_12 (n := 12) rfl ⟨(by omega), (by omega)⟩ ?_
    refine wa_iload_n (n := 1) rfl ?_
    refine wa_ireturn rfl ?_
    exact ⟨_, rfl, Or.inl ⟨by omega, rfl, rfl⟩, by omega, gI_up hI (by first | decide | omega) (by first | decide | omega) (by first | decide | omega), rmR_up (rmR_rfl S) (by first | decide | omega) (by first | decide | omega)⟩
end Wgc
