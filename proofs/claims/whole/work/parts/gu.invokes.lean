/-! PART gu: the reference goes through a site's entries. -/
section Wgu
variable {xs : List (Nat × List Int32)} {M : Nat → Prop} {d : Nat} {S S0 Z A : wS} {H : List aH} {T : List aO} {sl : Nat → List Int} {L : List aC} {Gl : Int → aV} {E : Int → List aE} {e : aE} {r s kd nms gk gb en nm lo hi : Int} {cl : List Int} {Q : wO → wS → Prop}
theorem cpZ_e {a b : Int} (j : Nat) (x : Int) (h : (j < 377 ∨ 385 < j) ∨ x ≠ b) : cpZ a b S j x = S j x := by
  unfold cpZ
  exact (w_up_no (by omega)).trans ((w_up_no (by omega)).trans ((w_up_no (by omega)).trans ((w_up_no (by omega)).trans ((w_up_no (by omega)).trans ((w_up_no (by omega)).trans ((w_up_no (by omega)).trans ((w_up_no (by omega)).trans (w_up_no (by omega)))))))))
theorem cpZ_b {a b : Int} : ∀ j : Nat, 377 ≤ j → j ≤ 385 → cpZ a b S j b = S j a := by
  intro j j0 j1
  have hj : j = 377 ∨ j = 378 ∨ j = 379 ∨ j = 380 ∨ j = 381 ∨ j = 382 ∨ j = 383 ∨ j = 384 ∨ j = 385 := by omega
  unfold cpZ
  rcases hj with rfl | rfl | rfl | rfl | rfl | rfl | rfl | rfl | rfl
  · exact (w_up_slot (by first | decide | omega)).trans ((w_up_slot (by first | decide | omega)).trans ((w_up_slot (by first | decide | omega)).trans ((w_up_slot (by first | decide | omega)).trans ((w_up_slot (by first | decide | omega)).trans ((w_up_slot (by first | decide | omega)).trans ((w_up_slot (by first | decide | omega)).trans ((w_up_slot (by first | decide | omega)).trans (w_up_same _ _ _ _))))))))
  · exact (w_up_slot (by first | decide | omega)).trans ((w_up_slot (by first | decide | omega)).trans ((w_up_slot (by first | decide | omega)).trans ((w_up_slot (by first | decide | omega)).trans ((w_up_slot (by first | decide | omega)).trans ((w_up_slot (by first | decide | omega)).trans ((w_up_slot (by first | decide | omega)).trans (w_up_same _ _ _ _)))))))
  · exact (w_up_slot (by first | decide | omega)).trans ((w_up_slot (by first | decide | omega)).trans ((w_up_slot (by first | decide | omega)).trans ((w_up_slot (by first | decide | omega)).trans ((w_up_slot (by first | decide | omega)).trans ((w_up_slot (by first | decide | omega)).trans (w_up_same _ _ _ _))))))
  · exact (w_up_slot (by first | decide | omega)).trans ((w_up_slot (by first | decide | omega)).trans ((w_up_slot (by first | decide | omega)).trans ((w_up_slot (by first | decide | omega)).trans ((w_up_slot (by first | decide | omega)).trans (w_up_same _ _ _ _)))))
  · exact (w_up_slot (by first | decide | omega)).trans ((w_up_slot (by first | decide | omega)).trans ((w_up_slot (by first | decide | omega)).trans ((w_up_slot (by first | decide | omega)).trans (w_up_same _ _ _ _))))
  · exact (w_up_slot (by first | decide | omega)).trans ((w_up_slot (by first | decide | omega)).trans ((w_up_slot (by first | decide | omega)).trans (w_up_same _ _ _ _)))
  · exact (w_up_slot (by first | decide | omega)).trans ((w_up_slot (by first | decide | omega)).trans (w_up_same _ _ _ _))
  · exact (w_up_slot (by first | decide | omega)).trans (w_up_same _ _ _ _)
  · exact w_up_same _ _ _ _
theorem cpZ_m {a b : Int} (h : w_ML S) (hb : 0 ≤ b) : w_ML (cpZ a b S) := w_ML_up (w_ML_up (w_ML_up (w_ML_up (w_ML_up (w_ML_up (w_ML_up (w_ML_up (w_ML_up h hb) hb) hb) hb) hb) hb) hb) hb) hb
/-- rows of a site have moved down by one, from k + 1 up to i -/
def shI (s : Int) (k i : Nat) (S0 S : wS) : Prop := (∀ q : Nat, k ≤ q → q + 1 < i → ∀ j : Nat, 377 ≤ j → j ≤ 385 → S j (5 * s + (q : Int)) = S0 j (5 * s + (q : Int) + 1)) ∧ (∀ (j : Nat) (x : Int), ((j < 377 ∨ 385 < j) ∨ x < 5 * s + (k : Int) ∨ 5 * s + (i : Int) - 1 ≤ x) → S j x = S0 j x) ∧ w_ML S
theorem shI_s {k i : Nat} (h : shI s k i S0 S) (hk : k < i) (hs : 0 ≤ s) : shI s k (i + 1) S0 (cpZ (5 * s + (i : Int)) (5 * s + (i : Int) - 1) S) := by
  obtain ⟨h1, h2, h3⟩ := h
  refine ⟨fun q q0 q1 j j0 j1 => ?_, fun j x hx => (cpZ_e j x (by omega)).trans (h2 j x (by omega)), cpZ_m h3 (by omega)⟩
  by_cases c : q + 1 = i
  · have e : 5 * s + (q : Int) = 5 * s + (i : Int) - 1 := by omega
    rw [e, cpZ_b j j0 j1, show 5 * s + (i : Int) - 1 + 1 = 5 * s + (i : Int) by omega]
    exact h2 j _ (Or.inr (Or.inr (by omega)))
  · rw [cpZ_e j _ (Or.inr (by omega))]
    exact h1 q q0 (by omega) j j0 j1
/-- an entry has gone -/
theorem rSe_rm {pe re : List aE} (h : rSe S0 E) (hs : 0 ≤ s ∧ s < S0 237 47) (hE : E s = pe ++ e :: re) (hI : shI s pe.length (pe.length + re.length + 1) S0 S) (f : ∀ (j : Nat) (x : Int), (j ≠ 376 ∨ x ≠ s) → (377 ≤ j ∧ j ≤ 385) ∨ j = 376 ∨ (j = 237 ∧ x = 47) → Z j x = S j x) (hz : Z 376 s = S0 376 s - 1) : rSe Z (fUp E s (pe ++ re)) := by
  obtain ⟨h1, h2⟩ := h
  obtain ⟨i1, i2, i3⟩ := hI
  have e47 : Z 237 47 = S0 237 47 := (f 237 47 (Or.inl (by first | decide | omega)) (by omega)).trans (i2 237 47 (Or.inl (by omega)))
  refine ⟨by rw [e47]; exact h1, fun t t0 t1 => ?_⟩
  rw [e47] at t1
  by_cases c : t = s
  · obtain ⟨a1, a2, a3⟩ := h2 s hs.1 hs.2
    rw [hE] at a1 a2 a3
    rw [List.length_append, List.length_cons] at a1 a2 a3
    rw [c, fUp_s, List.length_append]
    refine ⟨by rw [hz, a1]; omega, by omega, fun i hi => ?_⟩
    by_cases ci : i < pe.length
    · have y := a3 i (by omega)
      rw [gLa ci] at y
      rw [gLa ci]
      exact rEc_ag y (fun j j0 j1 => (f j _ (Or.inl (by omega)) (Or.inl ⟨j0, j1⟩)).trans (i2 j _ (Or.inr (Or.inl (by omega)))))
    · have y := a3 (i + 1) (by omega)
      rw [gLb (by omega), show i + 1 - pe.length = (i - pe.length) + 1 by omega, List.getD_cons_succ] at y
      rw [gLb (by omega)]
      exact rEc_ag y (fun j j0 j1 => by
        rw [f j _ (Or.inl (by omega)) (Or.inl ⟨j0, j1⟩), i1 i (by omega) (by omega) j j0 j1]
        congr 1
        omega)
  · obtain ⟨a1, a2, a3⟩ := h2 t t0 t1
    rw [fUp_n c]
    refine ⟨(f 376 t (Or.inr c) (Or.inr (Or.inl rfl))).trans ((i2 376 t (Or.inl (by omega))).trans a1), a2, fun i hi => ?_⟩
    exact rEc_ag (a3 i hi) (fun j j0 j1 => (f j _ (Or.inl (by omega)) (Or.inl ⟨j0, j1⟩)).trans (i2 j _ (Or.inr (by omega))))
/-- what is true of a site's entries in the reference -/
def wEr (T : List aO) (H : List aH) (kd nms gk gb nm en lo hi : Int) (cl : List Int) (e : aE) : Prop := wEn H kd nms e ∧ (-1 ≤ e.2.2.2.1 ∧ 0 ≤ e.2.2.2.2.2.2.1) ∧ ∃ ty : List Int, (e.2.2.2.2.2.2.2.1 = (ty.length : Int) ∧ e.2.2.2.2.2.2.2.2 = esV ty ∧ esOk ty ∧ ty.length ≤ 8 ∧ ty.length ≤ cl.length) ∧ (hoE T kd nms gk gb nm lo hi e ↔ hoR T kd gk gb en ty cl e)
/-- the state while the entries are gone through -/
def ivI (s kd gk gb en r : Int) (T : List aO) (H : List aH) (sl : Nat → List Int) (cl : List Int) (S0 S : wS) : Prop := (w_ML S ∧ rTh S sl T ∧ rHs S H ∧ S 237 82 ≤ 60000) ∧ (S 237 173 = r ∧ S 237 174 = gk ∧ S 237 175 = gb ∧ S 237 177 = en) ∧ rCl S r cl ∧ ∀ (j : Nat) (x : Int), (376 ≤ j ∧ j ≤ 385) ∨ (j = 312 ∧ x = s) ∨ S j x = S0 j x
theorem sh_l {el : Int} {k n : Nat} (hs : 0 ≤ s ∧ s < 4000) (hn : n ≤ 4) (hk : k < n) (h76 : S0 376 s = (n : Int)) (hq : ∀ Z : wS, shI s k n S0 Z → wJ (pe_GA xs) wY0 M (d + 4) t_M_invokes ((pe_at t_M_invokes.bl 12).getD (0, [])).2 [(0, (2, 237)), (1, (0, s)), (2, (0, kd)), (3, (0, el)), (4, (0, -1)), (5, (0, (k : Int)))] [] Z Q) : ∀ (f i : Nat) (S : wS), i + f = n → k < i → shI s k i S0 S → wJ (pe_GA xs) wY0 M (d + 4) t_M_invokes ((pe_at t_M_invokes.bl 11).getD (0, [])).2 [(0, (2, 237)), (1, (0, s)), (2, (0, kd)), (3, (0, el)), (4, (0, -1)), (5, (0, (k : Int))), (6, (0, (i : Int)))] [] S Q := by
  intro f
  induction f with
  | zero =>
    intro i S hi hk2 hS
    have hM := hS.2.2
    have e76 : S 376 s = (n : Int) := (hS.2.1 376 s (Or.inl (by omega))).trans h76
    have ei : i = n := by omega
    rw [ei] at hS
    refine wa_iload (n := 6) rfl ?_
    refine wa_aload_n (n := 0) rfl ?_
    refine wb_gf4 237 rfl (wy_pr rfl) wt_237 wf_15_156 (v := 376) wl_237_156 ?_
    refine wa_iload_n (n := 1) rfl ?_
    refine wb_iald 376 rfl (wy_pr rfl) wt_376 (n := 4000) ((ml_376 hM)) (by omega) (by omega) (v := (n : Int)) (e76) (fun r1 => ?_)
    refine wa_icmpge (w_rg0 (by omega) (by omega)) (w_rg0 (by omega) (by omega)) ⟨_, rfl⟩ (fun c2 => ?_) (fun c2 => ?_)
    · skip
      exact wJ_S (hq S hS) ⟨rfl, rfl, rfl, rfl, rfl, rfl, trivial⟩
    · skip
      exfalso; omega
  | succ f ih =>
    intro i S hi hk2 hS
    have hM := hS.2.2
    have e76 : S 376 s = (n : Int) := (hS.2.1 376 s (Or.inl (by omega))).trans h76
    refine wa_iload (n := 6) rfl ?_
    refine wa_aload_n (n := 0) rfl ?_
    refine wb_gf4 237 rfl (wy_pr rfl) wt_237 wf_15_156 (v := 376) wl_237_156 ?_
    refine wa_iload_n (n := 1) rfl ?_
    refine wb_iald 376 rfl (wy_pr rfl) wt_376 (n := 4000) ((ml_376 hM)) (by omega) (by omega) (v := (n : Int)) (e76) (fun r51 => ?_)
    refine wa_icmpge (w_rg0 (by omega) (by omega)) (w_rg0 (by omega) (by omega)) ⟨_, rfl⟩ (fun c52 => ?_) (fun c52 => ?_)
    · skip
      exfalso; omega
    · skip
      refine wa_aload_n (n := 0) rfl ?_
      refine wa_iconst ?_
      refine wa_iload_n (n := 1) rfl ?_
      refine wa_imul ?_
      refine wa_iload (n := 6) rfl ?_
      refine wa_iadd ?_
      refine wa_iconst ?_
      refine wa_iload_n (n := 1) rfl ?_
      refine wa_imul ?_
      refine wa_iload (n := 6) rfl ?_
      refine wa_iadd ?_
      refine wa_iconst ?_
      refine wa_isub ?_
      refine wa_cv 237 rfl (wy_pr rfl) wt_237 (M2 := fun _ => False) rfl at_M_copies ⟨_, rfl⟩ rfl rfl ⟨(Or.inr ⟨wy_pr rfl, fun q => q⟩), trivial, trivial, trivial, trivial, trivial, trivial, trivial⟩ trivial (fun _ _ q => False.elim q) (cps_ok (S := S) (a := 5 * s + (i : Int)) (b := 5 * s + (i : Int) - 1) hM ⟨by omega, by omega⟩ ⟨by omega, by omega⟩) (fun oq53 Sq53 hp54 q53 => ?_)
      rcases q53 with ⟨rfl, rfl⟩
      show wJ _ _ _ _ _ _ _ _ _ _
      refine wa_iinc rfl rfl ?_
      refine wa_goto ⟨_, rfl⟩ ?_
      exact wJ_S (ih (i + 1) _ (by omega) (by omega) (shI_s hS hk2 hs.1)) ⟨rfl, rfl, rfl, rfl, rfl, rfl,rfl, trivial⟩
end Wgu
