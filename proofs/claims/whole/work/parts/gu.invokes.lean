/-! PART gu: the reference goes through a site's entries. -/
section Wgu
variable {xs : List (Nat × List Int32)} {M : Nat → Prop} {d : Nat} {S S0 Z A : wS} {H : List aH} {T : List aO} {sl : Nat → List Int} {L : List aC} {Gl : Int → aV} {E : Int → List aE} {e : aE} {r s kd nms gk gb en nm lo hi : Int} {cl : List Int} {Q : wO → wS → Prop}
theorem cpZ_e {a b : Int} (j : Nat) (x : Int) (h : (j < 377 ∨ 385 < j) ∨ x ≠ b) : cpZ a b S j x = S j x := by
  unfold cpZ
  exact (w_up_no (by omega)).trans ((w_up_no (by omega)).trans ((w_up_no (by omega)).trans ((w_up_no (by omega)).trans ((w_up_no (by omega)).trans ((w_up_no (by omega)).trans ((w_up_no (by omega)).trans ((w_up_no (by omega)).trans (w_up_no (by omega)))))))))
theorem cpZ_b {a b : Int} : ∀ j : Nat, 377 ≤ j → j ≤ 385 → cpZ a b S j b = S j a := by
  intro j j0 j1
  have hj : j = 377 ∨ j = 378 ∨ j = 379 ∨ j = 380 ∨ j = 381 ∨ j = 382 ∨ j = 383 ∨ j = 384 ∨ j = 385 := by omega
  unfold cpZ
  rcases hj with rfl | rfl | rfl | rfl | rfl | rfl | rfl | rfl | rfl
  · exact (w_up_slot (by first | decide | omega)).trans ((w_up_slot (by first | decide | omega)).trans ((w_up_slot (by first | decide | omega)).trans ((w_up_slot (by first | decide | omega)).trans ((w_up_slot (by first | decide | omega)).trans ((w_up_slot (by first | decide | omega)).trans ((w_up_slot (by first | decide | omega)).trans ((w_up_slot (by first | decide | omega)).trans (w_up_same _ _ _ _))))))))
  · exact (w_up_slot (by first | decide | omega)).trans ((w_up_slot (by first | decide | omega)).trans ((w_up_slot (by first | decide | omega)).trans ((w_up_slot (by first | decide | omega)).trans ((w_up_slot (by first | decide | omega)).trans ((w_up_slot (by first | decide | omega)).trans ((w_up_slot (by first | decide | omega)).trans (w_up_same _ _ _ _)))))))
  · exact (w_up_slot (by first | decide | omega)).trans ((w_up_slot (by first | decide | omega)).trans ((w_up_slot (by first | decide | omega)).trans ((w_up_slot (by first | decide | omega)).trans ((w_up_slot (by first | decide | omega)).trans ((w_up_slot (by first | decide | omega)).trans (w_up_same _ _ _ _))))))
  · exact (w_up_slot (by first | decide | omega)).trans ((w_up_slot (by first | decide | omega)).trans ((w_up_slot (by first | decide | omega)).trans ((w_up_slot (by first | decide | omega)).trans ((w_up_slot (by first | decide | omega)).trans (w_up_same _ _ _ _)))))
  · exact (w_up_slot (by first | decide | omega)).trans ((w_up_slot (by first | decide | omega)).trans ((w_up_slot (by first | decide | omega)).trans ((w_up_slot (by first | decide | omega)).trans (w_up_same _ _ _ _))))
  · exact (w_up_slot (by first | decide | omega)).trans ((w_up_slot (by first | decide | omega)).trans ((w_up_slot (by first | decide | omega)).trans (w_up_same _ _ _ _)))
  · exact (w_up_slot (by first | decide | omega)).trans ((w_up_slot (by first | decide | omega)).trans (w_up_same _ _ _ _))
  · exact (w_up_slot (by first | decide | omega)).trans (w_up_same _ _ _ _)
  · exact w_up_same _ _ _ _
theorem cpZ_m {a b : Int} (h : w_ML S) (hb : 0 ≤ b) : w_ML (cpZ a b S) := w_ML_up (w_ML_up (w_ML_up (w_ML_up (w_ML_up (w_ML_up (w_ML_up (w_ML_up (w_ML_up h hb) hb) hb) hb) hb) hb) hb) hb) hb
/-- rows of a site have moved down by one, from k + 1 up to i -/
def shI (s : Int) (k i : Nat) (S0 S : wS) : Prop := (∀ q : Nat, k ≤ q → q + 1 < i → ∀ j : Nat, 377 ≤ j → j ≤ 385 → S j (5 * s + (q : Int)) = S0 j (5 * s + (q : Int) + 1)) ∧ (∀ (j : Nat) (x : Int), ((j < 377 ∨ 385 < j) ∨ x < 5 * s + (k : Int) ∨ 5 * s + (i : Int) - 1 ≤ x) → S j x = S0 j x) ∧ w_ML S
theorem shI_s {k i : Nat} (h : shI s k i S0 S) (hk : k < i) (hs : 0 ≤ s) : shI s k (i + 1) S0 (cpZ (5 * s + (i : Int)) (5 * s + (i : Int) - 1) S) := by
  obtain ⟨h1, h2, h3⟩ := h
  refine ⟨fun q q0 q1 j j0 j1 => ?_, fun j x hx => (cpZ_e j x (by omega)).trans (h2 j x (by omega)), cpZ_m h3 (by omega)⟩
  by_cases c : q + 1 = i
  · have e : 5 * s + (q : Int) = 5 * s + (i : Int) - 1 := by omega
    rw [e, cpZ_b j j0 j1, show 5 * s + (i : Int) - 1 + 1 = 5 * s + (i : Int) by omega]
    exact h2 j _ (Or.inr (Or.inr (by omega)))
  · rw [cpZ_e j _ (Or.inr (by omega))]
    exact h1 q q0 (by omega) j j0 j1
/-- an entry has gone -/
theorem rSe_rm {pe re : List aE} (h : rSe S0 E) (hs : 0 ≤ s ∧ s < S0 237 47) (hE : E s = pe ++ e :: re) (hI : shI s pe.length (pe.length + re.length + 1) S0 S) (f : ∀ (j : Nat) (x : Int), (j ≠ 376 ∨ x ≠ s) → (377 ≤ j ∧ j ≤ 385) ∨ j = 376 ∨ (j = 237 ∧ x = 47) → Z j x = S j x) (hz : Z 376 s = S0 376 s - 1) : rSe Z (fUp E s (pe ++ re)) := by
  obtain ⟨h1, h2⟩ := h
  obtain ⟨i1, i2, i3⟩ := hI
  have e47 : Z 237 47 = S0 237 47 := (f 237 47 (Or.inl (by first | decide | omega)) (by omega)).trans (i2 237 47 (Or.inl (by omega)))
  refine ⟨by rw [e47]; exact h1, fun t t0 t1 => ?_⟩
  rw [e47] at t1
  by_cases c : t = s
  · obtain ⟨a1, a2, a3⟩ := h2 s hs.1 hs.2
    rw [hE] at a1 a2 a3
    rw [List.length_append, List.length_cons] at a1 a2 a3
    rw [c, fUp_s, List.length_append]
    refine ⟨by rw [hz, a1]; omega, by omega, fun i hi => ?_⟩
    by_cases ci : i < pe.length
    · have y := a3 i (by omega)
      rw [gLa ci] at y
      rw [gLa ci]
      exact rEc_ag y (fun j j0 j1 => (f j _ (Or.inl (by omega)) (Or.inl ⟨j0, j1⟩)).trans (i2 j _ (Or.inr (Or.inl (by omega)))))
    · have y := a3 (i + 1) (by omega)
      rw [gLb (by omega), show i + 1 - pe.length = (i - pe.length) + 1 by omega, List.getD_cons_succ] at y
      rw [gLb (by omega)]
      exact rEc_ag y (fun j j0 j1 => by
        rw [f j _ (Or.inl (by omega)) (Or.inl ⟨j0, j1⟩), i1 i (by omega) (by omega) j j0 j1]
        congr 1
        omega)
  · obtain ⟨a1, a2, a3⟩ := h2 t t0 t1
    have a4 := (h2 s hs.1 hs.2).2.1
    rw [hE, List.length_append, List.length_cons] at a4
    rw [fUp_n c]
    refine ⟨(f 376 t (Or.inr c) (Or.inr (Or.inl rfl))).trans ((i2 376 t (Or.inl (by omega))).trans a1), a2, fun i hi => ?_⟩
    exact rEc_ag (a3 i hi) (fun j j0 j1 => (f j _ (Or.inl (by omega)) (Or.inl ⟨j0, j1⟩)).trans (i2 j _ (Or.inr (by omega))))
def hoRB (T : List aO) (kd gk gb en : Int) (ty cl : List Int) (e : aE) : Int := if hoR T kd gk gb en ty cl e then 1 else 0
theorem hoRB_c {ty : List Int} (h : hoE T kd nms gk gb nm lo hi e ↔ hoR T kd gk gb en ty cl e) : (hoRB T kd gk gb en ty cl e = 1 ∧ hoI T kd nms gk gb nm lo hi e) ∨ (hoRB T kd gk gb en ty cl e = 0 ∧ ¬ hoI T kd nms gk gb nm lo hi e) := by
  by_cases z : hoR T kd gk gb en ty cl e
  · exact Or.inl ⟨if_pos z, h.mpr z⟩
  · exact Or.inr ⟨if_neg z, fun y => z (h.mp y)⟩
/-- what is true of a site's entries in the reference -/
def wEr (T : List aO) (H : List aH) (kd nms gk gb nm en lo hi : Int) (cl : List Int) (e : aE) : Prop := wEn H kd nms e ∧ (-1 ≤ e.2.2.2.1 ∧ 0 ≤ e.2.2.2.2.2.2.1) ∧ ∃ ty : List Int, (e.2.2.2.2.2.2.2.1 = (ty.length : Int) ∧ e.2.2.2.2.2.2.2.2 = esV ty ∧ esOk ty ∧ ty.length ≤ 8 ∧ ty.length ≤ cl.length) ∧ (hoE T kd nms gk gb nm lo hi e ↔ hoR T kd gk gb en ty cl e)
/-- the state while the entries are gone through -/
def ivI (s kd gk gb en r : Int) (T : List aO) (H : List aH) (sl : Nat → List Int) (L : List aC) (Gl : Int → aV) (cl : List Int) (S0 S : wS) : Prop := (w_ML S ∧ rWd S sl T L Gl ∧ rHs S H ∧ S 237 82 ≤ 60000) ∧ (S 237 173 = r ∧ S 237 174 = gk ∧ S 237 175 = gb ∧ S 237 177 = en) ∧ rCl S r cl ∧ ∀ (j : Nat) (x : Int), (376 ≤ j ∧ j ≤ 385) ∨ (j = 312 ∧ x = s) ∨ S j x = S0 j x
theorem sh_l {el : Int} {k n : Nat} (hs : 0 ≤ s ∧ s < 4000) (hn : n ≤ 4) (hk : k < n) (h76 : S0 376 s = (n : Int)) (hq : ∀ Z : wS, shI s k n S0 Z → wJ (pe_GA xs) wY0 M (d + 4) t_M_invokes ((pe_at t_M_invokes.bl 12).getD (0, [])).2 [(0, (2, 237)), (1, (0, s)), (2, (0, kd)), (3, (0, el)), (4, (0, -1)), (5, (0, (k : Int)))] [] Z Q) : ∀ (f i : Nat) (S : wS), i + f = n → k < i → shI s k i S0 S → wJ (pe_GA xs) wY0 M (d + 4) t_M_invokes ((pe_at t_M_invokes.bl 11).getD (0, [])).2 [(0, (2, 237)), (1, (0, s)), (2, (0, kd)), (3, (0, el)), (4, (0, -1)), (5, (0, (k : Int))), (6, (0, (i : Int)))] [] S Q := by
  intro f
  induction f with
  | zero =>
    intro i S hi hk2 hS
    have hM := hS.2.2
    have e76 : S 376 s = (n : Int) := (hS.2.1 376 s (Or.inl (by omega))).trans h76
    have ei : i = n := by omega
    rw [ei] at hS
    refine wa_iload (n := 6) rfl ?_
    refine wa_aload_n (n := 0) rfl ?_
    refine wb_gf4 237 rfl (wy_pr rfl) wt_237 wf_15_156 (v := 376) wl_237_156 ?_
    refine wa_iload_n (n := 1) rfl ?_
    refine wb_iald 376 rfl (wy_pr rfl) wt_376 (n := 4000) ((ml_376 hM)) (by omega) (by omega) (v := (n : Int)) (e76) (fun r1 => ?_)
    refine wa_icmpge (w_rg0 (by omega) (by omega)) (w_rg0 (by omega) (by omega)) ⟨_, rfl⟩ (fun c2 => ?_) (fun c2 => ?_)
    · skip
      exact wJ_S (hq S hS) ⟨rfl, rfl, rfl, rfl, rfl, rfl, trivial⟩
    · skip
      exfalso; omega
  | succ f ih =>
    intro i S hi hk2 hS
    have hM := hS.2.2
    have e76 : S 376 s = (n : Int) := (hS.2.1 376 s (Or.inl (by omega))).trans h76
    refine wa_iload (n := 6) rfl ?_
    refine wa_aload_n (n := 0) rfl ?_
    refine wb_gf4 237 rfl (wy_pr rfl) wt_237 wf_15_156 (v := 376) wl_237_156 ?_
    refine wa_iload_n (n := 1) rfl ?_
    refine wb_iald 376 rfl (wy_pr rfl) wt_376 (n := 4000) ((ml_376 hM)) (by omega) (by omega) (v := (n : Int)) (e76) (fun r51 => ?_)
    refine wa_icmpge (w_rg0 (by omega) (by omega)) (w_rg0 (by omega) (by omega)) ⟨_, rfl⟩ (fun c52 => ?_) (fun c52 => ?_)
    · skip
      exfalso; omega
    · skip
      refine wa_aload_n (n := 0) rfl ?_
      refine wa_iconst ?_
      refine wa_iload_n (n := 1) rfl ?_
      refine wa_imul ?_
      refine wa_iload (n := 6) rfl ?_
      refine wa_iadd ?_
      refine wa_iconst ?_
      refine wa_iload_n (n := 1) rfl ?_
      refine wa_imul ?_
      refine wa_iload (n := 6) rfl ?_
      refine wa_iadd ?_
      refine wa_iconst ?_
      refine wa_isub ?_
      refine wa_cv 237 rfl (wy_pr rfl) wt_237 (M2 := fun _ => False) rfl at_M_copies ⟨_, rfl⟩ rfl rfl ⟨(Or.inr ⟨wy_pr rfl, fun q => q⟩), trivial, trivial, trivial, trivial, trivial, trivial, trivial⟩ trivial (fun _ _ q => False.elim q) (cps_ok (S := S) (a := 5 * s + (i : Int)) (b := 5 * s + (i : Int) - 1) hM ⟨by omega, by omega⟩ ⟨by omega, by omega⟩) (fun oq53 Sq53 hp54 q53 => ?_)
      rcases q53 with ⟨rfl, rfl⟩
      show wJ _ _ _ _ _ _ _ _ _ _
      refine wa_iinc rfl rfl ?_
      refine wa_goto ⟨_, rfl⟩ ?_
      exact wJ_S (ih (i + 1) _ (by omega) (by omega) (shI_s hS hk2 hs.1)) ⟨rfl, rfl, rfl, rfl, rfl, rfl,rfl, trivial⟩
theorem ivI_ag (h : ivI s kd gk gb en r T H sl L Gl cl S0 S) (hM : w_ML Z) (f : ∀ (j : Nat) (x : Int), (376 ≤ j ∧ j ≤ 385) ∨ (j = 312 ∧ x = s) ∨ Z j x = S j x) : ivI s kd gk gb en r T H sl L Gl cl S0 Z := by
  obtain ⟨⟨h1, h2, h3, h4⟩, ⟨h5, h6, h7, h8⟩, h9, h10⟩ := h
  have g : ∀ (j : Nat) (x : Int), (j < 376 ∨ 385 < j) → j ≠ 312 → Z j x = S j x := fun j x j0 j1 => by
    rcases f j x with z | z | z
    · omega
    · omega
    · exact z
  refine ⟨⟨hM, rWd_ag h2 (rTx_of (g 237 19 (by first | decide | omega) (by first | decide | omega)) (g 237 102 (by first | decide | omega) (by first | decide | omega)) (fun j x j0 j1 => g j x (by omega) (by omega))) (fun j x hj => g j x (by unfold rWo at hj; omega) (by unfold rWo at hj; omega)), ?_, by rw [g 237 82 (by first | decide | omega) (by first | decide | omega)]; exact h4⟩, ⟨(g 237 173 (by first | decide | omega) (by first | decide | omega)).trans h5, (g 237 174 (by first | decide | omega) (by first | decide | omega)).trans h6, (g 237 175 (by first | decide | omega) (by first | decide | omega)).trans h7, (g 237 177 (by first | decide | omega) (by first | decide | omega)).trans h8⟩, fun i hi => ?_, fun j x => ?_⟩
  · refine ⟨(g 237 87 (by first | decide | omega) (by first | decide | omega)).trans h3.1, fun k hk => ?_⟩
    rw [g 329 _ (by first | decide | omega) (by first | decide | omega), g 330 _ (by first | decide | omega) (by first | decide | omega), g 331 _ (by first | decide | omega) (by first | decide | omega), g 332 _ (by first | decide | omega) (by first | decide | omega)]
    exact h3.2 k hk
  · have y := h9 i hi
    unfold clR at y ⊢
    rw [g 363 _ (by first | decide | omega) (by first | decide | omega), g 364 _ (by first | decide | omega) (by first | decide | omega), g 321 _ (by first | decide | omega) (by first | decide | omega)]
    exact y
  · rcases f j x with z | z | z
    · exact Or.inl z
    · exact Or.inr (Or.inl z)
    · rw [z]; exact h10 j x
/-- what the going through leaves -/
def ivR (s kd nms gk gb nm en lo hi r : Int) (T : List aO) (H : List aH) (sl : Nat → List Int) (L : List aC) (Gl : Int → aV) (cl : List Int) (E : Int → List aE) (pe re : List aE) (S0 S : wS) (hit : Int) (Z : wS) : Prop := rSe Z (fUp E s (pe ++ (hlF T H kd nms gk gb nm lo hi re).1)) ∧ Z 312 s = S 312 s + (hlF T H kd nms gk gb nm lo hi re).2.1 ∧ ivI s kd gk gb en r T H sl L Gl cl S0 Z ∧ (((hlF T H kd nms gk gb nm lo hi re).2.2 = none ∧ hit = -1) ∨ ∃ e : aE, (hlF T H kd nms gk gb nm lo hi re).2.2 = some e ∧ (0 ≤ hit ∧ hit < 20000) ∧ rEc Z e hit)
set_option maxHeartbeats 4000000 in
theorem iv_l {el : Int} (hs : 0 ≤ s) (hw : wSh T H) (hT : (T.length : Int) ≤ 8000) (hkd : 0 ≤ kd ∧ kd ≤ 6) (hr : 0 ≤ r ∧ r + 1 + (cl.length : Int) ≤ 4200) (hgk : 0 ≤ gk ∧ gk ≤ 8) (hgo : (gk = 4 ∨ gk = 5) → isO T gb ∧ (tO T gb).1 = gk) (hg7 : gk = 7 → (0 ≤ gb ∧ gb < (T.length : Int)) ∧ (tO T gb).1 = 7) (hg8 : gk = 8 → 0 ≤ gb ∧ gb < 60) : ∀ (re pe : List aE) (E : Int → List aE) (S : wS), rSe S E → s < S 237 47 → ivI s kd gk gb en r T H sl L Gl cl S0 S → E s = pe ++ re → (0 ≤ S 312 s ∧ S 312 s + (re.length : Int) ≤ 1000000) → (∀ e ∈ re, wEr T H kd nms gk gb nm en lo hi cl e) → (∀ (Z : wS) (hit kk : Int), ivR s kd nms gk gb nm en lo hi r T H sl L Gl cl E pe re S0 S hit Z → wJ (pe_GA xs) wY0 M (d + 4) t_M_invokes ((pe_at t_M_invokes.bl 15).getD (0, [])).2 [(0, (2, 237)), (1, (0, s)), (2, (0, kd)), (3, (0, el)), (4, (0, hit)), (5, (0, kk))] [] Z Q) → wJ (pe_GA xs) wY0 M (d + 4) t_M_invokes ((pe_at t_M_invokes.bl 10).getD (0, [])).2 [(0, (2, 237)), (1, (0, s)), (2, (0, kd)), (3, (0, el)), (4, (0, -1)), (5, (0, (pe.length : Int)))] [] S Q := by
  intro re
  induction re with
  | nil =>
    intro pe E S hse hs47 hIv hE h12 hwe hk
    have hM := hIv.1.1
    obtain ⟨y1, y2, y3⟩ := hse.2 s hs hs47
    have h47 := hse.1
    rw [hE, List.append_nil] at y1
    have hfin : ivR s kd nms gk gb nm en lo hi r T H sl L Gl cl E pe [] S0 S (-1) S := by
      refine ⟨?_, (Int.add_zero _).symm, hIv, Or.inl ⟨rfl, rfl⟩⟩
      show rSe S (fUp E s (pe ++ []))
      rw [← hE, fUp_eta rfl]
      exact hse
    refine wa_iload (n := 5) rfl ?_
    refine wa_aload_n (n := 0) rfl ?_
    refine wb_gf4 237 rfl (wy_pr rfl) wt_237 wf_15_156 (v := 376) wl_237_156 ?_
    refine wa_iload_n (n := 1) rfl ?_
    refine wb_iald 376 rfl (wy_pr rfl) wt_376 (n := 4000) ((ml_376 hM)) (by omega) (by omega) (v := (pe.length : Int)) (y1) (fun r601 => ?_)
    refine wa_icmpge (w_rg0 (by omega) (by omega)) (w_rg0 (by omega) (by omega)) ⟨_, rfl⟩ (fun c602 => ?_) (fun c602 => ?_)
    · skip
      exact wJ_S (hk S (-1) (pe.length : Int) hfin) ⟨rfl, rfl, rfl, rfl, rfl, rfl, trivial⟩
    · skip
      exfalso; omega
  | cons e re ih =>
    intro pe E S hse hs47 hIv hE h12 hwe hk
    obtain ⟨⟨hM, hWd, hH, h82⟩, ⟨h73, h74, h75, h77⟩, hcl, hfr⟩ := id hIv
    have ht := hWd.1
    obtain ⟨y1, y2, y3⟩ := hse.2 s hs hs47
    have h47 := hse.1
    have hEl : (E s).length = pe.length + re.length + 1 := by rw [hE, List.length_append, List.length_cons]; omega
    have he : rEc S e (5 * s + (pe.length : Int)) := by
      have z := y3 pe.length (by omega)
      rw [hE, gLb (Nat.le_refl _), Nat.sub_self] at z
      exact z
    obtain ⟨⟨w1, w2, w3⟩, w4, ty, ⟨t1, t2, t3, t4, t5⟩, t6⟩ := hwe e (List.mem_cons.mpr (Or.inl rfl))
    have hwr : ∀ e ∈ re, wEr T H kd nms gk gb nm en lo hi cl e := fun e2 he2 => hwe e2 (List.mem_cons.mpr (Or.inr he2))
    rw [List.length_cons] at h12
    obtain ⟨n, hn⟩ : ∃ n : Nat, n = (E s).length := ⟨_, rfl⟩
    rw [← hn] at y1 y2 hEl
    obtain ⟨sv, hsv⟩ : ∃ v : Int, v = eSt T H kd e := ⟨_, rfl⟩
    have hsvr : sv = 0 ∨ sv = 1 := by rw [hsv]; exact eSt_rg
    have hgr := hoRB_c t6
    clear t6
    obtain ⟨gv, hgv⟩ : ∃ v : Int, v = hoRB T kd gk gb en ty cl e := ⟨_, rfl⟩
    rw [← hgv] at hgr
    obtain ⟨⟨a1, a2, a3, a4, a5, a6⟩, a7, a8, a9⟩ := id he
    refine wa_iload (n := 5) rfl ?_
    refine wa_aload_n (n := 0) rfl ?_
    refine wb_gf4 237 rfl (wy_pr rfl) wt_237 wf_15_156 (v := 376) wl_237_156 ?_
    refine wa_iload_n (n := 1) rfl ?_
    refine wb_iald 376 rfl (wy_pr rfl) wt_376 (n := 4000) ((ml_376 hM)) (by omega) (by omega) (v := (n : Int)) (y1) (fun r701 => ?_)
    refine wa_icmpge (w_rg0 (by omega) (by omega)) (w_rg0 (by omega) (by omega)) ⟨_, rfl⟩ (fun c702 => ?_) (fun c702 => ?_)
    · skip
      exfalso; omega
    · skip
      refine wa_iload (n := 4) rfl ?_
      refine wa_ifge (w_rg0 (by omega) (by omega)) ⟨_, rfl⟩ (fun c703 => ?_) (fun c703 => ?_)
      · skip
        exact absurd c703 (by omega)
      · skip
        refine wa_aload_n (n := 0) rfl ?_
        refine wa_iconst ?_
        refine wa_iload_n (n := 1) rfl ?_
        refine wa_imul ?_
        refine wa_iload (n := 5) rfl ?_
        refine wa_iadd ?_
        refine wa_iload_n (n := 2) rfl ?_
        refine wa_cv 237 rfl (wy_pr rfl) wt_237 (M2 := fun _ => False) rfl at_M_isStale ⟨_, rfl⟩ rfl rfl ⟨(Or.inr ⟨wy_pr rfl, fun q => q⟩), trivial, trivial, trivial, trivial, trivial, trivial⟩ trivial (fun _ _ q => False.elim q) (wJ_mono (rst_ok (e := e) (kd := kd) hM ht hH hw hT h82 ⟨by omega, by omega⟩ he w2 ⟨by omega, by omega, by omega, by omega⟩) (fun o Z hz => (⟨hz.1, by rw [hsv]; exact hz.2⟩ : S = Z ∧ o = .inl (some (0, sv))))) (fun oq704 Sq704 hp705 q704 => ?_)
        rcases q704 with ⟨rfl, rfl⟩
        show wJ _ _ _ _ _ _ _ _ _ _
        refine wa_ifeq (w_rg0 (by omega) (by omega)) ⟨_, rfl⟩ (fun c706 => ?_) (fun c706 => ?_)
        · skip
          refine wa_aload_n (n := 0) rfl ?_
          refine wa_iconst ?_
          refine wa_iload_n (n := 1) rfl ?_
          refine wa_imul ?_
          refine wa_iload (n := 5) rfl ?_
          refine wa_iadd ?_
          refine wa_iload_n (n := 2) rfl ?_
          refine wa_cv 237 rfl (wy_pr rfl) wt_237 (M2 := fun _ => False) rfl at_M_guards ⟨_, rfl⟩ rfl rfl ⟨(Or.inr ⟨wy_pr rfl, fun q => q⟩), trivial, trivial, trivial, trivial, trivial, trivial⟩ trivial (fun _ _ q => False.elim q) (wJ_mono (gd_ok (e := e) (ty := ty) (cl := cl) hM ⟨by omega, by omega⟩ (a8.trans t1) (a9.trans t2) t3 t4 t5 h73 hr hcl ht hT he hkd h74 h75 h77 hgk hgo hg7 hg8 w1.1) (fun o Z hz => (⟨hz.1, by rw [hgv]; exact hz.2⟩ : S = Z ∧ o = .inl (some (0, gv))))) (fun oq707 Sq707 hp708 q707 => ?_)
          rcases q707 with ⟨rfl, rfl⟩
          show wJ _ _ _ _ _ _ _ _ _ _
          refine wa_ifeq (w_rg0 (by omega) (by omega)) ⟨_, rfl⟩ (fun c709 => ?_) (fun c709 => ?_)
          · skip
            refine wa_iinc rfl rfl ?_
            refine wa_goto ⟨_, rfl⟩ ?_
            have hno := (hgr.resolve_left (fun z => by omega)).2
            have er : hlF T H kd nms gk gb nm lo hi (e :: re) = (e :: (hlF T H kd nms gk gb nm lo hi re).1, (hlF T H kd nms gk gb nm lo hi re).2.1, (hlF T H kd nms gk gb nm lo hi re).2.2) := (if_neg (by omega)).trans (if_neg (show ¬ hoE T kd nms gk gb nm lo hi e from hno))
            have hi2 := ih (pe ++ [e]) E S hse hs47 hIv (by rw [List.append_assoc]; exact hE) ⟨h12.1, by omega⟩ hwr (fun Z2 hit kk hz => hk Z2 hit kk (by
              unfold ivR at hz ⊢
              rw [List.append_assoc] at hz
              rw [er]
              exact hz))
            rw [List.length_append] at hi2
            exact wJ_S hi2 ⟨rfl, rfl, rfl, rfl, rfl, rfl, trivial⟩
          · skip
            refine wa_iconst ?_
            refine wa_iload_n (n := 1) rfl ?_
            refine wa_imul ?_
            refine wa_iload (n := 5) rfl ?_
            refine wa_iadd ?_
            refine wa_istore (n := 4) rfl ?_
            refine wa_goto ⟨_, rfl⟩ ?_
            have hho := (hgr.resolve_right (fun z => by omega)).2
            have er : hlF T H kd nms gk gb nm lo hi (e :: re) = (e :: re, 0, some e) := (if_neg (by omega)).trans (if_pos (show hoE T kd nms gk gb nm lo hi e from hho))
            have hfin : ivR s kd nms gk gb nm en lo hi r T H sl L Gl cl E pe (e :: re) S0 S (5 * s + (pe.length : Int)) S := by
              unfold ivR
              rw [er]
              exact ⟨by rw [← hE, fUp_eta rfl]; exact hse, (Int.add_zero _).symm, hIv, Or.inr ⟨e, rfl, ⟨by omega, by omega⟩, he⟩⟩
            refine wa_iload (n := 5) rfl ?_
            refine wa_aload_n (n := 0) rfl ?_
            refine wb_gf4 237 rfl (wy_pr rfl) wt_237 wf_15_156 (v := 376) wl_237_156 ?_
            refine wa_iload_n (n := 1) rfl ?_
            refine wb_iald 376 rfl (wy_pr rfl) wt_376 (n := 4000) ((ml_376 hM)) (by omega) (by omega) (v := (n : Int)) (y1) (fun r710 => ?_)
            refine wa_icmpge (w_rg0 (by omega) (by omega)) (w_rg0 (by omega) (by omega)) ⟨_, rfl⟩ (fun c711 => ?_) (fun c711 => ?_)
            · skip
              exfalso; omega
            · skip
              refine wa_iload (n := 4) rfl ?_
              refine wa_ifge (w_rg0 (by omega) (by omega)) ⟨_, rfl⟩ (fun c712 => ?_) (fun c712 => ?_)
              · skip
                exact wJ_S (hk S _ _ hfin) ⟨rfl, rfl, rfl, rfl, rfl, rfl, trivial⟩
              · skip
                exfalso; omega
        · skip
          refine wa_iload (n := 5) rfl ?_
          refine wa_iconst ?_
          refine wa_iadd ?_
          refine wa_istore (n := 6) rfl ?_
          refine wa_fall ⟨_, rfl⟩ ?_
          have er : hlF T H kd nms gk gb nm lo hi (e :: re) = ((hlF T H kd nms gk gb nm lo hi re).1, (hlF T H kd nms gk gb nm lo hi re).2.1 + 1, (hlF T H kd nms gk gb nm lo hi re).2.2) := if_pos (by omega)
          refine wJ_S (sh_l (S0 := S) (k := pe.length) (n := n) ⟨hs, by omega⟩ y2 (by omega) y1 (fun Z hZ => ?_) (n - (pe.length + 1)) (pe.length + 1) S (by omega) (by omega) ⟨fun q q0 q1 => absurd q1 (by omega), fun _ _ _ => rfl, hM⟩) ⟨rfl, rfl, rfl, rfl, rfl, rfl,rfl, trivial⟩
          have hM := hZ.2.2
          have z76 : Z 376 s = (n : Int) := (hZ.2.1 376 s (Or.inl (by omega))).trans y1
          have z12 : Z 312 s = S 312 s := hZ.2.1 312 s (Or.inl (by omega))
          refine wa_aload_n (n := 0) rfl ?_
          refine wb_gf4 237 rfl (wy_pr rfl) wt_237 wf_15_156 (v := 376) wl_237_156 ?_
          refine wa_iload_n (n := 1) rfl ?_
          refine wa_dup2 (by decide) (by decide) ?_
          refine wb_iald 376 rfl (wy_pr rfl) wt_376 (n := 4000) ((ml_376 hM)) (by omega) (by omega) (v := (n : Int)) (z76) (fun r713 => ?_)
          refine wa_iconst ?_
          refine wa_isub ?_
          refine wb_iast 376 rfl (wy_pr rfl) wt_376 (n := 4000) ((ml_376 hM)) (by omega) (by omega) ⟨(by omega), (by omega)⟩ ?_
          refine wa_aload_n (n := 0) rfl ?_
          refine wb_gf4 237 rfl (wy_pr rfl) wt_237 wf_15_57 (v := 312) wl_237_57 ?_
          refine wa_iload_n (n := 1) rfl ?_
          refine wa_dup2 (by decide) (by decide) ?_
          refine wb_iald 312 rfl (wy_pr rfl) wt_312 (n := 4000) ((w_up_slot (by decide)).trans ((ml_312 hM))) (by omega) (by omega) (v := (S 312 s)) ((w_up_slot (by decide)).trans (z12)) (fun r714 => ?_)
          refine wa_iconst ?_
          refine wa_iadd ?_
          refine wb_iast 312 rfl (wy_pr rfl) wt_312 (n := 4000) ((w_up_slot (by decide)).trans ((ml_312 hM))) (by omega) (by omega) ⟨(by omega), (by omega)⟩ ?_
          refine wa_goto ⟨_, rfl⟩ ?_
          have fT : ∀ (j : Nat) (x : Int), (j ≠ 376 ∨ x ≠ s) → (j ≠ 312 ∨ x ≠ s) → (w_up (w_up Z 376 s ((n : Int) - 1)) 312 s ((S 312 s) + 1)) j x = Z j x := fun j x j0 j1 => (w_up_no (by omega)).trans (w_up_no (by omega))
          have t12 : (w_up (w_up Z 376 s ((n : Int) - 1)) 312 s ((S 312 s) + 1)) 312 s = S 312 s + 1 := w_up_same _ _ _ _
          have hse2 : rSe (w_up (w_up Z 376 s ((n : Int) - 1)) 312 s ((S 312 s) + 1)) (fUp E s (pe ++ re)) := rSe_rm hse ⟨hs, hs47⟩ hE (by rw [hEl] at hZ; exact hZ) (fun j x j0 j1 => fT j x j0 (by omega)) (by rw [y1]; exact (w_up_slot (by first | decide | omega)).trans (w_up_same _ _ _ _))
          have hIv2 : ivI s kd gk gb en r T H sl L Gl cl S0 (w_up (w_up Z 376 s ((n : Int) - 1)) 312 s ((S 312 s) + 1)) := ivI_ag hIv (w_ML_up (w_ML_up hM hs) hs) (fun j x => by
            by_cases c : (376 ≤ j ∧ j ≤ 385) ∨ (j = 312 ∧ x = s)
            · rcases c with c | c
              · exact Or.inl c
              · exact Or.inr (Or.inl c)
            · exact Or.inr (Or.inr ((fT j x (by omega) (by omega)).trans (hZ.2.1 j x (Or.inl (by omega))))))
          refine wJ_S (ih pe (fUp E s (pe ++ re)) (w_up (w_up Z 376 s ((n : Int) - 1)) 312 s ((S 312 s) + 1)) hse2 (by rw [fT 237 47 (Or.inl (by first | decide | omega)) (Or.inl (by first | decide | omega)), hZ.2.1 237 47 (Or.inl (by omega))]; exact hs47) hIv2 fUp_s (by rw [t12]; omega) hwr (fun Z2 hit kk hz => hk Z2 hit kk ?_)) ⟨rfl, rfl, rfl, rfl, rfl, rfl, trivial⟩
          unfold ivR at hz ⊢
          rw [fUp_2, t12] at hz
          rw [er]
          obtain ⟨z1, z2, z3, z4⟩ := hz
          exact ⟨z1, by show Z2 312 s = S 312 s + (_ + 1); omega, z3, z4⟩
end Wgu
