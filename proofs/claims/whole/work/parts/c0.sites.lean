/-! PART c0: the reference's newSite. -/
section Wc0
variable {xs : List (Nat × List Int32)} {M : Nat → Prop} {d : Nat} {A B C S Z S0 : wS} {Q : wO → wS → Prop} {T : Int → Int} {n f0 u dp b0 b1 : Int} {N X : List (List Int)} {c i k pm : Nat} {I : List pz_I} {F : List pz_F} {PA : Nat → Int}
variable {kd ny e : Int} {x : pz_I}
theorem fs_rg {r j : Nat} (hr : r < 3) (hj : j = 287 + 2 * r ∨ ∃ g : Nat, g ≤ 11 ∧ j = fs r g) : (j = 287 + 2 * r ∨ j = 288 + 2 * r) ∨ (2025616 + 16 * r ≤ j ∧ j < 2025632 + 16 * r) := by
  rcases hj with q | ⟨g, q1, q2⟩
  · omega
  · unfold fs nP at q2
    by_cases e2 : g = 0
    · rw [if_pos e2] at q2; omega
    · rw [if_neg e2] at q2; omega
theorem fs_ne {r j : Nat} (hr : r < 3) (hj : j ≠ 288 + 2 * r ∧ (j < 2025616 + 16 * r ∨ 2025632 + 16 * r ≤ j)) : ∀ g : Nat, g ≤ 11 → j ≠ fs r g := fun g hg q => by
  have := fs_rg hr (Or.inr ⟨g, hg, q⟩)
  by_cases e : g = 0
  · unfold fs at q; rw [if_pos e] at q; omega
  · unfold fs nP at q; rw [if_neg e] at q; omega
theorem nsw (h : rQ T n N X f0 b0 b1 S0 u dp i I F PA S) (hI : (I.length : Int) ≤ 900000 ∧ I.length + 1 ≤ 1 * i + 16) (hk : 0 ≤ kd ∧ kd ≤ 15) (hy : -2147483648 ≤ ny ∧ ny ≤ 2147483647) (he : 0 ≤ e ∧ e ≤ 100) (hx : x = (27, kd + 16 * e, ny, u)) : wJ (pe_GA xs) wY0 M (d + 3) t_M_newSite ((pe_at t_M_newSite.bl 0).getD (0, [])).2 [(0, (2, 237)), (1, (0, kd)), (2, (0, ny)), (3, (0, e))] [] S (fun q Z => q = .inl none ∧ rQ T n N X f0 b0 b1 S0 u dp i (I ++ [x]) F PA Z ∧ Z 237 61 = ny ∧ Z 237 60 = S 237 60) := by
  subst hx
  obtain ⟨hI, hI9⟩ := hI
  obtain ⟨k, la, pm, ⟨hu, hk4, hkF⟩, ⟨l1, l2⟩, hp, ⟨h28, h59⟩, hc, hB, hR⟩ := rQ_pt h
  have hr := ru_rg f0 (f0 + (k : Int)) I
  have hrl := (rl_len f0 (f0 + (k : Int)) I).1
  have hph := pz_h_rg I (f0 + (k : Int))
  have hps := pz_s_rg I
  obtain ⟨z1, z2, z3⟩ := sk_len I
  have lm1 : (((rl f0 (f0 + (k : Int)) I).map (fun z => z.1)).length : Int) ≤ 1000000 := by rw [List.length_map]; omega
  have lm2 : (((rl f0 (f0 + (k : Int)) I).map (fun z => z.2.2)).length : Int) ≤ 1000000 := by rw [List.length_map]; omega
  have hn4 : nP 400 = 2025600 := rfl
  have hnk : nP k = 2000000 + 64 * k := rfl
  have hw : wG = 1000000 := rfl
  have hB2 := hB
  obtain ⟨b1', b2, b3, b4, b5, b7, b8, b9⟩ := hB2
  refine wa_aload_n (n := 0) rfl ?_
  refine wa_bipush (w_rg2 (by omega) (by omega)) ?_
  refine wa_aload_n (n := 0) rfl ?_
  refine wb_gf4 237 rfl (wy_pr rfl) wt_237 wf_15_30 (v := 287) wl_237_30 ?_
  refine wb_gfi 287 rfl (wy_pr rfl) wt_287 wf_13_2 (v := (pz_s I)) ((b7.1.2.1.trans z1)) (fun r101 => ?_)
  refine wa_iconst ?_
  refine wa_cv 237 rfl (wy_pr rfl) wt_237 (M2 := fun _ => False) rfl at_M_emits ⟨_, rfl⟩ rfl rfl ⟨(Or.inr ⟨wy_pr rfl, fun q => q⟩), trivial, trivial, trivial, trivial⟩ trivial (fun _ _ q => False.elim q) (em0 (f := k) (op := 27) (a := (pz_s I)) (b := 0) (by omega) h28 hp h59 ⟨by omega, by omega⟩ ⟨by omega, by omega⟩ ⟨by omega, by omega⟩ ⟨by omega, by omega⟩ ⟨hr.1, by omega⟩ ⟨lm1, by omega, lm2⟩) (fun oq102 Sq102 hp103 q102 => ?_)
  rcases q102 with ⟨rfl, Z1, pf, ⟨m1, m2, m3, m4⟩, hP, hZ⟩
  show wJ _ _ _ _ _ _ _ _ _ _
  rw [if_neg (by decide)] at hZ
  subst hZ
  refine wa_aload_n (n := 0) rfl ?_
  refine wa_iload_n (n := 2) rfl ?_
  refine wb_pfi 237 rfl (wy_pr rfl) wt_237 wf_15_61 (n := 61) rfl ⟨(by omega), (by omega)⟩ ?_
  refine wa_aload_n (n := 0) rfl ?_
  refine wb_gf4 237 rfl (wy_pr rfl) wt_237 wf_15_30 (v := 287) wl_237_30 ?_
  refine wa_iload_n (n := 1) rfl ?_
  have t0 : ∀ (j : Nat) (y : Int), j ≠ wG → (j < nP k ∨ nP k + 64 ≤ j) → (j ≠ 237 ∨ (y ≠ 59 ∧ y ≠ 61)) → (w_up (w_up Z1 237 59 ((I.length : Int) + 1)) 237 61 ny) j y = S j y := fun j y j1 j2 j3 => (w_up_no (by omega)).trans ((w_up_no (by omega)).trans (pf j y j1 j2))
  obtain ⟨h0_0, p0_0⟩ := iI_ag (Z := (w_up (w_up Z1 237 59 ((I.length : Int) + 1)) 237 61 ny)) b7 (fun j y hj => t0 j y (by have := fs_rg (r := 0) (by decide) hj; omega) (by have := fs_rg (r := 0) (by decide) hj; omega) (by have := fs_rg (r := 0) (by decide) hj; omega))
  obtain ⟨h0_1, p0_1⟩ := iI_ag (Z := (w_up (w_up Z1 237 59 ((I.length : Int) + 1)) 237 61 ny)) b8 (fun j y hj => t0 j y (by have := fs_rg (r := 1) (by decide) hj; omega) (by have := fs_rg (r := 1) (by decide) hj; omega) (by have := fs_rg (r := 1) (by decide) hj; omega))
  obtain ⟨h0_2, p0_2⟩ := iI_ag (Z := (w_up (w_up Z1 237 59 ((I.length : Int) + 1)) 237 61 ny)) b9 (fun j y hj => t0 j y (by have := fs_rg (r := 2) (by decide) hj; omega) (by have := fs_rg (r := 2) (by decide) hj; omega) (by have := fs_rg (r := 2) (by decide) hj; omega))
  refine wa_cv 287 rfl (wy_pr rfl) wt_287 (M2 := fun _ => False) rfl at_MI_add ⟨_, rfl⟩ rfl rfl ⟨(Or.inr ⟨wy_pr rfl, fun q => q⟩), trivial, trivial, trivial, trivial⟩ trivial (fun _ _ q => False.elim q) (ia_ok (o := 287) (fam := fs 0) (most := 4000) (l := (sk1 I)) (v := kd) (hfam_s (r := 0) (by decide)) ⟨by decide, by decide⟩ h0_0 ⟨by omega, by omega⟩ (by omega)) (fun oq104 Sq104 hp105 q104 => ?_)
  rcases q104 with ⟨rfl, h1_0, a0⟩
  show wJ _ _ _ _ _ _ _ _ _ _
  obtain ⟨h1_1, p1_1⟩ := iI_ag (Z := Sq104) h0_1 (fun j y hj => a0.1 j y (by have := fs_rg (r := 1) (by decide) hj; omega) (by have := fs_rg (r := 1) (by decide) hj; omega) (fs_ne (by decide) (by have := fs_rg (r := 1) (by decide) hj; omega)))
  obtain ⟨h1_2, p1_2⟩ := iI_ag (Z := Sq104) h0_2 (fun j y hj => a0.1 j y (by have := fs_rg (r := 2) (by decide) hj; omega) (by have := fs_rg (r := 2) (by decide) hj; omega) (fs_ne (by decide) (by have := fs_rg (r := 2) (by decide) hj; omega)))
  refine wa_aload_n (n := 0) rfl ?_
  refine wb_gf4 237 rfl (wy_pr rfl) wt_237 wf_15_31 (v := 289) wl_237_31 ?_
  refine wa_iload_n (n := 2) rfl ?_
  refine wa_cv 289 rfl (wy_pr rfl) wt_289 (M2 := fun _ => False) rfl at_MI_add ⟨_, rfl⟩ rfl rfl ⟨(Or.inr ⟨wy_pr rfl, fun q => q⟩), trivial, trivial, trivial, trivial⟩ trivial (fun _ _ q => False.elim q) (ia_ok (o := 289) (fam := fs 1) (most := 4000) (l := (sk2 I)) (v := ny) (hfam_s (r := 1) (by decide)) ⟨by decide, by decide⟩ h1_1 ⟨by omega, by omega⟩ (by omega)) (fun oq106 Sq106 hp107 q106 => ?_)
  rcases q106 with ⟨rfl, h2_1, a1⟩
  show wJ _ _ _ _ _ _ _ _ _ _
  obtain ⟨h2_0, p2_0⟩ := iI_ag (Z := Sq106) h1_0 (fun j y hj => a1.1 j y (by have := fs_rg (r := 0) (by decide) hj; omega) (by have := fs_rg (r := 0) (by decide) hj; omega) (fs_ne (by decide) (by have := fs_rg (r := 0) (by decide) hj; omega)))
  obtain ⟨h2_2, p2_2⟩ := iI_ag (Z := Sq106) h1_2 (fun j y hj => a1.1 j y (by have := fs_rg (r := 2) (by decide) hj; omega) (by have := fs_rg (r := 2) (by decide) hj; omega) (fs_ne (by decide) (by have := fs_rg (r := 2) (by decide) hj; omega)))
  refine wa_aload_n (n := 0) rfl ?_
  refine wb_gf4 237 rfl (wy_pr rfl) wt_237 wf_15_32 (v := 291) wl_237_32 ?_
  refine wa_iload_n (n := 3) rfl ?_
  refine wa_cv 291 rfl (wy_pr rfl) wt_291 (M2 := fun _ => False) rfl at_MI_add ⟨_, rfl⟩ rfl rfl ⟨(Or.inr ⟨wy_pr rfl, fun q => q⟩), trivial, trivial, trivial, trivial⟩ trivial (fun _ _ q => False.elim q) (ia_ok (o := 291) (fam := fs 2) (most := 4000) (l := (sk3 I)) (v := e) (hfam_s (r := 2) (by decide)) ⟨by decide, by decide⟩ h2_2 ⟨by omega, by omega⟩ (by omega)) (fun oq108 Sq108 hp109 q108 => ?_)
  rcases q108 with ⟨rfl, h3_2, a2⟩
  show wJ _ _ _ _ _ _ _ _ _ _
  obtain ⟨h3_0, p3_0⟩ := iI_ag (Z := Sq108) h2_0 (fun j y hj => a2.1 j y (by have := fs_rg (r := 0) (by decide) hj; omega) (by have := fs_rg (r := 0) (by decide) hj; omega) (fs_ne (by decide) (by have := fs_rg (r := 0) (by decide) hj; omega)))
  obtain ⟨h3_1, p3_1⟩ := iI_ag (Z := Sq108) h2_1 (fun j y hj => a2.1 j y (by have := fs_rg (r := 1) (by decide) hj; omega) (by have := fs_rg (r := 1) (by decide) hj; omega) (fs_ne (by decide) (by have := fs_rg (r := 1) (by decide) hj; omega)))
  refine wa_return rfl ?_
  have ff : ∀ (j : Nat) (y : Int), j ≠ wG → (j < 287 ∨ 292 < j) → (j < nP 400 ∨ nP 400 + 64 ≤ j) → Sq108 j y = (w_up (w_up Z1 237 59 ((I.length : Int) + 1)) 237 61 ny) j y := fun j y j1 j2 j3 => (a2.1 j y j1 (by omega) (fs_ne (by decide) (by omega))).trans ((a1.1 j y j1 (by omega) (fs_ne (by decide) (by omega))).trans (a0.1 j y j1 (by omega) (fs_ne (by decide) (by omega))))
  have eP : ∀ (j : Nat) (y : Int), nP k ≤ j → j < nP k + 64 → Sq108 j y = Z1 j y := fun j y j1 j2 => (ff j y (by omega) (by omega) (by omega)).trans ((w_up_no (by omega)).trans (w_up_no (by omega)))
  have fr : ∀ (j : Nat) (y : Int), j ≠ wG → (j < nP k ∨ nP k + 64 ≤ j) → (j < 287 ∨ 292 < j) → (j < nP 400 ∨ nP 400 + 64 ≤ j) → (j ≠ 237 ∨ (y ≠ 59 ∧ y ≠ 60 ∧ y ≠ 61)) → Sq108 j y = S j y := fun j y j1 j2 j3 j4 j5 => (ff j y j1 j3 j4).trans (t0 j y j1 j2 (by omega))
  obtain ⟨k1, k2, k3⟩ := sk_in (I := I) (x := (27, kd + 16 * e, ny, u)) rfl
  have q1 : (kd + 16 * e) % 16 = kd := by omega
  have q2 : (kd + 16 * e) / 16 = e := by omega
  have ephi : phP k Sq108 = phP k Z1 := by
    rcases hP with ⟨-, q⟩ | ⟨-, q⟩
    · exact (pO_ag q eP).2
    · exact (pO_ag q eP).2
  have g0 : (w_up (w_up Z1 237 59 ((I.length : Int) + 1)) 237 61 ny) wG 0 = Z1 wG 0 := (w_up_no (by omega)).trans (w_up_no (by omega))
  have g1 : (w_up (w_up Z1 237 59 ((I.length : Int) + 1)) 237 61 ny) wG 1 = Z1 wG 1 := (w_up_no (by omega)).trans (w_up_no (by omega))
  obtain ⟨⟨-, u1⟩, u2, u3, u4⟩ := a0.2
  obtain ⟨⟨-, v1⟩, v2, v3, v4⟩ := a1.2
  obtain ⟨⟨-, w1⟩, w2, w3, w4⟩ := a2.2
  replace u1 := u1 (by decide) (by rw [h0_0.1.1]; decide)
  replace v1 := v1 (by decide) (by rw [h1_1.1.1]; decide)
  replace w1 := w1 (by decide) (by rw [h2_2.1.1]; decide)
  refine ⟨rfl, rQ_ap h.1 h.2.1.1 h.2.1.2 h.2.2.1 h.2.2.2.1 hc hB hR hu rfl l1 l2 (fun _ => (gA_n (by show pz_s I ≠ -9; omega)).symm) hI9 ?_ ⟨?_, ?_, ?_⟩ fr ?_ ⟨?_, ?_⟩, ?_, ?_⟩
  · rcases hP with ⟨z1, z2⟩ | ⟨z1, z2⟩
    · exact Or.inl ⟨z1, (pO_ag z2 eP).1⟩
    · exact Or.inr ⟨z1, (pO_ag z2 eP).1⟩
  · rw [k1]; show iI 287 (fs 0) 4000 (sk1 I ++ [(kd + 16 * e) % 16]) _; rw [q1]; exact h3_0
  · rw [k2]; exact h3_1
  · rw [k3]; show iI 291 (fs 2) 4000 (sk3 I ++ [(kd + 16 * e) / 16]) _; rw [q2]; exact h3_2
  · exact (ff 237 59 (by decide) (by decide) (by omega)).trans ((w_up_at (by decide)).trans (w_up_same _ _ _ _))
  · rw [ephi]; omega
  · omega
  · exact (ff 237 61 (by decide) (by decide) (by omega)).trans (w_up_same _ _ _ _)
  · exact (ff 237 60 (by decide) (by decide) (by omega)).trans ((w_up_at (by decide)).trans ((w_up_at (by decide)).trans (pf 237 60 (by decide) (Or.inl (by omega)))))
end Wc0
