/-! PART ci: what is assigned. -/
section Wci
variable {xs : List (Nat × List Int32)} {M : Nat → Prop} {d : Nat} {A B C S Z S0 : wS} {Q : wO → wS → Prop} {T : Int → Int} {n f0 u dp b0 b1 : Int} {N X : List (List Int)} {c i k pm : Nat} {I : List pz_I} {F : List pz_F} {o : pz_O}
variable {PA : Nat → Int} {J : List pz_I} {x : pz_I} {R : pz_R} {K V P : Nat → Int} {t : Int} {S1 : wS} {ir : Nat}
theorem px_dr (h : pz_px I (J ++ [x])) (hm : I.length ≤ J.length) : pz_px I J := by
  obtain ⟨K, e⟩ := h
  have hK : K = [] ∨ ∃ (a : List pz_I) (b : pz_I), K = a ++ [b] := li_end (p := fun K => K = [] ∨ ∃ (a : List pz_I) (b : pz_I), K = a ++ [b]) (Or.inl rfl) (fun l y _ => Or.inr ⟨l, y, rfl⟩) K
  rcases hK with rfl | ⟨a, b, rfl⟩
  · have := congrArg List.length e
    rw [List.length_append, List.append_nil] at this
    have h1 : [x].length = 1 := rfl
    omega
  · rw [← List.append_assoc] at e
    exact ⟨a, (List.append_inj' e rfl).1⟩
theorem gl_x : (J ++ [x]).getD ((J ++ [x]).length - 1) (0, 0, 0, 0) = x := by
  have e : (J ++ [x]).length - 1 = J.length := by rw [List.length_append]; rfl
  rw [e, gD_r]
theorem rQr_lx (h : rQr T n N X f0 b0 b1 S0 u dp i (i + 1) I F PA S) (g : lx_ag S Z) (hz : lx_I Z (lx_ne S (tp T n 0 i))) (hk : kq T n N X i ≠ 3 ∧ kq T n N X i ≠ 4 ∧ kq T n N X i ≠ 5 ∧ kq T n N X i ≠ 6) : rQ T n N X f0 b0 b1 S0 u dp (i + 1) I F PA Z := by
  obtain ⟨h1, ⟨h2, h3⟩, h4, h5, pm, ⟨⟨c1, c2⟩, c3, c4, c5, c6, c7⟩, h7, h8, h9⟩ := h
  have hG : ∀ x : Int, Z wG x = S wG x := fun x => g wG x (Or.inl (by decide)) (Or.inl (by decide))
  have e : ∀ x : Int, 12 < x → Z 237 x = S 237 x := fun x hx => g 237 x (Or.inl (by decide)) (Or.inr (by omega))
  obtain ⟨q1, q2⟩ := rB_lx h7 g
  refine ⟨rL_nx h1 g hz, ⟨by rw [NL_nx (X := X) ⟨hk.2.2.1, hk.2.2.2⟩]; exact mN_lx h2 g, by rw [XL_nx (N := N) ⟨hk.1, hk.2.1⟩]; exact mX_lx h3 g⟩, by rw [NL_nx (X := X) ⟨hk.2.2.1, hk.2.2.2⟩]; exact h4, fun j x j1 j2 j3 j4 j5 => (g j x (by omega) (by omega)).trans (h5 j x j1 j2 j3 j4 j5), pm, ⟨⟨(e 27 (by decide)).trans c1, (e 28 (by decide)).trans c2⟩, (e 29 (by decide)).trans c3, (e 26 (by decide)).trans c4, (e 25 (by decide)).trans c5, (e 34 (by decide)).trans c6, (e 59 (by decide)).trans c7⟩, q1, ?_, ?_⟩
  · rw [hG, q2]; exact h8
  · rw [hG, hG]; exact h9
theorem nxr (h : rQr T n N X f0 b0 b1 S0 u dp i (i + 1) I F PA S) (hk : kq T n N X i ≠ 1 ∧ kq T n N X i ≠ 3 ∧ kq T n N X i ≠ 4 ∧ kq T n N X i ≠ 5 ∧ kq T n N X i ≠ 6) : wJ (pe_GA xs) wY0 M (d + 2) t_M_next ((pe_at t_M_next.bl 0).getD (0, [])).2 [(0, (2, 237))] [] S (fun o Z => o = .inl none ∧ rQ T n N X f0 b0 b1 S0 u dp (i + 1) I F PA Z ∧ lx_ag S Z) := by
  have h5 : S 237 6 ≠ 5 := fun q => by
    rw [(rL_tk h.1).1] at q
    have := kq_cs T n N X i
    omega
  exact wJ_mono (nx_I h.1.2.2.2 h5) (fun o Z q => ⟨q.1, rQr_lx h q.2.1 q.2.2 hk.2, q.2.1⟩)
theorem dsw (h : rQ T n N X f0 b0 b1 S0 u dp i (J ++ [x]) F PA S) : wJ (pe_GA xs) wY0 M d t_M_dropsSite ((pe_at t_M_dropsSite.bl 0).getD (0, [])).2 [(0, (2, 237))] [] S (fun q Z => q = .inl none ∧ w_up (w_up (w_up S 287 2 (pz_s (J ++ [x]) - 1)) 289 2 (pz_s (J ++ [x]) - 1)) 291 2 (pz_s (J ++ [x]) - 1) = Z) := by
  obtain ⟨k, la, pm, ⟨hu, hk4, hkF⟩, ⟨l1, l2⟩, hp, ⟨h28, h59⟩, hc, hB, hR⟩ := rQ_pt h
  obtain ⟨b1', b2, b3, b4, b5, b7, b8, b9⟩ := hB
  obtain ⟨z1, z2, z3⟩ := sk_len (J ++ [x])
  have hps := pz_s_rg (J ++ [x])
  refine wa_aload_n (n := 0) rfl ?_
  refine wb_gf4 237 rfl (wy_pr rfl) wt_237 wf_15_30 (v := 287) wl_237_30 ?_
  refine wa_dup (by decide) ?_
  refine wb_gfi 287 rfl (wy_pr rfl) wt_287 wf_13_2 (v := (pz_s (J ++ [x]))) ((b7.1.2.1.trans z1)) (fun r101 => ?_)
  refine wa_iconst ?_
  refine wa_isub ?_
  refine wb_pfi 287 rfl (wy_pr rfl) wt_287 wf_13_2 (n := 2) rfl ⟨(by omega), (by omega)⟩ ?_
  refine wa_aload_n (n := 0) rfl ?_
  refine wb_gf4 237 rfl (wy_pr rfl) wt_237 wf_15_31 (v := 289) wl_237_31 ?_
  refine wa_dup (by decide) ?_
  refine wb_gfi 289 rfl (wy_pr rfl) wt_289 wf_13_2 (v := (pz_s (J ++ [x]))) ((w_up_slot (by decide)).trans ((b8.1.2.1.trans z2))) (fun r102 => ?_)
  refine wa_iconst ?_
  refine wa_isub ?_
  refine wb_pfi 289 rfl (wy_pr rfl) wt_289 wf_13_2 (n := 2) rfl ⟨(by omega), (by omega)⟩ ?_
  refine wa_aload_n (n := 0) rfl ?_
  refine wb_gf4 237 rfl (wy_pr rfl) wt_237 wf_15_32 (v := 291) wl_237_32 ?_
  refine wa_dup (by decide) ?_
  refine wb_gfi 291 rfl (wy_pr rfl) wt_291 wf_13_2 (v := (pz_s (J ++ [x]))) ((w_up_slot (by decide)).trans ((w_up_slot (by decide)).trans ((b9.1.2.1.trans z3)))) (fun r103 => ?_)
  refine wa_iconst ?_
  refine wa_isub ?_
  refine wb_pfi 291 rfl (wy_pr rfl) wt_291 wf_13_2 (n := 2) rfl ⟨(by omega), (by omega)⟩ ?_
  refine wa_return rfl ?_
  exact ⟨rfl, rfl⟩
theorem drw (h : rQ T n N X f0 b0 b1 S0 u dp i (J ++ [x]) F PA S) (hI : ((J ++ [x]).length : Int) ≤ 900000) (hx : x.2.2.2 = u) (h20 : x.1 ≠ 20) (hS1 : (x.1 ≠ 27 ∧ S1 = S) ∨ (x.1 = 27 ∧ S1 = w_up (w_up (w_up S 287 2 (pz_s (J ++ [x]) - 1)) 289 2 (pz_s (J ++ [x]) - 1)) 291 2 (pz_s (J ++ [x]) - 1))) : wJ (pe_GA xs) wY0 M d t_MP_drop ((pe_at t_MP_drop.bl 0).getD (0, [])).2 [(0, (2, (nP (u - f0).toNat : Int)))] [] S1 (fun q Z => q = .inl none ∧ rQr T n N X f0 b0 b1 S0 u dp i (i + 1) J F PA (w_up Z 237 59 (((J ++ [x]).length : Int) - 1)) ∧ ∀ y : Int, Z 237 y = S 237 y) := by
  obtain ⟨k, la, pm, ⟨hu, hk4, hkF⟩, ⟨l1, l2⟩, hp, ⟨h28, h59⟩, hc, hB, hR⟩ := rQ_pt h
  have hk : (u - f0).toNat = k := by omega
  rw [hk]
  have hn4 : nP 400 = 2025600 := rfl
  have hnk : nP k = 2000000 + 64 * k := rfl
  have hwg : wG = 1000000 := rfl
  have hlen : (J ++ [x]).length = J.length + 1 := by rw [List.length_append]; rfl
  have hxk : x.2.2.2 = f0 + (k : Int) := hx.trans hu
  have hB2 := hB
  obtain ⟨b1', b2, b3, b4, b5, b7, b8, b9⟩ := hB2
  have hlo : pz_lo (J ++ [x]) → pz_lo J := fun ⟨j, j1, j2, j3⟩ => by
    have j4 : j < J.length := by
      refine Classical.byContradiction (fun q => ?_)
      have e : j = J.length := by omega
      rw [e, gD_r] at j3
      exact h20 j3
    exact ⟨j, j1, j4, by rw [gD_l j4] at j3; exact j3⟩
  have e1 : ∀ (j : Nat) (y : Int), (j < 287 ∨ 292 < j) → S1 j y = S j y := fun j y hj => by
    rcases hS1 with ⟨-, e⟩ | ⟨-, e⟩
    · rw [e]
    · rw [e]; exact (w_up_no (by omega)).trans ((w_up_no (by omega)).trans (w_up_no (by omega)))
  obtain ⟨hp1, hph⟩ := pO_ag (Z := S1) hp (fun j y j1 j2 => e1 j y (by omega))
  have hsit : (iI 287 (fs 0) 4000 (sk1 J) S1 ∧ iI 289 (fs 1) 4000 (sk2 J) S1 ∧ iI 291 (fs 2) 4000 (sk3 J) S1) ∧ phi 287 S1 + phi 289 S1 + phi 291 S1 ≤ phi 287 S + phi 289 S + phi 291 S := by
    rcases hS1 with ⟨n27, e⟩ | ⟨n27, e⟩
    · obtain ⟨k1, k2, k3⟩ := sk_no (I := J) n27
      rw [k1] at b7
      rw [k2] at b8
      rw [k3] at b9
      rw [e]
      exact ⟨⟨b7, b8, b9⟩, Int.le_refl _⟩
    · obtain ⟨k1, k2, k3⟩ := sk_in (I := J) n27
      obtain ⟨z1, z2, z3⟩ := sk_len J
      obtain ⟨y1, y2, y3⟩ := sk_len (J ++ [x])
      rw [k1] at b7 y1
      rw [k2] at b8
      rw [k3] at b9
      rw [List.length_append] at y1
      have y1b : (((sk1 J).length + 1 : Nat) : Int) = pz_s (J ++ [x]) := y1
      obtain ⟨i1, p1⟩ := iI_dr (hfam_s (r := 0) (by decide)) b7
      obtain ⟨i2, p2⟩ := iI_dr (hfam_s (r := 1) (by decide)) b8
      obtain ⟨i3, p3⟩ := iI_dr (hfam_s (r := 2) (by decide)) b9
      have s1 : ((sk1 J).length : Int) = (pz_s (J ++ [x]) - 1) := by omega
      have s2 : ((sk2 J).length : Int) = (pz_s (J ++ [x]) - 1) := by omega
      have s3 : ((sk3 J).length : Int) = (pz_s (J ++ [x]) - 1) := by omega
      rw [s1] at i1 p1
      rw [s2] at i2 p2
      rw [s3] at i3 p3
      have a1 : ∀ (j : Nat) (y : Int), j ≠ 289 → j ≠ 291 → S1 j y = w_up S 287 2 (pz_s (J ++ [x]) - 1) j y := fun j y q1 q2 => by
        rw [e]; exact (w_up_no (by omega)).trans (w_up_no (by omega))
      have a2 : ∀ (j : Nat) (y : Int), j ≠ 287 → j ≠ 291 → S1 j y = w_up S 289 2 (pz_s (J ++ [x]) - 1) j y := fun j y q1 q2 => by
        rw [e]
        refine (w_up_no (by omega)).trans ?_
        unfold w_up
        repeat' split
        all_goals first | rfl | (exfalso; omega)
      have a3 : ∀ (j : Nat) (y : Int), j ≠ 287 → j ≠ 289 → S1 j y = w_up S 291 2 (pz_s (J ++ [x]) - 1) j y := fun j y q1 q2 => by
        rw [e]
        unfold w_up
        repeat' split
        all_goals first | rfl | (exfalso; omega)
      obtain ⟨v1, w1⟩ := iI_ag (Z := S1) i1 (fun j y hj => a1 j y (by have := fs_rg (r := 0) (by decide) hj; omega) (by have := fs_rg (r := 0) (by decide) hj; omega))
      obtain ⟨v2, w2⟩ := iI_ag (Z := S1) i2 (fun j y hj => a2 j y (by have := fs_rg (r := 1) (by decide) hj; omega) (by have := fs_rg (r := 1) (by decide) hj; omega))
      obtain ⟨v3, w3⟩ := iI_ag (Z := S1) i3 (fun j y hj => a3 j y (by have := fs_rg (r := 2) (by decide) hj; omega) (by have := fs_rg (r := 2) (by decide) hj; omega))
      refine ⟨⟨v1, v2, v3⟩, ?_⟩
      have w1b : phi 287 S1 = phi 287 (w_up S 287 2 (pz_s (J ++ [x]) - 1)) := w1
      have w2b : phi 289 S1 = phi 289 (w_up S 289 2 (pz_s (J ++ [x]) - 1)) := w2
      have w3b : phi 291 S1 = phi 291 (w_up S 291 2 (pz_s (J ++ [x]) - 1)) := w3
      have p1b : phi 287 (w_up S 287 2 (pz_s (J ++ [x]) - 1)) ≤ phi 287 S := p1
      have p2b : phi 289 (w_up S 289 2 (pz_s (J ++ [x]) - 1)) ≤ phi 289 S := p2
      have p3b : phi 291 (w_up S 291 2 (pz_s (J ++ [x]) - 1)) ≤ phi 291 S := p3
      omega
  obtain ⟨⟨s7, s8, s9⟩, sph⟩ := hsit
  have key : ∀ Z : wS, pf_f k S1 Z → ((∀ y : Int, Z wG y = S1 wG y) ∧ phP k Z ≤ phP k S1) → rPt S0 f0 J F k (PA k) (w_up Z 237 59 (((J ++ [x]).length : Int) - 1)) → rQr T n N X f0 b0 b1 S0 u dp i (i + 1) J F PA (w_up Z 237 59 (((J ++ [x]).length : Int) - 1)) ∧ ∀ y : Int, Z 237 y = S 237 y := fun Z pf hw hPk => by
    have ez : ∀ (j : Nat) (y : Int), j ≠ 237 → w_up Z 237 59 (((J ++ [x]).length : Int) - 1) j y = Z j y := fun j y hj => w_up_no (by omega)
    have eI : ∀ (r : Nat) (j : Nat) (y : Int), r < 3 → (j = 287 + 2 * r ∨ ∃ g : Nat, g ≤ 11 ∧ j = fs r g) → w_up Z 237 59 (((J ++ [x]).length : Int) - 1) j y = S1 j y := fun r j y hr hj => by
      have := fs_rg hr hj
      exact (ez j y (by omega)).trans (pf j y (by omega) (by omega))
    obtain ⟨v1, w1⟩ := iI_ag s7 (fun j y => eI 0 j y (by decide))
    obtain ⟨v2, w2⟩ := iI_ag s8 (fun j y => eI 1 j y (by decide))
    obtain ⟨v3, w3⟩ := iI_ag s9 (fun j y => eI 2 j y (by decide))
    have hphZ : phP k (w_up Z 237 59 (((J ++ [x]).length : Int) - 1)) = phP k Z := by
      obtain ⟨lz, -, -, q⟩ := hPk
      exact ((pO_ag (Z := Z) q (fun j y j1 j2 => (ez j y (by omega)).symm)).2).symm
    refine ⟨rQ_gen (ir := i + 1) h.1 h.2.1.1 h.2.1.2 h.2.2.1 h.2.2.2.1 hc hB hR hu (fun z hz => h.2.2.1.2.2.1 z (List.mem_append_left _ hz)) (fun q hq => ⟨(rl_no (by rw [hxk]; omega)).symm, (ru_no (by rw [hxk]; omega)).symm⟩) hlo (by have := hR.2.2; omega) hPk ⟨v1, v2, v3⟩ (fun j y j1 j2 j3 j4 j5 => ?_) ((w_up_same _ _ _ _).trans (by omega)) ⟨?_, ?_⟩, fun y => (pf 237 y (by omega) (by omega)).trans (e1 237 y (by omega))⟩
    · by_cases e : j = 237
      · subst e
        exact (w_up_at (by omega)).trans ((pf 237 y (by omega) (by omega)).trans (e1 237 y (by omega)))
      · exact (ez j y e).trans ((pf j y j1 j2).trans (e1 j y j3))
    · rw [hphZ, ez wG 0 (by decide), hw.1, e1 wG 0 (by omega), w1, w2, w3]
      have := hw.2
      omega
    · rw [ez wG 0 (by decide), ez wG 1 (by decide), hw.1, hw.1, e1 wG 0 (by omega), e1 wG 1 (by omega)]
      exact Int.le_refl _
  have hru := ru_rg f0 (f0 + (k : Int)) J
  have hrl := (rl_len f0 (f0 + (k : Int)) J).1
  have hph2 := pz_h_rg J (f0 + (k : Int))
  have lm1 : (((rl f0 (f0 + (k : Int)) J).map (fun z => z.1)).length : Int) ≤ 1000000 := by rw [List.length_map]; omega
  have lm2 : (((rl f0 (f0 + (k : Int)) J).map (fun z => z.2.2)).length : Int) ≤ 1000000 := by rw [List.length_map]; omega
  by_cases hl : J.length < 20000
  · have er := rl_in (f0 := f0) hxk hl
    have eu := ru_in (f0 := f0) hxk hl
    have u0 : ru f0 (f0 + (k : Int)) J = 0 := hru.2.1 (by omega)
    rw [eu, u0, er, List.map_append, List.map_append] at hp1
    rw [er] at l1 l2
    have hla : la = [] ∨ ∃ (a : List Int) (b : Int), la = a ++ [b] := li_end (p := fun K => K = [] ∨ ∃ (a : List Int) (b : Int), K = a ++ [b]) (Or.inl rfl) (fun l y _ => Or.inr ⟨l, y, rfl⟩) la
    rw [List.length_append] at l1
    have l1b : la.length = (rl f0 (f0 + (k : Int)) J).length + 1 := l1
    rcases hla with rfl | ⟨la0, y0, rfl⟩
    · exact absurd l1b (by simp)
    have l1c : la0.length = (rl f0 (f0 + (k : Int)) J).length := by rw [List.length_append] at l1b; have : [y0].length = 1 := rfl; omega
    refine wJ_mono (dr_r (f := k) (un := 0) (x := (renc f0 (pz_s J) x).1) (y := y0) (z := (renc f0 (pz_s J) x).2.2) (by omega) ⟨by decide, by decide⟩ (Or.inr ⟨rfl, hp1⟩) ⟨lm1, by omega, lm2⟩) (fun q Z hz => ?_)
    obtain ⟨q1, pf, hw, hP⟩ := hz
    rcases hP with ⟨hP, -⟩ | ⟨-, hP⟩
    · exact absurd hP (by decide)
    refine ⟨q1, key Z pf hw ⟨la0, l1c, fun j hj hno => ?_, ?_⟩⟩
    · have := l2 j (by rw [List.length_append]; omega)
      rw [gD_l hj, gD_l (by omega)] at this
      exact this (hno.imp id (fun hn z => hn (hlo z)))
    · rw [u0]
      exact (pO_ag hP (fun j y j1 j2 => w_up_no (by omega))).1
  · have er := rl_ov (f0 := f0) (u := f0 + (k : Int)) (x := x) (I := J) (by omega)
    have eu := ru_ov (f0 := f0) hxk (I := J) (by omega)
    rw [eu, er] at hp1
    rw [er] at l1 l2
    refine wJ_mono (dr_r (f := k) (un := ru f0 (f0 + (k : Int)) J + 1) (x := 0) (y := 0) (z := 0) (by omega) ⟨by omega, by omega⟩ (Or.inl ⟨by omega, hp1⟩) ⟨lm1, by omega, lm2⟩) (fun q Z hz => ?_)
    obtain ⟨q1, pf, hw, hP⟩ := hz
    rcases hP with ⟨-, hP⟩ | ⟨hP, -⟩
    · refine ⟨q1, key Z pf hw ⟨la, l1, fun j hj hno => l2 j hj (hno.imp id (fun hn z => hn (hlo z))), ?_⟩⟩
      rw [show ru f0 (f0 + (k : Int)) J + 1 - 1 = ru f0 (f0 + (k : Int)) J by omega] at hP
      exact (pO_ag hP (fun j y j1 j2 => w_up_no (by omega))).1
    · exact absurd hP (by omega)
theorem me_va (hd : pz_VA (kq T n N X) (tp T n 0) (rR xs T n N X f0 b0 b1 S0) i dp u I F o) : rR xs T n N X f0 b0 b1 S0 4 0 [] i dp u I F o := by
  show rM xs T n N X f0 b0 b1 S0 16 t_M_value [(0, (2, 237))] (fun _ => none) 1 (fun _ _ _ => True) dp u i I F o
  intro hpre M D S hD h
  obtain ⟨⟨d0, d1⟩, hlen, ip⟩ := hpre
  obtain ⟨D, rfl⟩ : ∃ E, D = E + 12 := ⟨D - 12, by omega⟩
  have krS := kq_rg T n N X i
  have nnS := rQ_n h
  unfold pz_VA at hd
  refine wa_aload_n (n := 0) rfl ?_
  rcases hd with ⟨v101, hs102, ho103⟩ | ⟨i104, I105, F106, t107, hs102, hd1⟩
  · refine wa_cv 237 rfl (wy_pr rfl) wt_237 (M2 := fun _ => False) rfl at_M_or ⟨_, rfl⟩ rfl rfl ⟨(Or.inr ⟨wy_pr rfl, fun q => q⟩), trivial⟩ trivial (fun _ _ q => False.elim q) (r5_1 hs102 ⟨⟨by omega, by omega⟩, by omega, ip⟩ _ _ _ (by omega) h) (fun oq115 Sq115 hp116 q115 => ?_)
    rcases q115 with ⟨rfl, hf114⟩
    subst ho103
    exact ⟨rfl, ⟨rfl, hf114⟩⟩
  refine wa_cv 237 rfl (wy_pr rfl) wt_237 (M2 := fun _ => False) rfl at_M_or ⟨_, rfl⟩ rfl rfl ⟨(Or.inr ⟨wy_pr rfl, fun q => q⟩), trivial⟩ trivial (fun _ _ q => False.elim q) (r5_1 hs102 ⟨⟨by omega, by omega⟩, by omega, ip⟩ _ _ _ (by omega) h) (fun oq117 Sq117 hp118 q117 => ?_)
  rcases q117 with ⟨rfl, hz108, ⟨p109, p110, p111, p112⟩, e113⟩
  show wJ _ _ _ _ _ _ _ _ _ _
  have hSq117 : rQ T n N X f0 b0 b1 S0 u dp i104 I105 F106 (pA F106) Sq117 := hz108
  have ipSq117 : ((i104 : Nat) : Int) ≤ tp T n 0 i104 := p111
  have krSq117 := kq_rg T n N X i104
  have nnSq117 := rQ_n hSq117
  have lnSq117 := px_len p112
  have tr := tE_rg e113
  refine wa_istore_n (n := 1) rfl ?_
  refine wa_aload_n (n := 0) rfl ?_
  refine wa_bipush (w_rg2 (by omega) (by omega)) ?_
  refine wa_cv 237 rfl (wy_pr rfl) wt_237 (M2 := fun _ => False) rfl at_M_isSign ⟨_, rfl⟩ rfl rfl ⟨trivial, (Or.inr ⟨wy_pr rfl, fun q => q⟩), trivial⟩ trivial (fun _ _ q => False.elim q) (isw (S := Sq117) hSq117 (fun _ => sk_61) ⟨by decide, by decide⟩ ⟨by decide, by decide⟩) (fun oq120 Sq120 hp121 q120 => ?_)
  rcases q120 with ⟨rfl, ⟨rfl, ks119⟩ | ⟨rfl, ks119⟩⟩
  · skip
    show wJ _ _ _ _ _ _ _ _ _ _
    rw [if_neg (fun q => q ks119)] at hd1
    refine wa_ifne (w_rg0 (by omega) (by omega)) ⟨_, rfl⟩ (fun c122 => ?_) (fun c122 => ?_)
    · skip
      refine wa_aload_n (n := 0) rfl ?_
      refine wa_iload_n (n := 1) rfl ?_
      refine wa_ifeq (w_rg0 (by omega) (by omega)) ⟨_, rfl⟩ (fun c123 => ?_) (fun c123 => ?_)
      · skip
        refine wa_iconst ?_
        refine wa_fall ⟨_, rfl⟩ ?_
        refine wa_iconst ?_
        refine wa_cv 237 rfl (wy_pr rfl) wt_237 (M2 := fun _ => False) rfl at_M_must ⟨_, rfl⟩ rfl rfl ⟨trivial, (Or.inr ⟨wy_pr rfl, fun q => q⟩), trivial⟩ trivial (fun _ _ q => False.elim q) (must_ok (S := Sq117) (g := 0) (n := 2) (by omega) ⟨by omega, by omega⟩) (fun oq125 Sq125 hp126 q125 => ?_)
        rcases q125 with ⟨hg124, rfl, rfl⟩ | ⟨hg124, rfl, rfl⟩
        · skip
          exact absurd hg124 (by decide)
        · skip
          have ho := (show o = .inl (2 + 16 * (tp T n 0 i104)) from (by rw [if_pos (by omega)] at hd1; exact hd1))
          subst ho
          exact ⟨rfl, ⟨rfl, (rFu_mk hSq117 ipSq117)⟩⟩
      · skip
        refine wa_iconst ?_
        refine wa_goto ⟨_, rfl⟩ ?_
        refine wa_iconst ?_
        refine wa_cv 237 rfl (wy_pr rfl) wt_237 (M2 := fun _ => False) rfl at_M_must ⟨_, rfl⟩ rfl rfl ⟨trivial, (Or.inr ⟨wy_pr rfl, fun q => q⟩), trivial⟩ trivial (fun _ _ q => False.elim q) (must_ok (S := Sq117) (g := 1) (n := 2) (by omega) ⟨by omega, by omega⟩) (fun oq128 Sq128 hp129 q128 => ?_)
        rcases q128 with ⟨hg127, rfl, rfl⟩ | ⟨hg127, rfl, rfl⟩
        · skip
          show wJ _ _ _ _ _ _ _ _ _ _
          refine wa_aload_n (n := 0) rfl ?_
          refine wa_cv 237 rfl (wy_pr rfl) wt_237 (M2 := fun _ => False) rfl at_M_deeper ⟨_, rfl⟩ rfl rfl ⟨trivial, (Or.inr ⟨wy_pr rfl, fun q => q⟩), trivial⟩ trivial (fun _ _ q => False.elim q) (dew (S := Sq117) hSq117 ipSq117 ⟨by omega, by omega⟩) (fun oq132 Sq132 hp133 q132 => ?_)
          rcases q132 with ⟨rfl, hd5130, rfl⟩ | ⟨rfl, hd5130, hf131⟩
          · skip
            show wJ _ _ _ _ _ _ _ _ _ _
            rw [if_neg (by omega), if_neg (by omega)] at hd1
            rcases e113 with e0 | ⟨hr1, J1, x1, hI1, hm1, ⟨ht1, hx1, hx9⟩ | ⟨ht1, hx1⟩ | ⟨ht1, hx1⟩⟩
            · exfalso; omega
            · subst ht1
              subst hx1
              subst hI1
              have hlJ : (J1 ++ [((3, Sq117 237 60, 0, u) : pz_I)]).length = J1.length + 1 := List.length_append
              rw [List.dropLast_concat, gl_x] at hd1
              rw [if_pos rfl] at hd1
              refine wa_iconst ?_
              refine wa_istore_n (n := 2) rfl ?_
              refine wa_iload_n (n := 1) rfl ?_
              refine wa_iconst ?_
              refine wa_icmpeq (w_rg0 (by omega) (by omega)) (w_rg0 (by omega) (by omega)) ⟨_, rfl⟩ (fun c134 => ?_) (fun c134 => ?_)
              · skip
                exact absurd c134 (by omega)
              · skip
                refine wa_iload_n (n := 1) rfl ?_
                refine wa_iconst ?_
                refine wa_icmpne (w_rg0 (by omega) (by omega)) (w_rg0 (by omega) (by omega)) ⟨_, rfl⟩ (fun c135 => ?_) (fun c135 => ?_)
                · skip
                  exact absurd c135 (by omega)
                · skip
                  refine wa_aload_n (n := 0) rfl ?_
                  refine wb_gfi 237 rfl (wy_pr rfl) wt_237 wf_15_60 (v := (Sq117 237 60)) (w_up_at (by decide)) (fun r136 => ?_)
                  refine wa_goto ⟨_, rfl⟩ ?_
                  refine wa_istore_n (n := 2) rfl ?_
                  refine wa_fall ⟨_, rfl⟩ ?_
                  refine wa_iload_n (n := 1) rfl ?_
                  refine wa_iconst ?_
                  refine wa_icmpeq (w_rg0 (by omega) (by omega)) (w_rg0 (by omega) (by omega)) ⟨_, rfl⟩ (fun c137 => ?_) (fun c137 => ?_)
                  · skip
                    refine wa_aload_n (n := 0) rfl ?_
                    refine wb_gf5 237 rfl (wy_pr rfl) wt_237 wf_15_28 (v := (nP (u - f0).toNat : Int)) ((w_up_at (by decide)).trans ((rQ_pp hSq117).2.2.1)) (fun r138 => ?_)
                    refine wa_cv (nP (u - f0).toNat) rfl ((w_up_pr (by omega)).mpr (rQ_pp hSq117).1) (wt_P0 (by have := (rQ_pp h).2.1; omega)) (M2 := fun _ => False) rfl at_MP_drop ⟨_, rfl⟩ rfl rfl ⟨trivial, trivial, (Or.inr ⟨wy_pr rfl, fun q => q⟩), trivial⟩ trivial (fun _ _ q => False.elim q) (drw (S := (w_up Sq117 237 29 (dp + 1))) (S1 := (w_up Sq117 237 29 (dp + 1))) (rQ_dp (x := (dp + 1)) hSq117) (by omega) rfl (by show (3 : Int) ≠ 20; decide) (Or.inl ⟨by show (3 : Int) ≠ 27; decide, rfl⟩)) (fun oq141 Sq141 hp142 q141 => ?_)
                    rcases q141 with ⟨rfl, hz139, hy140⟩
                    show wJ _ _ _ _ _ _ _ _ _ _
                    refine wa_aload_n (n := 0) rfl ?_
                    refine wa_dup (by decide) ?_
                    refine wb_gfi 237 rfl (wy_pr rfl) wt_237 wf_15_59 (v := ((J1 ++ [(3, Sq117 237 60, 0, u)]).length : Int)) (((hy140 59).trans ((w_up_at (by decide)).trans ((rQ_pp hSq117).2.2.2.1)))) (fun r143 => ?_)
                    refine wa_iconst ?_
                    refine wa_isub ?_
                    refine wb_pfi 237 rfl (wy_pr rfl) wt_237 wf_15_59 (n := 59) rfl ⟨(by omega), (by omega)⟩ ?_
                    refine wa_aload_n (n := 0) rfl ?_
                    refine wa_cv 237 rfl (wy_pr rfl) wt_237 (M2 := fun _ => False) rfl at_M_next ⟨_, rfl⟩ rfl rfl ⟨trivial, trivial, (Or.inr ⟨wy_pr rfl, fun q => q⟩), trivial⟩ trivial (fun _ _ q => False.elim q) (nxr (S := (w_up Sq141 237 59 (((J1 ++ [(3, Sq117 237 60, 0, u)]).length : Int) - 1))) hz139 ⟨by omega, by omega, by omega, by omega, by omega⟩) (fun oq146 Sq146 hp147 q146 => ?_)
                    rcases q146 with ⟨rfl, hz144, hl145⟩
                    show wJ _ _ _ _ _ _ _ _ _ _
                    have hSq146 : rQ T n N X f0 b0 b1 S0 u (dp + 1) (i104 + 1) J1 F106 (pA F106) Sq146 := hz144
                    have ipSq146 : (((i104 + 1) : Nat) : Int) ≤ tp T n 0 (i104 + 1) := pI_nx (N := N) (X := X) ipSq117 (rQ_n (rQ_dp (x := (dp + 1)) hSq117)) ⟨by omega, by omega⟩
                    have krSq146 := kq_rg T n N X (i104 + 1)
                    have nnSq146 := rQ_n hSq146
                    refine wa_aload_n (n := 0) rfl ?_
                    rcases hd1 with ⟨v148, hs149, ho150⟩ | ⟨i151, I152, F153, t154, hs149, hd2⟩
                    · refine wa_cv 237 rfl (wy_pr rfl) wt_237 (M2 := fun _ => False) rfl at_M_value ⟨_, rfl⟩ rfl rfl ⟨trivial, trivial, (Or.inr ⟨wy_pr rfl, fun q => q⟩), trivial⟩ trivial (fun _ _ q => False.elim q) (r4 hs149 ⟨⟨by omega, by omega⟩, by omega, ipSq146⟩ _ _ _ (by omega) hSq146) (fun oq162 Sq162 hp163 q162 => ?_)
                      rcases q162 with ⟨rfl, hf161⟩
                      subst ho150
                      exact ⟨rfl, ⟨rfl, hf161⟩⟩
                    refine wa_cv 237 rfl (wy_pr rfl) wt_237 (M2 := fun _ => False) rfl at_M_value ⟨_, rfl⟩ rfl rfl ⟨trivial, trivial, (Or.inr ⟨wy_pr rfl, fun q => q⟩), trivial⟩ trivial (fun _ _ q => False.elim q) (r4 hs149 ⟨⟨by omega, by omega⟩, by omega, ipSq146⟩ _ _ _ (by omega) hSq146) (fun oq164 Sq164 hp165 q164 => ?_)
                    rcases q164 with ⟨rfl, hz155, ⟨p156, p157, p158, p159⟩, e160⟩
                    show wJ _ _ _ _ _ _ _ _ _ _
                    have hSq164 : rQ T n N X f0 b0 b1 S0 u (dp + 1) i151 I152 F153 (pA F153) Sq164 := hz155
                    have ipSq164 : ((i151 : Nat) : Int) ≤ tp T n 0 i151 := p158
                    have krSq164 := kq_rg T n N X i151
                    have nnSq164 := rQ_n hSq164
                    have lnSq164 := px_len p159
                    refine wa_aload_n (n := 0) rfl ?_
                    refine wa_dup (by decide) ?_
                    refine wb_gfi 237 rfl (wy_pr rfl) wt_237 wf_15_29 (v := (dp + 1)) ((rQ_29 hSq164)) (fun r166 => ?_)
                    refine wa_iconst ?_
                    refine wa_isub ?_
                    refine wb_pfi 237 rfl (wy_pr rfl) wt_237 wf_15_29 (n := 29) rfl ⟨(by omega), (by omega)⟩ ?_
                    refine wa_iload_n (n := 1) rfl ?_
                    refine wa_iconst ?_
                    refine wa_icmpne (w_rg0 (by omega) (by omega)) (w_rg0 (by omega) (by omega)) ⟨_, rfl⟩ (fun c167 => ?_) (fun c167 => ?_)
                    · skip
                      exact absurd c167 (by omega)
                    · skip
                      refine wa_aload_n (n := 0) rfl ?_
                      refine wa_bipush (w_rg2 (by omega) (by omega)) ?_
                      refine wa_iload_n (n := 2) rfl ?_
                      refine wa_iconst ?_
                      refine wa_cv 237 rfl (wy_pr rfl) wt_237 (M2 := fun _ => False) rfl at_M_emits ⟨_, rfl⟩ rfl rfl ⟨trivial, trivial, (Or.inr ⟨wy_pr rfl, fun q => q⟩), trivial⟩ trivial (fun _ _ q => False.elim q) (emw (S := (w_up Sq164 237 29 ((dp + 1) - 1))) (x := (4, (Sq117 237 60), 0, u)) (rQ_dp (x := ((dp + 1) - 1)) hSq164) (by omega) rfl (by show (4 : Int) ≠ 27; decide) rfl ⟨by omega, by omega⟩ ⟨by omega, by omega⟩ ⟨by omega, by omega⟩) (fun oq171 Sq171 hp172 q171 => ?_)
                      rcases q171 with ⟨rfl, hz168, l61169, l60170⟩
                      show wJ _ _ _ _ _ _ _ _ _ _
                      have hSq171 : rQ T n N X f0 b0 b1 S0 u ((dp + 1) - 1) i151 (I152 ++ [(4, (Sq117 237 60), 0, u)]) F153 (pA F153) Sq171 := hz168
                      have krSq171 := kq_rg T n N X i151
                      have nnSq171 := rQ_n hSq171
                      have hlSq171 : (I152 ++ [(4, (Sq117 237 60), 0, u)]).length = I152.length + 1 := List.length_append
                      refine wa_goto ⟨_, rfl⟩ ?_
                      refine wa_return rfl ?_
                      have ho9 : o = .inr (i151, (I152 ++ [(4, (Sq117 237 60), 0, u)]), F153, 0) := hd2
                      subst ho9
                      exact ⟨rfl, (by have z := hSq171; rw [show dp + 1 - 1 = dp by omega] at z; exact z), ⟨by omega, by omega, ipSq164, (px_tr (px_tr (px_dr (px_tr px_rfl p112) hm1) p159) (px_ap _ _))⟩, trivial⟩
                  · skip
                    exact absurd c137 (by omega)
            · subst ht1
              subst hx1
              subst hI1
              have hlJ : (J1 ++ [((27, 0, Sq117 237 61, u) : pz_I)]).length = J1.length + 1 := List.length_append
              rw [List.dropLast_concat, gl_x] at hd1
              rw [if_neg (by omega), if_pos rfl] at hd1
              refine wa_iconst ?_
              refine wa_istore_n (n := 2) rfl ?_
              refine wa_iload_n (n := 1) rfl ?_
              refine wa_iconst ?_
              refine wa_icmpeq (w_rg0 (by omega) (by omega)) (w_rg0 (by omega) (by omega)) ⟨_, rfl⟩ (fun c173 => ?_) (fun c173 => ?_)
              · skip
                exact absurd c173 (by omega)
              · skip
                refine wa_iload_n (n := 1) rfl ?_
                refine wa_iconst ?_
                refine wa_icmpne (w_rg0 (by omega) (by omega)) (w_rg0 (by omega) (by omega)) ⟨_, rfl⟩ (fun c174 => ?_) (fun c174 => ?_)
                · skip
                  refine wa_aload_n (n := 0) rfl ?_
                  refine wb_gfi 237 rfl (wy_pr rfl) wt_237 wf_15_61 (v := (Sq117 237 61)) (w_up_at (by decide)) (fun r175 => ?_)
                  refine wa_fall ⟨_, rfl⟩ ?_
                  refine wa_istore_n (n := 2) rfl ?_
                  refine wa_fall ⟨_, rfl⟩ ?_
                  refine wa_iload_n (n := 1) rfl ?_
                  refine wa_iconst ?_
                  refine wa_icmpeq (w_rg0 (by omega) (by omega)) (w_rg0 (by omega) (by omega)) ⟨_, rfl⟩ (fun c176 => ?_) (fun c176 => ?_)
                  · skip
                    exact absurd c176 (by omega)
                  · skip
                    refine wa_aload_n (n := 0) rfl ?_
                    refine wa_cv 237 rfl (wy_pr rfl) wt_237 (M2 := fun _ => False) rfl at_M_dropsSite ⟨_, rfl⟩ rfl rfl ⟨trivial, trivial, (Or.inr ⟨wy_pr rfl, fun q => q⟩), trivial⟩ trivial (fun _ _ q => False.elim q) (dsw (S := (w_up Sq117 237 29 (dp + 1))) (rQ_dp (x := (dp + 1)) hSq117)) (fun oq177 Sq177 hp178 q177 => ?_)
                    rcases q177 with ⟨rfl, rfl⟩
                    show wJ _ _ _ _ _ _ _ _ _ _
                    refine wa_fall ⟨_, rfl⟩ ?_
                    refine wa_aload_n (n := 0) rfl ?_
                    refine wb_gf5 237 rfl (wy_pr rfl) wt_237 wf_15_28 (v := (nP (u - f0).toNat : Int)) ((w_up_slot (by decide)).trans ((w_up_slot (by decide)).trans ((w_up_slot (by decide)).trans ((w_up_at (by decide)).trans ((rQ_pp hSq117).2.2.1))))) (fun r179 => ?_)
                    refine wa_cv (nP (u - f0).toNat) rfl ((w_up_pr (by omega)).mpr ((w_up_pr (by omega)).mpr ((w_up_pr (by omega)).mpr ((w_up_pr (by omega)).mpr (rQ_pp hSq117).1)))) (wt_P0 (by have := (rQ_pp h).2.1; omega)) (M2 := fun _ => False) rfl at_MP_drop ⟨_, rfl⟩ rfl rfl ⟨trivial, trivial, (Or.inr ⟨wy_pr rfl, fun q => q⟩), trivial⟩ trivial (fun _ _ q => False.elim q) (drw (S := (w_up Sq117 237 29 (dp + 1))) (S1 := (w_up (w_up (w_up (w_up Sq117 237 29 (dp + 1)) 287 2 (pz_s (J1 ++ [(27, 0, Sq117 237 61, u)]) - 1)) 289 2 (pz_s (J1 ++ [(27, 0, Sq117 237 61, u)]) - 1)) 291 2 (pz_s (J1 ++ [(27, 0, Sq117 237 61, u)]) - 1))) (rQ_dp (x := (dp + 1)) hSq117) (by omega) rfl (by show (27 : Int) ≠ 20; decide) (Or.inr ⟨rfl, rfl⟩)) (fun oq182 Sq182 hp183 q182 => ?_)
                    rcases q182 with ⟨rfl, hz180, hy181⟩
                    show wJ _ _ _ _ _ _ _ _ _ _
                    refine wa_aload_n (n := 0) rfl ?_
                    refine wa_dup (by decide) ?_
                    refine wb_gfi 237 rfl (wy_pr rfl) wt_237 wf_15_59 (v := ((J1 ++ [(27, 0, Sq117 237 61, u)]).length : Int)) (((hy181 59).trans ((w_up_at (by decide)).trans ((rQ_pp hSq117).2.2.2.1)))) (fun r184 => ?_)
                    refine wa_iconst ?_
                    refine wa_isub ?_
                    refine wb_pfi 237 rfl (wy_pr rfl) wt_237 wf_15_59 (n := 59) rfl ⟨(by omega), (by omega)⟩ ?_
                    refine wa_aload_n (n := 0) rfl ?_
                    refine wa_cv 237 rfl (wy_pr rfl) wt_237 (M2 := fun _ => False) rfl at_M_next ⟨_, rfl⟩ rfl rfl ⟨trivial, trivial, (Or.inr ⟨wy_pr rfl, fun q => q⟩), trivial⟩ trivial (fun _ _ q => False.elim q) (nxr (S := (w_up Sq182 237 59 (((J1 ++ [(27, 0, Sq117 237 61, u)]).length : Int) - 1))) hz180 ⟨by omega, by omega, by omega, by omega, by omega⟩) (fun oq187 Sq187 hp188 q187 => ?_)
                    rcases q187 with ⟨rfl, hz185, hl186⟩
                    show wJ _ _ _ _ _ _ _ _ _ _
                    have hSq187 : rQ T n N X f0 b0 b1 S0 u (dp + 1) (i104 + 1) J1 F106 (pA F106) Sq187 := hz185
                    have ipSq187 : (((i104 + 1) : Nat) : Int) ≤ tp T n 0 (i104 + 1) := pI_nx (N := N) (X := X) ipSq117 (rQ_n (rQ_dp (x := (dp + 1)) hSq117)) ⟨by omega, by omega⟩
                    have krSq187 := kq_rg T n N X (i104 + 1)
                    have nnSq187 := rQ_n hSq187
                    refine wa_aload_n (n := 0) rfl ?_
                    rcases hd1 with ⟨v189, hs190, ho191⟩ | ⟨i192, I193, F194, t195, hs190, hd3⟩
                    · refine wa_cv 237 rfl (wy_pr rfl) wt_237 (M2 := fun _ => False) rfl at_M_value ⟨_, rfl⟩ rfl rfl ⟨trivial, trivial, (Or.inr ⟨wy_pr rfl, fun q => q⟩), trivial⟩ trivial (fun _ _ q => False.elim q) (r4 hs190 ⟨⟨by omega, by omega⟩, by omega, ipSq187⟩ _ _ _ (by omega) hSq187) (fun oq203 Sq203 hp204 q203 => ?_)
                      rcases q203 with ⟨rfl, hf202⟩
                      subst ho191
                      exact ⟨rfl, ⟨rfl, hf202⟩⟩
                    refine wa_cv 237 rfl (wy_pr rfl) wt_237 (M2 := fun _ => False) rfl at_M_value ⟨_, rfl⟩ rfl rfl ⟨trivial, trivial, (Or.inr ⟨wy_pr rfl, fun q => q⟩), trivial⟩ trivial (fun _ _ q => False.elim q) (r4 hs190 ⟨⟨by omega, by omega⟩, by omega, ipSq187⟩ _ _ _ (by omega) hSq187) (fun oq205 Sq205 hp206 q205 => ?_)
                    rcases q205 with ⟨rfl, hz196, ⟨p197, p198, p199, p200⟩, e201⟩
                    show wJ _ _ _ _ _ _ _ _ _ _
                    have hSq205 : rQ T n N X f0 b0 b1 S0 u (dp + 1) i192 I193 F194 (pA F194) Sq205 := hz196
                    have ipSq205 : ((i192 : Nat) : Int) ≤ tp T n 0 i192 := p199
                    have krSq205 := kq_rg T n N X i192
                    have nnSq205 := rQ_n hSq205
                    have lnSq205 := px_len p200
                    refine wa_aload_n (n := 0) rfl ?_
                    refine wa_dup (by decide) ?_
                    refine wb_gfi 237 rfl (wy_pr rfl) wt_237 wf_15_29 (v := (dp + 1)) ((rQ_29 hSq205)) (fun r207 => ?_)
                    refine wa_iconst ?_
                    refine wa_isub ?_
                    refine wb_pfi 237 rfl (wy_pr rfl) wt_237 wf_15_29 (n := 29) rfl ⟨(by omega), (by omega)⟩ ?_
                    refine wa_iload_n (n := 1) rfl ?_
                    refine wa_iconst ?_
                    refine wa_icmpne (w_rg0 (by omega) (by omega)) (w_rg0 (by omega) (by omega)) ⟨_, rfl⟩ (fun c208 => ?_) (fun c208 => ?_)
                    · skip
                      refine wa_aload_n (n := 0) rfl ?_
                      refine wa_iload_n (n := 1) rfl ?_
                      refine wa_iconst ?_
                      refine wa_icmpne (w_rg0 (by omega) (by omega)) (w_rg0 (by omega) (by omega)) ⟨_, rfl⟩ (fun c209 => ?_) (fun c209 => ?_)
                      · skip
                        exact absurd c209 (by omega)
                      · skip
                        refine wa_iconst ?_
                        refine wa_goto ⟨_, rfl⟩ ?_
                        refine wa_iload_n (n := 2) rfl ?_
                        refine wa_iconst ?_
                        refine wa_cv 237 rfl (wy_pr rfl) wt_237 (M2 := fun _ => False) rfl at_M_newSite ⟨_, rfl⟩ rfl rfl ⟨trivial, trivial, (Or.inr ⟨wy_pr rfl, fun q => q⟩), trivial⟩ trivial (fun _ _ q => False.elim q) (nsw (S := (w_up Sq205 237 29 ((dp + 1) - 1))) (x := (27, 1, (Sq117 237 61), u)) (rQ_dp (x := ((dp + 1) - 1)) hSq205) (by omega) ⟨by omega, by omega⟩ ⟨by omega, by omega⟩ ⟨by omega, by omega⟩ rfl) (fun oq213 Sq213 hp214 q213 => ?_)
                        rcases q213 with ⟨rfl, hz210, l61211, l60212⟩
                        show wJ _ _ _ _ _ _ _ _ _ _
                        have hSq213 : rQ T n N X f0 b0 b1 S0 u ((dp + 1) - 1) i192 (I193 ++ [(27, 1, (Sq117 237 61), u)]) F194 (pA F194) Sq213 := hz210
                        have krSq213 := kq_rg T n N X i192
                        have nnSq213 := rQ_n hSq213
                        have hlSq213 : (I193 ++ [(27, 1, (Sq117 237 61), u)]).length = I193.length + 1 := List.length_append
                        refine wa_fall ⟨_, rfl⟩ ?_
                        refine wa_return rfl ?_
                        have ho9 : o = .inr (i192, (I193 ++ [(27, 1, (Sq117 237 61), u)]), F194, 0) := hd3
                        subst ho9
                        exact ⟨rfl, (by have z := hSq213; rw [show dp + 1 - 1 = dp by omega] at z; exact z), ⟨by omega, by omega, ipSq205, (px_tr (px_tr (px_dr (px_tr px_rfl p112) hm1) p200) (px_ap _ _))⟩, trivial⟩
                    · skip
                      exact absurd c208 (by omega)
                · skip
                  exact absurd c174 (by omega)
            · subst ht1
              subst hx1
              subst hI1
              have hlJ : (J1 ++ [((27, 2, -1, u) : pz_I)]).length = J1.length + 1 := List.length_append
              rw [List.dropLast_concat, gl_x] at hd1
              rw [if_neg (by omega), if_neg (by omega)] at hd1
              refine wa_iconst ?_
              refine wa_istore_n (n := 2) rfl ?_
              refine wa_iload_n (n := 1) rfl ?_
              refine wa_iconst ?_
              refine wa_icmpeq (w_rg0 (by omega) (by omega)) (w_rg0 (by omega) (by omega)) ⟨_, rfl⟩ (fun c215 => ?_) (fun c215 => ?_)
              · skip
                refine wa_iload_n (n := 1) rfl ?_
                refine wa_iconst ?_
                refine wa_icmpeq (w_rg0 (by omega) (by omega)) (w_rg0 (by omega) (by omega)) ⟨_, rfl⟩ (fun c216 => ?_) (fun c216 => ?_)
                · skip
                  exact absurd c216 (by omega)
                · skip
                  refine wa_aload_n (n := 0) rfl ?_
                  refine wa_cv 237 rfl (wy_pr rfl) wt_237 (M2 := fun _ => False) rfl at_M_dropsSite ⟨_, rfl⟩ rfl rfl ⟨trivial, trivial, (Or.inr ⟨wy_pr rfl, fun q => q⟩), trivial⟩ trivial (fun _ _ q => False.elim q) (dsw (S := (w_up Sq117 237 29 (dp + 1))) (rQ_dp (x := (dp + 1)) hSq117)) (fun oq217 Sq217 hp218 q217 => ?_)
                  rcases q217 with ⟨rfl, rfl⟩
                  show wJ _ _ _ _ _ _ _ _ _ _
                  refine wa_fall ⟨_, rfl⟩ ?_
                  refine wa_aload_n (n := 0) rfl ?_
                  refine wb_gf5 237 rfl (wy_pr rfl) wt_237 wf_15_28 (v := (nP (u - f0).toNat : Int)) ((w_up_slot (by decide)).trans ((w_up_slot (by decide)).trans ((w_up_slot (by decide)).trans ((w_up_at (by decide)).trans ((rQ_pp hSq117).2.2.1))))) (fun r219 => ?_)
                  refine wa_cv (nP (u - f0).toNat) rfl ((w_up_pr (by omega)).mpr ((w_up_pr (by omega)).mpr ((w_up_pr (by omega)).mpr ((w_up_pr (by omega)).mpr (rQ_pp hSq117).1)))) (wt_P0 (by have := (rQ_pp h).2.1; omega)) (M2 := fun _ => False) rfl at_MP_drop ⟨_, rfl⟩ rfl rfl ⟨trivial, trivial, (Or.inr ⟨wy_pr rfl, fun q => q⟩), trivial⟩ trivial (fun _ _ q => False.elim q) (drw (S := (w_up Sq117 237 29 (dp + 1))) (S1 := (w_up (w_up (w_up (w_up Sq117 237 29 (dp + 1)) 287 2 (pz_s (J1 ++ [(27, 2, -1, u)]) - 1)) 289 2 (pz_s (J1 ++ [(27, 2, -1, u)]) - 1)) 291 2 (pz_s (J1 ++ [(27, 2, -1, u)]) - 1))) (rQ_dp (x := (dp + 1)) hSq117) (by omega) rfl (by show (27 : Int) ≠ 20; decide) (Or.inr ⟨rfl, rfl⟩)) (fun oq222 Sq222 hp223 q222 => ?_)
                  rcases q222 with ⟨rfl, hz220, hy221⟩
                  show wJ _ _ _ _ _ _ _ _ _ _
                  refine wa_aload_n (n := 0) rfl ?_
                  refine wa_dup (by decide) ?_
                  refine wb_gfi 237 rfl (wy_pr rfl) wt_237 wf_15_59 (v := ((J1 ++ [(27, 2, -1, u)]).length : Int)) (((hy221 59).trans ((w_up_at (by decide)).trans ((rQ_pp hSq117).2.2.2.1)))) (fun r224 => ?_)
                  refine wa_iconst ?_
                  refine wa_isub ?_
                  refine wb_pfi 237 rfl (wy_pr rfl) wt_237 wf_15_59 (n := 59) rfl ⟨(by omega), (by omega)⟩ ?_
                  refine wa_aload_n (n := 0) rfl ?_
                  refine wa_cv 237 rfl (wy_pr rfl) wt_237 (M2 := fun _ => False) rfl at_M_next ⟨_, rfl⟩ rfl rfl ⟨trivial, trivial, (Or.inr ⟨wy_pr rfl, fun q => q⟩), trivial⟩ trivial (fun _ _ q => False.elim q) (nxr (S := (w_up Sq222 237 59 (((J1 ++ [(27, 2, -1, u)]).length : Int) - 1))) hz220 ⟨by omega, by omega, by omega, by omega, by omega⟩) (fun oq227 Sq227 hp228 q227 => ?_)
                  rcases q227 with ⟨rfl, hz225, hl226⟩
                  show wJ _ _ _ _ _ _ _ _ _ _
                  have hSq227 : rQ T n N X f0 b0 b1 S0 u (dp + 1) (i104 + 1) J1 F106 (pA F106) Sq227 := hz225
                  have ipSq227 : (((i104 + 1) : Nat) : Int) ≤ tp T n 0 (i104 + 1) := pI_nx (N := N) (X := X) ipSq117 (rQ_n (rQ_dp (x := (dp + 1)) hSq117)) ⟨by omega, by omega⟩
                  have krSq227 := kq_rg T n N X (i104 + 1)
                  have nnSq227 := rQ_n hSq227
                  refine wa_aload_n (n := 0) rfl ?_
                  rcases hd1 with ⟨v229, hs230, ho231⟩ | ⟨i232, I233, F234, t235, hs230, hd4⟩
                  · refine wa_cv 237 rfl (wy_pr rfl) wt_237 (M2 := fun _ => False) rfl at_M_value ⟨_, rfl⟩ rfl rfl ⟨trivial, trivial, (Or.inr ⟨wy_pr rfl, fun q => q⟩), trivial⟩ trivial (fun _ _ q => False.elim q) (r4 hs230 ⟨⟨by omega, by omega⟩, by omega, ipSq227⟩ _ _ _ (by omega) hSq227) (fun oq243 Sq243 hp244 q243 => ?_)
                    rcases q243 with ⟨rfl, hf242⟩
                    subst ho231
                    exact ⟨rfl, ⟨rfl, hf242⟩⟩
                  refine wa_cv 237 rfl (wy_pr rfl) wt_237 (M2 := fun _ => False) rfl at_M_value ⟨_, rfl⟩ rfl rfl ⟨trivial, trivial, (Or.inr ⟨wy_pr rfl, fun q => q⟩), trivial⟩ trivial (fun _ _ q => False.elim q) (r4 hs230 ⟨⟨by omega, by omega⟩, by omega, ipSq227⟩ _ _ _ (by omega) hSq227) (fun oq245 Sq245 hp246 q245 => ?_)
                  rcases q245 with ⟨rfl, hz236, ⟨p237, p238, p239, p240⟩, e241⟩
                  show wJ _ _ _ _ _ _ _ _ _ _
                  have hSq245 : rQ T n N X f0 b0 b1 S0 u (dp + 1) i232 I233 F234 (pA F234) Sq245 := hz236
                  have ipSq245 : ((i232 : Nat) : Int) ≤ tp T n 0 i232 := p239
                  have krSq245 := kq_rg T n N X i232
                  have nnSq245 := rQ_n hSq245
                  have lnSq245 := px_len p240
                  refine wa_aload_n (n := 0) rfl ?_
                  refine wa_dup (by decide) ?_
                  refine wb_gfi 237 rfl (wy_pr rfl) wt_237 wf_15_29 (v := (dp + 1)) ((rQ_29 hSq245)) (fun r247 => ?_)
                  refine wa_iconst ?_
                  refine wa_isub ?_
                  refine wb_pfi 237 rfl (wy_pr rfl) wt_237 wf_15_29 (n := 29) rfl ⟨(by omega), (by omega)⟩ ?_
                  refine wa_iload_n (n := 1) rfl ?_
                  refine wa_iconst ?_
                  refine wa_icmpne (w_rg0 (by omega) (by omega)) (w_rg0 (by omega) (by omega)) ⟨_, rfl⟩ (fun c248 => ?_) (fun c248 => ?_)
                  · skip
                    refine wa_aload_n (n := 0) rfl ?_
                    refine wa_iload_n (n := 1) rfl ?_
                    refine wa_iconst ?_
                    refine wa_icmpne (w_rg0 (by omega) (by omega)) (w_rg0 (by omega) (by omega)) ⟨_, rfl⟩ (fun c249 => ?_) (fun c249 => ?_)
                    · skip
                      refine wa_iconst ?_
                      refine wa_fall ⟨_, rfl⟩ ?_
                      refine wa_iload_n (n := 2) rfl ?_
                      refine wa_iconst ?_
                      refine wa_cv 237 rfl (wy_pr rfl) wt_237 (M2 := fun _ => False) rfl at_M_newSite ⟨_, rfl⟩ rfl rfl ⟨trivial, trivial, (Or.inr ⟨wy_pr rfl, fun q => q⟩), trivial⟩ trivial (fun _ _ q => False.elim q) (nsw (S := (w_up Sq245 237 29 ((dp + 1) - 1))) (x := (27, 3, (-1), u)) (rQ_dp (x := ((dp + 1) - 1)) hSq245) (by omega) ⟨by omega, by omega⟩ ⟨by omega, by omega⟩ ⟨by omega, by omega⟩ rfl) (fun oq253 Sq253 hp254 q253 => ?_)
                      rcases q253 with ⟨rfl, hz250, l61251, l60252⟩
                      show wJ _ _ _ _ _ _ _ _ _ _
                      have hSq253 : rQ T n N X f0 b0 b1 S0 u ((dp + 1) - 1) i232 (I233 ++ [(27, 3, (-1), u)]) F234 (pA F234) Sq253 := hz250
                      have krSq253 := kq_rg T n N X i232
                      have nnSq253 := rQ_n hSq253
                      have hlSq253 : (I233 ++ [(27, 3, (-1), u)]).length = I233.length + 1 := List.length_append
                      refine wa_fall ⟨_, rfl⟩ ?_
                      refine wa_return rfl ?_
                      have ho9 : o = .inr (i232, (I233 ++ [(27, 3, (-1), u)]), F234, 0) := hd4
                      subst ho9
                      exact ⟨rfl, (by have z := hSq253; rw [show dp + 1 - 1 = dp by omega] at z; exact z), ⟨by omega, by omega, ipSq245, (px_tr (px_tr (px_dr (px_tr px_rfl p112) hm1) p240) (px_ap _ _))⟩, trivial⟩
                    · skip
                      exact absurd c249 (by omega)
                  · skip
                    exact absurd c248 (by omega)
              · skip
                exact absurd c215 (by omega)
          · skip
            have ho := (show o = .inl (4 + 16 * (tp T n 0 i104)) from (by rw [if_neg (by omega), if_pos hd5130] at hd1; exact hd1))
            subst ho
            exact ⟨rfl, ⟨rfl, hf131⟩⟩
        · skip
          exact absurd hg127 (by decide)
    · skip
      exact absurd c122 (by omega)
  · skip
    show wJ _ _ _ _ _ _ _ _ _ _
    rw [if_pos ks119] at hd1
    refine wa_ifne (w_rg0 (by omega) (by omega)) ⟨_, rfl⟩ (fun c255 => ?_) (fun c255 => ?_)
    · skip
      exact absurd c255 (by omega)
    · skip
      refine wa_return rfl ?_
      subst hd1
      exact ⟨rfl, hSq117, ⟨by omega, by omega, ipSq117, (px_tr px_rfl p112)⟩, trivial⟩
end Wci
