/-! PART c2: the reference's here, set, takesName, takesText. -/
section Wc2
variable {xs : List (Nat × List Int32)} {M : Nat → Prop} {d : Nat} {A B C S Z S0 : wS} {Q : wO → wS → Prop} {T : Int → Int} {n f0 u dp b0 b1 : Int} {N X : List (List Int)} {c i k pm : Nat} {I : List pz_I} {F : List pz_F} {PA : Nat → Int}
variable {v : Int}
theorem rQ_pp (h : rQ T n N X f0 b0 b1 S0 u dp i I F PA S) : w_pr wY0 S (nP (u - f0).toNat) ∧ (f0 ≤ u ∧ (u - f0).toNat < 400) ∧ S 237 28 = (nP (u - f0).toNat : Int) ∧ S 237 59 = (I.length : Int) ∧ S 237 27 = u - f0 ∧ S 237 34 = f0 ∧ S 237 26 = (F.length : Int) := by
  obtain ⟨k, la, pm, ⟨hu, hk4, hkF⟩, ⟨l1, l2⟩, hp, ⟨h28, h59⟩, hc, hB, hR⟩ := rQ_pt h
  have hk : (u - f0).toNat = k := by omega
  rw [hk]
  exact ⟨hp.2.1.1, ⟨by omega, hk4⟩, h28, h59, hc.1.1, hc.2.2.2.2.1, hc.2.2.1⟩
theorem hew (h : rQ T n N X f0 b0 b1 S0 u dp i I F PA S) : wJ (pe_GA xs) wY0 M d t_MP_here ((pe_at t_MP_here.bl 0).getD (0, [])).2 [(0, (2, (nP (u - f0).toNat : Int)))] [] S (fun q Z => S = Z ∧ q = .inl (some (0, pz_h I u))) := by
  obtain ⟨k, la, pm, ⟨hu, hk4, hkF⟩, ⟨l1, l2⟩, hp, ⟨h28, h59⟩, hc, hB, hR⟩ := rQ_pt h
  have hk : (u - f0).toNat = k := by omega
  rw [hk]
  refine wJ_mono (he_r (f := k) (by omega) hp) (fun q Z hz => ⟨hz.1, hz.2.trans (congrArg (fun z => Sum.inl (some (0, z))) ?_)⟩)
  rw [List.length_map, hu]
  unfold ru
  omega
/-- an aim is set -/
theorem sew {j : Nat} {z : pz_I} (h : rQ T n N X f0 b0 b1 S0 u dp i I F PA S) (hI : (I.length : Int) ≤ 900000) (hj : j < I.length) (hz : I.getD j (0, 0, 0, 0) = z) (hw : z.2.2.2 = u) (h27 : z.1 ≠ 27 ∧ z.1 ≠ 24) (hv : -2 ≤ v ∧ v ≤ 2147483647) : wJ (pe_GA xs) wY0 M d t_MI_set ((pe_at t_MI_set.bl 0).getD (0, [])).2 [(0, (2, ((nP (u - f0).toNat + 3 : Nat) : Int))), (1, (0, pz_h (I.take j) u)), (2, (0, v))] [] S (fun q Z => q = .inl none ∧ rQ T n N X f0 b0 b1 S0 u dp i (pz_a I j v) F PA Z ∧ ∀ y : Int, Z 237 y = S 237 y) := by
  obtain ⟨k, la, pm, ⟨hu, hk4, hkF⟩, ⟨l1, l2⟩, hp, ⟨h28, h59⟩, hc, hB, hR⟩ := rQ_pt h
  have hk : (u - f0).toNat = k := by omega
  rw [hk]
  have hpr := pz_h_rg (I.take j) u
  have htl : ((I.take j).length : Int) ≤ (I.length : Int) := by rw [List.length_take]; omega
  have hb8 := hp.2.2.2.2.2.1
  have hn4 : nP 400 = 2025600 := rfl
  have hnk : nP k = 2000000 + 64 * k := rfl
  have hwg : wG = 1000000 := rfl
  have hx : pz_h (I.take j) u = (((pz_h (I.take j) u).toNat : Nat) : Int) := by omega
  refine wJ_mono (is_ok (o := nP k + 3) (fam := fa k 1) (most := 20000) (l := la) (hfam_P (r := 1) (by omega) (by decide)) hb8 ⟨by decide, by decide⟩ ⟨by omega, by omega⟩ ⟨by omega, hv.2⟩) (fun q Z hz2 => ?_)
  obtain ⟨q1, q2⟩ := hz2
  rw [hx] at q2
  obtain ⟨i1, i2, i3, i4⟩ := is_I (o := nP k + 3) (fam := fa k 1) (most := 20000) (l := la) (v := v) (k := (pz_h (I.take j) u).toNat) (hfam_P (r := 1) (by omega) (by decide)) hb8
  rw [q2] at i1 i2 i3 i4
  have i2' : ∀ (j : Nat) (y : Int), j ≠ wG → (j < nP k + 3 ∨ nP k + 48 ≤ j ∨ (nP k + 3 < j ∧ j < nP k + 32)) → Z j y = S j y := fun j y j1 j2 => i2 j y j1 (by omega) (fun g hg => by unfold fa; omega)
  have ez : ∀ (j : Nat) (y : Int), j ≠ wG → (j < nP k + 3 ∨ nP k + 64 ≤ j) → Z j y = S j y := fun j y j1 j2 => i2' j y j1 (by omega)
  obtain ⟨a1, ⟨p1, p2, p3⟩, p4, p5, p6, p7, p8⟩ := hp
  obtain ⟨t1, t2⟩ := iI_ag (Z := Z) p6 (fun j y hj => i2' j y (by rcases hj with q | ⟨g, g1, q⟩ <;> first | omega | (unfold fa at q; omega)) (by rcases hj with q | ⟨g, g1, q⟩ <;> first | omega | (unfold fa at q; omega)))
  obtain ⟨s1, s2⟩ := iI_ag (Z := Z) p8 (fun j y hj => i2' j y (by rcases hj with q | ⟨g, g1, q⟩ <;> first | omega | (unfold fa at q; omega)) (by rcases hj with q | ⟨g, g1, q⟩ <;> first | omega | (unfold fa at q; omega)))
  have z0 : ∀ y : Int, Z (nP k) y = S (nP k) y := fun y => ez _ y (by omega) (by omega)
  have z1 : ∀ y : Int, Z (nP k + 1) y = S (nP k + 1) y := fun y => ez _ y (by omega) (by omega)
  have hpO : pO k (aro f0 (F.getD k (-1, 0, [])).1) (PA k) (F.getD k (-1, 0, [])).2.2.reverse ((rl f0 (f0 + (k : Int)) I).map (fun z => z.1)) (la.set (pz_h (I.take j) (f0 + (k : Int))).toNat v) ((rl f0 (f0 + (k : Int)) I).map (fun z => z.2.2)) (ru f0 (f0 + (k : Int)) I) Z := ⟨by rw [z0, z0, z0, z0, z0, z0, z0, z0]; exact a1, ⟨⟨by rw [z0]; exact p1.1, p1.2⟩, ⟨by rw [z1]; exact p2.1, p2.2⟩, (z1 _).trans p3⟩, p4, fun t ht => (z1 _).trans (p5 t ht), t1, by rw [← hu]; exact i1, s1⟩
  have hPt := rPt_a (pa := PA k) (f0 := f0) (F := F) hj hz (hw.trans hu) h27 l1 l2 (by omega) hpO
  have hB2 := hB
  obtain ⟨b1', b2, b3, b4, b5, b7, b8, b9⟩ := hB2
  obtain ⟨k1, k2, k3⟩ := sk_a (v := v) hj hz h27.1
  have eI : ∀ (r : Nat) (j : Nat) (y : Int), r < 3 → (j = 287 + 2 * r ∨ ∃ g : Nat, g ≤ 11 ∧ j = fs r g) → Z j y = S j y := fun r j y hr hj => ez j y (by have := fs_rg hr hj; omega) (by have := fs_rg hr hj; omega)
  obtain ⟨c1, d1⟩ := iI_ag (Z := Z) b7 (fun j y => eI 0 j y (by decide))
  obtain ⟨c2, d2⟩ := iI_ag (Z := Z) b8 (fun j y => eI 1 j y (by decide))
  obtain ⟨c3, d3⟩ := iI_ag (Z := Z) b9 (fun j y => eI 2 j y (by decide))
  have hph : phP k Z = phP k S := by
    unfold phP
    rw [t2, s2]
    show _ + phi (nP k + 3) Z + _ = _ + phi (nP k + 3) S + _
    rw [i4]
  refine ⟨q1, rQ_gen (ir := i) h.1 h.2.1.1 h.2.1.2 h.2.2.1 h.2.2.2.1 hc hB hR hu (pz_a_own (p := fun z => f0 ≤ z ∧ z < f0 + (F.length : Int)) h.2.2.1.2.2.1) (fun q hq => ?_) lo_a (by rw [pz_a_len]; exact hR.2.2) hPt ⟨by rw [k1]; exact c1, by rw [k2]; exact c2, by rw [k3]; exact c3⟩ (fun j y j1 j2 j3 j4 j5 => ez j y j1 (by omega)) (by rw [pz_a_len]; exact (ez 237 59 (by decide) (by omega)).trans h59) ⟨?_, by rw [i3, i3]; omega⟩, fun y => ez 237 y (by decide) (by omega)⟩
  · have e := rl_a (f0 := f0) (u := f0 + (q : Int)) (v := v) hj hz h27
    have hne : ¬ (z.2.2.2 = f0 + (q : Int) ∧ j < 20000) := fun z => by rw [hw, hu] at z; omega
    rw [if_neg hne] at e
    refine ⟨e, ?_⟩
    unfold ru
    rw [e, pz_a_h]
  · rw [i3, hph, d1, d2, d3, pz_a_len]; omega
theorem NL_le (T : Int → Int) (n : Int) (N : List (List Int)) (i : Nat) : (NL T n N i).length ≤ (NL T n N (i + 1)).length := by
  show _ ≤ (Nn T n (tp T n 0 i) (NL T n N i)).length
  unfold Nn
  split
  · unfold adL
    split
    · exact Nat.le_refl _
    · rw [List.length_append]; exact Nat.le_add_right _ _
  · exact Nat.le_refl _
/-- a name is taken -/
theorem rQ_tn (h : rQ T n N X f0 b0 b1 S0 u dp i I F PA S) {c : Int} (hc : c = ((NL T n N i).length : Int)) (g : tn_ag c S Z) (hz : lx_I Z (lx_ne S (tp T n 0 i))) (hN : mN (NL T n N (i + 1)) Z) (hk : kq T n N X i = 5 ∨ kq T n N X i = 6) : rQ T n N X f0 b0 b1 S0 u dp (i + 1) I F PA Z := by
  obtain ⟨h1, ⟨h2, h3⟩, h4, h5, pm, ⟨⟨c1, c2⟩, c3, c4, c5, c6, c7⟩, h7, h8, h9⟩ := h
  have g2 : ∀ (j : Nat) (y : Int), j ≠ 240 → (j < 281 ∨ 282 < j) → (j ≠ 237 ∨ (y ≠ 6 ∧ y ≠ 7 ∧ y ≠ 8 ∧ y ≠ 9 ∧ y ≠ 10 ∧ y ≠ 12 ∧ y ≠ 16)) → Z j y = S j y := fun j y j1 j2 j3 => g j y (Or.inl j1) j3 (Or.inl (by omega)) (Or.inl (by omega))
  have hG : ∀ x : Int, Z wG x = S wG x := fun x => g2 wG x (by decide) (by decide) (Or.inl (by decide))
  have e : ∀ x : Int, 16 < x → Z 237 x = S 237 x := fun x hx => g2 237 x (by decide) (by decide) (Or.inr (by omega))
  obtain ⟨q1, q2⟩ := rB_ag (Z := Z) h7 (fun j x hj => g2 j x (by omega) (by omega) (Or.inl (by omega)))
  have e239 : Z 239 = S 239 := funext fun x => g2 239 x (by decide) (by decide) (Or.inl (by decide))
  have eX : XL T n X (i + 1) = XL T n X i := XL_nx (N := N) (by omega)
  have hne : lx_ne S (tp T n 0 i) = tp T n 0 (i + 1) := by
    show lx_go (S 239) (S 237 4) (lx_en (S 239) (S 237 4) (S 237 5) (tp T n 0 i)) = lx_go T n (lx_en T n 0 (tp T n 0 i))
    rw [h1.1, h1.2.1, h1.2.2.1]
  refine ⟨⟨e239.trans h1.1, (g2 237 4 (by decide) (by decide) (Or.inr (by decide))).trans h1.2.1, (g2 237 5 (by decide) (by decide) (Or.inr (by decide))).trans h1.2.2.1, by rw [← hne]; exact hz⟩, ⟨hN, ?_⟩, rFv_mo h4 (NL_le T n N i), fun j x j1 j2 j3 j4 j5 => (g2 j x j3 (by omega) (by omega)).trans (h5 j x j1 j2 j3 j4 j5), pm, ⟨⟨(e 27 (by decide)).trans c1, (e 28 (by decide)).trans c2⟩, (e 29 (by decide)).trans c3, (e 26 (by decide)).trans c4, (e 25 (by decide)).trans c5, (e 34 (by decide)).trans c6, (e 59 (by decide)).trans c7⟩, q1, ?_, ?_⟩
  · rw [eX]
    have e1 : Z 283 = S 283 := funext fun x => g2 283 x (by decide) (by decide) (Or.inl (by decide))
    have e2 : Z 284 = S 284 := funext fun x => g2 284 x (by decide) (by decide) (Or.inl (by decide))
    have e3 : Z 285 = S 285 := funext fun x => g2 285 x (by decide) (by decide) (Or.inl (by decide))
    unfold mX at h3 ⊢
    rw [e1, e2, e3, e 19 (by decide), e 20 (by decide)]
    exact h3
  · rw [hG, q2]; omega
  · rw [hG, hG]; exact ⟨h9.1, by have := h9.2; omega⟩
theorem tnw (hX : w_X xs) (h : rQ T n N X f0 b0 b1 S0 u dp i I F PA S) (ip : ((i : Nat) : Int) ≤ tp T n 0 i) : wJ (pe_GA xs) wY0 M (d + 8) t_M_takesName ((pe_at t_M_takesName.bl 0).getD (0, [])).2 [(0, (2, 237))] [] S (fun o Z => (o = .inl (some (0, vq T n N X i)) ∧ kq T n N X i = 5 ∧ rQ T n N X f0 b0 b1 S0 u dp (i + 1) I F PA Z ∧ Z 237 60 = S 237 60 ∧ Z 237 61 = S 237 61) ∨ (o = .inr 238 ∧ kq T n N X i = 6 ∧ rFu T n N X f0 b0 b1 S0 (7 + 16 * tp T n 0 i) Z) ∨ (o = .inr 238 ∧ (kq T n N X i ≠ 5 ∧ kq T n N X i ≠ 6) ∧ rFu T n N X f0 b0 b1 S0 (1 + 16 * tp T n 0 i) Z)) := by
  obtain ⟨e1, e2, e3, e4⟩ := h.1
  have hq := kq_cs T n N X i
  have hs := sk_rx (lx_si T n 0 (tp T n 0 i))
  have h7 := (rL_tk h.1).2.1
  refine wJ_mono (tnr hX e4 e3 h.2.1.1) (fun o Z q => ?_)
  rw [e1, e2] at q
  rcases q with ⟨a1, ⟨a2, a3⟩, a4, a5, a6, a7⟩ | ⟨a1, a2, ⟨a3, a4⟩, a5⟩ | ⟨a1, a2, a3⟩
  · have hNL : NL T n N (i + 1) = adL (NL T n N i) (nmx T n (tp T n 0 i)) := by
      show Nn T n (tp T n 0 i) (NL T n N i) = _
      unfold Nn; rw [if_pos ⟨a2, a3⟩]
    have hn : ¬ n ≤ tp T n 0 i := fun q => by have := (tk_x0 (T := T) (n := n) (h := 0) (p := tp T n 0 i)).2 q; omega
    have hvq : vq T n N X i = ixL (adL (NL T n N i) (nmx T n (tp T n 0 i))) (nmx T n (tp T n 0 i)) := by
      unfold vq vp; rw [if_pos a2, if_pos a3]
    have hkq : kq T n N X i = 5 := by
      unfold kq kp; rw [if_neg hn, if_pos a2, if_pos a3, if_neg a4]
    refine Or.inl ⟨by rw [hvq]; exact a1, hkq, rQ_tn h rfl a6 a7 (by rw [hNL]; exact a5) (Or.inl hkq), a6 237 60 (Or.inl (by decide)) (Or.inr (by decide)) (Or.inl (by decide)) (Or.inl (by decide)), a6 237 61 (Or.inl (by decide)) (Or.inr (by decide)) (Or.inl (by decide)) (Or.inl (by decide))⟩
  · have hn : ¬ n ≤ tp T n 0 i := fun q => by have := (tk_x0 (T := T) (n := n) (h := 0) (p := tp T n 0 i)).2 q; omega
    have hkq : kq T n N X i = 6 := by
      unfold kq kp; rw [if_neg hn, if_pos a3, if_pos a4, if_pos a5]
    refine Or.inr (Or.inl ⟨a1, hkq, ?_⟩)
    have z := rFu_mk (k := 7) h ip
    rw [h7, a2] at z
    exact z
  · refine Or.inr (Or.inr ⟨a1, by omega, ?_⟩)
    have z := rFu_mk (k := 1) h ip
    rw [h7, a2] at z
    exact z
end Wc2
