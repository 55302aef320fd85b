/-! PART co: the jumps of a choice. -/
section Wco
variable {xs : List (Nat × List Int32)} {M : Nat → Prop} {d : Nat} {A B C S Z S0 : wS} {Q : wO → wS → Prop} {T : Int → Int} {n f0 u dp b0 b1 : Int} {N X : List (List Int)} {c i k pm : Nat} {I : List pz_I} {F : List pz_F} {o : pz_O}
variable {PA : Nat → Int} {R R2 : pz_R} {K V P : Nat → Int} {v w p q : Int} {J : List Int} {j t : Nat} {I2 I3 : List pz_I} {SA SB : wS} {pp pp2 : pz_O → Prop} {k1 k2 : Nat → List pz_I → List pz_F → Int → pz_O → Prop}
theorem rQ_g (h : rQ T n N X f0 b0 b1 SA u dp i I F PA S) (hf : ∀ (j : Nat) (x : Int), (j < 2000000 ∨ 4000000 ≤ j) → SA j x = SB j x) (hg : ∀ k j : Nat, k < F.length → j < (rl f0 (f0 + (k : Int)) I).length → ((rl f0 (f0 + (k : Int)) I).getD j (0, 0, 0)).2.1 = -9 → SA (nP k + 5) (j : Int) = SB (nP k + 5) (j : Int)) : rQ T n N X f0 b0 b1 SB u dp i I F PA S := by
  obtain ⟨h1, h2, h4, h5, pm, hc, ⟨b1', b2⟩, h8⟩ := h
  refine ⟨h1, h2, h4, fun j y j1 j2 j3 j4 j5 => (h5 j y j1 j2 j3 j4 j5).trans (hf j y j2), pm, hc, ⟨fun k hk => ?_, b2⟩, h8⟩
  obtain ⟨la, l1, l2, l3⟩ := b1' k hk
  refine ⟨la, l1, fun j hj hno => ?_, l3⟩
  rw [l2 j hj hno]
  unfold gA
  by_cases e : ((rl f0 (f0 + (k : Int)) I).getD j (0, 0, 0)).2.1 = -9
  · rw [if_pos e, if_pos e]; exact hg k j hk (by omega) e
  · rw [if_neg e, if_neg e]
theorem rFu_g (h : rFu T n N X f0 b0 b1 SA v Z) (hf : ∀ (j : Nat) (x : Int), (j < 2000000 ∨ 4000000 ≤ j) → SA j x = SB j x) : rFu T n N X f0 b0 b1 SB v Z := by
  obtain ⟨Sx, S1, u, dp, i, I, F, PA, k, p, hx, h⟩ := h
  exact ⟨Sx, S1, u, dp, i, I, F, PA, k, p, fun j x hj => (hx j x hj).trans (hf j x hj), h⟩
theorem h_tk : pz_h ((pz_a I j v).take t) u = pz_h (I.take t) u := by
  unfold pz_a
  rw [List.take_set]
  by_cases hj : j < t
  · refine congrArg (fun z : Nat => (z : Int)) (cnt_set (fun x : pz_I => x.2.2.2 == u) (I.take t) j _ ?_)
    have e : (I.take t).getD j (0, 0, 0, 0) = I.getD j (0, 0, 0, 0) := by
      rw [List.getD_eq_getElem?_getD, List.getD_eq_getElem?_getD, List.getElem?_take, if_pos hj]
    rw [e]
  · rw [List.set_eq_of_length_le (by rw [List.length_take]; omega)]
theorem h_lt {z : pz_I} (ht : t < I.length) (hz : I.getD t (0, 0, 0, 0) = z) (hu : z.2.2.2 = u) : pz_h (I.take t) u < pz_h I u := by
  have e1 : I[t] = z := by
    rw [List.getD_eq_getElem?_getD, List.getElem?_eq_getElem ht] at hz
    exact hz
  have e := List.take_append_drop t I
  rw [List.drop_eq_getElem_cons ht, e1] at e
  have e2 := congrArg (fun l => pz_h l u) e
  have e3 : pz_h (I.take t ++ z :: I.drop (t + 1)) u = pz_h I u := e2
  rw [show z :: I.drop (t + 1) = [z] ++ I.drop (t + 1) from rfl, pz_h_ap, pz_h_ap] at e3
  obtain ⟨a, b, c, d⟩ := z
  rw [pz_h_1, if_pos hu] at e3
  have := (pz_h_rg (I.drop (t + 1)) u).1
  omega
theorem tk_px (hp : pz_px I I2) (ht : t ≤ I.length) : I2.take t = I.take t := by
  obtain ⟨K, rfl⟩ := hp
  exact List.take_append_of_le_length ht
theorem gD_px (hp : pz_px I I2) (ht : t < I.length) : I2.getD t (0, 0, 0, 0) = I.getD t (0, 0, 0, 0) := by
  obtain ⟨K, rfl⟩ := hp
  rw [List.getD_eq_getElem?_getD, List.getElem?_append_left ht, ← List.getD_eq_getElem?_getD]
theorem px_aj (hp : pz_px I I2) (hj : j < I.length) : pz_px (pz_a I j v) (pz_a I2 j v) := by
  have e := gD_px hp hj
  obtain ⟨K, rfl⟩ := hp
  refine ⟨K, ?_⟩
  unfold pz_a
  rw [e, List.set_append_left _ _ hj]
theorem aa_px : ∀ (J : List Int) (I I3 : List pz_I), pz_px I I3 → (∀ y ∈ J, y.toNat < I.length) → pz_px (pz_aa I v J) (pz_aa I3 v J)
  | [], _, _, h, _ => h
  | y :: J, I, I3, h, hJ => aa_px J (pz_a I y.toNat v) (pz_a I3 y.toNat v) (px_aj h (hJ y (List.mem_cons_self))) (fun z hz => by rw [pz_a_len]; exact hJ z (List.mem_cons_of_mem _ hz))
theorem aa_get : ∀ (J : List Int) (I : List pz_I), (∀ y ∈ J, y.toNat ≠ t) → t < I.length → (pz_aa I v J).getD t (0, 0, 0, 0) = I.getD t (0, 0, 0, 0)
  | [], _, _, _ => rfl
  | y :: J, I, hJ, ht => by
    show (pz_aa (pz_a I y.toNat v) v J).getD t (0, 0, 0, 0) = _
    rw [aa_get J _ (fun z hz => hJ z (List.mem_cons_of_mem _ hz)) (by rw [pz_a_len]; exact ht), pz_a_get ht, if_neg (fun e => hJ y (List.mem_cons_self) e.symm)]
theorem aa_h : ∀ (J : List Int) (I : List pz_I), pz_h ((pz_aa I v J).take t) u = pz_h (I.take t) u
  | [], _ => rfl
  | y :: J, I => by
    show pz_h ((pz_aa (pz_a I y.toNat v) v J).take t) u = _
    rw [aa_h J, h_tk]
theorem chn_a : ∀ (J : List Int) (w : Int), chn S0 f0 u I J w → (∀ y ∈ J, y.toNat ≠ j) → chn S0 f0 u (pz_a I j v) J w
  | [], _, h, _ => h
  | y :: J, w, h, hj => by
    obtain ⟨⟨h1, h2, h3, h4⟩, w2, h5, h6⟩ := h
    exact ⟨⟨by rw [h_tk]; exact h1, ⟨h2.1, by rw [pz_a_len]; exact h2.2⟩, by rw [pz_a_get h2.2, if_neg (hj y (List.mem_cons_self))]; exact h3, h4⟩, w2, h5, chn_a J w2 h6 (fun z hz => hj z (List.mem_cons_of_mem _ hz))⟩
theorem chn_px (hp : pz_px I I2) : ∀ (J : List Int) (w : Int), chn S0 f0 u I J w → chn S0 f0 u I2 J w
  | [], _, h => h
  | y :: J, w, h => by
    obtain ⟨⟨h1, h2, h3, h4⟩, w2, h5, h6⟩ := h
    have hl := px_len hp
    exact ⟨⟨by rw [tk_px hp (by omega)]; exact h1, ⟨h2.1, by omega⟩, by rw [gD_px hp h2.2]; exact h3, h4⟩, w2, h5, chn_px hp J w2 h6⟩
theorem chn_S : ∀ (J : List Int) (w : Int), chn S0 f0 u I J w → (∀ y ∈ J, pz_h (I.take y.toNat) u ≠ p) → chn (w_up S0 (nP (u - f0).toNat + 5) p q) f0 u I J w
  | [], _, h, _ => h
  | y :: J, w, h, hj => by
    obtain ⟨⟨h1, h2, h3, h4⟩, w2, h5, h6⟩ := h
    have hne := hj y (List.mem_cons_self)
    exact ⟨⟨h1, h2, h3, h4⟩, w2, fun e => (w_up_at (by omega)).trans (h5 e), chn_S J w2 h6 (fun z hz => hj z (List.mem_cons_of_mem _ hz))⟩
theorem chn_mem : ∀ (J : List Int) (w : Int), chn S0 f0 u I J w → ∀ y ∈ J, 0 ≤ y ∧ y.toNat < I.length ∧ I.getD y.toNat (0, 0, 0, 0) = (20, -9, 0, u)
  | [], _, _, y, hy => absurd hy (by simp)
  | z :: J, w, h, y, hy => by
    obtain ⟨⟨h1, h2, h3, h4⟩, w2, h5, h6⟩ := h
    rcases List.mem_cons.mp hy with e | e
    · rw [e]; exact ⟨h2.1, h2.2, h3⟩
    · exact chn_mem J w2 h6 y e
theorem chn_rg (h : chn S0 f0 u I J w) : -1 ≤ w ∧ w ≤ (I.length : Int) := by
  cases J with
  | nil => have h2 : w = -1 := h; omega
  | cons y J =>
    have h1 := h.1.1
    have h2 := pz_h_rg (I.take y.toNat) u
    have h3 : (I.take y.toNat).length ≤ I.length := by rw [List.length_take]; omega
    omega
/-- of one owner no more are kept than stand ahead of the twenty thousandth -/
theorem rl_le {x : Int} (ht : 20000 ≤ t) : ((rl f0 x I).length : Int) ≤ pz_h (I.take t) x := by
  by_cases hl : t ≤ I.length
  · have e := rl_long (f0 := f0) (I := I.take t) (w := x) (I.drop t) (by rw [List.length_take]; omega)
    rw [List.take_append_drop] at e
    rw [e]
    exact (rl_len f0 x (I.take t)).1
  · rw [List.take_of_length_le (by omega)]
    exact (rl_len f0 x I).1
theorem rl_at {z : pz_I} (hj : j < I.length) (hz : I.getD j (0, 0, 0, 0) = z) (hw : z.2.2.2 = f0 + (k : Int)) (h2 : j < 20000) : (pz_h (I.take j) (f0 + (k : Int))).toNat < (rl f0 (f0 + (k : Int)) I).length ∧ (rl f0 (f0 + (k : Int)) I).getD (pz_h (I.take j) (f0 + (k : Int))).toNat (0, 0, 0) = renc f0 (pz_s (I.take j)) z := by
  obtain ⟨R, hR⟩ := rl_split (f0 := f0) hj hz hw h2
  have hh := (rl_len f0 (f0 + (k : Int)) (I.take j)).2 (by rw [List.length_take]; omega)
  have hh2 : (rl f0 (f0 + (k : Int)) (I.take j)).length = (pz_h (I.take j) (f0 + (k : Int))).toNat := by omega
  refine ⟨?_, ?_⟩
  · rw [hR, List.length_append, List.length_append, ← hh2]
    have : [renc f0 (pz_s (I.take j)) z].length = 1 := rfl
    omega
  · rw [hR, List.append_assoc, List.getD_eq_getElem?_getD, ← hh2, List.getElem?_append_right (Nat.le_refl _), Nat.sub_self]
    rfl
/-- where the chain is lost, the others keep what lies there -/
theorem rQ_la (h : rQ T n N X f0 b0 b1 S0 u dp i I F PA S) (hlo : pz_lo I) (hj : j < I.length) (hz : I.getD j (0, 0, 0, 0) = (20, -9, 0, u)) (hv : v ≠ -9) : rQ T n N X f0 b0 b1 S0 u dp i (pz_a I j v) F PA S := by
  have hn27 : ((20, -9, 0, u) : pz_I).1 ≠ 27 ∧ ((20, -9, 0, u) : pz_I).1 ≠ 24 := ⟨by show (20 : Int) ≠ 27; decide, by show (20 : Int) ≠ 24; decide⟩
  obtain ⟨s1, s2, s3⟩ := sk_a (v := v) hj hz hn27.1
  obtain ⟨h1, h2, ⟨v1, v2, v3, v4⟩, h5, pm, ⟨c1, c3, c4, c5, c6, c7⟩, ⟨b1', b2, b3, b4, b5, b7, b8, b9⟩, r1, r2⟩ := h
  refine ⟨h1, h2, ⟨v1, v2, pz_a_own (p := fun z => f0 ≤ z ∧ z < f0 + (F.length : Int)) v3, v4⟩, h5, pm, ⟨c1, c3, c4, c5, c6, by rw [pz_a_len]; exact c7⟩, ⟨fun k hk => ?_, b2, b3, b4, b5, by rw [s1]; exact b7, by rw [s2]; exact b8, by rw [s3]; exact b9⟩, by rw [pz_a_len]; exact r1, r2.1, by rw [pz_a_len]; exact r2.2⟩
  obtain ⟨la, l1, l2, l3⟩ := b1' k hk
  have ea := rl_a (f0 := f0) (u := f0 + (k : Int)) (v := v) hj hz hn27
  have eu : (rl f0 (f0 + (k : Int)) (pz_a I j v)).length = (rl f0 (f0 + (k : Int)) I).length → ru f0 (f0 + (k : Int)) (pz_a I j v) = ru f0 (f0 + (k : Int)) I := fun e => by unfold ru; rw [e, pz_a_h]
  by_cases c : ((20, -9, 0, u) : pz_I).2.2.2 = f0 + (k : Int) ∧ j < 20000
  · rw [if_pos c] at ea
    have hh := (rl_len f0 (f0 + (k : Int)) (I.take j)).2 (by rw [List.length_take]; omega)
    obtain ⟨a1, a2⟩ := rl_at hj hz c.1 c.2
    have hh2 : (rl f0 (f0 + (k : Int)) (I.take j)).length = (pz_h (I.take j) (f0 + (k : Int))).toNat := by omega
    rw [hh2] at ea
    have hm1 : ((rl f0 (f0 + (k : Int)) I).set (pz_h (I.take j) (f0 + (k : Int))).toNat ((renc f0 0 (20, -9, 0, u)).1, v, 0)).map (fun z => z.1) = (rl f0 (f0 + (k : Int)) I).map (fun z => z.1) := by
      rw [List.map_set]
      refine ls_same (z := (fun z : Int × Int × Int => z.1) (0, 0, 0)) ?_
      rw [getD_map1 (fun z : Int × Int × Int => z.1) (0, 0, 0) a1, a2]
      rfl
    have hm2 : ((rl f0 (f0 + (k : Int)) I).set (pz_h (I.take j) (f0 + (k : Int))).toNat ((renc f0 0 (20, -9, 0, u)).1, v, 0)).map (fun z => z.2.2) = (rl f0 (f0 + (k : Int)) I).map (fun z => z.2.2) := by
      rw [List.map_set]
      refine ls_same (z := (fun z : Int × Int × Int => z.2.2) (0, 0, 0)) ?_
      rw [getD_map1 (fun z : Int × Int × Int => z.2.2) (0, 0, 0) a1, a2]
      rfl
    refine ⟨la, by rw [ea, List.length_set]; exact l1, fun t t1 hno => ?_, ?_⟩
    · rw [ea] at hno ⊢
      rw [gD_s (I := (rl f0 (f0 + (k : Int)) I)) (by omega)] at hno ⊢
      by_cases e : t = (pz_h (I.take j) (f0 + (k : Int))).toNat
      · rw [if_pos e] at hno
        rcases hno with q | q
        · exact absurd q hv
        · exact absurd (lo_a hlo) q
      · rw [if_neg e] at hno ⊢
        exact l2 t t1 (hno.imp id (fun hn z => hn (lo_a z)))
    · rw [eu (by rw [ea, List.length_set]), ea]
      have e1 : ((20, -9, 0, u) : pz_I).2.2.1 = 0 := rfl
      rw [e1, hm1, hm2]
      exact l3
  · rw [if_neg c] at ea
    refine ⟨la, by rw [ea]; exact l1, fun t t1 hno => ?_, ?_⟩
    · rw [ea] at hno ⊢
      exact l2 t t1 (hno.imp id (fun hn z => hn (lo_a z)))
    · rw [eu (by rw [ea]), ea]
      exact l3
theorem rQ_laa (hv : v ≠ -9) : ∀ (J : List Int) (w : Int) (I : List pz_I), rQ T n N X f0 b0 b1 S0 u dp i I F PA S → pz_lo I → chn S0 f0 u I J w → rQ T n N X f0 b0 b1 S0 u dp i (pz_aa I v J) F PA S
  | [], _, _, h, _, _ => h
  | y :: J, w, I, h, hlo, hc => by
    obtain ⟨⟨h1, h2, h3, h4⟩, w2, h5, h6⟩ := hc
    refine rQ_laa hv J w2 (pz_a I y.toNat v) (rQ_la h hlo h2.2 h3 hv) (lo_a hlo) (chn_a J w2 h6 (fun z hz e => ?_))
    have := h4 z hz
    have := (chn_mem J w2 h6 z hz).1
    omega
theorem ch_60 (h : rQ T n N X f0 b0 b1 S0 u dp i I F PA S) : wJ (pe_GA xs) wY0 M d t_M_choice ((pe_at t_M_choice.bl 6).getD (0, [])).2 [(0, (2, 237)), (1, (0, -1))] [] S (fun q Z => q = .inl none ∧ S = Z) := by
  refine wa_iload_n (n := 1) rfl ?_
  refine wa_iflt (w_rg0 (by omega) (by omega)) ⟨_, rfl⟩ (fun c101 => ?_) (fun c101 => ?_)
  · skip
    refine wa_return rfl ?_
    exact ⟨rfl, rfl⟩
  · skip
    exact absurd c101 (by omega)
theorem ch_6 (hv : 0 ≤ v) : ∀ (J : List Int) (w : Int) (I : List pz_I) (S : wS), rQ T n N X f0 b0 b1 S0 u dp i I F (pA F) S → chn S0 f0 u I J w → (I.length : Int) ≤ 900000 → pz_h I u = v → wJ (pe_GA xs) wY0 M (d + 12) t_M_choice ((pe_at t_M_choice.bl 6).getD (0, [])).2 [(0, (2, 237)), (1, (0, w))] [] S (fun q Z => q = .inl none ∧ rQ T n N X f0 b0 b1 S0 u dp i (pz_aa I v J) F (pA F) Z) := by
  intro J
  induction J with
  | nil =>
    intro w I S h hc hI he
    obtain rfl : w = -1 := hc
    exact wJ_mono (ch_60 h) (fun q Z hz => ⟨hz.1, by rw [← hz.2]; exact h⟩)
  | cons y J ih =>
    intro w I S h hc hI he
    obtain ⟨⟨rfl, h2, h3, h4⟩, w2, h5, h6⟩ := hc
    obtain ⟨k, la, pm, ⟨hu, hk4, hkF⟩, ⟨l1, l2⟩, hp, ⟨h28, h59⟩, hct, hB, hR⟩ := rQ_pt h
    have hk : (u - f0).toNat = k := by omega
    have hhr := pz_h_rg (I.take y.toNat) u
    have htl : (I.take y.toNat).length ≤ y.toNat := by rw [List.length_take]; omega
    have htl2 : (I.take y.toNat).length ≤ I.length := by rw [List.length_take]; omega
    have hhI := pz_h_rg I u
    have hJne : ∀ z ∈ J, z.toNat ≠ y.toNat := fun z hz e => by
      have := h4 z hz
      have := (chn_mem J w2 h6 z hz).1
      omega
    have hw2 := chn_rg h6
    have hz3 : ((20, -9, 0, u) : pz_I).2.2.2 = f0 + (k : Int) := hu
    have hA : y.toNat < 20000 → (pz_h (I.take y.toNat) u) < (la.length : Int) ∧ ((rl f0 (f0 + (k : Int)) I).getD (pz_h (I.take y.toNat) u).toNat (0, 0, 0)).2.1 = -9 := fun e => by
      obtain ⟨a1, a2⟩ := rl_at h2.2 h3 hz3 e
      rw [← hu] at a1 a2 ⊢
      refine ⟨by rw [l1, ← hu]; omega, by rw [a2]; rfl⟩
    have hB2 : 20000 ≤ y.toNat → (la.length : Int) ≤ (pz_h (I.take y.toNat) u) := fun e => by
      have := rl_le (f0 := f0) (I := I) (x := u) e
      rw [l1, ← hu]
      exact this
    obtain ⟨⟨i1, i2, i3⟩, g, g1, g2, g3, g4, g5, g6, g7⟩ := hp.2.2.2.2.2.1
    have hcl := cap_le g1
    have hfam := (hfam_P (f := k) (r := 1) (by omega) (by decide)).2 g g1
    rw [← hk] at i1 i2 i3 g2 g3 g4 g6 hfam
    have hrd : (pz_h (I.take y.toNat) u) < (la.length : Int) → S (fa (u - f0).toNat 1 g) (pz_h (I.take y.toNat) u) = w2 := fun e => by
      have e2 : y.toNat < 20000 := by
        refine Classical.byContradiction (fun q => ?_)
        have := hB2 (by omega)
        omega
      have e3 := g6 (pz_h (I.take y.toNat) u).toNat (by omega) (by omega)
      rw [show (((pz_h (I.take y.toNat) u).toNat : Nat) : Int) = (pz_h (I.take y.toNat) u) by omega] at e3
      rw [e3, l2 _ (by omega) (Or.inl (hA e2).2), (hA e2).2, gA_9, show (((pz_h (I.take y.toNat) u).toNat : Nat) : Int) = (pz_h (I.take y.toNat) u) by omega, ← hk]
      exact h5 e2
    refine wa_iload_n (n := 1) rfl ?_
    refine wa_iflt (w_rg0 (by omega) (by omega)) ⟨_, rfl⟩ (fun c101 => ?_) (fun c101 => ?_)
    · skip
      refine wa_return rfl ?_
      exfalso; omega
    · skip
      refine wa_iload_n (n := 1) rfl ?_
      refine wa_aload_n (n := 0) rfl ?_
      refine wb_gf5 237 rfl (wy_pr rfl) wt_237 wf_15_28 (v := (nP (u - f0).toNat : Int)) ((rQ_pp h).2.2.1) (fun r102 => ?_)
      refine wb_gf5 (nP (u - f0).toNat) rfl (rQ_pp h).1 (wt_P0 (by have := (rQ_pp h).2.1; omega)) wf_14_5 (v := ((nP (u - f0).toNat + 3 : Nat) : Int)) ((rQ_pa h).1) (fun r103 => ?_)
      refine wb_gfi (nP (u - f0).toNat + 3) rfl (rQ_pa h).2 (wt_P2 (by have := (rQ_pp h).2.1; omega) ⟨by decide, by decide⟩) wf_13_2 (v := (la.length : Int)) (i2) (fun r104 => ?_)
      refine wa_icmpge (w_rg0 (by omega) (by omega)) (w_rg0 (by omega) (by omega)) ⟨_, rfl⟩ (fun c105 => ?_) (fun c105 => ?_)
      · skip
        refine wa_iconst ?_
        refine wa_fall ⟨_, rfl⟩ ?_
        refine wa_istore_n (n := 3) rfl ?_
        refine wa_aload_n (n := 0) rfl ?_
        refine wb_gf5 237 rfl (wy_pr rfl) wt_237 wf_15_28 (v := (nP (u - f0).toNat : Int)) ((rQ_pp h).2.2.1) (fun r106 => ?_)
        refine wb_gf5 (nP (u - f0).toNat) rfl (rQ_pp h).1 (wt_P0 (by have := (rQ_pp h).2.1; omega)) wf_14_5 (v := ((nP (u - f0).toNat + 3 : Nat) : Int)) ((rQ_pa h).1) (fun r107 => ?_)
        refine wa_iload_n (n := 1) rfl ?_
        refine wa_aload_n (n := 0) rfl ?_
        refine wb_gf5 237 rfl (wy_pr rfl) wt_237 wf_15_28 (v := (nP (u - f0).toNat : Int)) ((rQ_pp h).2.2.1) (fun r108 => ?_)
        refine wa_cv (nP (u - f0).toNat) rfl (rQ_pp h).1 (wt_P0 (by have := (rQ_pp h).2.1; omega)) (M2 := fun _ => False) rfl at_MP_here ⟨_, rfl⟩ rfl rfl ⟨trivial, (Or.inr ⟨wy_pr rfl, fun q => q⟩), trivial, trivial⟩ ⟨trivial, (Or.inr ⟨(rQ_pa h).2, fun q => q⟩), trivial⟩ (fun _ _ q => False.elim q) (hew (S := S) h) (fun oq110 Sq110 hp111 q110 => ?_)
        rcases q110 with ⟨rfl, rfl⟩
        show wJ _ _ _ _ _ _ _ _ _ _
        have hr109 := pz_h_rg I u
        refine wa_cv (nP (u - f0).toNat + 3) rfl (rQ_pa h).2 (wt_P2 (by have := (rQ_pp h).2.1; omega) ⟨by decide, by decide⟩) (M2 := fun _ => False) rfl at_MI_set ⟨_, rfl⟩ rfl rfl ⟨trivial, (Or.inr ⟨wy_pr rfl, fun q => q⟩), trivial, trivial⟩ trivial (fun _ _ q => False.elim q) (sew (S := S) (j := y.toNat) (z := (20, -9, 0, u)) (v := (pz_h I u)) h hI h2.2 h3 rfl ⟨by show (20 : Int) ≠ 27; decide, by show (20 : Int) ≠ 24; decide⟩ ⟨by omega, by omega⟩) (fun oq114 Sq114 hp115 q114 => ?_)
        rcases q114 with ⟨rfl, hz112, hy113⟩
        show wJ _ _ _ _ _ _ _ _ _ _
        have hSq114 : rQ T n N X f0 b0 b1 S0 u dp i (pz_a I y.toNat (pz_h I u)) F (pA F) Sq114 := hz112
        have krSq114 := kq_rg T n N X i
        have nnSq114 := rQ_n hSq114
        refine wa_iload_n (n := 3) rfl ?_
        refine wa_istore_n (n := 1) rfl ?_
        refine wa_goto ⟨_, rfl⟩ ?_
        first
          | (exfalso; omega)
          | (exfalso; have := hA (by omega); omega)
          | (have hl20 : 20000 ≤ y.toNat := (by refine Classical.byContradiction (fun q => ?_); have := (hA (by omega)).1; omega)
             have hlo : pz_lo (pz_a I y.toNat (pz_h I u)) := lo_a ⟨y.toNat, hl20, h2.2, by rw [h3]⟩
             refine wJ_S (wJ_mono (ch_60 hSq114) (fun q Z hz => ⟨hz.1, ?_⟩)) ⟨rfl, rfl, trivial⟩
             rw [← hz.2, ← he]
             exact rQ_laa (by omega) J w2 _ hSq114 hlo (chn_a J w2 h6 hJne))
      · skip
        refine wa_iload_n (n := 1) rfl ?_
        refine wa_aload_n (n := 0) rfl ?_
        refine wb_gf5 237 rfl (wy_pr rfl) wt_237 wf_15_28 (v := (nP (u - f0).toNat : Int)) ((rQ_pp h).2.2.1) (fun r116 => ?_)
        refine wb_gf5 (nP (u - f0).toNat) rfl (rQ_pp h).1 (wt_P0 (by have := (rQ_pp h).2.1; omega)) wf_14_5 (v := ((nP (u - f0).toNat + 3 : Nat) : Int)) ((rQ_pa h).1) (fun r117 => ?_)
        refine wb_gf7 (nP (u - f0).toNat + 3) rfl (rQ_pa h).2 (wt_P2 (by have := (rQ_pp h).2.1; omega) ⟨by decide, by decide⟩) wf_13_1 (v := ((fa (u - f0).toNat 1 g : Nat) : Int)) (g2) ?_
        refine wb_alen (fa (u - f0).toNat 1 g) rfl g4 (by rw [hfam.1.1]; rfl) (v := (cap g)) (g3) (fun r118 => ?_)
        refine wa_icmpge (w_rg0 (by omega) (by omega)) (w_rg0 (by omega) (by omega)) ⟨_, rfl⟩ (fun c119 => ?_) (fun c119 => ?_)
        · skip
          refine wa_iconst ?_
          refine wa_fall ⟨_, rfl⟩ ?_
          refine wa_istore_n (n := 3) rfl ?_
          refine wa_aload_n (n := 0) rfl ?_
          refine wb_gf5 237 rfl (wy_pr rfl) wt_237 wf_15_28 (v := (nP (u - f0).toNat : Int)) ((rQ_pp h).2.2.1) (fun r120 => ?_)
          refine wb_gf5 (nP (u - f0).toNat) rfl (rQ_pp h).1 (wt_P0 (by have := (rQ_pp h).2.1; omega)) wf_14_5 (v := ((nP (u - f0).toNat + 3 : Nat) : Int)) ((rQ_pa h).1) (fun r121 => ?_)
          refine wa_iload_n (n := 1) rfl ?_
          refine wa_aload_n (n := 0) rfl ?_
          refine wb_gf5 237 rfl (wy_pr rfl) wt_237 wf_15_28 (v := (nP (u - f0).toNat : Int)) ((rQ_pp h).2.2.1) (fun r122 => ?_)
          refine wa_cv (nP (u - f0).toNat) rfl (rQ_pp h).1 (wt_P0 (by have := (rQ_pp h).2.1; omega)) (M2 := fun _ => False) rfl at_MP_here ⟨_, rfl⟩ rfl rfl ⟨trivial, (Or.inr ⟨wy_pr rfl, fun q => q⟩), trivial, trivial⟩ ⟨trivial, (Or.inr ⟨(rQ_pa h).2, fun q => q⟩), trivial⟩ (fun _ _ q => False.elim q) (hew (S := S) h) (fun oq124 Sq124 hp125 q124 => ?_)
          rcases q124 with ⟨rfl, rfl⟩
          show wJ _ _ _ _ _ _ _ _ _ _
          have hr123 := pz_h_rg I u
          refine wa_cv (nP (u - f0).toNat + 3) rfl (rQ_pa h).2 (wt_P2 (by have := (rQ_pp h).2.1; omega) ⟨by decide, by decide⟩) (M2 := fun _ => False) rfl at_MI_set ⟨_, rfl⟩ rfl rfl ⟨trivial, (Or.inr ⟨wy_pr rfl, fun q => q⟩), trivial, trivial⟩ trivial (fun _ _ q => False.elim q) (sew (S := S) (j := y.toNat) (z := (20, -9, 0, u)) (v := (pz_h I u)) h hI h2.2 h3 rfl ⟨by show (20 : Int) ≠ 27; decide, by show (20 : Int) ≠ 24; decide⟩ ⟨by omega, by omega⟩) (fun oq128 Sq128 hp129 q128 => ?_)
          rcases q128 with ⟨rfl, hz126, hy127⟩
          show wJ _ _ _ _ _ _ _ _ _ _
          have hSq128 : rQ T n N X f0 b0 b1 S0 u dp i (pz_a I y.toNat (pz_h I u)) F (pA F) Sq128 := hz126
          have krSq128 := kq_rg T n N X i
          have nnSq128 := rQ_n hSq128
          refine wa_iload_n (n := 3) rfl ?_
          refine wa_istore_n (n := 1) rfl ?_
          refine wa_goto ⟨_, rfl⟩ ?_
          first
            | (exfalso; omega)
            | (exfalso; have := hA (by omega); omega)
            | (have hl20 : 20000 ≤ y.toNat := (by refine Classical.byContradiction (fun q => ?_); have := (hA (by omega)).1; omega)
               have hlo : pz_lo (pz_a I y.toNat (pz_h I u)) := lo_a ⟨y.toNat, hl20, h2.2, by rw [h3]⟩
               refine wJ_S (wJ_mono (ch_60 hSq128) (fun q Z hz => ⟨hz.1, ?_⟩)) ⟨rfl, rfl, trivial⟩
               rw [← hz.2, ← he]
               exact rQ_laa (by omega) J w2 _ hSq128 hlo (chn_a J w2 h6 hJne))
        · skip
          refine wa_aload_n (n := 0) rfl ?_
          refine wb_gf5 237 rfl (wy_pr rfl) wt_237 wf_15_28 (v := (nP (u - f0).toNat : Int)) ((rQ_pp h).2.2.1) (fun r130 => ?_)
          refine wb_gf5 (nP (u - f0).toNat) rfl (rQ_pp h).1 (wt_P0 (by have := (rQ_pp h).2.1; omega)) wf_14_5 (v := ((nP (u - f0).toNat + 3 : Nat) : Int)) ((rQ_pa h).1) (fun r131 => ?_)
          refine wb_gf7 (nP (u - f0).toNat + 3) rfl (rQ_pa h).2 (wt_P2 (by have := (rQ_pp h).2.1; omega) ⟨by decide, by decide⟩) wf_13_1 (v := ((fa (u - f0).toNat 1 g : Nat) : Int)) (g2) ?_
          refine wa_iload_n (n := 1) rfl ?_
          refine wb_iald (fa (u - f0).toNat 1 g) rfl g4 hfam.1.1 (n := (cap g)) (g3) (by omega) (by omega) (v := w2) ((hrd (by omega))) (fun r132 => ?_)
          refine wa_goto ⟨_, rfl⟩ ?_
          refine wa_istore_n (n := 3) rfl ?_
          refine wa_aload_n (n := 0) rfl ?_
          refine wb_gf5 237 rfl (wy_pr rfl) wt_237 wf_15_28 (v := (nP (u - f0).toNat : Int)) ((rQ_pp h).2.2.1) (fun r133 => ?_)
          refine wb_gf5 (nP (u - f0).toNat) rfl (rQ_pp h).1 (wt_P0 (by have := (rQ_pp h).2.1; omega)) wf_14_5 (v := ((nP (u - f0).toNat + 3 : Nat) : Int)) ((rQ_pa h).1) (fun r134 => ?_)
          refine wa_iload_n (n := 1) rfl ?_
          refine wa_aload_n (n := 0) rfl ?_
          refine wb_gf5 237 rfl (wy_pr rfl) wt_237 wf_15_28 (v := (nP (u - f0).toNat : Int)) ((rQ_pp h).2.2.1) (fun r135 => ?_)
          refine wa_cv (nP (u - f0).toNat) rfl (rQ_pp h).1 (wt_P0 (by have := (rQ_pp h).2.1; omega)) (M2 := fun _ => False) rfl at_MP_here ⟨_, rfl⟩ rfl rfl ⟨trivial, (Or.inr ⟨wy_pr rfl, fun q => q⟩), trivial, trivial⟩ ⟨trivial, (Or.inr ⟨(rQ_pa h).2, fun q => q⟩), trivial⟩ (fun _ _ q => False.elim q) (hew (S := S) h) (fun oq137 Sq137 hp138 q137 => ?_)
          rcases q137 with ⟨rfl, rfl⟩
          show wJ _ _ _ _ _ _ _ _ _ _
          have hr136 := pz_h_rg I u
          refine wa_cv (nP (u - f0).toNat + 3) rfl (rQ_pa h).2 (wt_P2 (by have := (rQ_pp h).2.1; omega) ⟨by decide, by decide⟩) (M2 := fun _ => False) rfl at_MI_set ⟨_, rfl⟩ rfl rfl ⟨trivial, (Or.inr ⟨wy_pr rfl, fun q => q⟩), trivial, trivial⟩ trivial (fun _ _ q => False.elim q) (sew (S := S) (j := y.toNat) (z := (20, -9, 0, u)) (v := (pz_h I u)) h hI h2.2 h3 rfl ⟨by show (20 : Int) ≠ 27; decide, by show (20 : Int) ≠ 24; decide⟩ ⟨by omega, by omega⟩) (fun oq141 Sq141 hp142 q141 => ?_)
          rcases q141 with ⟨rfl, hz139, hy140⟩
          show wJ _ _ _ _ _ _ _ _ _ _
          have hSq141 : rQ T n N X f0 b0 b1 S0 u dp i (pz_a I y.toNat (pz_h I u)) F (pA F) Sq141 := hz139
          have krSq141 := kq_rg T n N X i
          have nnSq141 := rQ_n hSq141
          refine wa_iload_n (n := 3) rfl ?_
          refine wa_istore_n (n := 1) rfl ?_
          refine wa_goto ⟨_, rfl⟩ ?_
          first
            | (exfalso; omega)
            | (have z := ih w2 _ _ hSq141 (chn_a J w2 h6 hJne) (by rw [pz_a_len]; exact hI) ((pz_a_h _ _ _ _).trans he)
               refine wJ_S (wJ_mono z (fun q Z hz => ⟨hz.1, ?_⟩)) ⟨rfl, rfl, trivial⟩
               have hz2 := hz.2
               rw [he] at hz2
               exact hz2)
end Wco
