/-! PART ck: the reference's parameters. -/
section Wck
variable {xs : List (Nat × List Int32)} {M : Nat → Prop} {d : Nat} {A B C S Z S0 : wS} {Q : wO → wS → Prop} {T : Int → Int} {n f0 u dp b0 b1 : Int} {N X : List (List Int)} {c i k pm : Nat} {I : List pz_I} {F : List pz_F} {o : pz_O}
variable {PA PB : Nat → Int} {R : pz_R} {K V P : Nat → Int} {x y v f : Int} {J : List Int} {D : Nat}
theorem vq6 (h : kq T n N X i = 6) : vq T n N X i = -1 := by
  obtain ⟨k1, k2, -⟩ := k56 (Or.inr h)
  have hn : ¬ n ≤ tp T n 0 i := fun q => by
    have := (tk_x0 (T := T) (n := n) (h := 0) (p := tp T n 0 i)).2 q
    omega
  unfold kq kp at h
  rw [if_neg hn, if_pos k1, if_pos k2] at h
  unfold vq vp
  rw [if_pos k1, if_pos k2]
  refine Classical.byContradiction (fun q => ?_)
  rw [if_neg q] at h
  omega
theorem rQ_PA (h : rQ T n N X f0 b0 b1 S0 u dp i I F PA S) (e : ∀ k : Nat, k < F.length → PA k = PB k) : rQ T n N X f0 b0 b1 S0 u dp i I F PB S := by
  obtain ⟨h1, h2, h4, h5, pm, hc, ⟨b1', b2⟩, h8⟩ := h
  exact ⟨h1, h2, h4, h5, pm, hc, ⟨fun k hk => by rw [← e k hk]; exact b1' k hk, b2⟩, h8⟩
theorem rQ_p1 (h : rQ T n N X f0 b0 b1 S0 u dp i I F PA S) : S (nP (u - f0).toNat) 1 = PA (u - f0).toNat := by
  obtain ⟨k, la, pm, ⟨hu, hk4, hkF⟩, ⟨l1, l2⟩, hp, ⟨h28, h59⟩, hc, hB, hR⟩ := rQ_pt h
  have hk : (u - f0).toNat = k := by omega
  rw [hk]
  exact hp.1.2.1
theorem rQ_pm (h : rQ T n N X f0 b0 b1 S0 u dp i I F PA S) : rQ T n N X f0 b0 b1 S0 u dp i I F (fun q => if q = (u - f0).toNat then v else PA q) (w_up S (nP (u - f0).toNat) 1 v) := by
  obtain ⟨h1, ⟨h2, h3⟩, h4, h5, pm, ⟨⟨c1, c2⟩, c3, c4, c5, c6, c7⟩, h7, h8, h9⟩ := h
  obtain ⟨b1', b2, b3, b4, ⟨b5, b6⟩, b7, b8, b9⟩ := h7
  have v1 := h4.1
  have v2 := h4.2.1
  have hn4 : nP 400 = 2025600 := rfl
  have hwg : wG = 1000000 := rfl
  obtain ⟨k, hk⟩ : ∃ k, k = (u - f0).toNat := ⟨_, rfl⟩
  rw [← hk]
  have hnk : nP k = 2000000 + 64 * k := rfl
  have hkF : k < F.length := by omega
  have ez : ∀ (j : Nat) (y : Int), j ≠ nP k → w_up S (nP k) 1 v j y = S j y := fun j y hj => w_up_slot hj
  have eP : ∀ q : Nat, q ≠ k → ∀ (j : Nat) (y : Int), nP q ≤ j → j < nP q + 64 → w_up S (nP k) 1 v j y = S j y := fun q hq j y j1 j2 => ez j y (by unfold nP at *; omega)
  have eI : ∀ (r : Nat) (j : Nat) (y : Int), r < 3 → (j = 287 + 2 * r ∨ ∃ g : Nat, g ≤ 11 ∧ j = fs r g) → w_up S (nP k) 1 v j y = S j y := fun r j y hr hj => ez j y (by have := fs_rg hr hj; omega)
  have eF : ∀ (r : Nat) (j : Nat) (y : Int), r < 3 → (j = nP k + (2 + r) ∨ ∃ g : Nat, g ≤ 11 ∧ j = fa k r g) → w_up S (nP k) 1 v j y = S j y := fun r j y hr hj => ez j y (by rcases hj with q | ⟨g, g1, q⟩ <;> first | omega | (unfold fa at q; omega))
  obtain ⟨i1, d1⟩ := iI_ag (Z := w_up S (nP k) 1 v) b7 (fun j y => eI 0 j y (by decide))
  obtain ⟨i2, d2⟩ := iI_ag (Z := w_up S (nP k) 1 v) b8 (fun j y => eI 1 j y (by decide))
  obtain ⟨i3, d3⟩ := iI_ag (Z := w_up S (nP k) 1 v) b9 (fun j y => eI 2 j y (by decide))
  obtain ⟨la, l1, l2, ⟨a0, a1, a2, a3⟩, ⟨p1, p2, p3⟩, p4, p5, p6, p7, p8⟩ := b1' k hkF
  obtain ⟨j1, g1⟩ := iI_ag (Z := w_up S (nP k) 1 v) p6 (fun j y => eF 0 j y (by decide))
  obtain ⟨j2, g2⟩ := iI_ag (Z := w_up S (nP k) 1 v) p7 (fun j y => eF 1 j y (by decide))
  obtain ⟨j3, g3⟩ := iI_ag (Z := w_up S (nP k) 1 v) p8 (fun j y => eF 2 j y (by decide))
  have hph : phP k (w_up S (nP k) 1 v) = phP k S := by
    unfold phP
    rw [g1, g2, g3]
  have el : ∀ (j : Nat) (y : Int), ((y = -1 ∧ j < 400) ∨ j = 239 ∨ j = 240 ∨ (281 ≤ j ∧ j ≤ 285) ∨ (j = 237 ∧ y ≤ 20)) → w_up S (nP k) 1 v j y = S j y := fun j y hj => ez j y (by omega)
  have e237 : ∀ y : Int, w_up S (nP k) 1 v 237 y = S 237 y := fun y => ez 237 y (by omega)
  have eWG : ∀ y : Int, w_up S (nP k) 1 v wG y = S wG y := fun y => ez wG y (by omega)
  refine ⟨rL_ag h1 el, ⟨mN_ag h2 el, mX_ag h3 el⟩, h4, fun j y j1 j2 j3 j4 j5 => (ez j y (by omega)).trans (h5 j y j1 j2 j3 j4 j5), pm, ⟨⟨(e237 27).trans c1, (e237 28).trans c2⟩, (e237 29).trans c3, (e237 26).trans c4, (e237 25).trans c5, (e237 34).trans c6, (e237 59).trans c7⟩, ⟨fun q hq => ?_, fun q q1 q2 => (rSh_ag (b2 q q1 q2) (eP q (by omega))).1, fun q q1 q2 c hc z => b3 q q1 q2 c hc ⟨by rw [← eP q (by omega) (nP q + c) (-1) (by omega) (by omega)]; exact z.1, z.2⟩, b4, ⟨fun q hq => (ez 286 _ (by omega)).trans (b5 q hq), (ez 286 _ (by omega)).trans b6⟩, i1, i2, i3⟩, ?_, ?_⟩
  · by_cases e : q = k
    · subst e
      refine ⟨la, l1, l2, ?_⟩
      show pO q _ (if q = q then v else PA q) _ _ _ _ _ _
      rw [if_pos rfl]
      exact ⟨⟨(w_up_at (by decide)).trans a0, w_up_same _ _ _ _, (w_up_at (by decide)).trans a2, (w_up_at (by decide)).trans a3.1, (w_up_at (by decide)).trans a3.2.1, (w_up_at (by decide)).trans a3.2.2.1, (w_up_at (by decide)).trans a3.2.2.2.1, (w_up_at (by decide)).trans a3.2.2.2.2⟩, ⟨(w_up_pr (by decide)).mpr p1, (w_up_pr (by decide)).mpr p2, (ez _ _ (by omega)).trans p3⟩, p4, fun z hz => (ez _ _ (by omega)).trans (p5 z hz), j1, j2, j3⟩
    · have := (rPt_ag (b1' q hq) (eP q e)).1
      show rPt S0 f0 I F q (if q = k then v else PA q) _
      rw [if_neg e]
      exact this
  · have e9 : phs (w_up S (nP k) 1 v) pm = phs S pm := phs_ag pm (fun q q1 => by
      by_cases e : q = k
      · rw [e]; exact hph
      · by_cases e2 : q < F.length
        · exact (rPt_ag (b1' q e2) (eP q e)).2
        · exact (rSh_ag (b2 q (by omega) q1) (eP q e)).2)
    unfold phA at h8 ⊢
    rw [e9, d1, d2, d3, eWG]
    exact h8
  · rw [eWG, eWG]; exact h9
theorem gD_n {α : Type} {l : List α} {k : Nat} {z : α} (h : l.length ≤ k) : l.getD k z = z := by
  rw [List.getD_eq_getElem?_getD, List.getElem?_eq_none h]; rfl
theorem pA_set (F : List pz_F) (k : Nat) (a b : Int) (l : List Int) (hb : b = (F.getD k (-1, 0, [])).2.1) : pA (F.set k (a, b, l)) = pA F := by
  funext j
  unfold pA
  by_cases hj : j < F.length
  · rw [gD_s hj]
    by_cases e : j = k
    · rw [if_pos e, e]; exact hb
    · rw [if_neg e]
  · rw [gD_n (by rw [List.length_set]; omega), gD_n (by omega)]
theorem pX_v : pX f0 (pz_v f0 F u y) u (x + 1) = (fun q => if q = (u - f0).toNat then x + 1 else pX f0 F u x q) := by
  funext q
  unfold pX
  by_cases e : q = (u - f0).toNat
  · rw [if_pos e, if_pos e]
  · rw [if_neg e, if_neg e, if_neg e]
    exact congrFun (pA_set F _ _ _ _ rfl) q
theorem pz_fv (h : (u - f0).toNat < F.length) : pz_f f0 (pz_v f0 F u y) u = ((pz_f f0 F u).1, (pz_f f0 F u).2.1, y :: (pz_f f0 F u).2.2) := by
  show (pz_v f0 F u y).getD (u - f0).toNat (-1, 0, []) = _
  unfold pz_v
  rw [gD_s h, if_pos rfl]
/-- its variables so far are its parameters -/
theorem rQ_p (h : rQ T n N X f0 b0 b1 S0 u dp i I F (pX f0 F u ((pz_f f0 F u).2.2.length : Int)) S) : rQ T n N X f0 b0 b1 S0 u dp i I (pz_p f0 F u) (pA (pz_p f0 F u)) S := by
  have hl := pz_p_len f0 F u
  obtain ⟨h1, h2, ⟨v1, v2, v3, v4⟩, h5, pm, ⟨c1, c3, c4, c5⟩, ⟨b1', b2⟩, h8⟩ := h
  have hk : (u - f0).toNat < F.length := by omega
  have hg : ∀ q : Nat, q < F.length → ((pz_p f0 F u).getD q (-1, 0, [])).1 = (F.getD q (-1, 0, [])).1 ∧ ((pz_p f0 F u).getD q (-1, 0, [])).2.2 = (F.getD q (-1, 0, [])).2.2 ∧ ((pz_p f0 F u).getD q (-1, 0, [])).2.1 = pX f0 F u ((pz_f f0 F u).2.2.length : Int) q := fun q hq => by
    unfold pz_p pX
    rw [gD_s hq]
    by_cases e : q = (u - f0).toNat
    · rw [if_pos e, if_pos e, e]; exact ⟨rfl, rfl, rfl⟩
    · rw [if_neg e, if_neg e]; exact ⟨rfl, rfl, rfl⟩
  unfold rQ rFv rCt rB rRm at *
  rw [hl]
  refine ⟨h1, h2, ⟨v1, v2, v3, fun q hq => ?_⟩, h5, pm, ⟨c1, c3, c4, c5⟩, ⟨fun q hq => ?_, b2⟩, h8⟩
  · rw [(hg q hq).1, (hg q hq).2.1]; exact v4 q hq
  · have := b1' q hq
    unfold rPt at this ⊢
    rw [(hg q hq).1, (hg q hq).2.1]
    show ∃ la : List Int, _ ∧ _ ∧ pO q _ (((pz_p f0 F u).getD q (-1, 0, [])).2.1) _ _ _ _ _ _
    rw [(hg q hq).2.2]
    exact this
section
theorem pzP_1 (hd : pz_PM K V P f R x i dp u I F o) (h : K i ≠ 5 ∧ K i ≠ 6) : o = .inl (1 + 16 * P i) := by unfold pz_PM pz_fa at hd; rw [if_pos h] at hd; exact hd
theorem pzP_3 (hd : pz_PM K V P f R x i dp u I F o) (h : K i = 5 ∨ K i = 6) (h2 : vix (pz_f f F u).2.2 (V i) ≠ -1) : o = .inl (3 + 16 * P i) := by unfold pz_PM pz_fa at hd; rw [if_neg (by omega), if_pos h2] at hd; exact hd
theorem pzP_6 (hd : pz_PM K V P f R x i dp u I F o) (h : K i = 5 ∨ K i = 6) (h2 : vix (pz_f f F u).2.2 (V i) = -1) (h3 : x = 8) : o = .inl (6 + 16 * P i) := by unfold pz_PM pz_fa at hd; rw [if_neg (by omega), if_neg (by omega), if_pos h3] at hd; exact hd
theorem pzP_7 (hd : pz_PM K V P f R x i dp u I F o) (h : K i = 6) (h2 : vix (pz_f f F u).2.2 (V i) = -1) (h3 : x ≠ 8) : o = .inl (7 + 16 * P i) := by unfold pz_PM pz_fa at hd; rw [if_neg (by omega), if_neg (by omega), if_neg h3, if_pos h] at hd; exact hd
theorem pzP_c (hd : pz_PM K V P f R x i dp u I F o) (h : K i = 5) (h2 : vix (pz_f f F u).2.2 (V i) = -1) (h3 : x ≠ 8) (h4 : K (i + 1) = 16) : R 2 (x + 1) [] (i + 2) dp u I (pz_v f F u (V i)) o := by unfold pz_PM pz_fa at hd; rw [if_neg (by omega), if_neg (by omega), if_neg h3, if_neg (by omega), if_pos h4] at hd; exact hd
theorem pzP_e (hd : pz_PM K V P f R x i dp u I F o) (h : K i = 5) (h2 : vix (pz_f f F u).2.2 (V i) = -1) (h3 : x ≠ 8) (h4 : K (i + 1) ≠ 16) : o = .inr (i + 1, I, pz_v f F u (V i), 0) := by unfold pz_PM pz_fa at hd; rw [if_neg (by omega), if_neg (by omega), if_neg h3, if_neg (by omega), if_neg h4] at hd; exact hd
end
theorem r2 (h : rR xs T n N X f0 b0 b1 S0 2 x J i dp u I F o) : rP2 xs T n N X f0 b0 b1 S0 x dp u i I F o := h
theorem p2_b {a g : Int} (hA : kq T n N X i = 16 → rR xs T n N X f0 b0 b1 S0 2 x [] (i + 1) dp u I F o) (hB : kq T n N X i ≠ 16 → o = .inr (i, I, F, 0)) (hx : 0 ≤ x ∧ x ≤ 8) (hxl : ((pz_f f0 F u).2.2.length : Int) = x) (hfu : f0 < u) (hpre : (0 ≤ dp ∧ dp < 50) ∧ I.length ≤ 1 * i + 8 ∧ ((i : Nat) : Int) ≤ tp T n 0 i) (hD : 20 * (51 - dp) ≤ (D : Int)) (h : rQ T n N X f0 b0 b1 S0 u (dp + 1) i I F (pX f0 F u x) S) (hbad : ∀ v : Int, o = .inl v → ∀ Z : wS, rFu T n N X f0 b0 b1 S0 v Z → Q (.inr 238) Z) (hgood : ∀ (i2 : Nat) (I2 : List pz_I) (F2 : List pz_F) (t2 : Int), o = .inr (i2, I2, F2, t2) → ∀ Z : wS, rQ T n N X f0 b0 b1 S0 u (dp + 1) i2 I2 F2 (pX f0 F2 u ((pz_f f0 F2 u).2.2.length : Int)) Z → rPst T n i I 0 i2 I2 → wJ (pe_GA xs) wY0 M (D + 1) t_M_readsFunction ((pe_at t_M_readsFunction.bl 2).getD (0, [])).2 [(0, (2, 237)), (1, (0, a)), (2, (0, g))] [] Z Q) : wJ (pe_GA xs) wY0 M (D + 1) t_M_readsFunction ((pe_at t_M_readsFunction.bl 1).getD (0, [])).2 [(0, (2, 237)), (1, (0, a)), (2, (0, g))] [] S Q := by
  obtain ⟨⟨d0, d1⟩, hlen, ip⟩ := hpre
  obtain ⟨D, rfl⟩ : ∃ E, D = E + 12 := ⟨D - 12, by omega⟩
  have krS := kq_rg T n N X i
  have nnS := rQ_n h
  refine wa_aload_n (n := 0) rfl ?_
  refine wa_bipush (w_rg2 (by omega) (by omega)) ?_
  refine wa_cv 237 rfl (wy_pr rfl) wt_237 (M2 := fun _ => False) rfl at_M_accepts ⟨_, rfl⟩ rfl rfl ⟨(Or.inr ⟨wy_pr rfl, fun q => q⟩), trivial, trivial, trivial⟩ trivial (fun _ _ q => False.elim q) (acw (S := S) h (fun _ => sk_44) ⟨by decide, by decide⟩ ⟨by decide, by decide⟩) (fun oq104 Sq104 hp105 q104 => ?_)
  rcases q104 with ⟨rfl, ks101, hz102, hl103⟩ | ⟨rfl, ks101, rfl⟩
  · skip
    show wJ _ _ _ _ _ _ _ _ _ _
    have hSq104 : rQ T n N X f0 b0 b1 S0 u (dp + 1) (i + 1) I F (pX f0 F u x) Sq104 := hz102
    have ipSq104 : (((i + 1) : Nat) : Int) ≤ tp T n 0 (i + 1) := pI_nx (N := N) (X := X) ip (rQ_n h) ⟨by omega, by omega⟩
    have krSq104 := kq_rg T n N X (i + 1)
    have nnSq104 := rQ_n hSq104
    refine wa_ifeq (w_rg0 (by omega) (by omega)) ⟨_, rfl⟩ (fun c106 => ?_) (fun c106 => ?_)
    · skip
      exact absurd c106 (by omega)
    · skip
      refine wa_aload_n (n := 0) rfl ?_
      refine wa_cv 237 rfl (wy_pr rfl) wt_237 (M2 := fun _ => False) rfl at_M_parameter ⟨_, rfl⟩ rfl rfl ⟨(Or.inr ⟨wy_pr rfl, fun q => q⟩), trivial, trivial, trivial⟩ trivial (fun _ _ q => False.elim q) (r2 (hA ks101) hx hxl hfu ⟨⟨d0, d1⟩, by omega, ipSq104⟩ M _ _ _ Q a g (by omega) hSq104 hbad (fun ib Ib Fb tb hb Zb hzb pb => hgood _ _ _ _ hb Zb hzb ⟨by have := pb.1; omega, by have := pb.2.1; omega, pb.2.2.1, pb.2.2.2⟩)) (fun oq107 Sq107 hp108 q107 => ?_)
      rcases q107 with ⟨rfl, hQ⟩ | ⟨rfl, hJ⟩
      · skip
        exact ⟨rfl, hQ⟩
      · skip
        show wJ _ _ _ _ _ _ _ _ _ _
        refine wa_goto ⟨_, rfl⟩ ?_
        exact hJ
  · skip
    show wJ _ _ _ _ _ _ _ _ _ _
    refine wa_ifeq (w_rg0 (by omega) (by omega)) ⟨_, rfl⟩ (fun c109 => ?_) (fun c109 => ?_)
    · skip
      exact hgood _ _ _ _ (hB ks101) _ (by rw [hxl]; exact h) ⟨by omega, by omega, ip, px_rfl⟩
    · skip
      exact absurd c109 (by omega)
theorem me_pm (hX : w_X xs) (hd : pz_PM (kq T n N X) (vq T n N X) (tp T n 0) f0 (rR xs T n N X f0 b0 b1 S0) x i dp u I F o) : rR xs T n N X f0 b0 b1 S0 2 x [] i dp u I F o := by
  show rP2 xs T n N X f0 b0 b1 S0 x dp u i I F o
  intro hx hxl hfu hpre M M2 D S Q a g hD h hbad hgood
  obtain ⟨⟨d0, d1⟩, hlen, ip⟩ := hpre
  obtain ⟨D, rfl⟩ : ∃ E, D = E + 12 := ⟨D - 12, by omega⟩
  have nnS := rQ_n h
  obtain ⟨t6, t7, t8, t9⟩ := rL_tk h.1
  have h7 := rL_7 h.1
  obtain ⟨m1, m2, m3⟩ := h.2.1.1
  have hpp := (rQ_pp h).2.1
  have htop := rQ_top h
  have hp1 := rQ_p1 h
  have hp1b : pX f0 F u x (u - f0).toNat = x := if_pos rfl
  obtain ⟨hvl, hvb⟩ := rQ_vl h
  have hir := ixL_rg (NL T n N i) (nmx T n (tp T n 0 i))
  have hrg := vix_rg (pz_f f0 F u).2.2 (ixL (NL T n N i) (nmx T n (tp T n 0 i)))
  have hle : (tp T n 0 i) ≤ (lx_en T n 0 (tp T n 0 i)) := by
    obtain ⟨a1, a2, a3, a4, a5, a6, a7, -⟩ := h.1
    exact (lx_en_le (by rw [a2] at a6; exact a6.2)).1
  have ex : sl_ (S 239) (tp T n 0 i) ((lx_en T n 0 (tp T n 0 i)) - (tp T n 0 i)) = (nmx T n (tp T n 0 i)) := by unfold nmx; rw [h.1.1]
  have hnv : vq T n N X i = ((NL T n N i).length : Int) ∨ vq T n N X i = -1 → vix (pz_f f0 F u).2.2 (vq T n N X i) = -1 := fun e => vix_no.mpr (fun q => by have := hvb _ q; omega)
  have hgn : nP (u - f0).toNat = 2000000 + 64 * (u - f0).toNat := rfl
  refine wa_aload_n (n := 0) rfl ?_
  refine wa_aload_n (n := 0) rfl ?_
  refine wa_cv 237 rfl (wy_pr rfl) wt_237 (M2 := fun _ => False) rfl at_M_isName ⟨_, rfl⟩ rfl rfl ⟨(Or.inr ⟨wy_pr rfl, fun q => q⟩), trivial⟩ ⟨(Or.inr ⟨wy_pr rfl, fun q => q⟩), trivial⟩ (fun _ _ q => False.elim q) (inw hX h) (fun oq101 Sq101 hp102 q101 => ?_)
  rcases q101 with ⟨rfl, ⟨rfl, hs⟩ | ⟨rfl, hs⟩⟩
  · skip
    show wJ _ _ _ _ _ _ _ _ _ _
    obtain ⟨k1, k2, k3⟩ := k56 hs
    have h30 := lx_nm30 k1
    have hv6 : kq T n N X i = 6 → vq T n N X i = -1 := vq6
    refine wa_iconst ?_
    refine wa_cv 237 rfl (wy_pr rfl) wt_237 (M2 := fun _ => False) rfl at_M_must ⟨_, rfl⟩ rfl rfl ⟨(Or.inr ⟨wy_pr rfl, fun q => q⟩), trivial⟩ trivial (fun _ _ q => False.elim q) (must_ok (S := S) (g := 1) (n := 1) (by omega) ⟨by omega, by omega⟩) (fun oq103 Sq103 hp104 q103 => ?_)
    rcases q103 with ⟨hg, rfl, rfl⟩ | ⟨hg, rfl, rfl⟩
    · skip
      show wJ _ _ _ _ _ _ _ _ _ _
      refine wa_aload_n (n := 0) rfl ?_
      refine wa_aload_n (n := 0) rfl ?_
      refine wb_gf4 237 rfl (wy_pr rfl) wt_237 wf_15_2 (v := 239) wl_237_2 ?_
      refine wa_aload_n (n := 0) rfl ?_
      refine wb_gfi 237 rfl (wy_pr rfl) wt_237 wf_15_7 (v := (tp T n 0 i)) (t7) (fun r105 => ?_)
      refine wa_aload_n (n := 0) rfl ?_
      refine wb_gfi 237 rfl (wy_pr rfl) wt_237 wf_15_8 (v := (lx_en T n 0 (tp T n 0 i))) (t8) (fun r106 => ?_)
      refine wa_aload_n (n := 0) rfl ?_
      refine wb_gfi 237 rfl (wy_pr rfl) wt_237 wf_15_7 (v := (tp T n 0 i)) (t7) (fun r107 => ?_)
      refine wa_isub ?_
      refine wa_cv 237 rfl (wy_pr rfl) wt_237 (M2 := fun _ => False) rfl at_M_findName ⟨_, rfl⟩ rfl rfl ⟨(Or.inr ⟨wy_pr rfl, fun q => q⟩), trivial⟩ trivial (fun _ _ q => False.elim q) ((by have q := fnm (xs := xs) (M := fun _ => False) (d := D + 11) (p := (tp T n 0 i)) (m := (lx_en T n 0 (tp T n 0 i)) - (tp T n 0 i)) h.1.2.2.2.1 h.2.1.1 ⟨by omega, by omega⟩ ⟨by omega, by omega, by omega⟩; rw [ex] at q; exact q)) (fun oq108 Sq108 hp109 q108 => ?_)
      rcases q108 with ⟨rfl, rfl⟩
      show wJ _ _ _ _ _ _ _ _ _ _
      refine wa_istore_n (n := 1) rfl ?_
      refine wa_aload_n (n := 0) rfl ?_
      refine wa_iload_n (n := 1) rfl ?_
      refine wa_iflt (w_rg0 (by omega) (by omega)) ⟨_, rfl⟩ (fun c110 => ?_) (fun c110 => ?_)
      · skip
        refine wa_iconst ?_
        refine wa_goto ⟨_, rfl⟩ ?_
        refine wa_iconst ?_
        refine wa_cv 237 rfl (wy_pr rfl) wt_237 (M2 := fun _ => False) rfl at_M_must ⟨_, rfl⟩ rfl rfl ⟨trivial, (Or.inr ⟨wy_pr rfl, fun q => q⟩), trivial⟩ trivial (fun _ _ q => False.elim q) (must_ok (S := S) (g := 1) (n := 3) (by omega) ⟨by omega, by omega⟩) (fun oq111 Sq111 hp112 q111 => ?_)
        rcases q111 with ⟨hg, rfl, rfl⟩ | ⟨hg, rfl, rfl⟩
        · skip
          show wJ _ _ _ _ _ _ _ _ _ _
          refine wa_aload_n (n := 0) rfl ?_
          refine wa_aload_n (n := 0) rfl ?_
          refine wb_gf5 237 rfl (wy_pr rfl) wt_237 wf_15_28 (v := (nP (u - f0).toNat : Int)) ((rQ_pp h).2.2.1) (fun r113 => ?_)
          refine wb_gfi (nP (u - f0).toNat) rfl (rQ_pp h).1 (wt_P0 (by omega)) wf_14_1 (v := x) ((hp1.trans hp1b)) (fun r114 => ?_)
          refine wa_bipush (w_rg2 (by omega) (by omega)) ?_
          refine wa_icmpge (w_rg0 (by omega) (by omega)) (w_rg0 (by omega) (by omega)) ⟨_, rfl⟩ (fun c115 => ?_) (fun c115 => ?_)
          · skip
            refine wa_iconst ?_
            refine wa_fall ⟨_, rfl⟩ ?_
            refine wa_bipush (w_rg2 (by omega) (by omega)) ?_
            refine wa_cv 237 rfl (wy_pr rfl) wt_237 (M2 := fun _ => False) rfl at_M_must ⟨_, rfl⟩ rfl rfl ⟨trivial, (Or.inr ⟨wy_pr rfl, fun q => q⟩), trivial⟩ trivial (fun _ _ q => False.elim q) (must_ok (S := S) (g := 0) (n := 6) (by omega) ⟨by omega, by omega⟩) (fun oq116 Sq116 hp117 q116 => ?_)
            rcases q116 with ⟨hg, rfl, rfl⟩ | ⟨hg, rfl, rfl⟩
            · skip
              exact absurd hg (by decide)
            · skip
              refine ⟨rfl, ?_⟩
              first
                | (exfalso; omega)
                | exact Or.inl ⟨rfl, hbad _ (pzP_6 hd (by omega) (by first | omega | (exact hnv (by omega))) (by omega)) _ (rFu_mk h ip)⟩
          · skip
            refine wa_iconst ?_
            refine wa_goto ⟨_, rfl⟩ ?_
            refine wa_bipush (w_rg2 (by omega) (by omega)) ?_
            refine wa_cv 237 rfl (wy_pr rfl) wt_237 (M2 := fun _ => False) rfl at_M_must ⟨_, rfl⟩ rfl rfl ⟨trivial, (Or.inr ⟨wy_pr rfl, fun q => q⟩), trivial⟩ trivial (fun _ _ q => False.elim q) (must_ok (S := S) (g := 1) (n := 6) (by omega) ⟨by omega, by omega⟩) (fun oq118 Sq118 hp119 q118 => ?_)
            rcases q118 with ⟨hg, rfl, rfl⟩ | ⟨hg, rfl, rfl⟩
            · skip
              show wJ _ _ _ _ _ _ _ _ _ _
              refine wa_aload_n (n := 0) rfl ?_
              have hv1 : vix (pz_f f0 F u).2.2 (vq T n N X i) = -1 := by first | omega | (exact hnv (by omega))
              have hx8 : x ≠ 8 := by omega
              refine wa_cv 237 rfl (wy_pr rfl) wt_237 (M2 := fun _ => False) rfl at_M_declares ⟨_, rfl⟩ rfl rfl ⟨trivial, (Or.inr ⟨wy_pr rfl, fun q => q⟩), trivial⟩ trivial (fun _ _ q => False.elim q) (dcw hX h ip) (fun oq120 Sq120 hp121 q120 => ?_)
              rcases q120 with ⟨F2, rfl, hk5, hdc, hz, z60, z61⟩ | ⟨v2, rfl, hdc, hf⟩
              · skip
                show wJ _ _ _ _ _ _ _ _ _ _
                rw [pz_dc_v hk5 ⟨by omega, hv1⟩ (by omega)] at hdc
                obtain rfl : pz_v f0 F u (vq T n N X i) = F2 := by simpa using hdc
                have hvr := vq_nn hk5
                refine wa_pop (by decide) ?_
                refine wa_aload_n (n := 0) rfl ?_
                refine wb_gf5 237 rfl (wy_pr rfl) wt_237 wf_15_28 (v := (nP (u - f0).toNat : Int)) ((rQ_pp hz).2.2.1) (fun r122 => ?_)
                refine wa_dup (by decide) ?_
                refine wb_gfi (nP (u - f0).toNat) rfl (rQ_pp hz).1 (wt_P0 (by omega)) wf_14_1 (v := x) (((rQ_p1 hz).trans hp1b)) (fun r123 => ?_)
                refine wa_iconst ?_
                refine wa_iadd ?_
                refine wb_pfi (nP (u - f0).toNat) rfl (rQ_pp hz).1 (wt_P0 (by omega)) wf_14_1 (n := 1) rfl ⟨(by omega), (by omega)⟩ ?_
                refine wa_return rfl ?_
                have hq9 := rQ_pm (v := x + 1) hz
                rw [← pX_v (y := vq T n N X i)] at hq9
                have hfv := pz_fv (f0 := f0) (u := u) (F := F) (y := vq T n N X i) (by have := h.2.2.1.2.1; omega)
                refine Or.inr ⟨rfl, p2_b (x := x + 1) (fun e => pzP_c hd hk5 hv1 hx8 e) (fun e => pzP_e hd hk5 hv1 hx8 e) ⟨by omega, by omega⟩ ?_ hfu ⟨⟨d0, d1⟩, by omega, pI_nx (N := N) (X := X) ip nnS ⟨by omega, by omega⟩⟩ hD hq9 hbad (fun ib Ib Fb tb hb Zb hzb pb => hgood _ _ _ _ hb Zb hzb ⟨by have := pb.1; omega, by have := pb.2.1; omega, pb.2.2.1, pb.2.2.2⟩)⟩
                rw [hfv]
                show (((pz_f f0 F u).2.2.length + 1 : Nat) : Int) = x + 1
                omega
              · skip
                have hk6 : kq T n N X i = 6 := by
                  refine Classical.byContradiction (fun q => ?_)
                  rw [pz_dc_v (show kq T n N X i = 5 by omega) ⟨by omega, hv1⟩ (by omega)] at hdc
                  exact absurd hdc (by simp)
                rw [pz_dc_7 hk6] at hdc
                obtain rfl : 7 + 16 * tp T n 0 i = v2 := by simpa using hdc
                exact ⟨rfl, Or.inl ⟨rfl, hbad _ (pzP_7 hd hk6 hv1 hx8) _ hf⟩⟩
            · skip
              exact absurd hg (by decide)
        · skip
          exact absurd hg (by decide)
      · skip
        refine wa_aload_n (n := 0) rfl ?_
        refine wb_gf5 237 rfl (wy_pr rfl) wt_237 wf_15_28 (v := (nP (u - f0).toNat : Int)) ((rQ_pp h).2.2.1) (fun r124 => ?_)
        refine wa_iload_n (n := 1) rfl ?_
        refine wa_cv (nP (u - f0).toNat) rfl (rQ_pp h).1 (wt_P0 (by omega)) (M2 := fun _ => False) rfl at_MP_find ⟨_, rfl⟩ rfl rfl ⟨trivial, (Or.inr ⟨wy_pr rfl, fun q => q⟩), trivial⟩ ⟨(Or.inr ⟨wy_pr rfl, fun q => q⟩), trivial⟩ (fun _ _ q => False.elim q) (fdw h ⟨by omega, by omega⟩) (fun oq125 Sq125 hp126 q125 => ?_)
        rcases q125 with ⟨rfl, rfl⟩
        show wJ _ _ _ _ _ _ _ _ _ _
        have hvq : vq T n N X i = (ixL (NL T n N i) (nmx T n (tp T n 0 i))) := by omega
        have hvx : vix (pz_f f0 F u).2.2 (vq T n N X i) = vix (pz_f f0 F u).2.2 (ixL (NL T n N i) (nmx T n (tp T n 0 i))) := by rw [hvq]
        refine wa_ifge (w_rg0 (by omega) (by omega)) ⟨_, rfl⟩ (fun c127 => ?_) (fun c127 => ?_)
        · skip
          refine wa_iconst ?_
          refine wa_fall ⟨_, rfl⟩ ?_
          refine wa_iconst ?_
          refine wa_cv 237 rfl (wy_pr rfl) wt_237 (M2 := fun _ => False) rfl at_M_must ⟨_, rfl⟩ rfl rfl ⟨trivial, (Or.inr ⟨wy_pr rfl, fun q => q⟩), trivial⟩ trivial (fun _ _ q => False.elim q) (must_ok (S := S) (g := 0) (n := 3) (by omega) ⟨by omega, by omega⟩) (fun oq128 Sq128 hp129 q128 => ?_)
          rcases q128 with ⟨hg, rfl, rfl⟩ | ⟨hg, rfl, rfl⟩
          · skip
            exact absurd hg (by decide)
          · skip
            refine ⟨rfl, ?_⟩
            first
              | (exfalso; omega)
              | exact Or.inl ⟨rfl, hbad _ (pzP_3 hd (by omega) (by omega)) _ (rFu_mk h ip)⟩
        · skip
          refine wa_fall ⟨_, rfl⟩ ?_
          refine wa_iconst ?_
          refine wa_goto ⟨_, rfl⟩ ?_
          refine wa_iconst ?_
          refine wa_cv 237 rfl (wy_pr rfl) wt_237 (M2 := fun _ => False) rfl at_M_must ⟨_, rfl⟩ rfl rfl ⟨trivial, (Or.inr ⟨wy_pr rfl, fun q => q⟩), trivial⟩ trivial (fun _ _ q => False.elim q) (must_ok (S := S) (g := 1) (n := 3) (by omega) ⟨by omega, by omega⟩) (fun oq130 Sq130 hp131 q130 => ?_)
          rcases q130 with ⟨hg, rfl, rfl⟩ | ⟨hg, rfl, rfl⟩
          · skip
            show wJ _ _ _ _ _ _ _ _ _ _
            refine wa_aload_n (n := 0) rfl ?_
            refine wa_aload_n (n := 0) rfl ?_
            refine wb_gf5 237 rfl (wy_pr rfl) wt_237 wf_15_28 (v := (nP (u - f0).toNat : Int)) ((rQ_pp h).2.2.1) (fun r132 => ?_)
            refine wb_gfi (nP (u - f0).toNat) rfl (rQ_pp h).1 (wt_P0 (by omega)) wf_14_1 (v := x) ((hp1.trans hp1b)) (fun r133 => ?_)
            refine wa_bipush (w_rg2 (by omega) (by omega)) ?_
            refine wa_icmpge (w_rg0 (by omega) (by omega)) (w_rg0 (by omega) (by omega)) ⟨_, rfl⟩ (fun c134 => ?_) (fun c134 => ?_)
            · skip
              refine wa_iconst ?_
              refine wa_fall ⟨_, rfl⟩ ?_
              refine wa_bipush (w_rg2 (by omega) (by omega)) ?_
              refine wa_cv 237 rfl (wy_pr rfl) wt_237 (M2 := fun _ => False) rfl at_M_must ⟨_, rfl⟩ rfl rfl ⟨trivial, (Or.inr ⟨wy_pr rfl, fun q => q⟩), trivial⟩ trivial (fun _ _ q => False.elim q) (must_ok (S := S) (g := 0) (n := 6) (by omega) ⟨by omega, by omega⟩) (fun oq135 Sq135 hp136 q135 => ?_)
              rcases q135 with ⟨hg, rfl, rfl⟩ | ⟨hg, rfl, rfl⟩
              · skip
                exact absurd hg (by decide)
              · skip
                refine ⟨rfl, ?_⟩
                first
                  | (exfalso; omega)
                  | exact Or.inl ⟨rfl, hbad _ (pzP_6 hd (by omega) (by first | omega | (exact hnv (by omega))) (by omega)) _ (rFu_mk h ip)⟩
            · skip
              refine wa_iconst ?_
              refine wa_goto ⟨_, rfl⟩ ?_
              refine wa_bipush (w_rg2 (by omega) (by omega)) ?_
              refine wa_cv 237 rfl (wy_pr rfl) wt_237 (M2 := fun _ => False) rfl at_M_must ⟨_, rfl⟩ rfl rfl ⟨trivial, (Or.inr ⟨wy_pr rfl, fun q => q⟩), trivial⟩ trivial (fun _ _ q => False.elim q) (must_ok (S := S) (g := 1) (n := 6) (by omega) ⟨by omega, by omega⟩) (fun oq137 Sq137 hp138 q137 => ?_)
              rcases q137 with ⟨hg, rfl, rfl⟩ | ⟨hg, rfl, rfl⟩
              · skip
                show wJ _ _ _ _ _ _ _ _ _ _
                refine wa_aload_n (n := 0) rfl ?_
                have hv1 : vix (pz_f f0 F u).2.2 (vq T n N X i) = -1 := by first | omega | (exact hnv (by omega))
                have hx8 : x ≠ 8 := by omega
                refine wa_cv 237 rfl (wy_pr rfl) wt_237 (M2 := fun _ => False) rfl at_M_declares ⟨_, rfl⟩ rfl rfl ⟨trivial, (Or.inr ⟨wy_pr rfl, fun q => q⟩), trivial⟩ trivial (fun _ _ q => False.elim q) (dcw hX h ip) (fun oq139 Sq139 hp140 q139 => ?_)
                rcases q139 with ⟨F2, rfl, hk5, hdc, hz, z60, z61⟩ | ⟨v2, rfl, hdc, hf⟩
                · skip
                  show wJ _ _ _ _ _ _ _ _ _ _
                  rw [pz_dc_v hk5 ⟨by omega, hv1⟩ (by omega)] at hdc
                  obtain rfl : pz_v f0 F u (vq T n N X i) = F2 := by simpa using hdc
                  have hvr := vq_nn hk5
                  refine wa_pop (by decide) ?_
                  refine wa_aload_n (n := 0) rfl ?_
                  refine wb_gf5 237 rfl (wy_pr rfl) wt_237 wf_15_28 (v := (nP (u - f0).toNat : Int)) ((rQ_pp hz).2.2.1) (fun r141 => ?_)
                  refine wa_dup (by decide) ?_
                  refine wb_gfi (nP (u - f0).toNat) rfl (rQ_pp hz).1 (wt_P0 (by omega)) wf_14_1 (v := x) (((rQ_p1 hz).trans hp1b)) (fun r142 => ?_)
                  refine wa_iconst ?_
                  refine wa_iadd ?_
                  refine wb_pfi (nP (u - f0).toNat) rfl (rQ_pp hz).1 (wt_P0 (by omega)) wf_14_1 (n := 1) rfl ⟨(by omega), (by omega)⟩ ?_
                  refine wa_return rfl ?_
                  have hq9 := rQ_pm (v := x + 1) hz
                  rw [← pX_v (y := vq T n N X i)] at hq9
                  have hfv := pz_fv (f0 := f0) (u := u) (F := F) (y := vq T n N X i) (by have := h.2.2.1.2.1; omega)
                  refine Or.inr ⟨rfl, p2_b (x := x + 1) (fun e => pzP_c hd hk5 hv1 hx8 e) (fun e => pzP_e hd hk5 hv1 hx8 e) ⟨by omega, by omega⟩ ?_ hfu ⟨⟨d0, d1⟩, by omega, pI_nx (N := N) (X := X) ip nnS ⟨by omega, by omega⟩⟩ hD hq9 hbad (fun ib Ib Fb tb hb Zb hzb pb => hgood _ _ _ _ hb Zb hzb ⟨by have := pb.1; omega, by have := pb.2.1; omega, pb.2.2.1, pb.2.2.2⟩)⟩
                  rw [hfv]
                  show (((pz_f f0 F u).2.2.length + 1 : Nat) : Int) = x + 1
                  omega
                · skip
                  have hk6 : kq T n N X i = 6 := by
                    refine Classical.byContradiction (fun q => ?_)
                    rw [pz_dc_v (show kq T n N X i = 5 by omega) ⟨by omega, hv1⟩ (by omega)] at hdc
                    exact absurd hdc (by simp)
                  rw [pz_dc_7 hk6] at hdc
                  obtain rfl : 7 + 16 * tp T n 0 i = v2 := by simpa using hdc
                  exact ⟨rfl, Or.inl ⟨rfl, hbad _ (pzP_7 hd hk6 hv1 hx8) _ hf⟩⟩
              · skip
                exact absurd hg (by decide)
          · skip
            exact absurd hg (by decide)
    · skip
      exact absurd hg (by decide)
  · skip
    show wJ _ _ _ _ _ _ _ _ _ _
    refine wa_iconst ?_
    refine wa_cv 237 rfl (wy_pr rfl) wt_237 (M2 := fun _ => False) rfl at_M_must ⟨_, rfl⟩ rfl rfl ⟨(Or.inr ⟨wy_pr rfl, fun q => q⟩), trivial⟩ trivial (fun _ _ q => False.elim q) (must_ok (S := S) (g := 0) (n := 1) (by omega) ⟨by omega, by omega⟩) (fun oq143 Sq143 hp144 q143 => ?_)
    rcases q143 with ⟨hg, rfl, rfl⟩ | ⟨hg, rfl, rfl⟩
    · skip
      exact absurd hg (by decide)
    · skip
      refine ⟨rfl, ?_⟩
      first
        | (exfalso; omega)
        | exact Or.inl ⟨rfl, hbad _ (pzP_1 hd (by omega)) _ (rFu_mk h ip)⟩
end Wck
