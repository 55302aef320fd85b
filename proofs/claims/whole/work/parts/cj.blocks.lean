/-! PART cj: the reference's statements and blocks. -/
section Wcj
variable {xs : List (Nat × List Int32)} {M : Nat → Prop} {d : Nat} {A B C S Z S0 : wS} {Q : wO → wS → Prop} {T : Int → Int} {n f0 u dp b0 b1 : Int} {N X : List (List Int)} {c i k pm : Nat} {I : List pz_I} {F : List pz_F} {o : pz_O}
variable {PA : Nat → Int} {R : pz_R} {K V P : Nat → Int} {w c t v ke : Int} {J : List Int} {i2 D bh be : Nat} {I2 : List pz_I} {F2 : List pz_F} {mt : pe_Mt}
theorem rQ_u (h : rQ T n N X f0 b0 b1 S0 u dp i I F PA S) (hw : f0 ≤ w ∧ w < f0 + (F.length : Int)) (hc : c = w - f0) : rQ T n N X f0 b0 b1 S0 w dp i I F PA (w_up (w_up S 237 27 c) 237 28 (nP (w - f0).toNat : Int)) := by
  obtain ⟨h1, ⟨h2, h3⟩, h4, h5, pm, ⟨⟨c1, c2⟩, c3, c4, c5, c6, c7⟩, h7, h8, h9⟩ := h
  have hz : ∀ (j : Nat) (y : Int), (j ≠ 237 ∨ (y ≠ 27 ∧ y ≠ 28)) → (w_up (w_up S 237 27 c) 237 28 (nP (w - f0).toNat : Int)) j y = S j y := fun j y hj => (w_up_no (by omega)).trans (w_up_no (by omega))
  obtain ⟨q1, q2⟩ := rB_ag (Z := w_up (w_up S 237 27 c) 237 28 (nP (w - f0).toNat : Int)) h7 (fun j y hj => hz j y (by omega))
  refine ⟨rL_ag h1 (fun j y hj => hz j y (by omega)), ⟨mN_ag h2 (fun j y hj => hz j y (by omega)), mX_ag h3 (fun j y hj => hz j y (by omega))⟩, ⟨h4.1, hw, h4.2.2⟩, fun j y j1 j2 j3 j4 j5 => (hz j y (by omega)).trans (h5 j y j1 j2 j3 j4 j5), pm, ⟨⟨(w_up_at (by decide)).trans ((w_up_same _ _ _ _).trans hc), w_up_same _ _ _ _⟩, (hz 237 29 (by omega)).trans c3, (hz 237 26 (by omega)).trans c4, (hz 237 25 (by omega)).trans c5, (hz 237 34 (by omega)).trans c6, (hz 237 59 (by omega)).trans c7⟩, q1, ?_, ?_⟩
  · rw [q2, hz wG 0 (Or.inl (by decide))]; exact h8
  · rw [hz wG 0 (Or.inl (by decide)), hz wG 1 (Or.inl (by decide))]; exact h9
theorem itw (h : rQ T n N X f0 b0 b1 S0 u dp i I F PA S) (hw : f0 ≤ w ∧ w < f0 + (F.length : Int)) (hc : c = w - f0) : wJ (pe_GA xs) wY0 M d t_M_into ((pe_at t_M_into.bl 0).getD (0, [])).2 [(0, (2, 237)), (1, (0, c))] [] S (fun q Z => q = .inl none ∧ rQ T n N X f0 b0 b1 S0 w dp i I F PA Z ∧ ∀ y : Int, y ≠ 27 → y ≠ 28 → Z 237 y = S 237 y) := by
  have hq := rQ_u h hw hc
  obtain ⟨h1, h2, h4, h5, pm, hct, h7, h8⟩ := h
  obtain ⟨b1', b2, b3, b4, ⟨b5, b6⟩, -⟩ := h7
  have hf4 := h4.1
  have hx : S 286 c = (nP (w - f0).toNat : Int) := by
    rw [show c = (((w - f0).toNat : Nat) : Int) by omega]
    exact b5 _ (by omega)
  obtain ⟨la, l1, l2, hp⟩ := b1' (w - f0).toNat (by omega)
  have hpr := hp.2.1.1
  refine wa_aload_n (n := 0) rfl ?_
  refine wa_iload_n (n := 1) rfl ?_
  refine wb_pfi 237 rfl (wy_pr rfl) wt_237 wf_15_27 (n := 27) rfl ⟨(by omega), (by omega)⟩ ?_
  refine wa_aload_n (n := 0) rfl ?_
  refine wa_aload_n (n := 0) rfl ?_
  refine wb_gf4 237 rfl (wy_pr rfl) wt_237 wf_15_24 (v := 286) wl_237_24 ?_
  refine wa_iload_n (n := 1) rfl ?_
  refine wb_aaldO 286 rfl (wy_pr rfl) wt_286 (by omega) (n := 400) ((w_up_slot (by decide)).trans (b6)) (by omega) (v := (nP (w - f0).toNat : Int)) ((w_up_slot (by decide)).trans (hx)) ?_
  refine wb_pfr 237 rfl (wy_pr rfl) wt_237 wf_15_28 (n := 28) rfl (Or.inr ⟨by rw [Int.toNat_natCast]; exact ((w_up_pr (by omega)).mpr hpr), by rw [Int.toNat_natCast, wt_P0 (by omega)]; decide⟩) ?_
  refine wa_return rfl ?_
  exact ⟨rfl, hq, fun y y1 y2 => (w_up_at (by omega)).trans (w_up_at (by omega))⟩
theorem r0 (h : rR xs T n N X f0 b0 b1 S0 0 0 J i dp u I F o) : rL0 xs T n N X f0 b0 b1 S0 t_M_block 1 2 13 dp u i I F o ∧ rL0 xs T n N X f0 b0 b1 S0 t_M_readsUnit 5 6 0 dp u i I F o := h
theorem r1 (h : rR xs T n N X f0 b0 b1 S0 1 0 J i dp u I F o) : rM xs T n N X f0 b0 b1 S0 18 t_M_statement [(0, (2, 237))] (fun _ => none) 1 (fun _ _ _ => True) dp u i I F o := h
theorem r0_v (h : rL0 xs T n N X f0 b0 b1 S0 mt bh be ke dp u i I F (.inl v)) (hp : rPre T n dp i I) (hD : 20 * (51 - dp) + 19 ≤ (D : Int)) (hq : rQ T n N X f0 b0 b1 S0 u dp i I F (pA F) S) (hb : ∀ Z : wS, rFu T n N X f0 b0 b1 S0 v Z → Q (.inr 238) Z) : wJ (pe_GA xs) wY0 M D mt ((pe_at mt.bl bh).getD (0, [])).2 [(0, (2, 237))] [] S Q :=
  h hp M D S Q hD hq (fun w e => by
    obtain rfl : v = w := by simpa using e
    exact hb) (fun ib Ib Fb tb e => absurd e (by simp)) (fun ib Ib Fb tb e => absurd e (by simp))
theorem r0_i (h : rL0 xs T n N X f0 b0 b1 S0 mt bh be ke dp u i I F (.inr (i2, I2, F2, t))) (hp : rPre T n dp i I) (hD : 20 * (51 - dp) + 19 ≤ (D : Int)) (hq : rQ T n N X f0 b0 b1 S0 u dp i I F (pA F) S) (hg : ∀ Z : wS, rQ T n N X f0 b0 b1 S0 u dp i2 I2 F2 (pA F2) Z → rPst T n i I 0 i2 I2 → kq T n N X i2 = ke → wJ (pe_GA xs) wY0 M D mt ((pe_at mt.bl be).getD (0, [])).2 [(0, (2, 237))] [] Z Q) (he : kq T n N X i2 ≠ ke → ∀ Z : wS, rFu T n N X f0 b0 b1 S0 (1 + 16 * tp T n 0 i2) Z → Q (.inr 238) Z) : wJ (pe_GA xs) wY0 M D mt ((pe_at mt.bl bh).getD (0, [])).2 [(0, (2, 237))] [] S Q :=
  h hp M D S Q hD hq (fun v e => absurd e (by simp)) (fun ib Ib Fb tb e Z h1 h2 h3 => by
    obtain ⟨rfl, rfl, rfl, rfl⟩ : i2 = ib ∧ I2 = Ib ∧ F2 = Fb ∧ t = tb := by simpa using e
    exact hg Z h1 h2 h3) (fun ib Ib Fb tb e k1 => by
    obtain ⟨rfl, rfl, rfl, rfl⟩ : i2 = ib ∧ I2 = Ib ∧ F2 = Fb ∧ t = tb := by simpa using e
    exact he k1)
theorem pzS_e (hd : pz_SS K R i dp u I F o) (h : K i = 0 ∨ K i = 13) : o = .inr (i, I, F, 0) := by unfold pz_SS at hd; rw [if_pos h] at hd; exact hd
theorem pzS_n (hd : pz_SS K R i dp u I F o) (h : ¬ (K i = 0 ∨ K i = 13)) : pz_q (R 1 0 [] i dp u I F) (fun i I F _ => R 0 0 [] i dp u I F) o := by unfold pz_SS at hd; rw [if_neg h] at hd; exact hd
theorem ls_bk (hd : pz_SS (kq T n N X) (rR xs T n N X f0 b0 b1 S0) i dp u I F o) (hs1 : kq T n N X i = 0 ∨ kq T n N X i = 13 → rR xs T n N X f0 b0 b1 S0 1 0 [] i dp u I F (.inl (1 + 16 * tp T n 0 i))) : rL0 xs T n N X f0 b0 b1 S0 t_M_block 1 2 13 dp u i I F o := by
  intro hpre M D S Q hD h hbad hgood hend
  obtain ⟨⟨d0, d1⟩, hlen, ip⟩ := hpre
  obtain ⟨D, rfl⟩ : ∃ E, D = E + 12 := ⟨D - 12, by omega⟩
  have krS := kq_rg T n N X i
  have nnS := rQ_n h
  obtain ⟨t6, t7, t8, t9⟩ := rL_tk h.1
  have hq := kq_cs T n N X i
  have hsr := sk_rx (lx_si T n 0 (tp T n 0 i))
  refine wa_aload_n (n := 0) rfl ?_
  refine wa_bipush (w_rg2 (by omega) (by omega)) ?_
  refine wa_cv 237 rfl (wy_pr rfl) wt_237 (M2 := fun _ => False) rfl at_M_isSign ⟨_, rfl⟩ rfl rfl ⟨(Or.inr ⟨wy_pr rfl, fun q => q⟩), trivial⟩ trivial (fun _ _ q => False.elim q) (isw (S := S) h (fun _ => sk_125) ⟨by decide, by decide⟩ ⟨by decide, by decide⟩) (fun oq102 Sq102 hp103 q102 => ?_)
  rcases q102 with ⟨rfl, ⟨rfl, ks101⟩ | ⟨rfl, ks101⟩⟩
  · skip
    show wJ _ _ _ _ _ _ _ _ _ _
    refine wa_ifne (w_rg0 (by omega) (by omega)) ⟨_, rfl⟩ (fun c104 => ?_) (fun c104 => ?_)
    · skip
      exact hgood _ _ _ _ (pzS_e hd (by omega)) _ h ⟨by omega, by omega, ip, px_rfl⟩ (by omega)
    · skip
      exact absurd c104 (by omega)
  · skip
    show wJ _ _ _ _ _ _ _ _ _ _
    refine wa_ifne (w_rg0 (by omega) (by omega)) ⟨_, rfl⟩ (fun c105 => ?_) (fun c105 => ?_)
    · skip
      exact absurd c105 (by omega)
    · skip
      refine wa_aload_n (n := 0) rfl ?_
      by_cases k0 : kq T n N X i = 0
      · have hd8 := pzS_e hd (by omega)
        refine wa_cv 237 rfl (wy_pr rfl) wt_237 (M2 := fun _ => False) rfl at_M_statement ⟨_, rfl⟩ rfl rfl ⟨(Or.inr ⟨wy_pr rfl, fun q => q⟩), trivial⟩ trivial (fun _ _ q => False.elim q) (r1 (hs1 (by omega)) ⟨⟨by omega, by omega⟩, by omega, ip⟩ _ _ _ (by omega) h) (fun oq Sq hq q => ?_)
        rcases q with ⟨rfl, hf⟩
        exact ⟨rfl, hend _ _ _ _ hd8 (by omega) _ hf⟩
      have hd0 := pzS_n hd (by omega)
      rcases hd0 with ⟨v106, hs107, ho108⟩ | ⟨i109, I110, F111, t112, hs107, hd1⟩
      · refine wa_cv 237 rfl (wy_pr rfl) wt_237 (M2 := fun _ => False) rfl at_M_statement ⟨_, rfl⟩ rfl rfl ⟨(Or.inr ⟨wy_pr rfl, fun q => q⟩), trivial⟩ trivial (fun _ _ q => False.elim q) (r1 hs107 ⟨⟨by omega, by omega⟩, by omega, ip⟩ _ _ _ (by omega) h) (fun oq120 Sq120 hp121 q120 => ?_)
        rcases q120 with ⟨rfl, hf119⟩
        subst ho108
        exact ⟨rfl, (hbad _ rfl _ hf119)⟩
      refine wa_cv 237 rfl (wy_pr rfl) wt_237 (M2 := fun _ => False) rfl at_M_statement ⟨_, rfl⟩ rfl rfl ⟨(Or.inr ⟨wy_pr rfl, fun q => q⟩), trivial⟩ trivial (fun _ _ q => False.elim q) (r1 hs107 ⟨⟨by omega, by omega⟩, by omega, ip⟩ _ _ _ (by omega) h) (fun oq122 Sq122 hp123 q122 => ?_)
      rcases q122 with ⟨rfl, hz113, ⟨p114, p115, p116, p117⟩, e118⟩
      show wJ _ _ _ _ _ _ _ _ _ _
      have hSq122 : rQ T n N X f0 b0 b1 S0 u dp i109 I110 F111 (pA F111) Sq122 := hz113
      have ipSq122 : ((i109 : Nat) : Int) ≤ tp T n 0 i109 := p116
      have krSq122 := kq_rg T n N X i109
      have nnSq122 := rQ_n hSq122
      have lnSq122 := px_len p117
      refine wa_goto ⟨_, rfl⟩ ?_
      exact wJ_S ((r0 hd1).1 ⟨⟨by omega, by omega⟩, by omega, ipSq122⟩ _ _ _ _ (by omega) hSq122 hbad (fun ib Ib Fb tb hb Zb hzb pb kb => hgood _ _ _ _ hb Zb hzb ⟨by have := pb.1; omega, by have := pb.2.1; omega, pb.2.2.1, px_tr (px_tr px_rfl p117) pb.2.2.2⟩ kb) hend) ⟨rfl, trivial⟩
theorem ls_ru (hd : pz_SS (kq T n N X) (rR xs T n N X f0 b0 b1 S0) i dp u I F o) (hs1 : kq T n N X i = 0 ∨ kq T n N X i = 13 → rR xs T n N X f0 b0 b1 S0 1 0 [] i dp u I F (.inl (1 + 16 * tp T n 0 i))) : rL0 xs T n N X f0 b0 b1 S0 t_M_readsUnit 5 6 0 dp u i I F o := by
  intro hpre M D S Q hD h hbad hgood hend
  obtain ⟨⟨d0, d1⟩, hlen, ip⟩ := hpre
  obtain ⟨D, rfl⟩ : ∃ E, D = E + 12 := ⟨D - 12, by omega⟩
  have krS := kq_rg T n N X i
  have nnS := rQ_n h
  obtain ⟨t6, t7, t8, t9⟩ := rL_tk h.1
  have hq := kq_cs T n N X i
  have hsr := sk_rx (lx_si T n 0 (tp T n 0 i))
  refine wa_aload_n (n := 0) rfl ?_
  refine wb_gfi 237 rfl (wy_pr rfl) wt_237 wf_15_6 (v := (S 237 6)) rfl (fun r101 => ?_)
  refine wa_ifeq (w_rg0 (by omega) (by omega)) ⟨_, rfl⟩ (fun c102 => ?_) (fun c102 => ?_)
  · skip
    exact hgood _ _ _ _ (pzS_e hd (by omega)) _ h ⟨by omega, by omega, ip, px_rfl⟩ (by omega)
  · skip
    refine wa_aload_n (n := 0) rfl ?_
    by_cases k0 : kq T n N X i = 13
    · have hd8 := pzS_e hd (by omega)
      refine wa_cv 237 rfl (wy_pr rfl) wt_237 (M2 := fun _ => False) rfl at_M_statement ⟨_, rfl⟩ rfl rfl ⟨(Or.inr ⟨wy_pr rfl, fun q => q⟩), trivial⟩ trivial (fun _ _ q => False.elim q) (r1 (hs1 (by omega)) ⟨⟨by omega, by omega⟩, by omega, ip⟩ _ _ _ (by omega) h) (fun oq Sq hq q => ?_)
      rcases q with ⟨rfl, hf⟩
      exact ⟨rfl, hend _ _ _ _ hd8 (by omega) _ hf⟩
    have hd0 := pzS_n hd (by omega)
    rcases hd0 with ⟨v103, hs104, ho105⟩ | ⟨i106, I107, F108, t109, hs104, hd1⟩
    · refine wa_cv 237 rfl (wy_pr rfl) wt_237 (M2 := fun _ => False) rfl at_M_statement ⟨_, rfl⟩ rfl rfl ⟨(Or.inr ⟨wy_pr rfl, fun q => q⟩), trivial⟩ trivial (fun _ _ q => False.elim q) (r1 hs104 ⟨⟨by omega, by omega⟩, by omega, ip⟩ _ _ _ (by omega) h) (fun oq117 Sq117 hp118 q117 => ?_)
      rcases q117 with ⟨rfl, hf116⟩
      subst ho105
      exact ⟨rfl, (hbad _ rfl _ hf116)⟩
    refine wa_cv 237 rfl (wy_pr rfl) wt_237 (M2 := fun _ => False) rfl at_M_statement ⟨_, rfl⟩ rfl rfl ⟨(Or.inr ⟨wy_pr rfl, fun q => q⟩), trivial⟩ trivial (fun _ _ q => False.elim q) (r1 hs104 ⟨⟨by omega, by omega⟩, by omega, ip⟩ _ _ _ (by omega) h) (fun oq119 Sq119 hp120 q119 => ?_)
    rcases q119 with ⟨rfl, hz110, ⟨p111, p112, p113, p114⟩, e115⟩
    show wJ _ _ _ _ _ _ _ _ _ _
    have hSq119 : rQ T n N X f0 b0 b1 S0 u dp i106 I107 F108 (pA F108) Sq119 := hz110
    have ipSq119 : ((i106 : Nat) : Int) ≤ tp T n 0 i106 := p113
    have krSq119 := kq_rg T n N X i106
    have nnSq119 := rQ_n hSq119
    have lnSq119 := px_len p114
    refine wa_goto ⟨_, rfl⟩ ?_
    exact wJ_S ((r0 hd1).2 ⟨⟨by omega, by omega⟩, by omega, ipSq119⟩ _ _ _ _ (by omega) hSq119 hbad (fun ib Ib Fb tb hb Zb hzb pb kb => hgood _ _ _ _ hb Zb hzb ⟨by have := pb.1; omega, by have := pb.2.1; omega, pb.2.2.1, px_tr (px_tr px_rfl p114) pb.2.2.2⟩ kb) hend) ⟨rfl, trivial⟩
theorem lp_ss (hd : pz_SS (kq T n N X) (rR xs T n N X f0 b0 b1 S0) i dp u I F o) (hs1 : kq T n N X i = 0 ∨ kq T n N X i = 13 → rR xs T n N X f0 b0 b1 S0 1 0 [] i dp u I F (.inl (1 + 16 * tp T n 0 i))) : rR xs T n N X f0 b0 b1 S0 0 0 [] i dp u I F o := ⟨ls_bk hd hs1, ls_ru hd hs1⟩
theorem bk_w (hd : pz_bk (kq T n N X) (tp T n 0) (rR xs T n N X f0 b0 b1 S0) i dp u I F o) : rM xs T n N X f0 b0 b1 S0 0 t_M_block [(0, (2, 237))] (fun _ => none) 2 (fun t _ _ => t = 0) dp u i I F o := by
  intro hpre M D S hD h
  obtain ⟨⟨d0, d1⟩, hlen, ip⟩ := hpre
  obtain ⟨D, rfl⟩ : ∃ E, D = E + 12 := ⟨D - 12, by omega⟩
  have krS := kq_rg T n N X i
  have nnS := rQ_n h
  unfold pz_bk at hd
  refine wa_aload_n (n := 0) rfl ?_
  refine wa_bipush (w_rg2 (by omega) (by omega)) ?_
  refine wa_cv 237 rfl (wy_pr rfl) wt_237 (M2 := fun _ => False) rfl at_M_opens ⟨_, rfl⟩ rfl rfl ⟨(Or.inr ⟨wy_pr rfl, fun q => q⟩), trivial⟩ trivial (fun _ _ q => False.elim q) (opw (S := S) h ip (fun _ => sk_123) ⟨by decide, by decide⟩ ⟨by decide, by decide⟩ ⟨by omega, by omega⟩) (fun oq106 Sq106 hp107 q106 => ?_)
  rcases q106 with ⟨rfl, ⟨ks101, hd5105⟩, hz102, hl103⟩ | ⟨rfl, ks101, hf104⟩ | ⟨rfl, ⟨ks101, hd5105⟩, hf104⟩
  · skip
    show wJ _ _ _ _ _ _ _ _ _ _
    have hSq106 : rQ T n N X f0 b0 b1 S0 u (dp + 1) (i + 1) I F (pA F) Sq106 := hz102
    have ipSq106 : (((i + 1) : Nat) : Int) ≤ tp T n 0 (i + 1) := pI_nx (N := N) (X := X) ip (rQ_n h) ⟨by omega, by omega⟩
    have krSq106 := kq_rg T n N X (i + 1)
    have nnSq106 := rQ_n hSq106
    have hd1 := qop_o hd ks101 hd5105
    refine wa_fall ⟨_, rfl⟩ ?_
    rcases hd1 with ⟨v108, hs109, ho110⟩ | ⟨i111, I112, F113, t114, hs109, hd2⟩
    · refine wJ_S (r0_v ((r0 hs109).1) ⟨⟨by omega, by omega⟩, by omega, ipSq106⟩ (by omega) hSq106 (fun Z115 hz116 => ?_)) ⟨rfl, trivial⟩
      subst ho110
      exact ⟨rfl, hz116⟩
    refine wJ_S (r0_i ((r0 hs109).1) ⟨⟨by omega, by omega⟩, by omega, ipSq106⟩ (by omega) hSq106 (fun Z115 hz116 pp kb => ?_) (fun kb Z115 hz116 => ?_)) ⟨rfl, trivial⟩
    · obtain ⟨p117, p118, p119, p120⟩ := pp
      have hZ115 : rQ T n N X f0 b0 b1 S0 u (dp + 1) i111 I112 F113 (pA F113) Z115 := hz116
      have ipZ115 : ((i111 : Nat) : Int) ≤ tp T n 0 i111 := p119
      have krZ115 := kq_rg T n N X i111
      have nnZ115 := rQ_n hZ115
      have lnZ115 := px_len p120
      have ho := qtt_o hd2 kb
      refine wa_aload_n (n := 0) rfl ?_
      refine wa_bipush (w_rg2 (by omega) (by omega)) ?_
      refine wa_cv 237 rfl (wy_pr rfl) wt_237 (M2 := fun _ => False) rfl at_M_closes ⟨_, rfl⟩ rfl rfl ⟨(Or.inr ⟨wy_pr rfl, fun q => q⟩), trivial⟩ trivial (fun _ _ q => False.elim q) (clw (S := Z115) hZ115 ipZ115 (fun _ => sk_125) ⟨by decide, by decide⟩ ⟨by decide, by decide⟩ ⟨by omega, by omega⟩) (fun oq125 Sq125 hp126 q125 => ?_)
      rcases q125 with ⟨rfl, ks121, hz122, hl123⟩ | ⟨rfl, ks121, hf124⟩
      · skip
        show wJ _ _ _ _ _ _ _ _ _ _
        have hSq125 : rQ T n N X f0 b0 b1 S0 u dp (i111 + 1) I112 F113 (pA F113) Sq125 := (by have z := hz122; rw [show (dp + 1) - 1 = dp by omega] at z; exact z)
        have ipSq125 : (((i111 + 1) : Nat) : Int) ≤ tp T n 0 (i111 + 1) := pI_nx (N := N) (X := X) ipZ115 (rQ_n hZ115) ⟨by omega, by omega⟩
        have krSq125 := kq_rg T n N X (i111 + 1)
        have nnSq125 := rQ_n hSq125
        refine wa_return rfl ?_
        subst ho
        exact ⟨rfl, hSq125, ⟨by omega, by omega, ipSq125, (px_tr px_rfl p120)⟩, rfl⟩
      · skip
        exact absurd kb ks121
    · have ho := qtt_1 hd2 kb
      subst ho
      exact ⟨rfl, hz116⟩
  · skip
    have ho := qop_1 hd ks101
    subst ho
    exact ⟨rfl, ⟨rfl, hf104⟩⟩
  · skip
    have ho := qop_4 hd ks101 hd5105
    subst ho
    exact ⟨rfl, ⟨rfl, hf104⟩⟩
end Wcj
