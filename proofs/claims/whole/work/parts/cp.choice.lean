/-! PART cp: the reference's choice. -/
section Wcp
variable {xs : List (Nat × List Int32)} {M : Nat → Prop} {d : Nat} {A B C S Z S0 : wS} {Q : wO → wS → Prop} {T : Int → Int} {n f0 u dp b0 b1 : Int} {N X : List (List Int)} {c i k pm : Nat} {I : List pz_I} {F : List pz_F} {o : pz_O}
variable {R R2 : pz_R} {K V P : Nat → Int} {v w w0 : Int} {J : List Int} {I0 I1 : List pz_I} {D : Nat} {pp pp2 : pz_O → Prop} {k1 k2 : Nat → List pz_I → List pz_F → Int → pz_O → Prop}
/-- the reference's parser, whatever lies where jumps are free -/
def rRA (xs : List (Nat × List Int32)) (T : Int → Int) (n : Int) (N X : List (List Int)) (f0 b0 b1 : Int) : pz_R := fun k x J i dp u I F o => ∀ S0 : wS, rR xs T n N X f0 b0 b1 S0 k x J i dp u I F o
theorem qmm (h : pz_q pp k1 o) (m : ∀ z : pz_O, pp z → pp2 z) (m2 : ∀ (i : Nat) (I : List pz_I) (F : List pz_F) (t : Int) (z : pz_O), k1 i I F t z → k2 i I F t z) : pz_q pp2 k2 o := by
  rcases h with ⟨v, a, b⟩ | ⟨j, I2, F2, t2, a, b⟩
  · exact Or.inl ⟨v, m _ a, b⟩
  · exact Or.inr ⟨j, I2, F2, t2, m _ a, m2 _ _ _ _ _ b⟩
theorem bk_mo (h : pz_bk K P (rRA xs T n N X f0 b0 b1) i dp u I F o) : pz_bk K P (rR xs T n N X f0 b0 b1 S0) i dp u I F o := by
  unfold pz_bk at h ⊢
  exact qmm h (fun _ q => q) (fun i I F t z q => qmm q (fun _ q => q S0) (fun _ _ _ _ _ q => q))
theorem ch_2 (hX : w_X xs) (hd : if kq T n N X i = 42 then (rRA xs T n N X f0 b0 b1) 3 0 ((I0.length : Int) :: J) i dp u (pz_a (I0 ++ [(20, -9, 0, u)]) I1.length (pz_h (I0 ++ [(20, -9, 0, u)]) u)) F o else pz_q (pz_bk (kq T n N X) (tp T n 0) (rRA xs T n N X f0 b0 b1) i dp u (pz_a (I0 ++ [(20, -9, 0, u)]) I1.length (pz_h (I0 ++ [(20, -9, 0, u)]) u)) F) (fun i I2 F _ o => o = .inr (i, pz_aa I2 (pz_h I2 u) ((I0.length : Int) :: J), F, 0)) o) (hpm : pz_px (I1 ++ [(21, 0, 0, u)]) I0) (hch : chn S0 f0 u (I0 ++ [(20, -9, 0, u)]) ((I0.length : Int) :: J) (pz_h I0 u)) (hJ : ∀ y ∈ J, y.toNat < I1.length) (hpre : rPre T n dp i (I0 ++ [(20, -9, 0, u)])) (hD : 20 * (51 - dp) + 17 ≤ (D : Int)) (h : rQ T n N X f0 b0 b1 S0 u dp i (I0 ++ [(20, -9, 0, u)]) F (pA F) S) : wJ (pe_GA xs) wY0 M D t_M_choice ((pe_at t_M_choice.bl 2).getD (0, [])).2 [(0, (2, 237)), (1, (0, w0)), (2, (0, 0)), (3, (0, pz_h I1 u)), (4, (0, pz_h I0 u))] [] S (fun q Z => match o with | .inl v => q = .inr 238 ∧ rFu T n N X f0 b0 b1 S0 v Z | .inr (i2, I2, F2, _) => q = .inl none ∧ rQ T n N X f0 b0 b1 S0 u dp i2 I2 F2 (pA F2) Z ∧ (i ≤ i2 ∧ I2.length + 1 * i ≤ I0.length + 1 + 1 * i2 ∧ ((i2 : Nat) : Int) ≤ tp T n 0 i2) ∧ ∃ v : Int, 0 ≤ v ∧ pz_px (pz_aa (pz_a (I0 ++ [(20, -9, 0, u)]) I1.length (pz_h (I0 ++ [(20, -9, 0, u)]) u)) v ((I0.length : Int) :: J)) I2) := by
  obtain ⟨⟨d0, d1⟩, hlen, ip⟩ := hpre
  obtain ⟨D, rfl⟩ : ∃ E, D = E + 12 := ⟨D - 12, by omega⟩
  have krS := kq_rg T n N X i
  have nnS := rQ_n h
  have hl0 : (I0 ++ [((20, -9, 0, u) : pz_I)]).length = I0.length + 1 := List.length_append
  have hl1 := px_len1 hpm
  have hne : ∀ y ∈ ((I0.length : Int) :: J), y.toNat ≠ I1.length := fun y hy => by
    rcases List.mem_cons.mp hy with e | e
    · rw [e]; omega
    · have := hJ y e; omega
  have hr1 := pz_h_rg I1 u
  have hr0 := pz_h_rg I0 u
  have hpm2 : pz_px (I1 ++ [(21, 0, 0, u)]) (I0 ++ [(20, -9, 0, u)]) := px_tr hpm (px_ap _ _)
  refine wa_iload (n := 4) rfl ?_
  refine wa_istore_n (n := 1) rfl ?_
  refine wa_aload_n (n := 0) rfl ?_
  refine wb_gf5 237 rfl (wy_pr rfl) wt_237 wf_15_28 (v := (nP (u - f0).toNat : Int)) ((rQ_pp h).2.2.1) (fun r101 => ?_)
  refine wb_gf5 (nP (u - f0).toNat) rfl (rQ_pp h).1 (wt_P0 (by have := (rQ_pp h).2.1; omega)) wf_14_5 (v := ((nP (u - f0).toNat + 3 : Nat) : Int)) ((rQ_pa h).1) (fun r102 => ?_)
  refine wa_iload_n (n := 3) rfl ?_
  refine wa_aload_n (n := 0) rfl ?_
  refine wb_gf5 237 rfl (wy_pr rfl) wt_237 wf_15_28 (v := (nP (u - f0).toNat : Int)) ((rQ_pp h).2.2.1) (fun r103 => ?_)
  refine wa_cv (nP (u - f0).toNat) rfl (rQ_pp h).1 (wt_P0 (by have := (rQ_pp h).2.1; omega)) (M2 := fun _ => False) rfl at_MP_here ⟨_, rfl⟩ rfl rfl ⟨trivial, (Or.inr ⟨wy_pr rfl, fun q => q⟩), trivial, trivial, trivial, trivial⟩ ⟨trivial, (Or.inr ⟨(rQ_pa h).2, fun q => q⟩), trivial⟩ (fun _ _ q => False.elim q) (hew (S := S) h) (fun oq105 Sq105 hp106 q105 => ?_)
  rcases q105 with ⟨rfl, rfl⟩
  show wJ _ _ _ _ _ _ _ _ _ _
  have hr104 := pz_h_rg (I0 ++ [(20, -9, 0, u)]) u
  have lm110 := px_len1 hpm2
  have hc109 := sew (xs := xs) (M := fun _ => False) (d := D + 11) (S := S) (j := I1.length) (z := (21, 0, 0, u)) (v := (pz_h (I0 ++ [(20, -9, 0, u)]) u)) h (by omega) (by omega) (px_get hpm2) rfl ⟨(by show (21 : Int) ≠ 27; decide), (by show (21 : Int) ≠ 24; decide)⟩ ⟨by omega, by omega⟩
  rw [px_take hpm2] at hc109
  refine wa_cv (nP (u - f0).toNat + 3) rfl (rQ_pa h).2 (wt_P2 (by have := (rQ_pp h).2.1; omega) ⟨by decide, by decide⟩) (M2 := fun _ => False) rfl at_MI_set ⟨_, rfl⟩ rfl rfl ⟨trivial, (Or.inr ⟨wy_pr rfl, fun q => q⟩), trivial, trivial, trivial, trivial⟩ trivial (fun _ _ q => False.elim q) (hc109) (fun oq111 Sq111 hp112 q111 => ?_)
  rcases q111 with ⟨rfl, hz107, hy108⟩
  show wJ _ _ _ _ _ _ _ _ _ _
  have hSq111 : rQ T n N X f0 b0 b1 S0 u dp i (pz_a (I0 ++ [(20, -9, 0, u)]) I1.length (pz_h (I0 ++ [(20, -9, 0, u)]) u)) F (pA F) Sq111 := hz107
  have krSq111 := kq_rg T n N X i
  have nnSq111 := rQ_n hSq111
  have hlSq111 : (pz_a (I0 ++ [(20, -9, 0, u)]) I1.length (pz_h (I0 ++ [(20, -9, 0, u)]) u)).length = (I0 ++ [(20, -9, 0, u)]).length := pz_a_len _ _ _
  refine wa_aload_n (n := 0) rfl ?_
  refine wa_ks ?_
  refine wa_cv 237 rfl (wy_pr rfl) wt_237 (M2 := fun _ => False) rfl at_M_isWord ⟨_, rfl⟩ rfl rfl ⟨trivial, (Or.inr ⟨wy_pr rfl, fun q => q⟩), trivial, trivial, trivial, trivial⟩ trivial (fun _ _ q => False.elim q) (wdw (S := Sq111) (k := 2) hSq111 (wx_37 hX) (by decide) (by decide)) (fun oq114 Sq114 hp115 q114 => ?_)
  rcases q114 with ⟨rfl, ⟨rfl, kw113⟩ | ⟨rfl, kw113⟩⟩
  · skip
    show wJ _ _ _ _ _ _ _ _ _ _
    rw [if_pos (by omega)] at hd
    refine wa_istore_n (n := 2) rfl ?_
    refine wa_iload_n (n := 2) rfl ?_
    refine wa_ifne (w_rg0 (by omega) (by omega)) ⟨_, rfl⟩ (fun c116 => ?_) (fun c116 => ?_)
    · skip
      refine wa_goto ⟨_, rfl⟩ ?_
      refine wa_goto ⟨_, rfl⟩ ?_
      refine wJ_S (wJ_mono (r3 (hd S0) ⟨⟨by omega, by omega⟩, by omega, ip⟩ M _ _ (pz_h I0 u) (by omega) hSq111 (chn_a _ _ hch hne) (by omega)) (fun q Z hz => ?_)) ⟨rfl, rfl, rfl, trivial⟩
      rcases o with v | ⟨i2, I2, F2, t2⟩
      · exact hz
      · obtain ⟨a, b, ⟨c1, c2, c3⟩, c4⟩ := hz
        exact ⟨a, b, ⟨by omega, by omega, c3⟩, c4⟩
    · skip
      exact absurd c116 (by omega)
  · skip
    show wJ _ _ _ _ _ _ _ _ _ _
    rw [if_neg (by omega)] at hd
    refine wa_istore_n (n := 2) rfl ?_
    refine wa_iload_n (n := 2) rfl ?_
    refine wa_ifne (w_rg0 (by omega) (by omega)) ⟨_, rfl⟩ (fun c117 => ?_) (fun c117 => ?_)
    · skip
      exact absurd c117 (by omega)
    · skip
      refine wa_aload_n (n := 0) rfl ?_
      rcases hd with ⟨v118, hs119, ho120⟩ | ⟨i121, I122, F123, t124, hs119, hd1⟩
      · refine wa_cv 237 rfl (wy_pr rfl) wt_237 (M2 := fun _ => False) rfl at_M_block ⟨_, rfl⟩ rfl rfl ⟨trivial, trivial, (Or.inr ⟨wy_pr rfl, fun q => q⟩), trivial, trivial, trivial⟩ trivial (fun _ _ q => False.elim q) (bk_w (bk_mo hs119) ⟨⟨by omega, by omega⟩, by omega, ip⟩ _ _ _ (by omega) hSq111) (fun oq132 Sq132 hp133 q132 => ?_)
        rcases q132 with ⟨rfl, hf131⟩
        subst ho120
        exact ⟨rfl, ⟨rfl, hf131⟩⟩
      refine wa_cv 237 rfl (wy_pr rfl) wt_237 (M2 := fun _ => False) rfl at_M_block ⟨_, rfl⟩ rfl rfl ⟨trivial, trivial, (Or.inr ⟨wy_pr rfl, fun q => q⟩), trivial, trivial, trivial⟩ trivial (fun _ _ q => False.elim q) (bk_w (bk_mo hs119) ⟨⟨by omega, by omega⟩, by omega, ip⟩ _ _ _ (by omega) hSq111) (fun oq134 Sq134 hp135 q134 => ?_)
      rcases q134 with ⟨rfl, hz125, ⟨p126, p127, p128, p129⟩, e130⟩
      show wJ _ _ _ _ _ _ _ _ _ _
      have hSq134 : rQ T n N X f0 b0 b1 S0 u dp i121 I122 F123 (pA F123) Sq134 := hz125
      have ipSq134 : ((i121 : Nat) : Int) ≤ tp T n 0 i121 := p128
      have krSq134 := kq_rg T n N X i121
      have nnSq134 := rQ_n hSq134
      have lnSq134 := px_len p129
      refine wa_fall ⟨_, rfl⟩ ?_
      refine wa_goto ⟨_, rfl⟩ ?_
      refine wa_goto ⟨_, rfl⟩ ?_
      refine wa_iload_n (n := 2) rfl ?_
      refine wa_ifeq (w_rg0 (by omega) (by omega)) ⟨_, rfl⟩ (fun c136 => ?_) (fun c136 => ?_)
      · skip
        have hrz := pz_h_rg I122 u
        refine wJ_S (wJ_mono (ch_6 (d := D) (v := pz_h I122 u) hrz.1 _ (pz_h I0 u) _ _ hSq134 (chn_px p129 _ _ (chn_a _ _ hch hne)) (by omega) rfl) (fun q Z hz => ?_)) ⟨rfl, rfl, trivial⟩
        subst hd1
        refine ⟨hz.1, hz.2, ⟨by omega, by rw [pz_aa_len]; omega, ipSq134⟩, pz_h I122 u, hrz.1, aa_px _ _ _ p129 (fun y hy => ?_)⟩
        have := (chn_mem _ _ hch y hy).2.1
        rw [pz_a_len]
        exact this
      · skip
        exact absurd c136 (by omega)
theorem me_ch (hX : w_X xs) (hd : pz_CH (kq T n N X) (tp T n 0) (rRA xs T n N X f0 b0 b1) J i dp u I F o) : (rRA xs T n N X f0 b0 b1) 3 0 J i dp u I F o := by
  intro S0
  show rC3 xs T n N X f0 b0 b1 S0 J dp u i I F o
  intro hpre M D S w hD h hch hk
  obtain ⟨⟨d0, d1⟩, hlen, ip⟩ := hpre
  obtain ⟨D, rfl⟩ : ∃ E, D = E + 12 := ⟨D - 12, by omega⟩
  have krS := kq_rg T n N X i
  have nnS := rQ_n h
  have hwr := chn_rg hch
  have hmem := chn_mem J w hch
  unfold pz_CH pz_cd at hd
  have hd0 := qas hd
  refine wa_iload_n (n := 2) rfl ?_
  refine wa_ifeq (w_rg0 (by omega) (by omega)) ⟨_, rfl⟩ (fun c101 => ?_) (fun c101 => ?_)
  · skip
    exact absurd c101 (by omega)
  · skip
    refine wa_aload_n (n := 0) rfl ?_
    refine wa_cv 237 rfl (wy_pr rfl) wt_237 (M2 := fun _ => False) rfl at_M_next ⟨_, rfl⟩ rfl rfl ⟨(Or.inr ⟨wy_pr rfl, fun q => q⟩), trivial, trivial, trivial⟩ trivial (fun _ _ q => False.elim q) (nxw (S := S) h ⟨by omega, by omega, by omega, by omega, by omega⟩) (fun oq104 Sq104 hp105 q104 => ?_)
    rcases q104 with ⟨rfl, hz102, hl103⟩
    show wJ _ _ _ _ _ _ _ _ _ _
    have hSq104 : rQ T n N X f0 b0 b1 S0 u dp (i + 1) I F (pA F) Sq104 := hz102
    have ipSq104 : (((i + 1) : Nat) : Int) ≤ tp T n 0 (i + 1) := pI_nx (N := N) (X := X) ip (rQ_n h) ⟨by omega, by omega⟩
    have krSq104 := kq_rg T n N X (i + 1)
    have nnSq104 := rQ_n hSq104
    refine wa_aload_n (n := 0) rfl ?_
    refine wa_bipush (w_rg2 (by omega) (by omega)) ?_
    refine wa_cv 237 rfl (wy_pr rfl) wt_237 (M2 := fun _ => False) rfl at_M_opens ⟨_, rfl⟩ rfl rfl ⟨(Or.inr ⟨wy_pr rfl, fun q => q⟩), trivial, trivial, trivial⟩ trivial (fun _ _ q => False.elim q) (opw (S := Sq104) hSq104 ipSq104 (fun _ => sk_40) ⟨by decide, by decide⟩ ⟨by decide, by decide⟩ ⟨by omega, by omega⟩) (fun oq111 Sq111 hp112 q111 => ?_)
    rcases q111 with ⟨rfl, ⟨ks106, hd5110⟩, hz107, hl108⟩ | ⟨rfl, ks106, hf109⟩ | ⟨rfl, ⟨ks106, hd5110⟩, hf109⟩
    · skip
      show wJ _ _ _ _ _ _ _ _ _ _
      have hSq111 : rQ T n N X f0 b0 b1 S0 u (dp + 1) (i + 2) I F (pA F) Sq111 := hz107
      have ipSq111 : (((i + 2) : Nat) : Int) ≤ tp T n 0 (i + 2) := pI_nx (N := N) (X := X) ipSq104 (rQ_n hSq104) ⟨by omega, by omega⟩
      have krSq111 := kq_rg T n N X (i + 2)
      have nnSq111 := rQ_n hSq111
      have hd1 := qop_o hd0 ks106 hd5110
      have hd2 := qas2 hd1
      refine wa_aload_n (n := 0) rfl ?_
      rcases hd2 with ⟨v113, hs114, ho115⟩ | ⟨i116, I117, F118, t119, hs114, hd3⟩
      · refine wa_cv 237 rfl (wy_pr rfl) wt_237 (M2 := fun _ => False) rfl at_M_value ⟨_, rfl⟩ rfl rfl ⟨(Or.inr ⟨wy_pr rfl, fun q => q⟩), trivial, trivial, trivial⟩ trivial (fun _ _ q => False.elim q) (r4 (hs114 S0) ⟨⟨by omega, by omega⟩, by omega, ipSq111⟩ _ _ _ (by omega) hSq111) (fun oq127 Sq127 hp128 q127 => ?_)
        rcases q127 with ⟨rfl, hf126⟩
        subst ho115
        exact ⟨rfl, ⟨rfl, hf126⟩⟩
      refine wa_cv 237 rfl (wy_pr rfl) wt_237 (M2 := fun _ => False) rfl at_M_value ⟨_, rfl⟩ rfl rfl ⟨(Or.inr ⟨wy_pr rfl, fun q => q⟩), trivial, trivial, trivial⟩ trivial (fun _ _ q => False.elim q) (r4 (hs114 S0) ⟨⟨by omega, by omega⟩, by omega, ipSq111⟩ _ _ _ (by omega) hSq111) (fun oq129 Sq129 hp130 q129 => ?_)
      rcases q129 with ⟨rfl, hz120, ⟨p121, p122, p123, p124⟩, e125⟩
      show wJ _ _ _ _ _ _ _ _ _ _
      have hSq129 : rQ T n N X f0 b0 b1 S0 u (dp + 1) i116 I117 F118 (pA F118) Sq129 := hz120
      have ipSq129 : ((i116 : Nat) : Int) ≤ tp T n 0 i116 := p123
      have krSq129 := kq_rg T n N X i116
      have nnSq129 := rQ_n hSq129
      have lnSq129 := px_len p124
      refine wa_aload_n (n := 0) rfl ?_
      refine wa_bipush (w_rg2 (by omega) (by omega)) ?_
      refine wa_cv 237 rfl (wy_pr rfl) wt_237 (M2 := fun _ => False) rfl at_M_closes ⟨_, rfl⟩ rfl rfl ⟨(Or.inr ⟨wy_pr rfl, fun q => q⟩), trivial, trivial, trivial⟩ trivial (fun _ _ q => False.elim q) (clw (S := Sq129) hSq129 ipSq129 (fun _ => sk_41) ⟨by decide, by decide⟩ ⟨by decide, by decide⟩ ⟨by omega, by omega⟩) (fun oq135 Sq135 hp136 q135 => ?_)
      rcases q135 with ⟨rfl, ks131, hz132, hl133⟩ | ⟨rfl, ks131, hf134⟩
      · skip
        show wJ _ _ _ _ _ _ _ _ _ _
        have hSq135 : rQ T n N X f0 b0 b1 S0 u dp (i116 + 1) I117 F118 (pA F118) Sq135 := (by have z := hz132; rw [show (dp + 1) - 1 = dp by omega] at z; exact z)
        have ipSq135 : (((i116 + 1) : Nat) : Int) ≤ tp T n 0 (i116 + 1) := pI_nx (N := N) (X := X) ipSq129 (rQ_n hSq129) ⟨by omega, by omega⟩
        have krSq135 := kq_rg T n N X (i116 + 1)
        have nnSq135 := rQ_n hSq135
        have hd4 := qtk_o hd3 ks131
        refine wa_aload_n (n := 0) rfl ?_
        refine wb_gf5 237 rfl (wy_pr rfl) wt_237 wf_15_28 (v := (nP (u - f0).toNat : Int)) ((rQ_pp hSq135).2.2.1) (fun r137 => ?_)
        refine wa_cv (nP (u - f0).toNat) rfl (rQ_pp hSq135).1 (wt_P0 (by have := (rQ_pp h).2.1; omega)) (M2 := fun _ => False) rfl at_MP_here ⟨_, rfl⟩ rfl rfl ⟨(Or.inr ⟨wy_pr rfl, fun q => q⟩), trivial, trivial, trivial⟩ trivial (fun _ _ q => False.elim q) (hew (S := Sq135) hSq135) (fun oq139 Sq139 hp140 q139 => ?_)
        rcases q139 with ⟨rfl, rfl⟩
        show wJ _ _ _ _ _ _ _ _ _ _
        have hr138 := pz_h_rg I117 u
        refine wa_istore_n (n := 3) rfl ?_
        refine wa_aload_n (n := 0) rfl ?_
        refine wa_bipush (w_rg2 (by omega) (by omega)) ?_
        refine wa_iconst ?_
        refine wa_iconst ?_
        refine wa_cv 237 rfl (wy_pr rfl) wt_237 (M2 := fun _ => False) rfl at_M_emits ⟨_, rfl⟩ rfl rfl ⟨trivial, (Or.inr ⟨wy_pr rfl, fun q => q⟩), trivial, trivial, trivial⟩ trivial (fun _ _ q => False.elim q) (emw (S := Sq135) (x := (21, 0, 0, u)) hSq135 (by omega) rfl (by show (21 : Int) ≠ 27; decide) rfl ⟨by omega, by omega⟩ ⟨by omega, by omega⟩ ⟨by omega, by omega⟩) (fun oq144 Sq144 hp145 q144 => ?_)
        rcases q144 with ⟨rfl, hz141, l61142, l60143⟩
        show wJ _ _ _ _ _ _ _ _ _ _
        have hSq144 : rQ T n N X f0 b0 b1 S0 u dp (i116 + 1) (I117 ++ [(21, 0, 0, u)]) F118 (pA F118) Sq144 := hz141
        have krSq144 := kq_rg T n N X (i116 + 1)
        have nnSq144 := rQ_n hSq144
        have hlSq144 : (I117 ++ [(21, 0, 0, u)]).length = I117.length + 1 := List.length_append
        refine wa_aload_n (n := 0) rfl ?_
        rcases hd4 with ⟨v146, hs147, ho148⟩ | ⟨i149, I150, F151, t152, hs147, hd5⟩
        · refine wa_cv 237 rfl (wy_pr rfl) wt_237 (M2 := fun _ => False) rfl at_M_block ⟨_, rfl⟩ rfl rfl ⟨trivial, (Or.inr ⟨wy_pr rfl, fun q => q⟩), trivial, trivial, trivial⟩ trivial (fun _ _ q => False.elim q) (bk_w (bk_mo hs147) ⟨⟨by omega, by omega⟩, by omega, ipSq135⟩ _ _ _ (by omega) hSq144) (fun oq160 Sq160 hp161 q160 => ?_)
          rcases q160 with ⟨rfl, hf159⟩
          subst ho148
          exact ⟨rfl, ⟨rfl, hf159⟩⟩
        refine wa_cv 237 rfl (wy_pr rfl) wt_237 (M2 := fun _ => False) rfl at_M_block ⟨_, rfl⟩ rfl rfl ⟨trivial, (Or.inr ⟨wy_pr rfl, fun q => q⟩), trivial, trivial, trivial⟩ trivial (fun _ _ q => False.elim q) (bk_w (bk_mo hs147) ⟨⟨by omega, by omega⟩, by omega, ipSq135⟩ _ _ _ (by omega) hSq144) (fun oq162 Sq162 hp163 q162 => ?_)
        rcases q162 with ⟨rfl, hz153, ⟨p154, p155, p156, p157⟩, e158⟩
        show wJ _ _ _ _ _ _ _ _ _ _
        have hSq162 : rQ T n N X f0 b0 b1 S0 u dp i149 I150 F151 (pA F151) Sq162 := hz153
        have ipSq162 : ((i149 : Nat) : Int) ≤ tp T n 0 i149 := p156
        have krSq162 := kq_rg T n N X i149
        have nnSq162 := rQ_n hSq162
        have lnSq162 := px_len p157
        refine wa_iconst ?_
        refine wa_istore_n (n := 2) rfl ?_
        refine wa_aload_n (n := 0) rfl ?_
        refine wa_ks ?_
        refine wa_cv 237 rfl (wy_pr rfl) wt_237 (M2 := fun _ => False) rfl at_M_isWord ⟨_, rfl⟩ rfl rfl ⟨trivial, trivial, (Or.inr ⟨wy_pr rfl, fun q => q⟩), trivial, trivial⟩ trivial (fun _ _ q => False.elim q) (wdw (S := Sq162) (k := 3) hSq162 (wx_29 hX) (by decide) (by decide)) (fun oq165 Sq165 hp166 q165 => ?_)
        rcases q165 with ⟨rfl, ⟨rfl, kw164⟩ | ⟨rfl, kw164⟩⟩
        · skip
          show wJ _ _ _ _ _ _ _ _ _ _
          rw [if_pos (by omega)] at hd5
          refine wa_ifeq (w_rg0 (by omega) (by omega)) ⟨_, rfl⟩ (fun c167 => ?_) (fun c167 => ?_)
          · skip
            exact absurd c167 (by omega)
          · skip
            refine wa_aload_n (n := 0) rfl ?_
            refine wa_cv 237 rfl (wy_pr rfl) wt_237 (M2 := fun _ => False) rfl at_M_next ⟨_, rfl⟩ rfl rfl ⟨trivial, trivial, (Or.inr ⟨wy_pr rfl, fun q => q⟩), trivial, trivial⟩ trivial (fun _ _ q => False.elim q) (nxw (S := Sq162) hSq162 ⟨by omega, by omega, by omega, by omega, by omega⟩) (fun oq170 Sq170 hp171 q170 => ?_)
            rcases q170 with ⟨rfl, hz168, hl169⟩
            show wJ _ _ _ _ _ _ _ _ _ _
            have hSq170 : rQ T n N X f0 b0 b1 S0 u dp (i149 + 1) I150 F151 (pA F151) Sq170 := hz168
            have ipSq170 : (((i149 + 1) : Nat) : Int) ≤ tp T n 0 (i149 + 1) := pI_nx (N := N) (X := X) ipSq162 (rQ_n hSq162) ⟨by omega, by omega⟩
            have krSq170 := kq_rg T n N X (i149 + 1)
            have nnSq170 := rQ_n hSq170
            refine wa_aload_n (n := 0) rfl ?_
            refine wb_gf5 237 rfl (wy_pr rfl) wt_237 wf_15_28 (v := (nP (u - f0).toNat : Int)) ((rQ_pp hSq170).2.2.1) (fun r172 => ?_)
            refine wa_cv (nP (u - f0).toNat) rfl (rQ_pp hSq170).1 (wt_P0 (by have := (rQ_pp h).2.1; omega)) (M2 := fun _ => False) rfl at_MP_here ⟨_, rfl⟩ rfl rfl ⟨trivial, trivial, (Or.inr ⟨wy_pr rfl, fun q => q⟩), trivial, trivial⟩ trivial (fun _ _ q => False.elim q) (hew (S := Sq170) hSq170) (fun oq174 Sq174 hp175 q174 => ?_)
            rcases q174 with ⟨rfl, rfl⟩
            show wJ _ _ _ _ _ _ _ _ _ _
            have hr173 := pz_h_rg I150 u
            refine wa_istore (n := 4) rfl ?_
            refine wa_aload_n (n := 0) rfl ?_
            refine wa_bipush (w_rg2 (by omega) (by omega)) ?_
            refine wa_iload_n (n := 1) rfl ?_
            refine wa_iconst ?_
            have hfz : ∀ (j : Nat) (x : Int), (j < 2000000 ∨ 4000000 ≤ j) → S0 j x = (w_up S0 (nP (u - f0).toNat + 5) (pz_h I150 u) w) j x := fun j x hj => (w_up_slot (by have := (rQ_pp h).2.1; unfold nP; omega)).symm
            have hr0 := pz_h_rg I150 u
            have hg1 : rQ T n N X f0 b0 b1 (w_up S0 (nP (u - f0).toNat + 5) (pz_h I150 u) w) u dp (i149 + 1) I150 F151 (pA F151) Sq170 := rQ_g hSq170 hfz (fun k j hk hj e => by
              refine ((w_up_no ?_).symm)
              have e1 := (rl_len f0 (f0 + (k : Int)) I150).1
              by_cases e2 : k = (u - f0).toNat
              · rw [e2] at hj e1
                have e3 : f0 + (((u - f0).toNat : Nat) : Int) = u := by have := hSq170.2.2.1.2.1; omega
                rw [e3] at hj e1
                exact fun z => by have := z.2; omega
              · exact fun z => by have := z.1; unfold nP at this; omega)
            refine wa_cv 237 rfl (wy_pr rfl) wt_237 (M2 := fun _ => False) rfl at_M_emits ⟨_, rfl⟩ rfl rfl ⟨trivial, trivial, trivial, (Or.inr ⟨wy_pr rfl, fun q => q⟩), trivial, trivial⟩ trivial (fun _ _ q => False.elim q) (emg (S0 := (w_up S0 (nP (u - f0).toNat + 5) (pz_h I150 u) w)) (x := (20, -9, 0, u)) hg1 (by omega) rfl (by show (20 : Int) ≠ 27; decide) ⟨rfl, rfl⟩ (fun _ => ?_) ⟨by omega, by omega⟩ ⟨by omega, by omega⟩ ⟨by omega, by omega⟩) (fun oq Sq hq q => ?_)
            · show w = gA (w_up S0 (nP (u - f0).toNat + 5) (pz_h I150 u) w) (u - f0).toNat (pz_h I150 u).toNat (-9)
              rw [gA_9, show (((pz_h I150 u).toNat : Nat) : Int) = pz_h I150 u by omega, w_up_same]
            rcases q with ⟨rfl, hzq, -, -⟩
            show wJ _ _ _ _ _ _ _ _ _ _
            refine wa_fall ⟨_, rfl⟩ ?_
            have hl0 : (I150 ++ [((20, -9, 0, u) : pz_I)]).length = I150.length + 1 := List.length_append
            have hIp : pz_px I I150 := (px_tr (px_tr (px_tr px_rfl p124) (px_ap I117 (21, 0, 0, u))) p157)
            have hl9 := px_len hIp
            have hpm1 : pz_px (I117 ++ [(21, 0, 0, u)]) I150 := (px_tr px_rfl p157)
            have hl8 := px_len1 hpm1
            have hII : I.length ≤ I117.length := by omega
            have hcn : chn (w_up S0 (nP (u - f0).toNat + 5) (pz_h I150 u) w) f0 u I150 J w := chn_S J w (chn_px hIp J w hch) (fun y hy e => by
              have q1 := hmem y hy
              have q2 := h_lt (u := u) (I := I150) (t := y.toNat) (by omega) ((gD_px hIp q1.2.1).trans q1.2.2) rfl
              omega)
            have hcn2 : chn (w_up S0 (nP (u - f0).toNat + 5) (pz_h I150 u) w) f0 u (I150 ++ [(20, -9, 0, u)]) ((I150.length : Int) :: J) (pz_h I150 u) := by
              have ei : ((I150.length : Int)).toNat = I150.length := by omega
              refine ⟨⟨?_, ⟨by omega, by rw [ei]; omega⟩, ?_, fun y hy => ?_⟩, w, fun _ => w_up_same _ _ _ _, chn_px (px_ap _ _) J w hcn⟩
              · rw [ei, List.take_left]
              · rw [ei, gD_r]
              · have q1 := hmem y hy; omega
            refine wJ_S (wJ_mono (ch_2 (S0 := (w_up S0 (nP (u - f0).toNat + 5) (pz_h I150 u) w)) (I1 := I117) (w0 := w) hX hd5 hpm1 hcn2 (fun y hy => by have q1 := hmem y hy; omega) ⟨⟨by omega, by omega⟩, by omega, ipSq170⟩ (by omega) hzq) (fun q Z hz => ?_)) ⟨rfl, rfl, rfl, rfl, rfl, trivial⟩
            rcases o with v | ⟨i2, I2, F2, t2⟩
            · exact ⟨hz.1, rFu_g hz.2 (fun j x hj => (hfz j x hj).symm)⟩
            · obtain ⟨a, b, ⟨c1, c2, c3⟩, v, c4, c5⟩ := hz
              have ei : ((I150.length : Int)).toNat = I150.length := by omega
              have hx1 : pz_px I (pz_a (pz_a (I150 ++ [(20, -9, 0, u)]) I117.length (pz_h (I150 ++ [(20, -9, 0, u)]) u)) I150.length v) := px_a (px_a (px_tr hIp (px_ap _ _)) hII) hl9
              have hx2 := aa_px (v := v) J _ _ hx1 (fun y hy => (hmem y hy).2.1)
              have c5b : pz_px (pz_aa (pz_a (pz_a (I150 ++ [(20, -9, 0, u)]) I117.length (pz_h (I150 ++ [(20, -9, 0, u)]) u)) I150.length v) v J) I2 := by
                have z : pz_px (pz_aa (pz_a (pz_a (I150 ++ [(20, -9, 0, u)]) I117.length (pz_h (I150 ++ [(20, -9, 0, u)]) u)) ((I150.length : Int)).toNat v) v J) I2 := c5
                rw [ei] at z
                exact z
              have hlI : (pz_a (pz_a (I150 ++ [(20, -9, 0, u)]) I117.length (pz_h (I150 ++ [(20, -9, 0, u)]) u)) I150.length v).length = I150.length + 1 := (pz_a_len _ _ _).trans ((pz_a_len _ _ _).trans hl0)
              have hl2 := px_len c5b
              rw [pz_aa_len, hlI] at hl2
              have hget : I2.getD I150.length (0, 0, 0, 0) = (20, v, 0, u) := by
                rw [gD_px c5b (by rw [pz_aa_len, hlI]; omega), aa_get J _ (fun y hy => by have q1 := hmem y hy; omega) (by rw [hlI]; omega), pz_a_get (by rw [pz_a_len, hl0]; omega), if_pos rfl, pz_a_get (by omega), if_neg (by omega), gD_r]
              have hhp : pz_h (I2.take I150.length) u = pz_h I150 u := by
                rw [tk_px c5b (by rw [pz_aa_len, hlI]; omega), aa_h, h_tk, h_tk, List.take_left]
              refine ⟨a, rQ_g b (fun j x hj => (hfz j x hj).symm) (fun k j hk hj e => ?_), ⟨by omega, by omega, c3⟩, v, c4, px_tr hx2 c5b⟩
              refine w_up_no ?_
              by_cases e2 : k = (u - f0).toNat
              · have e3 : f0 + (k : Int) = u := by have := hSq170.2.2.1.2.1; omega
                refine fun z4 => ?_
                have e4 := z4.2
                by_cases e5 : I150.length < 20000
                · obtain ⟨-, y2⟩ := rl_at (f0 := f0) (k := k) (I := I2) (j := I150.length) (by omega) hget e3.symm e5
                  rw [e3, hhp, show (pz_h I150 u).toNat = j by omega] at y2
                  rw [e3, y2] at e
                  have e6 : v = -9 := e
                  omega
                · have y1 := rl_le (f0 := f0) (I := I2) (x := u) (t := I150.length) (by omega)
                  rw [e3] at hj
                  omega
              · exact fun z => by have := z.1; unfold nP at this; omega
        · skip
          show wJ _ _ _ _ _ _ _ _ _ _
          rw [if_neg (by omega)] at hd5
          refine wa_ifeq (w_rg0 (by omega) (by omega)) ⟨_, rfl⟩ (fun c176 => ?_) (fun c176 => ?_)
          · skip
            refine wa_aload_n (n := 0) rfl ?_
            refine wb_gf5 237 rfl (wy_pr rfl) wt_237 wf_15_28 (v := (nP (u - f0).toNat : Int)) ((rQ_pp hSq162).2.2.1) (fun r177 => ?_)
            refine wb_gf5 (nP (u - f0).toNat) rfl (rQ_pp hSq162).1 (wt_P0 (by have := (rQ_pp h).2.1; omega)) wf_14_5 (v := ((nP (u - f0).toNat + 3 : Nat) : Int)) ((rQ_pa hSq162).1) (fun r178 => ?_)
            refine wa_iload_n (n := 3) rfl ?_
            refine wa_aload_n (n := 0) rfl ?_
            refine wb_gf5 237 rfl (wy_pr rfl) wt_237 wf_15_28 (v := (nP (u - f0).toNat : Int)) ((rQ_pp hSq162).2.2.1) (fun r179 => ?_)
            refine wa_cv (nP (u - f0).toNat) rfl (rQ_pp hSq162).1 (wt_P0 (by have := (rQ_pp h).2.1; omega)) (M2 := fun _ => False) rfl at_MP_here ⟨_, rfl⟩ rfl rfl ⟨trivial, trivial, (Or.inr ⟨wy_pr rfl, fun q => q⟩), trivial, trivial⟩ ⟨trivial, (Or.inr ⟨(rQ_pa hSq162).2, fun q => q⟩), trivial⟩ (fun _ _ q => False.elim q) (hew (S := Sq162) hSq162) (fun oq181 Sq181 hp182 q181 => ?_)
            rcases q181 with ⟨rfl, rfl⟩
            show wJ _ _ _ _ _ _ _ _ _ _
            have hr180 := pz_h_rg I150 u
            have lm186 := px_len1 (px_tr px_rfl p157)
            have hc185 := sew (xs := xs) (M := fun _ => False) (d := D + 11) (S := Sq162) (j := I117.length) (z := (21, 0, 0, u)) (v := (pz_h I150 u)) hSq162 (by omega) (by omega) (px_get (px_tr px_rfl p157)) rfl ⟨(by show (21 : Int) ≠ 27; decide), (by show (21 : Int) ≠ 24; decide)⟩ ⟨by omega, by omega⟩
            rw [px_take (px_tr px_rfl p157)] at hc185
            refine wa_cv (nP (u - f0).toNat + 3) rfl (rQ_pa hSq162).2 (wt_P2 (by have := (rQ_pp h).2.1; omega) ⟨by decide, by decide⟩) (M2 := fun _ => False) rfl at_MI_set ⟨_, rfl⟩ rfl rfl ⟨trivial, trivial, (Or.inr ⟨wy_pr rfl, fun q => q⟩), trivial, trivial⟩ trivial (fun _ _ q => False.elim q) (hc185) (fun oq187 Sq187 hp188 q187 => ?_)
            rcases q187 with ⟨rfl, hz183, hy184⟩
            show wJ _ _ _ _ _ _ _ _ _ _
            have hSq187 : rQ T n N X f0 b0 b1 S0 u dp i149 (pz_a I150 I117.length (pz_h I150 u)) F151 (pA F151) Sq187 := hz183
            have krSq187 := kq_rg T n N X i149
            have nnSq187 := rQ_n hSq187
            have hlSq187 : (pz_a I150 I117.length (pz_h I150 u)).length = I150.length := pz_a_len _ _ _
            refine wa_fall ⟨_, rfl⟩ ?_
            refine wa_goto ⟨_, rfl⟩ ?_
            refine wa_iload_n (n := 2) rfl ?_
            refine wa_ifeq (w_rg0 (by omega) (by omega)) ⟨_, rfl⟩ (fun c189 => ?_) (fun c189 => ?_)
            · skip
              have hrz := pz_h_rg I150 u
              have hIp : pz_px I (pz_a I150 I117.length (pz_h I150 u)) := (px_a (px_tr (px_tr (px_tr px_rfl p124) (px_ap I117 (21, 0, 0, u))) p157) (by omega))
              refine wJ_S (wJ_mono (ch_6 (d := D) (v := pz_h I150 u) hrz.1 J w _ _ hSq187 (chn_px hIp J w hch) (by omega) (pz_a_h _ _ _ _)) (fun q Z hz => ?_)) ⟨rfl, rfl, trivial⟩
              subst hd5
              exact ⟨hz.1, hz.2, ⟨by omega, by rw [pz_aa_len]; omega, ipSq162⟩, pz_h I150 u, hrz.1, aa_px J _ _ hIp (fun y hy => (hmem y hy).2.1)⟩
            · skip
              exact absurd c189 (by omega)
          · skip
            exact absurd c176 (by omega)
      · skip
        have ho := qtk_1 hd3 ks131
        subst ho
        exact ⟨rfl, ⟨rfl, hf134⟩⟩
    · skip
      have ho := qop_1 hd0 ks106
      subst ho
      exact ⟨rfl, ⟨rfl, hf109⟩⟩
    · skip
      have ho := qop_4 hd0 ks106 hd5110
      subst ho
      exact ⟨rfl, ⟨rfl, hf109⟩⟩
end Wcp
