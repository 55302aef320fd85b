/-! PART ch: the reference's objects, makers, built-in functions. -/
section Wch
variable {xs : List (Nat × List Int32)} {M : Nat → Prop} {d : Nat} {A B C S Z S0 : wS} {Q : wO → wS → Prop} {T : Int → Int} {n f0 u dp b0 b1 : Int} {N X : List (List Int)} {c i k pm : Nat} {I : List pz_I} {F : List pz_F} {o : pz_O}
variable {R : pz_R} {K V P : Nat → Int} {x t v k0 off : Int} {J : List Int} {i2 D bh be : Nat} {I2 : List pz_I} {F2 : List pz_F} {mt : pe_Mt} {L : wL} {Lx : Int → wL} {AA : Nat → Int → Prop} {c : Prop} {p p2 : pz_O → Prop} {k1 kk : Nat → List pz_I → List pz_F → Int → pz_O → Prop}
theorem qif_r [Decidable c] (h : pz_q (fun o => if c then o = .inr (i, I, F, t) else p2 o) kk o) (hc : c) : kk i I F t o := by
  rcases h with ⟨v, a, b⟩ | ⟨j, I2, F2, t2, a, b⟩
  · have a2 : (if c then (Sum.inl v : pz_O) = .inr (i, I, F, t) else p2 (.inl v)) := a
    rw [if_pos hc] at a2
    exact absurd a2 (by simp)
  · have a2 : (if c then (Sum.inr (j, I2, F2, t2) : pz_O) = .inr (i, I, F, t) else p2 (.inr (j, I2, F2, t2))) := a
    rw [if_pos hc] at a2
    obtain ⟨rfl, rfl, rfl, rfl⟩ : j = i ∧ I2 = I ∧ F2 = F ∧ t2 = t := by simpa using a2
    exact b
theorem qif_n [Decidable c] (h : pz_q (fun o => if c then p o else p2 o) kk o) (hc : ¬ c) : pz_q p2 kk o := by
  rcases h with ⟨v, a, b⟩ | ⟨j, I2, F2, t2, a, b⟩
  · have a2 : (if c then p (.inl v) else p2 (.inl v)) := a
    rw [if_neg hc] at a2
    exact Or.inl ⟨v, a2, b⟩
  · have a2 : (if c then p (.inr (j, I2, F2, t2)) else p2 (.inr (j, I2, F2, t2))) := a
    rw [if_neg hc] at a2
    exact Or.inr ⟨j, I2, F2, t2, a2, b⟩
theorem qas2 (h : pz_q (pz_q p k1) kk o) : pz_q p (fun i I F t => pz_q (k1 i I F t) kk) o := by
  rcases h with ⟨v, q, c⟩ | ⟨j, I2, F2, t2, q, c⟩
  · rcases q with ⟨v2, a, b⟩ | ⟨j, I2, F2, t2, a, b⟩
    · exact Or.inl ⟨v2, a, c.trans b⟩
    · exact Or.inr ⟨j, I2, F2, t2, a, Or.inl ⟨v, b, c⟩⟩
  · rcases q with ⟨v2, a, b⟩ | ⟨j3, I3, F3, t3, a, b⟩
    · exact absurd b (by simp)
    · exact Or.inr ⟨j3, I3, F3, t3, a, Or.inr ⟨j, I2, F2, t2, b, c⟩⟩
theorem qas {z : pz_O} (h : pz_q (pz_qf z k1) kk o) : pz_qf z (fun i I F t => pz_q (k1 i I F t) kk) o := qas2 h
theorem rq_i (h : rLq xs T n N X f0 b0 b1 S0 off mt bh be L Lx AA dp u i I F (.inr (i2, I2, F2, t))) (hp : rPre T n dp i I) (hD : 20 * (51 - dp) + off ≤ (D : Int)) (hq : rQ T n N X f0 b0 b1 S0 u dp i I F (pA F) S) (hg : ∀ Z : wS, rQ T n N X f0 b0 b1 S0 u dp i2 I2 F2 (pA F2) Z → rPst T n i I 0 i2 I2 → AA i2 t → wJ (pe_GA xs) wY0 M D mt ((pe_at mt.bl be).getD (0, [])).2 (Lx t) [] Z Q) : wJ (pe_GA xs) wY0 M D mt ((pe_at mt.bl bh).getD (0, [])).2 L [] S Q :=
  h hp M D S Q hD hq (fun v e => absurd e (by simp)) (fun ib Ib Fb tb e Z h1 h2 h3 => by
    obtain ⟨rfl, rfl, rfl, rfl⟩ : i2 = ib ∧ I2 = Ib ∧ F2 = Fb ∧ t = tb := by simpa using e
    exact hg Z h1 h2 h3)
theorem rq_v (h : rLq xs T n N X f0 b0 b1 S0 off mt bh be L Lx AA dp u i I F (.inl v)) (hp : rPre T n dp i I) (hD : 20 * (51 - dp) + off ≤ (D : Int)) (hq : rQ T n N X f0 b0 b1 S0 u dp i I F (pA F) S) (hb : ∀ Z : wS, rFu T n N X f0 b0 b1 S0 v Z → Q (.inr 238) Z) : wJ (pe_GA xs) wY0 M D mt ((pe_at mt.bl bh).getD (0, [])).2 L [] S Q :=
  h hp M D S Q hD hq (fun w e => by
    obtain rfl : v = w := by simpa using e
    exact hb) (fun ib Ib Fb tb e => absurd e (by simp))
theorem rq_i1 (h : rLq1 xs T n N X f0 b0 b1 S0 off mt bh be L Lx AA dp u i I F (.inr (i2, I2, F2, t))) (hp : rPre T n dp i I) (hD : 20 * (51 - dp) + off ≤ (D : Int)) (hq : rQ T n N X f0 b0 b1 S0 u dp i I F (pA F) S) (hg : ∀ Z : wS, rQ T n N X f0 b0 b1 S0 u dp i2 I2 F2 (pA F2) Z → rPsq T n i I i2 I2 → AA i2 t → wJ (pe_GA xs) wY0 M D mt ((pe_at mt.bl be).getD (0, [])).2 (Lx t) [] Z Q) : wJ (pe_GA xs) wY0 M D mt ((pe_at mt.bl bh).getD (0, [])).2 L [] S Q :=
  h hp M D S Q hD hq (fun v e => absurd e (by simp)) (fun ib Ib Fb tb e Z h1 h2 h3 => by
    obtain ⟨rfl, rfl, rfl, rfl⟩ : i2 = ib ∧ I2 = Ib ∧ F2 = Fb ∧ t = tb := by simpa using e
    exact hg Z h1 h2 h3)
theorem rq_v1 (h : rLq1 xs T n N X f0 b0 b1 S0 off mt bh be L Lx AA dp u i I F (.inl v)) (hp : rPre T n dp i I) (hD : 20 * (51 - dp) + off ≤ (D : Int)) (hq : rQ T n N X f0 b0 b1 S0 u dp i I F (pA F) S) (hb : ∀ Z : wS, rFu T n N X f0 b0 b1 S0 v Z → Q (.inr 238) Z) : wJ (pe_GA xs) wY0 M D mt ((pe_at mt.bl bh).getD (0, [])).2 L [] S Q :=
  h hp M D S Q hD hq (fun w e => by
    obtain rfl : v = w := by simpa using e
    exact hb) (fun ib Ib Fb tb e => absurd e (by simp))
theorem r9_0 (h : rR xs T n N X f0 b0 b1 S0 9 0 J i dp u I F o) : rM xs T n N X f0 b0 b1 S0 3 t_M_first [(0, (2, 237)), (1, (0, 0))] (fun t => some (0, t)) 1 (tE u I.length) dp u i I F o := r9 (x := 0) ⟨by decide, by decide⟩ h
theorem ob_w (hd : pz_FI12 (kq T n N X) (tp T n 0) (rR xs T n N X f0 b0 b1 S0) i dp u I F o) : rM xs T n N X f0 b0 b1 S0 0 t_M_object [(0, (2, 237))] (fun _ => none) 1 (fun t _ _ => t = 0) dp u i I F o := by
  intro hpre M D S hD h
  obtain ⟨⟨d0, d1⟩, hlen, ip⟩ := hpre
  obtain ⟨D, rfl⟩ : ∃ E, D = E + 12 := ⟨D - 12, by omega⟩
  have krS := kq_rg T n N X i
  have nnS := rQ_n h
  unfold pz_FI12 at hd
  refine wa_aload_n (n := 0) rfl ?_
  refine wa_bipush (w_rg2 (by omega) (by omega)) ?_
  refine wa_cv 237 rfl (wy_pr rfl) wt_237 (M2 := fun _ => False) rfl at_M_opens ⟨_, rfl⟩ rfl rfl ⟨(Or.inr ⟨wy_pr rfl, fun q => q⟩), trivial⟩ trivial (fun _ _ q => False.elim q) (opw (S := S) h ip (fun _ => sk_123) ⟨by decide, by decide⟩ ⟨by decide, by decide⟩ ⟨by omega, by omega⟩) (fun oq106 Sq106 hp107 q106 => ?_)
  rcases q106 with ⟨rfl, ⟨ks101, hd5105⟩, hz102, hl103⟩ | ⟨rfl, ks101, hf104⟩ | ⟨rfl, ⟨ks101, hd5105⟩, hf104⟩
  · skip
    show wJ _ _ _ _ _ _ _ _ _ _
    have hSq106 : rQ T n N X f0 b0 b1 S0 u (dp + 1) (i + 1) I F (pA F) Sq106 := hz102
    have ipSq106 : (((i + 1) : Nat) : Int) ≤ tp T n 0 (i + 1) := pI_nx (N := N) (X := X) ip (rQ_n h) ⟨by omega, by omega⟩
    have krSq106 := kq_rg T n N X (i + 1)
    have nnSq106 := rQ_n hSq106
    have hd1 := qop_o hd ks101 hd5105
    refine wa_aload_n (n := 0) rfl ?_
    refine wa_bipush (w_rg2 (by omega) (by omega)) ?_
    refine wa_iconst ?_
    refine wa_iconst ?_
    refine wa_cv 237 rfl (wy_pr rfl) wt_237 (M2 := fun _ => False) rfl at_M_emits ⟨_, rfl⟩ rfl rfl ⟨(Or.inr ⟨wy_pr rfl, fun q => q⟩), trivial⟩ trivial (fun _ _ q => False.elim q) (emw (S := Sq106) (x := (26, 0, 0, u)) hSq106 (by omega) rfl (by show (26 : Int) ≠ 27; decide) rfl ⟨by omega, by omega⟩ ⟨by omega, by omega⟩ ⟨by omega, by omega⟩) (fun oq111 Sq111 hp112 q111 => ?_)
    rcases q111 with ⟨rfl, hz108, l61109, l60110⟩
    show wJ _ _ _ _ _ _ _ _ _ _
    have hSq111 : rQ T n N X f0 b0 b1 S0 u (dp + 1) (i + 1) (I ++ [(26, 0, 0, u)]) F (pA F) Sq111 := hz108
    have krSq111 := kq_rg T n N X (i + 1)
    have nnSq111 := rQ_n hSq111
    have hlSq111 : (I ++ [(26, 0, 0, u)]).length = I.length + 1 := List.length_append
    refine wa_aload_n (n := 0) rfl ?_
    refine wa_bipush (w_rg2 (by omega) (by omega)) ?_
    refine wa_cv 237 rfl (wy_pr rfl) wt_237 (M2 := fun _ => False) rfl at_M_isSign ⟨_, rfl⟩ rfl rfl ⟨(Or.inr ⟨wy_pr rfl, fun q => q⟩), trivial⟩ trivial (fun _ _ q => False.elim q) (isw (S := Sq111) hSq111 (fun _ => sk_125) ⟨by decide, by decide⟩ ⟨by decide, by decide⟩) (fun oq114 Sq114 hp115 q114 => ?_)
    rcases q114 with ⟨rfl, ⟨rfl, ks113⟩ | ⟨rfl, ks113⟩⟩
    · skip
      show wJ _ _ _ _ _ _ _ _ _ _
      have hd2 := qif_r hd1 ks113
      refine wa_ifne (w_rg0 (by omega) (by omega)) ⟨_, rfl⟩ (fun c116 => ?_) (fun c116 => ?_)
      · skip
        refine wa_iconst ?_
        refine wa_fall ⟨_, rfl⟩ ?_
        refine wa_istore_n (n := 1) rfl ?_
        refine wa_fall ⟨_, rfl⟩ ?_
        refine wa_iload_n (n := 1) rfl ?_
        refine wa_ifeq (w_rg0 (by omega) (by omega)) ⟨_, rfl⟩ (fun c117 => ?_) (fun c117 => ?_)
        · skip
          refine wa_aload_n (n := 0) rfl ?_
          refine wa_bipush (w_rg2 (by omega) (by omega)) ?_
          refine wa_cv 237 rfl (wy_pr rfl) wt_237 (M2 := fun _ => False) rfl at_M_closes ⟨_, rfl⟩ rfl rfl ⟨trivial, (Or.inr ⟨wy_pr rfl, fun q => q⟩), trivial⟩ trivial (fun _ _ q => False.elim q) (clw (S := Sq111) hSq111 ipSq106 (fun _ => sk_125) ⟨by decide, by decide⟩ ⟨by decide, by decide⟩ ⟨by omega, by omega⟩) (fun oq122 Sq122 hp123 q122 => ?_)
          rcases q122 with ⟨rfl, ks118, hz119, hl120⟩ | ⟨rfl, ks118, hf121⟩
          · skip
            show wJ _ _ _ _ _ _ _ _ _ _
            have hSq122 : rQ T n N X f0 b0 b1 S0 u dp (i + 2) (I ++ [(26, 0, 0, u)]) F (pA F) Sq122 := (by have z := hz119; rw [show (dp + 1) - 1 = dp by omega] at z; exact z)
            have ipSq122 : (((i + 2) : Nat) : Int) ≤ tp T n 0 (i + 2) := pI_nx (N := N) (X := X) ipSq106 (rQ_n hSq111) ⟨by omega, by omega⟩
            have krSq122 := kq_rg T n N X (i + 2)
            have nnSq122 := rQ_n hSq122
            have hd4 := qtk_o hd2 ks118
            refine wa_return rfl ?_
            subst hd4
            exact ⟨rfl, hSq122, ⟨by omega, by omega, ipSq122, (px_tr px_rfl (px_ap _ _))⟩, rfl⟩
          · skip
            have ho := qtk_1 hd2 ks118
            subst ho
            exact ⟨rfl, ⟨rfl, hf121⟩⟩
        · skip
          exact absurd c117 (by omega)
      · skip
        exact absurd c116 (by omega)
    · skip
      show wJ _ _ _ _ _ _ _ _ _ _
      have hd2 := qif_n hd1 ks113
      refine wa_ifne (w_rg0 (by omega) (by omega)) ⟨_, rfl⟩ (fun c124 => ?_) (fun c124 => ?_)
      · skip
        exact absurd c124 (by omega)
      · skip
        refine wa_iconst ?_
        refine wa_goto ⟨_, rfl⟩ ?_
        refine wa_istore_n (n := 1) rfl ?_
        refine wa_fall ⟨_, rfl⟩ ?_
        rcases hd2 with ⟨v125, hs126, ho127⟩ | ⟨i128, I129, F130, t131, hs126, hd5⟩
        · refine wJ_S (rq_v1 (r13 hs126) ⟨⟨by omega, by omega⟩, by omega, ipSq106⟩ (by omega) hSq111 (fun Z132 hz133 => ?_)) ⟨rfl, rfl, trivial⟩
          subst ho127
          exact ⟨rfl, hz133⟩
        refine wJ_S (rq_i1 (r13 hs126) ⟨⟨by omega, by omega⟩, by omega, ipSq106⟩ (by omega) hSq111 (fun Z132 hz133 pp134 ea139 => ?_)) ⟨rfl, rfl, trivial⟩
        obtain ⟨p135, p136, p137, p138⟩ := pp134
        have hZ132 : rQ T n N X f0 b0 b1 S0 u (dp + 1) i128 I129 F130 (pA F130) Z132 := hz133
        have ipZ132 : ((i128 : Nat) : Int) ≤ tp T n 0 i128 := p137
        have krZ132 := kq_rg T n N X i128
        have nnZ132 := rQ_n hZ132
        have lnZ132 := px_len p138
        refine wa_aload_n (n := 0) rfl ?_
        refine wa_bipush (w_rg2 (by omega) (by omega)) ?_
        refine wa_cv 237 rfl (wy_pr rfl) wt_237 (M2 := fun _ => False) rfl at_M_closes ⟨_, rfl⟩ rfl rfl ⟨(Or.inr ⟨wy_pr rfl, fun q => q⟩), trivial⟩ trivial (fun _ _ q => False.elim q) (clw (S := Z132) hZ132 ipZ132 (fun _ => sk_125) ⟨by decide, by decide⟩ ⟨by decide, by decide⟩ ⟨by omega, by omega⟩) (fun oq144 Sq144 hp145 q144 => ?_)
        rcases q144 with ⟨rfl, ks140, hz141, hl142⟩ | ⟨rfl, ks140, hf143⟩
        · skip
          show wJ _ _ _ _ _ _ _ _ _ _
          have hSq144 : rQ T n N X f0 b0 b1 S0 u dp (i128 + 1) I129 F130 (pA F130) Sq144 := (by have z := hz141; rw [show (dp + 1) - 1 = dp by omega] at z; exact z)
          have ipSq144 : (((i128 + 1) : Nat) : Int) ≤ tp T n 0 (i128 + 1) := pI_nx (N := N) (X := X) ipZ132 (rQ_n hZ132) ⟨by omega, by omega⟩
          have krSq144 := kq_rg T n N X (i128 + 1)
          have nnSq144 := rQ_n hSq144
          have hd6 := qtk_o hd5 ks140
          refine wa_return rfl ?_
          subst hd6
          exact ⟨rfl, hSq144, ⟨by omega, by omega, ipSq144, (px_tr (px_tr px_rfl (px_ap _ _)) p138)⟩, rfl⟩
        · skip
          have ho := qtk_1 hd5 ks140
          subst ho
          exact ⟨rfl, ⟨rfl, hf143⟩⟩
  · skip
    have ho := qop_1 hd ks101
    subst ho
    exact ⟨rfl, ⟨rfl, hf104⟩⟩
  · skip
    have ho := qop_4 hd ks101 hd5105
    subst ho
    exact ⟨rfl, ⟨rfl, hf104⟩⟩
theorem mk_w (hX : w_X xs) (hd : pz_q ((rR xs T n N X f0 b0 b1 S0) 9 0 [] i dp u I F) (fun i I F _ => pz_q ((rR xs T n N X f0 b0 b1 S0) 14 0 [] i dp u I F) (fun i I F _ => pz_q (pz_es (kq T n N X) (tp T n 0) (rR xs T n N X f0 b0 b1 S0) i dp u I F) (fun i I F t o => o = .inr (i + 1, I ++ [(27, 6 + 16 * t, -1, u)], F, 0)))) o) : rM xs T n N X f0 b0 b1 S0 4 t_M_maker [(0, (2, 237))] (fun _ => none) 1 (fun t _ _ => t = 0) dp u i I F o := by
  intro hpre M D S hD h
  obtain ⟨⟨d0, d1⟩, hlen, ip⟩ := hpre
  obtain ⟨D, rfl⟩ : ∃ E, D = E + 12 := ⟨D - 12, by omega⟩
  have krS := kq_rg T n N X i
  have nnS := rQ_n h
  refine wa_aload_n (n := 0) rfl ?_
  refine wa_iconst ?_
  rcases hd with ⟨v101, hs102, ho103⟩ | ⟨i104, I105, F106, t107, hs102, hd1⟩
  · refine wa_cv 237 rfl (wy_pr rfl) wt_237 (M2 := fun _ => False) rfl at_M_first ⟨_, rfl⟩ rfl rfl ⟨(Or.inr ⟨wy_pr rfl, fun q => q⟩), trivial⟩ trivial (fun _ _ q => False.elim q) (r9_0 hs102 ⟨⟨by omega, by omega⟩, by omega, ip⟩ _ _ _ (by omega) h) (fun oq115 Sq115 hp116 q115 => ?_)
    rcases q115 with ⟨rfl, hf114⟩
    subst ho103
    exact ⟨rfl, ⟨rfl, hf114⟩⟩
  refine wa_cv 237 rfl (wy_pr rfl) wt_237 (M2 := fun _ => False) rfl at_M_first ⟨_, rfl⟩ rfl rfl ⟨(Or.inr ⟨wy_pr rfl, fun q => q⟩), trivial⟩ trivial (fun _ _ q => False.elim q) (r9_0 hs102 ⟨⟨by omega, by omega⟩, by omega, ip⟩ _ _ _ (by omega) h) (fun oq117 Sq117 hp118 q117 => ?_)
  rcases q117 with ⟨rfl, hz108, ⟨p109, p110, p111, p112⟩, e113⟩
  show wJ _ _ _ _ _ _ _ _ _ _
  have hSq117 : rQ T n N X f0 b0 b1 S0 u dp i104 I105 F106 (pA F106) Sq117 := hz108
  have ipSq117 : ((i104 : Nat) : Int) ≤ tp T n 0 i104 := p111
  have krSq117 := kq_rg T n N X i104
  have nnSq117 := rQ_n hSq117
  have lnSq117 := px_len p112
  refine wa_pop (by decide) ?_
  refine wa_iconst ?_
  refine wa_istore_n (n := 1) rfl ?_
  refine wa_fall ⟨_, rfl⟩ ?_
  rcases hd1 with ⟨v119, hs120, ho121⟩ | ⟨i122, I123, F124, t125, hs120, hd2⟩
  · refine wJ_S (rq_v (r14 hs120) ⟨⟨by omega, by omega⟩, by omega, ipSq117⟩ (by omega) hSq117 (fun Z126 hz127 => ?_)) ⟨rfl, rfl, trivial⟩
    subst ho121
    exact ⟨rfl, hz127⟩
  refine wJ_S (rq_i (r14 hs120) ⟨⟨by omega, by omega⟩, by omega, ipSq117⟩ (by omega) hSq117 (fun Z126 hz127 pp128 ea133 => ?_)) ⟨rfl, rfl, trivial⟩
  obtain ⟨p129, p130, p131, p132⟩ := pp128
  have hZ126 : rQ T n N X f0 b0 b1 S0 u dp i122 I123 F124 (pA F124) Z126 := hz127
  have ipZ126 : ((i122 : Nat) : Int) ≤ tp T n 0 i122 := p131
  have krZ126 := kq_rg T n N X i122
  have nnZ126 := rQ_n hZ126
  have lnZ126 := px_len p132
  refine wa_aload_n (n := 0) rfl ?_
  rcases hd2 with ⟨v134, hs135, ho136⟩ | ⟨i137, I138, F139, t140, hs135, hd3⟩
  · refine wa_cv 237 rfl (wy_pr rfl) wt_237 (M2 := fun _ => False) rfl at_M_values ⟨_, rfl⟩ rfl rfl ⟨(Or.inr ⟨wy_pr rfl, fun q => q⟩), trivial⟩ trivial (fun _ _ q => False.elim q) (va_w hX hs135 ⟨⟨by omega, by omega⟩, by omega, ipZ126⟩ _ _ _ (by omega) hZ126) (fun oq148 Sq148 hp149 q148 => ?_)
    rcases q148 with ⟨rfl, hf147⟩
    subst ho136
    exact ⟨rfl, ⟨rfl, hf147⟩⟩
  refine wa_cv 237 rfl (wy_pr rfl) wt_237 (M2 := fun _ => False) rfl at_M_values ⟨_, rfl⟩ rfl rfl ⟨(Or.inr ⟨wy_pr rfl, fun q => q⟩), trivial⟩ trivial (fun _ _ q => False.elim q) (va_w hX hs135 ⟨⟨by omega, by omega⟩, by omega, ipZ126⟩ _ _ _ (by omega) hZ126) (fun oq150 Sq150 hp151 q150 => ?_)
  rcases q150 with ⟨rfl, hz141, ⟨p142, p143, p144, p145⟩, e146⟩
  show wJ _ _ _ _ _ _ _ _ _ _
  have hSq150 : rQ T n N X f0 b0 b1 S0 u dp (i137 + 1) I138 F139 (pA F139) Sq150 := hz141
  have ipSq150 : (((i137 + 1) : Nat) : Int) ≤ tp T n 0 (i137 + 1) := p144
  have krSq150 := kq_rg T n N X (i137 + 1)
  have nnSq150 := rQ_n hSq150
  have lnSq150 := px_len p145
  have eAe146 := e146.1
  have eBe146 := e146.2
  refine wa_istore_n (n := 2) rfl ?_
  refine wa_aload_n (n := 0) rfl ?_
  refine wa_bipush (w_rg2 (by omega) (by omega)) ?_
  refine wa_iconst ?_
  refine wa_iload_n (n := 2) rfl ?_
  refine wa_cv 237 rfl (wy_pr rfl) wt_237 (M2 := fun _ => False) rfl at_M_newSite ⟨_, rfl⟩ rfl rfl ⟨trivial, (Or.inr ⟨wy_pr rfl, fun q => q⟩), trivial⟩ trivial (fun _ _ q => False.elim q) (nsw (S := Sq150) (x := (27, 6 + 16 * t140, (-1), u)) hSq150 (by omega) ⟨by omega, by omega⟩ ⟨by omega, by omega⟩ ⟨by omega, by omega⟩ rfl) (fun oq155 Sq155 hp156 q155 => ?_)
  rcases q155 with ⟨rfl, hz152, l61153, l60154⟩
  show wJ _ _ _ _ _ _ _ _ _ _
  have hSq155 : rQ T n N X f0 b0 b1 S0 u dp (i137 + 1) (I138 ++ [(27, 6 + 16 * t140, (-1), u)]) F139 (pA F139) Sq155 := hz152
  have krSq155 := kq_rg T n N X (i137 + 1)
  have nnSq155 := rQ_n hSq155
  have hlSq155 : (I138 ++ [(27, 6 + 16 * t140, (-1), u)]).length = I138.length + 1 := List.length_append
  refine wa_return rfl ?_
  subst hd3
  exact ⟨rfl, hSq155, ⟨by omega, by omega, ipSq150, (px_tr (px_tr (px_tr (px_tr px_rfl p112) p132) p145) (px_ap _ _))⟩, rfl⟩
theorem bu_w (hx107 : pe_at (pe_GA xs).xs 107 = some (1, tx_101)) (hk : 54 ≤ k0 ∧ k0 < 62) (hd : pz_q (pz_es (kq T n N X) (tp T n 0) (rR xs T n N X f0 b0 b1 S0) i dp u I F) (fun j I F t o => o = if t ≠ pz_wa k0 then pz_fa (tp T n 0) 5 j else .inr (j + 1, I ++ [(28, k0 - 54, 0, u)], F, 0)) o) : rM xs T n N X f0 b0 b1 S0 0 t_M_builtin [(0, (2, 237)), (1, (0, k0 - 54))] (fun _ => none) 1 (fun t _ _ => t = 0) dp u i I F o := by
  intro hpre M D S hD h
  obtain ⟨⟨d0, d1⟩, hlen, ip⟩ := hpre
  obtain ⟨D, rfl⟩ : ∃ E, D = E + 12 := ⟨D - 12, by omega⟩
  have krS := kq_rg T n N X i
  have nnS := rQ_n h
  unfold pz_es at hd
  have hd0 := qas hd
  have htl : tx_101.length = 8 := rfl
  have hwa : 1 ≤ pz_wa k0 ∧ pz_wa k0 ≤ 2 := by
    unfold pz_wa
    split <;> exact ⟨by decide, by decide⟩
  refine wa_aload_n (n := 0) rfl ?_
  refine wa_bipush (w_rg2 (by omega) (by omega)) ?_
  refine wa_cv 237 rfl (wy_pr rfl) wt_237 (M2 := fun _ => False) rfl at_M_opens ⟨_, rfl⟩ rfl rfl ⟨(Or.inr ⟨wy_pr rfl, fun q => q⟩), trivial, trivial⟩ trivial (fun _ _ q => False.elim q) (opw (S := S) h ip (fun _ => sk_40) ⟨by decide, by decide⟩ ⟨by decide, by decide⟩ ⟨by omega, by omega⟩) (fun oq106 Sq106 hp107 q106 => ?_)
  rcases q106 with ⟨rfl, ⟨ks101, hd5105⟩, hz102, hl103⟩ | ⟨rfl, ks101, hf104⟩ | ⟨rfl, ⟨ks101, hd5105⟩, hf104⟩
  · skip
    show wJ _ _ _ _ _ _ _ _ _ _
    have hSq106 : rQ T n N X f0 b0 b1 S0 u (dp + 1) (i + 1) I F (pA F) Sq106 := hz102
    have ipSq106 : (((i + 1) : Nat) : Int) ≤ tp T n 0 (i + 1) := pI_nx (N := N) (X := X) ip (rQ_n h) ⟨by omega, by omega⟩
    have krSq106 := kq_rg T n N X (i + 1)
    have nnSq106 := rQ_n hSq106
    have hd1 := qop_o hd0 ks101 hd5105
    refine wa_iconst ?_
    refine wa_istore_n (n := 2) rfl ?_
    refine wa_aload_n (n := 0) rfl ?_
    refine wa_bipush (w_rg2 (by omega) (by omega)) ?_
    refine wa_cv 237 rfl (wy_pr rfl) wt_237 (M2 := fun _ => False) rfl at_M_isSign ⟨_, rfl⟩ rfl rfl ⟨trivial, (Or.inr ⟨wy_pr rfl, fun q => q⟩), trivial, trivial⟩ trivial (fun _ _ q => False.elim q) (isw (S := Sq106) hSq106 (fun _ => sk_41) ⟨by decide, by decide⟩ ⟨by decide, by decide⟩) (fun oq109 Sq109 hp110 q109 => ?_)
    rcases q109 with ⟨rfl, ⟨rfl, ks108⟩ | ⟨rfl, ks108⟩⟩
    · skip
      show wJ _ _ _ _ _ _ _ _ _ _
      have hd2 := qif_r hd1 ks108
      have k11 := ks108
      refine wa_ifne (w_rg0 (by omega) (by omega)) ⟨_, rfl⟩ (fun c111 => ?_) (fun c111 => ?_)
      · skip
        refine wa_iconst ?_
        refine wa_fall ⟨_, rfl⟩ ?_
        refine wa_istore_n (n := 3) rfl ?_
        refine wa_fall ⟨_, rfl⟩ ?_
        refine wa_iload_n (n := 3) rfl ?_
        refine wa_ifeq (w_rg0 (by omega) (by omega)) ⟨_, rfl⟩ (fun c112 => ?_) (fun c112 => ?_)
        · skip
          refine wa_aload_n (n := 0) rfl ?_
          refine wa_aload_n (n := 0) rfl ?_
          refine wa_bipush (w_rg2 (by omega) (by omega)) ?_
          refine wa_cv 237 rfl (wy_pr rfl) wt_237 (M2 := fun _ => False) rfl at_M_isSign ⟨_, rfl⟩ rfl rfl ⟨trivial, trivial, (Or.inr ⟨wy_pr rfl, fun q => q⟩), trivial, trivial⟩ ⟨(Or.inr ⟨wy_pr rfl, fun q => q⟩), trivial⟩ (fun _ _ q => False.elim q) (isw (S := Sq106) hSq106 (fun _ => sk_41) ⟨by decide, by decide⟩ ⟨by decide, by decide⟩) (fun oq114 Sq114 hp115 q114 => ?_)
          rcases q114 with ⟨rfl, ⟨rfl, ks113⟩ | ⟨rfl, ks113⟩⟩
          · skip
            show wJ _ _ _ _ _ _ _ _ _ _
            refine wa_iconst ?_
            refine wa_cv 237 rfl (wy_pr rfl) wt_237 (M2 := fun _ => False) rfl at_M_must ⟨_, rfl⟩ rfl rfl ⟨trivial, trivial, (Or.inr ⟨wy_pr rfl, fun q => q⟩), trivial, trivial⟩ trivial (fun _ _ q => False.elim q) (must_ok (S := Sq106) (g := 1) (n := 1) (by omega) ⟨by omega, by omega⟩) (fun oq117 Sq117 hp118 q117 => ?_)
            rcases q117 with ⟨hg116, rfl, rfl⟩ | ⟨hg116, rfl, rfl⟩
            · skip
              show wJ _ _ _ _ _ _ _ _ _ _
              refine wa_aload_n (n := 0) rfl ?_
              refine wa_iload_n (n := 2) rfl ?_
              refine wa_gs ?_
              refine wa_iload_n (n := 1) rfl ?_
              refine wb_xald 107 rfl hx107 (by decide) (by omega) (by omega) (v := (pz_wa k0)) (wa_101 hk) (fun r119 => ?_)
              refine wa_icmpne (w_rg0 (by omega) (by omega)) (w_rg0 (by omega) (by omega)) ⟨_, rfl⟩ (fun c120 => ?_) (fun c120 => ?_)
              · skip
                refine wa_iconst ?_
                refine wa_fall ⟨_, rfl⟩ ?_
                refine wa_iconst ?_
                refine wa_cv 237 rfl (wy_pr rfl) wt_237 (M2 := fun _ => False) rfl at_M_must ⟨_, rfl⟩ rfl rfl ⟨trivial, trivial, (Or.inr ⟨wy_pr rfl, fun q => q⟩), trivial, trivial⟩ trivial (fun _ _ q => False.elim q) (must_ok (S := Sq106) (g := 0) (n := 5) (by omega) ⟨by omega, by omega⟩) (fun oq122 Sq122 hp123 q122 => ?_)
                rcases q122 with ⟨hg121, rfl, rfl⟩ | ⟨hg121, rfl, rfl⟩
                · skip
                  exact absurd hg121 (by decide)
                · skip
                  have ho := (show o = .inl (5 + 16 * (tp T n 0 (i + 1))) from (by rw [if_pos (by omega)] at hd2; exact hd2))
                  subst ho
                  exact ⟨rfl, ⟨rfl, (rFu_mk hSq106 ipSq106)⟩⟩
              · skip
                refine wa_iconst ?_
                refine wa_goto ⟨_, rfl⟩ ?_
                refine wa_iconst ?_
                refine wa_cv 237 rfl (wy_pr rfl) wt_237 (M2 := fun _ => False) rfl at_M_must ⟨_, rfl⟩ rfl rfl ⟨trivial, trivial, (Or.inr ⟨wy_pr rfl, fun q => q⟩), trivial, trivial⟩ trivial (fun _ _ q => False.elim q) (must_ok (S := Sq106) (g := 1) (n := 5) (by omega) ⟨by omega, by omega⟩) (fun oq125 Sq125 hp126 q125 => ?_)
                rcases q125 with ⟨hg124, rfl, rfl⟩ | ⟨hg124, rfl, rfl⟩
                · skip
                  show wJ _ _ _ _ _ _ _ _ _ _
                  refine wa_aload_n (n := 0) rfl ?_
                  refine wa_bipush (w_rg2 (by omega) (by omega)) ?_
                  refine wa_cv 237 rfl (wy_pr rfl) wt_237 (M2 := fun _ => False) rfl at_M_closes ⟨_, rfl⟩ rfl rfl ⟨trivial, trivial, (Or.inr ⟨wy_pr rfl, fun q => q⟩), trivial, trivial⟩ trivial (fun _ _ q => False.elim q) (clw (S := Sq106) hSq106 ipSq106 (fun _ => sk_41) ⟨by decide, by decide⟩ ⟨by decide, by decide⟩ ⟨by omega, by omega⟩) (fun oq131 Sq131 hp132 q131 => ?_)
                  rcases q131 with ⟨rfl, ks127, hz128, hl129⟩ | ⟨rfl, ks127, hf130⟩
                  · skip
                    show wJ _ _ _ _ _ _ _ _ _ _
                    have hSq131 : rQ T n N X f0 b0 b1 S0 u dp (i + 2) I F (pA F) Sq131 := (by have z := hz128; rw [show (dp + 1) - 1 = dp by omega] at z; exact z)
                    have ipSq131 : (((i + 2) : Nat) : Int) ≤ tp T n 0 (i + 2) := pI_nx (N := N) (X := X) ipSq106 (rQ_n hSq106) ⟨by omega, by omega⟩
                    have krSq131 := kq_rg T n N X (i + 2)
                    have nnSq131 := rQ_n hSq131
                    refine wa_aload_n (n := 0) rfl ?_
                    refine wa_bipush (w_rg2 (by omega) (by omega)) ?_
                    refine wa_iload_n (n := 1) rfl ?_
                    refine wa_iconst ?_
                    refine wa_cv 237 rfl (wy_pr rfl) wt_237 (M2 := fun _ => False) rfl at_M_emits ⟨_, rfl⟩ rfl rfl ⟨trivial, trivial, (Or.inr ⟨wy_pr rfl, fun q => q⟩), trivial, trivial⟩ trivial (fun _ _ q => False.elim q) (emw (S := Sq131) (x := (28, (k0 - 54), 0, u)) hSq131 (by omega) rfl (by show (28 : Int) ≠ 27; decide) rfl ⟨by omega, by omega⟩ ⟨by omega, by omega⟩ ⟨by omega, by omega⟩) (fun oq136 Sq136 hp137 q136 => ?_)
                    rcases q136 with ⟨rfl, hz133, l61134, l60135⟩
                    show wJ _ _ _ _ _ _ _ _ _ _
                    have hSq136 : rQ T n N X f0 b0 b1 S0 u dp (i + 2) (I ++ [(28, (k0 - 54), 0, u)]) F (pA F) Sq136 := hz133
                    have krSq136 := kq_rg T n N X (i + 2)
                    have nnSq136 := rQ_n hSq136
                    have hlSq136 : (I ++ [(28, (k0 - 54), 0, u)]).length = I.length + 1 := List.length_append
                    refine wa_return rfl ?_
                    rw [if_neg (by omega)] at hd2
                    subst hd2
                    exact ⟨rfl, hSq136, ⟨by omega, by omega, ipSq131, (px_tr px_rfl (px_ap _ _))⟩, rfl⟩
                  · skip
                    exact absurd k11 ks127
                · skip
                  exact absurd hg124 (by decide)
            · skip
              exact absurd hg116 (by decide)
          · skip
            exact absurd k11 ks113
        · skip
          exact absurd c112 (by omega)
      · skip
        exact absurd c111 (by omega)
    · skip
      show wJ _ _ _ _ _ _ _ _ _ _
      have hd2 := qif_n hd1 ks108
      refine wa_ifne (w_rg0 (by omega) (by omega)) ⟨_, rfl⟩ (fun c138 => ?_) (fun c138 => ?_)
      · skip
        exact absurd c138 (by omega)
      · skip
        refine wa_iconst ?_
        refine wa_goto ⟨_, rfl⟩ ?_
        refine wa_istore_n (n := 3) rfl ?_
        refine wa_fall ⟨_, rfl⟩ ?_
        rcases hd2 with ⟨v139, hs140, ho141⟩ | ⟨i142, I143, F144, t145, hs140, hd4⟩
        · refine wJ_S (rq_v ((r11 (x := 0) ⟨by decide, by decide⟩ hs140).2 (k0 - 54)) ⟨⟨by omega, by omega⟩, by omega, ipSq106⟩ (by omega) hSq106 (fun Z146 hz147 => ?_)) ⟨rfl, rfl, rfl, rfl, trivial⟩
          subst ho141
          exact ⟨rfl, hz147⟩
        refine wJ_S (rq_i ((r11 (x := 0) ⟨by decide, by decide⟩ hs140).2 (k0 - 54)) ⟨⟨by omega, by omega⟩, by omega, ipSq106⟩ (by omega) hSq106 (fun Z146 hz147 pp148 ea153 => ?_)) ⟨rfl, rfl, rfl, rfl, trivial⟩
        obtain ⟨p149, p150, p151, p152⟩ := pp148
        have hZ146 : rQ T n N X f0 b0 b1 S0 u (dp + 1) i142 I143 F144 (pA F144) Z146 := hz147
        have ipZ146 : ((i142 : Nat) : Int) ≤ tp T n 0 i142 := p151
        have krZ146 := kq_rg T n N X i142
        have nnZ146 := rQ_n hZ146
        have lnZ146 := px_len p152
        have k11 := ea153.1
        have tAea153 := ea153.2.1
        have tBea153 := ea153.2.2
        refine wa_aload_n (n := 0) rfl ?_
        refine wa_aload_n (n := 0) rfl ?_
        refine wa_bipush (w_rg2 (by omega) (by omega)) ?_
        refine wa_cv 237 rfl (wy_pr rfl) wt_237 (M2 := fun _ => False) rfl at_M_isSign ⟨_, rfl⟩ rfl rfl ⟨(Or.inr ⟨wy_pr rfl, fun q => q⟩), trivial, trivial, trivial⟩ ⟨(Or.inr ⟨wy_pr rfl, fun q => q⟩), trivial⟩ (fun _ _ q => False.elim q) (isw (S := Z146) hZ146 (fun _ => sk_41) ⟨by decide, by decide⟩ ⟨by decide, by decide⟩) (fun oq155 Sq155 hp156 q155 => ?_)
        rcases q155 with ⟨rfl, ⟨rfl, ks154⟩ | ⟨rfl, ks154⟩⟩
        · skip
          show wJ _ _ _ _ _ _ _ _ _ _
          refine wa_iconst ?_
          refine wa_cv 237 rfl (wy_pr rfl) wt_237 (M2 := fun _ => False) rfl at_M_must ⟨_, rfl⟩ rfl rfl ⟨(Or.inr ⟨wy_pr rfl, fun q => q⟩), trivial, trivial, trivial⟩ trivial (fun _ _ q => False.elim q) (must_ok (S := Z146) (g := 1) (n := 1) (by omega) ⟨by omega, by omega⟩) (fun oq158 Sq158 hp159 q158 => ?_)
          rcases q158 with ⟨hg157, rfl, rfl⟩ | ⟨hg157, rfl, rfl⟩
          · skip
            show wJ _ _ _ _ _ _ _ _ _ _
            refine wa_aload_n (n := 0) rfl ?_
            refine wa_iload_n (n := 2) rfl ?_
            refine wa_gs ?_
            refine wa_iload_n (n := 1) rfl ?_
            refine wb_xald 107 rfl hx107 (by decide) (by omega) (by omega) (v := (pz_wa k0)) (wa_101 hk) (fun r160 => ?_)
            refine wa_icmpne (w_rg0 (by omega) (by omega)) (w_rg0 (by omega) (by omega)) ⟨_, rfl⟩ (fun c161 => ?_) (fun c161 => ?_)
            · skip
              refine wa_iconst ?_
              refine wa_fall ⟨_, rfl⟩ ?_
              refine wa_iconst ?_
              refine wa_cv 237 rfl (wy_pr rfl) wt_237 (M2 := fun _ => False) rfl at_M_must ⟨_, rfl⟩ rfl rfl ⟨(Or.inr ⟨wy_pr rfl, fun q => q⟩), trivial, trivial, trivial⟩ trivial (fun _ _ q => False.elim q) (must_ok (S := Z146) (g := 0) (n := 5) (by omega) ⟨by omega, by omega⟩) (fun oq163 Sq163 hp164 q163 => ?_)
              rcases q163 with ⟨hg162, rfl, rfl⟩ | ⟨hg162, rfl, rfl⟩
              · skip
                exact absurd hg162 (by decide)
              · skip
                have ho := (show o = .inl (5 + 16 * (tp T n 0 i142)) from (by rw [if_pos (by omega)] at hd4; exact hd4))
                subst ho
                exact ⟨rfl, ⟨rfl, (rFu_mk hZ146 ipZ146)⟩⟩
            · skip
              refine wa_iconst ?_
              refine wa_goto ⟨_, rfl⟩ ?_
              refine wa_iconst ?_
              refine wa_cv 237 rfl (wy_pr rfl) wt_237 (M2 := fun _ => False) rfl at_M_must ⟨_, rfl⟩ rfl rfl ⟨(Or.inr ⟨wy_pr rfl, fun q => q⟩), trivial, trivial, trivial⟩ trivial (fun _ _ q => False.elim q) (must_ok (S := Z146) (g := 1) (n := 5) (by omega) ⟨by omega, by omega⟩) (fun oq166 Sq166 hp167 q166 => ?_)
              rcases q166 with ⟨hg165, rfl, rfl⟩ | ⟨hg165, rfl, rfl⟩
              · skip
                show wJ _ _ _ _ _ _ _ _ _ _
                refine wa_aload_n (n := 0) rfl ?_
                refine wa_bipush (w_rg2 (by omega) (by omega)) ?_
                refine wa_cv 237 rfl (wy_pr rfl) wt_237 (M2 := fun _ => False) rfl at_M_closes ⟨_, rfl⟩ rfl rfl ⟨(Or.inr ⟨wy_pr rfl, fun q => q⟩), trivial, trivial, trivial⟩ trivial (fun _ _ q => False.elim q) (clw (S := Z146) hZ146 ipZ146 (fun _ => sk_41) ⟨by decide, by decide⟩ ⟨by decide, by decide⟩ ⟨by omega, by omega⟩) (fun oq172 Sq172 hp173 q172 => ?_)
                rcases q172 with ⟨rfl, ks168, hz169, hl170⟩ | ⟨rfl, ks168, hf171⟩
                · skip
                  show wJ _ _ _ _ _ _ _ _ _ _
                  have hSq172 : rQ T n N X f0 b0 b1 S0 u dp (i142 + 1) I143 F144 (pA F144) Sq172 := (by have z := hz169; rw [show (dp + 1) - 1 = dp by omega] at z; exact z)
                  have ipSq172 : (((i142 + 1) : Nat) : Int) ≤ tp T n 0 (i142 + 1) := pI_nx (N := N) (X := X) ipZ146 (rQ_n hZ146) ⟨by omega, by omega⟩
                  have krSq172 := kq_rg T n N X (i142 + 1)
                  have nnSq172 := rQ_n hSq172
                  refine wa_aload_n (n := 0) rfl ?_
                  refine wa_bipush (w_rg2 (by omega) (by omega)) ?_
                  refine wa_iload_n (n := 1) rfl ?_
                  refine wa_iconst ?_
                  refine wa_cv 237 rfl (wy_pr rfl) wt_237 (M2 := fun _ => False) rfl at_M_emits ⟨_, rfl⟩ rfl rfl ⟨(Or.inr ⟨wy_pr rfl, fun q => q⟩), trivial, trivial, trivial⟩ trivial (fun _ _ q => False.elim q) (emw (S := Sq172) (x := (28, (k0 - 54), 0, u)) hSq172 (by omega) rfl (by show (28 : Int) ≠ 27; decide) rfl ⟨by omega, by omega⟩ ⟨by omega, by omega⟩ ⟨by omega, by omega⟩) (fun oq177 Sq177 hp178 q177 => ?_)
                  rcases q177 with ⟨rfl, hz174, l61175, l60176⟩
                  show wJ _ _ _ _ _ _ _ _ _ _
                  have hSq177 : rQ T n N X f0 b0 b1 S0 u dp (i142 + 1) (I143 ++ [(28, (k0 - 54), 0, u)]) F144 (pA F144) Sq177 := hz174
                  have krSq177 := kq_rg T n N X (i142 + 1)
                  have nnSq177 := rQ_n hSq177
                  have hlSq177 : (I143 ++ [(28, (k0 - 54), 0, u)]).length = I143.length + 1 := List.length_append
                  refine wa_return rfl ?_
                  rw [if_neg (by omega)] at hd4
                  subst hd4
                  exact ⟨rfl, hSq177, ⟨by omega, by omega, ipSq172, (px_tr (px_tr px_rfl p152) (px_ap _ _))⟩, rfl⟩
                · skip
                  exact absurd k11 ks168
              · skip
                exact absurd hg165 (by decide)
          · skip
            exact absurd hg157 (by decide)
        · skip
          exact absurd k11 ks154
  · skip
    have ho := qop_1 hd0 ks101
    subst ho
    exact ⟨rfl, ⟨rfl, hf104⟩⟩
  · skip
    have ho := qop_4 hd0 ks101 hd5105
    subst ho
    exact ⟨rfl, ⟨rfl, hf104⟩⟩
end Wch
