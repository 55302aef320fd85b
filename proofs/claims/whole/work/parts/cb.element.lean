/-! PART cb: the reference's element. -/
section Wcb
variable {xs : List (Nat × List Int32)} {M : Nat → Prop} {d : Nat} {A B C S Z S0 : wS} {Q : wO → wS → Prop} {T : Int → Int} {n f0 u dp b0 b1 : Int} {N X : List (List Int)} {c i k pm : Nat} {I : List pz_I} {F : List pz_F} {o : pz_O}
variable {R : pz_R} {K V P : Nat → Int} {x t : Int} {J : List Int}
theorem r4 (h : rR xs T n N X f0 b0 b1 S0 4 0 J i dp u I F o) : rM xs T n N X f0 b0 b1 S0 16 t_M_value [(0, (2, 237))] (fun _ => none) 1 (fun _ _ _ => True) dp u i I F o := h
theorem el_w (hd : pz_el (kq T n N X) (tp T n 0) (rR xs T n N X f0 b0 b1 S0) i dp u I F o) : rM xs T n N X f0 b0 b1 S0 0 t_M_element [(0, (2, 237))] (fun _ => none) 1 (fun t I2 _ => t = 0 ∧ ∃ J : List pz_I, I2 = J ++ [(27, 2, -1, u)] ∧ I.length ≤ J.length) dp u i I F o := by
  intro hpre M D S hD h
  obtain ⟨⟨d0, d1⟩, hlen, ip⟩ := hpre
  obtain ⟨D, rfl⟩ : ∃ E, D = E + 12 := ⟨D - 12, by omega⟩
  have krS := kq_rg T n N X i
  have nnS := rQ_n h
  unfold pz_el at hd
  refine wa_aload_n (n := 0) rfl ?_
  refine wa_bipush (w_rg2 (by omega) (by omega)) ?_
  refine wa_cv 237 rfl (wy_pr rfl) wt_237 (M2 := fun _ => False) rfl at_M_opens ⟨_, rfl⟩ rfl rfl ⟨(Or.inr ⟨wy_pr rfl, fun q => q⟩), trivial⟩ trivial (fun _ _ q => False.elim q) (opw (S := S) h ip (fun _ => sk_91) ⟨by decide, by decide⟩ ⟨by decide, by decide⟩ ⟨by omega, by omega⟩) (fun oq106 Sq106 hp107 q106 => ?_)
  rcases q106 with ⟨rfl, ⟨ks101, hd5105⟩, hz102, hl103⟩ | ⟨rfl, ks101, hf104⟩ | ⟨rfl, ⟨ks101, hd5105⟩, hf104⟩
  · skip
    show wJ _ _ _ _ _ _ _ _ _ _
    have hSq106 : rQ T n N X f0 b0 b1 S0 u (dp + 1) (i + 1) I F (pA F) Sq106 := hz102
    have ipSq106 : (((i + 1) : Nat) : Int) ≤ tp T n 0 (i + 1) := pI_nx (N := N) (X := X) ip (rQ_n h) ⟨by omega, by omega⟩
    have krSq106 := kq_rg T n N X (i + 1)
    have nnSq106 := rQ_n hSq106
    have hd1 := qop_o hd ks101 hd5105
    refine wa_aload_n (n := 0) rfl ?_
    rcases hd1 with ⟨v108, hs109, ho110⟩ | ⟨i111, I112, F113, t114, hs109, hd2⟩
    · refine wa_cv 237 rfl (wy_pr rfl) wt_237 (M2 := fun _ => False) rfl at_M_value ⟨_, rfl⟩ rfl rfl ⟨(Or.inr ⟨wy_pr rfl, fun q => q⟩), trivial⟩ trivial (fun _ _ q => False.elim q) (r4 hs109 ⟨⟨by omega, by omega⟩, by omega, ipSq106⟩ _ _ _ (by omega) hSq106) (fun oq122 Sq122 hp123 q122 => ?_)
      rcases q122 with ⟨rfl, hf121⟩
      subst ho110
      exact ⟨rfl, ⟨rfl, hf121⟩⟩
    refine wa_cv 237 rfl (wy_pr rfl) wt_237 (M2 := fun _ => False) rfl at_M_value ⟨_, rfl⟩ rfl rfl ⟨(Or.inr ⟨wy_pr rfl, fun q => q⟩), trivial⟩ trivial (fun _ _ q => False.elim q) (r4 hs109 ⟨⟨by omega, by omega⟩, by omega, ipSq106⟩ _ _ _ (by omega) hSq106) (fun oq124 Sq124 hp125 q124 => ?_)
    rcases q124 with ⟨rfl, hz115, ⟨p116, p117, p118, p119⟩, e120⟩
    show wJ _ _ _ _ _ _ _ _ _ _
    have hSq124 : rQ T n N X f0 b0 b1 S0 u (dp + 1) i111 I112 F113 (pA F113) Sq124 := hz115
    have ipSq124 : ((i111 : Nat) : Int) ≤ tp T n 0 i111 := p118
    have krSq124 := kq_rg T n N X i111
    have nnSq124 := rQ_n hSq124
    have lnSq124 := px_len p119
    refine wa_aload_n (n := 0) rfl ?_
    refine wa_bipush (w_rg2 (by omega) (by omega)) ?_
    refine wa_cv 237 rfl (wy_pr rfl) wt_237 (M2 := fun _ => False) rfl at_M_closes ⟨_, rfl⟩ rfl rfl ⟨(Or.inr ⟨wy_pr rfl, fun q => q⟩), trivial⟩ trivial (fun _ _ q => False.elim q) (clw (S := Sq124) hSq124 ipSq124 (fun _ => sk_93) ⟨by decide, by decide⟩ ⟨by decide, by decide⟩ ⟨by omega, by omega⟩) (fun oq130 Sq130 hp131 q130 => ?_)
    rcases q130 with ⟨rfl, ks126, hz127, hl128⟩ | ⟨rfl, ks126, hf129⟩
    · skip
      show wJ _ _ _ _ _ _ _ _ _ _
      have hSq130 : rQ T n N X f0 b0 b1 S0 u dp (i111 + 1) I112 F113 (pA F113) Sq130 := (by have z := hz127; rw [show (dp + 1) - 1 = dp by omega] at z; exact z)
      have ipSq130 : (((i111 + 1) : Nat) : Int) ≤ tp T n 0 (i111 + 1) := pI_nx (N := N) (X := X) ipSq124 (rQ_n hSq124) ⟨by omega, by omega⟩
      have krSq130 := kq_rg T n N X (i111 + 1)
      have nnSq130 := rQ_n hSq130
      have hd3 := qtt_o hd2 ks126
      refine wa_aload_n (n := 0) rfl ?_
      refine wa_iconst ?_
      refine wa_iconst ?_
      refine wa_iconst ?_
      refine wa_cv 237 rfl (wy_pr rfl) wt_237 (M2 := fun _ => False) rfl at_M_newSite ⟨_, rfl⟩ rfl rfl ⟨(Or.inr ⟨wy_pr rfl, fun q => q⟩), trivial⟩ trivial (fun _ _ q => False.elim q) (nsw (S := Sq130) (x := (27, 2, (-1), u)) hSq130 (by omega) ⟨by omega, by omega⟩ ⟨by omega, by omega⟩ ⟨by omega, by omega⟩ rfl) (fun oq135 Sq135 hp136 q135 => ?_)
      rcases q135 with ⟨rfl, hz132, l61133, l60134⟩
      show wJ _ _ _ _ _ _ _ _ _ _
      have hSq135 : rQ T n N X f0 b0 b1 S0 u dp (i111 + 1) (I112 ++ [(27, 2, (-1), u)]) F113 (pA F113) Sq135 := hz132
      have krSq135 := kq_rg T n N X (i111 + 1)
      have nnSq135 := rQ_n hSq135
      have hlSq135 : (I112 ++ [(27, 2, (-1), u)]).length = I112.length + 1 := List.length_append
      refine wa_return rfl ?_
      subst hd3
      exact ⟨rfl, hSq135, ⟨by omega, by omega, ipSq130, (px_tr (px_tr px_rfl p119) (px_ap _ _))⟩, rfl, _, rfl, by omega⟩
    · skip
      have ho := qtt_1 hd2 ks126
      subst ho
      exact ⟨rfl, ⟨rfl, hf129⟩⟩
  · skip
    have ho := qop_1 hd ks101
    subst ho
    exact ⟨rfl, ⟨rfl, hf104⟩⟩
  · skip
    have ho := qop_4 hd ks101 hd5105
    subst ho
    exact ⟨rfl, ⟨rfl, hf104⟩⟩
end Wcb
