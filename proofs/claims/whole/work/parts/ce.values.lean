/-! PART ce: the reference's values(). -/
section Wce
variable {xs : List (Nat × List Int32)} {M : Nat → Prop} {d : Nat} {A B C S Z S0 : wS} {Q : wO → wS → Prop} {T : Int → Int} {n f0 u dp b0 b1 : Int} {N X : List (List Int)} {c i k pm : Nat} {I : List pz_I} {F : List pz_F} {o : pz_O}
variable {R : pz_R} {K V P : Nat → Int} {x t : Int} {J : List Int}
theorem va_w (hX : w_X xs) (hd : pz_es (kq T n N X) (tp T n 0) (rR xs T n N X f0 b0 b1 S0) i dp u I F o) : rM xs T n N X f0 b0 b1 S0 0 t_M_values [(0, (2, 237))] (fun t => some (0, t)) 2 (fun t _ _ => 0 ≤ t ∧ t ≤ 8) dp u i I F (match o with | .inl v => .inl v | .inr (i2, I2, F2, t2) => .inr (i2 + 1, I2, F2, t2)) := by
  intro hpre M D S hD h
  obtain ⟨⟨d0, d1⟩, hlen, ip⟩ := hpre
  obtain ⟨D, rfl⟩ : ∃ E, D = E + 12 := ⟨D - 12, by omega⟩
  have krS := kq_rg T n N X i
  have nnS := rQ_n h
  unfold pz_es at hd
  refine wa_aload_n (n := 0) rfl ?_
  refine wa_bipush (w_rg2 (by omega) (by omega)) ?_
  refine wa_cv 237 rfl (wy_pr rfl) wt_237 (M2 := fun _ => False) rfl at_M_opens ⟨_, rfl⟩ rfl rfl ⟨(Or.inr ⟨wy_pr rfl, fun q => q⟩), trivial⟩ trivial (fun _ _ q => False.elim q) (opw (S := S) h ip (fun _ => sk_40) ⟨by decide, by decide⟩ ⟨by decide, by decide⟩ ⟨by omega, by omega⟩) (fun oq106 Sq106 hp107 q106 => ?_)
  rcases q106 with ⟨rfl, ⟨ks101, hd5105⟩, hz102, hl103⟩ | ⟨rfl, ks101, hf104⟩ | ⟨rfl, ⟨ks101, hd5105⟩, hf104⟩
  · skip
    show wJ _ _ _ _ _ _ _ _ _ _
    have hSq106 : rQ T n N X f0 b0 b1 S0 u (dp + 1) (i + 1) I F (pA F) Sq106 := hz102
    have ipSq106 : (((i + 1) : Nat) : Int) ≤ tp T n 0 (i + 1) := pI_nx (N := N) (X := X) ip (rQ_n h) ⟨by omega, by omega⟩
    have krSq106 := kq_rg T n N X (i + 1)
    have nnSq106 := rQ_n hSq106
    have hd1 := qop_o hd ks101 hd5105
    refine wa_iconst ?_
    refine wa_istore_n (n := 1) rfl ?_
    refine wa_aload_n (n := 0) rfl ?_
    refine wa_bipush (w_rg2 (by omega) (by omega)) ?_
    refine wa_cv 237 rfl (wy_pr rfl) wt_237 (M2 := fun _ => False) rfl at_M_isSign ⟨_, rfl⟩ rfl rfl ⟨trivial, (Or.inr ⟨wy_pr rfl, fun q => q⟩), trivial⟩ trivial (fun _ _ q => False.elim q) (isw (S := Sq106) hSq106 (fun _ => sk_41) ⟨by decide, by decide⟩ ⟨by decide, by decide⟩) (fun oq109 Sq109 hp110 q109 => ?_)
    rcases q109 with ⟨rfl, ⟨rfl, ks108⟩ | ⟨rfl, ks108⟩⟩
    · skip
      show wJ _ _ _ _ _ _ _ _ _ _
      rw [if_pos ks108] at hd1
      refine wa_ifne (w_rg0 (by omega) (by omega)) ⟨_, rfl⟩ (fun c111 => ?_) (fun c111 => ?_)
      · skip
        refine wa_iconst ?_
        refine wa_fall ⟨_, rfl⟩ ?_
        refine wa_istore_n (n := 2) rfl ?_
        refine wa_fall ⟨_, rfl⟩ ?_
        refine wa_iload_n (n := 2) rfl ?_
        refine wa_ifeq (w_rg0 (by omega) (by omega)) ⟨_, rfl⟩ (fun c112 => ?_) (fun c112 => ?_)
        · skip
          refine wa_aload_n (n := 0) rfl ?_
          refine wa_bipush (w_rg2 (by omega) (by omega)) ?_
          refine wa_cv 237 rfl (wy_pr rfl) wt_237 (M2 := fun _ => False) rfl at_M_closes ⟨_, rfl⟩ rfl rfl ⟨trivial, trivial, (Or.inr ⟨wy_pr rfl, fun q => q⟩), trivial⟩ trivial (fun _ _ q => False.elim q) (clw (S := Sq106) hSq106 ipSq106 (fun _ => sk_41) ⟨by decide, by decide⟩ ⟨by decide, by decide⟩ ⟨by omega, by omega⟩) (fun oq117 Sq117 hp118 q117 => ?_)
          rcases q117 with ⟨rfl, ks113, hz114, hl115⟩ | ⟨rfl, ks113, hf116⟩
          · skip
            show wJ _ _ _ _ _ _ _ _ _ _
            have hSq117 : rQ T n N X f0 b0 b1 S0 u dp (i + 2) I F (pA F) Sq117 := (by have z := hz114; rw [show (dp + 1) - 1 = dp by omega] at z; exact z)
            have ipSq117 : (((i + 2) : Nat) : Int) ≤ tp T n 0 (i + 2) := pI_nx (N := N) (X := X) ipSq106 (rQ_n hSq106) ⟨by omega, by omega⟩
            have krSq117 := kq_rg T n N X (i + 2)
            have nnSq117 := rQ_n hSq117
            refine wa_iload_n (n := 1) rfl ?_
            refine wa_ireturn rfl ?_
            subst hd1
            exact ⟨rfl, hSq117, ⟨by omega, by omega, ipSq117, px_rfl⟩, by decide, by decide⟩
          · skip
            exact absurd ks108 ks113
        · skip
          exact absurd c112 (by omega)
      · skip
        exact absurd c111 (by omega)
    · skip
      show wJ _ _ _ _ _ _ _ _ _ _
      rw [if_neg ks108] at hd1
      refine wa_ifne (w_rg0 (by omega) (by omega)) ⟨_, rfl⟩ (fun c119 => ?_) (fun c119 => ?_)
      · skip
        exact absurd c119 (by omega)
      · skip
        refine wa_iconst ?_
        refine wa_goto ⟨_, rfl⟩ ?_
        refine wa_istore_n (n := 2) rfl ?_
        refine wa_fall ⟨_, rfl⟩ ?_
        refine wJ_S ((r11 (x := 0) ⟨by decide, by decide⟩ hd1).1 ⟨⟨by omega, by omega⟩, by omega, ipSq106⟩ _ _ _ _ (by omega) hSq106 (fun vb hb Zb hzb => by subst hb; exact ⟨rfl, hzb⟩) (fun ib Ib Fb tb hb Zb hzb pb eb => ?_)) ⟨rfl, rfl, rfl, trivial⟩
        subst hb
        have pb1 := pb.1
        have pb2 := pb.2.1
        have pb3 := pb.2.2.1
        have krb := kq_rg T n N X ib
        have k11 := eb.1
        have nnb := rQ_n hzb
        refine wa_aload_n (n := 0) rfl ?_
        refine wa_bipush (w_rg2 (by omega) (by omega)) ?_
        refine wa_cv 237 rfl (wy_pr rfl) wt_237 (M2 := fun _ => False) rfl at_M_closes ⟨_, rfl⟩ rfl rfl ⟨(Or.inr ⟨wy_pr rfl, fun q => q⟩), trivial, trivial⟩ trivial (fun _ _ q => False.elim q) (clw (S := Zb) hzb pb3 (fun _ => sk_41) ⟨by decide, by decide⟩ ⟨by decide, by decide⟩ ⟨by omega, by omega⟩) (fun oq424 Sq424 hp425 q424 => ?_)
        rcases q424 with ⟨rfl, ks420, hz421, hl422⟩ | ⟨rfl, ks420, hf423⟩
        · skip
          show wJ _ _ _ _ _ _ _ _ _ _
          have hSq424 : rQ T n N X f0 b0 b1 S0 u dp (ib + 1) Ib Fb (pA Fb) Sq424 := (by have z := hz421; rw [show (dp + 1) - 1 = dp by omega] at z; exact z)
          have ipSq424 : (((ib + 1) : Nat) : Int) ≤ tp T n 0 (ib + 1) := pI_nx (N := N) (X := X) pb3 (rQ_n hzb) ⟨by omega, by omega⟩
          have krSq424 := kq_rg T n N X (ib + 1)
          have nnSq424 := rQ_n hSq424
          refine wa_iload_n (n := 1) rfl ?_
          refine wa_ireturn rfl ?_
          exact ⟨rfl, hSq424, ⟨by omega, by omega, ipSq424, (px_tr px_rfl pb.2.2.2)⟩, eb.2⟩
        · skip
          exact absurd eb.1 ks420
  · skip
    have ho := qop_1 hd ks101
    subst ho
    exact ⟨rfl, ⟨rfl, hf104⟩⟩
  · skip
    have ho := qop_4 hd ks101 hd5105
    subst ho
    exact ⟨rfl, ⟨rfl, hf104⟩⟩
end Wce
