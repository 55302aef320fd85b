/-! PART aj: type, member, subtype: of the class, of the reference. -/
section Waj
variable {xs : List (Nat × List Int32)} {M : Nat → Prop} {d c : Nat} {A B C S Z : wS} {Q : wO → wS → Prop} {T : Int → Int} {n : Int}
/-- what the class answers on a type -/
def ty_v (t0 p : Nat) (S : wS) (k wh : Int) : Int := if 0 ≤ k ∧ k < S p 2 ∧ 0 ≤ wh ∧ wh ≤ 4 then S (t0 + wh.toNat) k else -1
/-- .. the reference .. -/
def ty_r (b : Nat) (S : wS) (k wh : Int) : Int := if 0 ≤ k ∧ k < S b 1 then (if wh = 0 then S (b + 2) k else if wh = 1 then S (b + 3) k else if wh = 2 then S (b + 4) k else if wh = 3 then S (b + 8) k else if wh = 4 then S (b + 7) k else -1) else -1
/-- what the class answers on a member -/
def me_v (m0 p : Nat) (S : wS) (k wh : Int) : Int := if 0 ≤ k ∧ k < S p 4 ∧ 0 ≤ wh ∧ (wh < 6 ∨ wh - 6 < S (m0 + 4) k) then S (m0 + wh.toNat) k else -1
def me_r (b : Nat) (S : wS) (k wh : Int) : Int := if 0 ≤ k ∧ k < S b 11 then (if wh = 0 then S (b + 11) k else if wh = 1 then S (b + 12) k else if wh = 2 then S (b + 13) k else if wh = 3 then S (b + 14) k else if wh = 4 then S (b + 15) k else if wh = 5 then S (b + 16) k else if 5 < wh ∧ wh - 6 < S (b + 15) k then S (b + 17) (8 * k + wh - 6) else -1) else -1
/-- whether a type goes to another: al are the rows of bits -/
def su_v (al : Int → Int) (cl a o : Int) : Int := if (0 < a ∧ a < 9 + cl) ∧ (0 < o ∧ o < 9 + cl) ∧ (a = o ∨ (a = 1 ∧ o = 2) ∨ (o = 8 ∧ 3 < a) ∨ (o ≠ 8 ∧ 9 ≤ a ∧ 9 ≤ o ∧ bb (al (a - 9)) (o - 9).toNat = true)) then 1 else 0
theorem bb_sh {v o : Int} (h : 0 ≤ o ∧ o < 60) : wb_land (wb_lushr v o) 1 = if bb v o.toNat = true then 1 else 0 := by
  have := bb_lushr (v := v) (x := o.toNat) (by omega)
  rw [Int.toNat_of_nonneg h.1] at this
  exact this
theorem xty_73 {k wh : Int} (hC : w_CL S) (h1 : S 72 1 = 73) (h2 : 0 ≤ S 73 2 ∧ S 73 2 ≤ 60) (hk : -2147483648 ≤ k ∧ k ≤ 2147483647) (hw : -2147483648 ≤ wh ∧ wh ≤ 2147483647) : wJ (pe_GA xs) wY0 M d t_X_type ((pe_at t_X_type.bl 0).getD (0, [])).2 [(0, (2, 0)), (1, (0, k)), (2, (0, wh))] [] S (fun o Z => S = Z ∧ o = .inl (some (0, ty_v 87 73 S k wh))) := by
  refine wa_aload_n (n := 0) rfl ?_
  refine wb_gf4 0 rfl (wy_pr rfl) wt_0 wf_10_7 (v := 72) wl_0_7 ?_
  refine wb_gf5 72 rfl (wy_pr rfl) wt_72 wf_2_1 (v := 73) (h1) (fun r1 => ?_)
  refine wa_astore_n (n := 3) rfl ?_
  refine wa_iload_n (n := 1) rfl ?_
  refine wa_iflt (w_rg0 (by omega) (by omega)) ⟨_, rfl⟩ (fun c2 => ?_) (fun c2 => ?_)
  · skip
    refine wa_iconst ?_
    refine wa_ireturn rfl ?_
    refine ⟨rfl, congrArg (fun z => Sum.inl (some (0, z))) ?_⟩
    unfold ty_v; rw [if_neg (by omega)]
  · skip
    refine wa_iload_n (n := 1) rfl ?_
    refine wa_aload_n (n := 3) rfl ?_
    refine wb_gfi 73 rfl (wy_pr rfl) wt_73 wf_3_2 (v := (S 73 2)) rfl (fun r3 => ?_)
    refine wa_icmpge (w_rg0 (by omega) (by omega)) (w_rg0 (by omega) (by omega)) ⟨_, rfl⟩ (fun c4 => ?_) (fun c4 => ?_)
    · skip
      refine wa_iconst ?_
      refine wa_ireturn rfl ?_
      refine ⟨rfl, congrArg (fun z => Sum.inl (some (0, z))) ?_⟩
      unfold ty_v; rw [if_neg (by omega)]
    · skip
      refine wa_iload_n (n := 2) rfl ?_
      refine wa_iflt (w_rg0 (by omega) (by omega)) ⟨_, rfl⟩ (fun c5 => ?_) (fun c5 => ?_)
      · skip
        refine wa_iconst ?_
        refine wa_ireturn rfl ?_
        refine ⟨rfl, congrArg (fun z => Sum.inl (some (0, z))) ?_⟩
        unfold ty_v; rw [if_neg (by omega)]
      · skip
        refine wa_iload_n (n := 2) rfl ?_
        refine wa_iconst ?_
        refine wa_icmple (w_rg0 (by omega) (by omega)) (w_rg0 (by omega) (by omega)) ⟨_, rfl⟩ (fun c6 => ?_) (fun c6 => ?_)
        · skip
          rcases (show wh = 0 ∨ wh = 1 ∨ wh = 2 ∨ wh = 3 ∨ wh = 4 by omega) with e | e | e | e | e
          · subst e
            refine wa_aload_n (n := 3) rfl ?_
            refine wb_gf4 73 rfl (wy_pr rfl) wt_73 wf_3_1 (v := 86) wl_73_1 ?_
            refine wa_iload_n (n := 2) rfl ?_
            refine wb_aald5 86 0 rfl rfl (wy_pr rfl) wt_86 (by rw [show _ = _ from ((cl_86 hC))]; omega) wl_86_0 ?_
            refine wa_iload_n (n := 1) rfl ?_
            refine wb_iald 87 rfl (wy_pr rfl) wt_87 (n := 60) ((cl_87 hC)) (by omega) (by omega) (v := (S 87 k)) rfl (fun r7 => ?_)
            refine wa_ireturn rfl ?_
            refine ⟨rfl, congrArg (fun z => Sum.inl (some (0, z))) ?_⟩
            unfold ty_v; rw [if_pos (by omega)]; rfl
          · subst e
            refine wa_aload_n (n := 3) rfl ?_
            refine wb_gf4 73 rfl (wy_pr rfl) wt_73 wf_3_1 (v := 86) wl_73_1 ?_
            refine wa_iload_n (n := 2) rfl ?_
            refine wb_aald5 86 1 rfl rfl (wy_pr rfl) wt_86 (by rw [show _ = _ from ((cl_86 hC))]; omega) wl_86_1 ?_
            refine wa_iload_n (n := 1) rfl ?_
            refine wb_iald 88 rfl (wy_pr rfl) wt_88 (n := 60) ((cl_88 hC)) (by omega) (by omega) (v := (S 88 k)) rfl (fun r8 => ?_)
            refine wa_ireturn rfl ?_
            refine ⟨rfl, congrArg (fun z => Sum.inl (some (0, z))) ?_⟩
            unfold ty_v; rw [if_pos (by omega)]; rfl
          · subst e
            refine wa_aload_n (n := 3) rfl ?_
            refine wb_gf4 73 rfl (wy_pr rfl) wt_73 wf_3_1 (v := 86) wl_73_1 ?_
            refine wa_iload_n (n := 2) rfl ?_
            refine wb_aald5 86 2 rfl rfl (wy_pr rfl) wt_86 (by rw [show _ = _ from ((cl_86 hC))]; omega) wl_86_2 ?_
            refine wa_iload_n (n := 1) rfl ?_
            refine wb_iald 89 rfl (wy_pr rfl) wt_89 (n := 60) ((cl_89 hC)) (by omega) (by omega) (v := (S 89 k)) rfl (fun r9 => ?_)
            refine wa_ireturn rfl ?_
            refine ⟨rfl, congrArg (fun z => Sum.inl (some (0, z))) ?_⟩
            unfold ty_v; rw [if_pos (by omega)]; rfl
          · subst e
            refine wa_aload_n (n := 3) rfl ?_
            refine wb_gf4 73 rfl (wy_pr rfl) wt_73 wf_3_1 (v := 86) wl_73_1 ?_
            refine wa_iload_n (n := 2) rfl ?_
            refine wb_aald5 86 3 rfl rfl (wy_pr rfl) wt_86 (by rw [show _ = _ from ((cl_86 hC))]; omega) wl_86_3 ?_
            refine wa_iload_n (n := 1) rfl ?_
            refine wb_iald 90 rfl (wy_pr rfl) wt_90 (n := 60) ((cl_90 hC)) (by omega) (by omega) (v := (S 90 k)) rfl (fun r10 => ?_)
            refine wa_ireturn rfl ?_
            refine ⟨rfl, congrArg (fun z => Sum.inl (some (0, z))) ?_⟩
            unfold ty_v; rw [if_pos (by omega)]; rfl
          · subst e
            refine wa_aload_n (n := 3) rfl ?_
            refine wb_gf4 73 rfl (wy_pr rfl) wt_73 wf_3_1 (v := 86) wl_73_1 ?_
            refine wa_iload_n (n := 2) rfl ?_
            refine wb_aald5 86 4 rfl rfl (wy_pr rfl) wt_86 (by rw [show _ = _ from ((cl_86 hC))]; omega) wl_86_4 ?_
            refine wa_iload_n (n := 1) rfl ?_
            refine wb_iald 91 rfl (wy_pr rfl) wt_91 (n := 60) ((cl_91 hC)) (by omega) (by omega) (v := (S 91 k)) rfl (fun r11 => ?_)
            refine wa_ireturn rfl ?_
            refine ⟨rfl, congrArg (fun z => Sum.inl (some (0, z))) ?_⟩
            unfold ty_v; rw [if_pos (by omega)]; rfl
        · skip
          refine wa_fall ⟨_, rfl⟩ ?_
          refine wa_iconst ?_
          refine wa_ireturn rfl ?_
          refine ⟨rfl, congrArg (fun z => Sum.inl (some (0, z))) ?_⟩
          unfold ty_v; rw [if_neg (by omega)]
theorem xme_73 {k wh : Int} (hC : w_CL S) (h1 : S 72 1 = 73) (h2 : 0 ≤ S 73 4 ∧ S 73 4 ≤ 400) (h4 : ∀ i : Int, 0 ≤ i → i < S 73 4 → S 101 i ≤ 8) (hk : -2147483648 ≤ k ∧ k ≤ 2147483647) (hw : -2147483648 ≤ wh ∧ wh ≤ 2147483647) : wJ (pe_GA xs) wY0 M d t_X_member ((pe_at t_X_member.bl 0).getD (0, [])).2 [(0, (2, 0)), (1, (0, k)), (2, (0, wh))] [] S (fun o Z => S = Z ∧ o = .inl (some (0, me_v 97 73 S k wh))) := by
  refine wa_aload_n (n := 0) rfl ?_
  refine wb_gf4 0 rfl (wy_pr rfl) wt_0 wf_10_7 (v := 72) wl_0_7 ?_
  refine wb_gf5 72 rfl (wy_pr rfl) wt_72 wf_2_1 (v := 73) (h1) (fun r1 => ?_)
  refine wa_astore_n (n := 3) rfl ?_
  refine wa_iload_n (n := 1) rfl ?_
  refine wa_iflt (w_rg0 (by omega) (by omega)) ⟨_, rfl⟩ (fun c2 => ?_) (fun c2 => ?_)
  · skip
    refine wa_iconst ?_
    refine wa_ireturn rfl ?_
    refine ⟨rfl, congrArg (fun z => Sum.inl (some (0, z))) ?_⟩
    unfold me_v; simp only [Nat.reduceAdd]; rw [if_neg (by omega)]
  · skip
    refine wa_iload_n (n := 1) rfl ?_
    refine wa_aload_n (n := 3) rfl ?_
    refine wb_gfi 73 rfl (wy_pr rfl) wt_73 wf_3_4 (v := (S 73 4)) rfl (fun r3 => ?_)
    refine wa_icmpge (w_rg0 (by omega) (by omega)) (w_rg0 (by omega) (by omega)) ⟨_, rfl⟩ (fun c4 => ?_) (fun c4 => ?_)
    · skip
      refine wa_iconst ?_
      refine wa_ireturn rfl ?_
      refine ⟨rfl, congrArg (fun z => Sum.inl (some (0, z))) ?_⟩
      unfold me_v; simp only [Nat.reduceAdd]; rw [if_neg (by omega)]
    · skip
      refine wa_iload_n (n := 2) rfl ?_
      refine wa_ifge (w_rg0 (by omega) (by omega)) ⟨_, rfl⟩ (fun c5 => ?_) (fun c5 => ?_)
      · skip
        have h8 := h4 k (by omega) (by omega)
        refine wa_iload_n (n := 2) rfl ?_
        refine wa_bipush (w_rg2 (by omega) (by omega)) ?_
        refine wa_icmplt (w_rg0 (by omega) (by omega)) (w_rg0 (by omega) (by omega)) ⟨_, rfl⟩ (fun c6 => ?_) (fun c6 => ?_)
        · skip
          refine wa_iconst ?_
          refine wa_goto ⟨_, rfl⟩ ?_
          rcases (show wh = 0 ∨ wh = 1 ∨ wh = 2 ∨ wh = 3 ∨ wh = 4 ∨ wh = 5 ∨ wh = 6 ∨ wh = 7 ∨ wh = 8 ∨ wh = 9 ∨ wh = 10 ∨ wh = 11 ∨ wh = 12 ∨ wh = 13 by omega) with e | e | e | e | e | e | e | e | e | e | e | e | e | e
          · subst e
            refine wa_istore (n := 4) rfl ?_
            refine wa_iload (n := 4) rfl ?_
            refine wa_ifeq (w_rg0 (by omega) (by omega)) ⟨_, rfl⟩ (fun c7 => ?_) (fun c7 => ?_)
            · skip
              exact absurd c7 (by omega)
            · skip
              refine wa_aload_n (n := 3) rfl ?_
              refine wb_gf4 73 rfl (wy_pr rfl) wt_73 wf_3_3 (v := 96) wl_73_3 ?_
              refine wa_iload_n (n := 2) rfl ?_
              refine wb_aald5 96 0 rfl rfl (wy_pr rfl) wt_96 (by rw [show _ = _ from ((cl_96 hC))]; omega) wl_96_0 ?_
              refine wa_iload_n (n := 1) rfl ?_
              refine wb_iald 97 rfl (wy_pr rfl) wt_97 (n := 400) ((cl_97 hC)) (by omega) (by omega) (v := (S 97 k)) rfl (fun r8 => ?_)
              refine wa_goto ⟨_, rfl⟩ ?_
              refine wa_ireturn rfl ?_
              refine ⟨rfl, congrArg (fun z => Sum.inl (some (0, z))) ?_⟩
              unfold me_v; simp only [Nat.reduceAdd]; rw [if_pos (by omega)]; rfl
          · subst e
            refine wa_istore (n := 4) rfl ?_
            refine wa_iload (n := 4) rfl ?_
            refine wa_ifeq (w_rg0 (by omega) (by omega)) ⟨_, rfl⟩ (fun c9 => ?_) (fun c9 => ?_)
            · skip
              exact absurd c9 (by omega)
            · skip
              refine wa_aload_n (n := 3) rfl ?_
              refine wb_gf4 73 rfl (wy_pr rfl) wt_73 wf_3_3 (v := 96) wl_73_3 ?_
              refine wa_iload_n (n := 2) rfl ?_
              refine wb_aald5 96 1 rfl rfl (wy_pr rfl) wt_96 (by rw [show _ = _ from ((cl_96 hC))]; omega) wl_96_1 ?_
              refine wa_iload_n (n := 1) rfl ?_
              refine wb_iald 98 rfl (wy_pr rfl) wt_98 (n := 400) ((cl_98 hC)) (by omega) (by omega) (v := (S 98 k)) rfl (fun r10 => ?_)
              refine wa_goto ⟨_, rfl⟩ ?_
              refine wa_ireturn rfl ?_
              refine ⟨rfl, congrArg (fun z => Sum.inl (some (0, z))) ?_⟩
              unfold me_v; simp only [Nat.reduceAdd]; rw [if_pos (by omega)]; rfl
          · subst e
            refine wa_istore (n := 4) rfl ?_
            refine wa_iload (n := 4) rfl ?_
            refine wa_ifeq (w_rg0 (by omega) (by omega)) ⟨_, rfl⟩ (fun c11 => ?_) (fun c11 => ?_)
            · skip
              exact absurd c11 (by omega)
            · skip
              refine wa_aload_n (n := 3) rfl ?_
              refine wb_gf4 73 rfl (wy_pr rfl) wt_73 wf_3_3 (v := 96) wl_73_3 ?_
              refine wa_iload_n (n := 2) rfl ?_
              refine wb_aald5 96 2 rfl rfl (wy_pr rfl) wt_96 (by rw [show _ = _ from ((cl_96 hC))]; omega) wl_96_2 ?_
              refine wa_iload_n (n := 1) rfl ?_
              refine wb_iald 99 rfl (wy_pr rfl) wt_99 (n := 400) ((cl_99 hC)) (by omega) (by omega) (v := (S 99 k)) rfl (fun r12 => ?_)
              refine wa_goto ⟨_, rfl⟩ ?_
              refine wa_ireturn rfl ?_
              refine ⟨rfl, congrArg (fun z => Sum.inl (some (0, z))) ?_⟩
              unfold me_v; simp only [Nat.reduceAdd]; rw [if_pos (by omega)]; rfl
          · subst e
            refine wa_istore (n := 4) rfl ?_
            refine wa_iload (n := 4) rfl ?_
            refine wa_ifeq (w_rg0 (by omega) (by omega)) ⟨_, rfl⟩ (fun c13 => ?_) (fun c13 => ?_)
            · skip
              exact absurd c13 (by omega)
            · skip
              refine wa_aload_n (n := 3) rfl ?_
              refine wb_gf4 73 rfl (wy_pr rfl) wt_73 wf_3_3 (v := 96) wl_73_3 ?_
              refine wa_iload_n (n := 2) rfl ?_
              refine wb_aald5 96 3 rfl rfl (wy_pr rfl) wt_96 (by rw [show _ = _ from ((cl_96 hC))]; omega) wl_96_3 ?_
              refine wa_iload_n (n := 1) rfl ?_
              refine wb_iald 100 rfl (wy_pr rfl) wt_100 (n := 400) ((cl_100 hC)) (by omega) (by omega) (v := (S 100 k)) rfl (fun r14 => ?_)
              refine wa_goto ⟨_, rfl⟩ ?_
              refine wa_ireturn rfl ?_
              refine ⟨rfl, congrArg (fun z => Sum.inl (some (0, z))) ?_⟩
              unfold me_v; simp only [Nat.reduceAdd]; rw [if_pos (by omega)]; rfl
          · subst e
            refine wa_istore (n := 4) rfl ?_
            refine wa_iload (n := 4) rfl ?_
            refine wa_ifeq (w_rg0 (by omega) (by omega)) ⟨_, rfl⟩ (fun c15 => ?_) (fun c15 => ?_)
            · skip
              exact absurd c15 (by omega)
            · skip
              refine wa_aload_n (n := 3) rfl ?_
              refine wb_gf4 73 rfl (wy_pr rfl) wt_73 wf_3_3 (v := 96) wl_73_3 ?_
              refine wa_iload_n (n := 2) rfl ?_
              refine wb_aald5 96 4 rfl rfl (wy_pr rfl) wt_96 (by rw [show _ = _ from ((cl_96 hC))]; omega) wl_96_4 ?_
              refine wa_iload_n (n := 1) rfl ?_
              refine wb_iald 101 rfl (wy_pr rfl) wt_101 (n := 400) ((cl_101 hC)) (by omega) (by omega) (v := (S 101 k)) rfl (fun r16 => ?_)
              refine wa_goto ⟨_, rfl⟩ ?_
              refine wa_ireturn rfl ?_
              refine ⟨rfl, congrArg (fun z => Sum.inl (some (0, z))) ?_⟩
              unfold me_v; simp only [Nat.reduceAdd]; rw [if_pos (by omega)]; rfl
          · subst e
            refine wa_istore (n := 4) rfl ?_
            refine wa_iload (n := 4) rfl ?_
            refine wa_ifeq (w_rg0 (by omega) (by omega)) ⟨_, rfl⟩ (fun c17 => ?_) (fun c17 => ?_)
            · skip
              exact absurd c17 (by omega)
            · skip
              refine wa_aload_n (n := 3) rfl ?_
              refine wb_gf4 73 rfl (wy_pr rfl) wt_73 wf_3_3 (v := 96) wl_73_3 ?_
              refine wa_iload_n (n := 2) rfl ?_
              refine wb_aald5 96 5 rfl rfl (wy_pr rfl) wt_96 (by rw [show _ = _ from ((cl_96 hC))]; omega) wl_96_5 ?_
              refine wa_iload_n (n := 1) rfl ?_
              refine wb_iald 102 rfl (wy_pr rfl) wt_102 (n := 400) ((cl_102 hC)) (by omega) (by omega) (v := (S 102 k)) rfl (fun r18 => ?_)
              refine wa_goto ⟨_, rfl⟩ ?_
              refine wa_ireturn rfl ?_
              refine ⟨rfl, congrArg (fun z => Sum.inl (some (0, z))) ?_⟩
              unfold me_v; simp only [Nat.reduceAdd]; rw [if_pos (by omega)]; rfl
          · subst e
            refine wa_istore (n := 4) rfl ?_
            refine wa_iload (n := 4) rfl ?_
            refine wa_ifeq (w_rg0 (by omega) (by omega)) ⟨_, rfl⟩ (fun c19 => ?_) (fun c19 => ?_)
            · skip
              exact absurd c19 (by omega)
            · skip
              refine wa_aload_n (n := 3) rfl ?_
              refine wb_gf4 73 rfl (wy_pr rfl) wt_73 wf_3_3 (v := 96) wl_73_3 ?_
              refine wa_iload_n (n := 2) rfl ?_
              refine wb_aald5 96 6 rfl rfl (wy_pr rfl) wt_96 (by rw [show _ = _ from ((cl_96 hC))]; omega) wl_96_6 ?_
              refine wa_iload_n (n := 1) rfl ?_
              refine wb_iald 103 rfl (wy_pr rfl) wt_103 (n := 400) ((cl_103 hC)) (by omega) (by omega) (v := (S 103 k)) rfl (fun r20 => ?_)
              refine wa_goto ⟨_, rfl⟩ ?_
              refine wa_ireturn rfl ?_
              refine ⟨rfl, congrArg (fun z => Sum.inl (some (0, z))) ?_⟩
              unfold me_v; simp only [Nat.reduceAdd]; rw [if_pos (by omega)]; rfl
          · subst e
            refine wa_istore (n := 4) rfl ?_
            refine wa_iload (n := 4) rfl ?_
            refine wa_ifeq (w_rg0 (by omega) (by omega)) ⟨_, rfl⟩ (fun c21 => ?_) (fun c21 => ?_)
            · skip
              exact absurd c21 (by omega)
            · skip
              refine wa_aload_n (n := 3) rfl ?_
              refine wb_gf4 73 rfl (wy_pr rfl) wt_73 wf_3_3 (v := 96) wl_73_3 ?_
              refine wa_iload_n (n := 2) rfl ?_
              refine wb_aald5 96 7 rfl rfl (wy_pr rfl) wt_96 (by rw [show _ = _ from ((cl_96 hC))]; omega) wl_96_7 ?_
              refine wa_iload_n (n := 1) rfl ?_
              refine wb_iald 104 rfl (wy_pr rfl) wt_104 (n := 400) ((cl_104 hC)) (by omega) (by omega) (v := (S 104 k)) rfl (fun r22 => ?_)
              refine wa_goto ⟨_, rfl⟩ ?_
              refine wa_ireturn rfl ?_
              refine ⟨rfl, congrArg (fun z => Sum.inl (some (0, z))) ?_⟩
              unfold me_v; simp only [Nat.reduceAdd]; rw [if_pos (by omega)]; rfl
          · subst e
            refine wa_istore (n := 4) rfl ?_
            refine wa_iload (n := 4) rfl ?_
            refine wa_ifeq (w_rg0 (by omega) (by omega)) ⟨_, rfl⟩ (fun c23 => ?_) (fun c23 => ?_)
            · skip
              exact absurd c23 (by omega)
            · skip
              refine wa_aload_n (n := 3) rfl ?_
              refine wb_gf4 73 rfl (wy_pr rfl) wt_73 wf_3_3 (v := 96) wl_73_3 ?_
              refine wa_iload_n (n := 2) rfl ?_
              refine wb_aald5 96 8 rfl rfl (wy_pr rfl) wt_96 (by rw [show _ = _ from ((cl_96 hC))]; omega) wl_96_8 ?_
              refine wa_iload_n (n := 1) rfl ?_
              refine wb_iald 105 rfl (wy_pr rfl) wt_105 (n := 400) ((cl_105 hC)) (by omega) (by omega) (v := (S 105 k)) rfl (fun r24 => ?_)
              refine wa_goto ⟨_, rfl⟩ ?_
              refine wa_ireturn rfl ?_
              refine ⟨rfl, congrArg (fun z => Sum.inl (some (0, z))) ?_⟩
              unfold me_v; simp only [Nat.reduceAdd]; rw [if_pos (by omega)]; rfl
          · subst e
            refine wa_istore (n := 4) rfl ?_
            refine wa_iload (n := 4) rfl ?_
            refine wa_ifeq (w_rg0 (by omega) (by omega)) ⟨_, rfl⟩ (fun c25 => ?_) (fun c25 => ?_)
            · skip
              exact absurd c25 (by omega)
            · skip
              refine wa_aload_n (n := 3) rfl ?_
              refine wb_gf4 73 rfl (wy_pr rfl) wt_73 wf_3_3 (v := 96) wl_73_3 ?_
              refine wa_iload_n (n := 2) rfl ?_
              refine wb_aald5 96 9 rfl rfl (wy_pr rfl) wt_96 (by rw [show _ = _ from ((cl_96 hC))]; omega) wl_96_9 ?_
              refine wa_iload_n (n := 1) rfl ?_
              refine wb_iald 106 rfl (wy_pr rfl) wt_106 (n := 400) ((cl_106 hC)) (by omega) (by omega) (v := (S 106 k)) rfl (fun r26 => ?_)
              refine wa_goto ⟨_, rfl⟩ ?_
              refine wa_ireturn rfl ?_
              refine ⟨rfl, congrArg (fun z => Sum.inl (some (0, z))) ?_⟩
              unfold me_v; simp only [Nat.reduceAdd]; rw [if_pos (by omega)]; rfl
          · subst e
            refine wa_istore (n := 4) rfl ?_
            refine wa_iload (n := 4) rfl ?_
            refine wa_ifeq (w_rg0 (by omega) (by omega)) ⟨_, rfl⟩ (fun c27 => ?_) (fun c27 => ?_)
            · skip
              exact absurd c27 (by omega)
            · skip
              refine wa_aload_n (n := 3) rfl ?_
              refine wb_gf4 73 rfl (wy_pr rfl) wt_73 wf_3_3 (v := 96) wl_73_3 ?_
              refine wa_iload_n (n := 2) rfl ?_
              refine wb_aald5 96 10 rfl rfl (wy_pr rfl) wt_96 (by rw [show _ = _ from ((cl_96 hC))]; omega) wl_96_10 ?_
              refine wa_iload_n (n := 1) rfl ?_
              refine wb_iald 107 rfl (wy_pr rfl) wt_107 (n := 400) ((cl_107 hC)) (by omega) (by omega) (v := (S 107 k)) rfl (fun r28 => ?_)
              refine wa_goto ⟨_, rfl⟩ ?_
              refine wa_ireturn rfl ?_
              refine ⟨rfl, congrArg (fun z => Sum.inl (some (0, z))) ?_⟩
              unfold me_v; simp only [Nat.reduceAdd]; rw [if_pos (by omega)]; rfl
          · subst e
            refine wa_istore (n := 4) rfl ?_
            refine wa_iload (n := 4) rfl ?_
            refine wa_ifeq (w_rg0 (by omega) (by omega)) ⟨_, rfl⟩ (fun c29 => ?_) (fun c29 => ?_)
            · skip
              exact absurd c29 (by omega)
            · skip
              refine wa_aload_n (n := 3) rfl ?_
              refine wb_gf4 73 rfl (wy_pr rfl) wt_73 wf_3_3 (v := 96) wl_73_3 ?_
              refine wa_iload_n (n := 2) rfl ?_
              refine wb_aald5 96 11 rfl rfl (wy_pr rfl) wt_96 (by rw [show _ = _ from ((cl_96 hC))]; omega) wl_96_11 ?_
              refine wa_iload_n (n := 1) rfl ?_
              refine wb_iald 108 rfl (wy_pr rfl) wt_108 (n := 400) ((cl_108 hC)) (by omega) (by omega) (v := (S 108 k)) rfl (fun r30 => ?_)
              refine wa_goto ⟨_, rfl⟩ ?_
              refine wa_ireturn rfl ?_
              refine ⟨rfl, congrArg (fun z => Sum.inl (some (0, z))) ?_⟩
              unfold me_v; simp only [Nat.reduceAdd]; rw [if_pos (by omega)]; rfl
          · subst e
            refine wa_istore (n := 4) rfl ?_
            refine wa_iload (n := 4) rfl ?_
            refine wa_ifeq (w_rg0 (by omega) (by omega)) ⟨_, rfl⟩ (fun c31 => ?_) (fun c31 => ?_)
            · skip
              exact absurd c31 (by omega)
            · skip
              refine wa_aload_n (n := 3) rfl ?_
              refine wb_gf4 73 rfl (wy_pr rfl) wt_73 wf_3_3 (v := 96) wl_73_3 ?_
              refine wa_iload_n (n := 2) rfl ?_
              refine wb_aald5 96 12 rfl rfl (wy_pr rfl) wt_96 (by rw [show _ = _ from ((cl_96 hC))]; omega) wl_96_12 ?_
              refine wa_iload_n (n := 1) rfl ?_
              refine wb_iald 109 rfl (wy_pr rfl) wt_109 (n := 400) ((cl_109 hC)) (by omega) (by omega) (v := (S 109 k)) rfl (fun r32 => ?_)
              refine wa_goto ⟨_, rfl⟩ ?_
              refine wa_ireturn rfl ?_
              refine ⟨rfl, congrArg (fun z => Sum.inl (some (0, z))) ?_⟩
              unfold me_v; simp only [Nat.reduceAdd]; rw [if_pos (by omega)]; rfl
          · subst e
            refine wa_istore (n := 4) rfl ?_
            refine wa_iload (n := 4) rfl ?_
            refine wa_ifeq (w_rg0 (by omega) (by omega)) ⟨_, rfl⟩ (fun c33 => ?_) (fun c33 => ?_)
            · skip
              exact absurd c33 (by omega)
            · skip
              refine wa_aload_n (n := 3) rfl ?_
              refine wb_gf4 73 rfl (wy_pr rfl) wt_73 wf_3_3 (v := 96) wl_73_3 ?_
              refine wa_iload_n (n := 2) rfl ?_
              refine wb_aald5 96 13 rfl rfl (wy_pr rfl) wt_96 (by rw [show _ = _ from ((cl_96 hC))]; omega) wl_96_13 ?_
              refine wa_iload_n (n := 1) rfl ?_
              refine wb_iald 110 rfl (wy_pr rfl) wt_110 (n := 400) ((cl_110 hC)) (by omega) (by omega) (v := (S 110 k)) rfl (fun r34 => ?_)
              refine wa_goto ⟨_, rfl⟩ ?_
              refine wa_ireturn rfl ?_
              refine ⟨rfl, congrArg (fun z => Sum.inl (some (0, z))) ?_⟩
              unfold me_v; simp only [Nat.reduceAdd]; rw [if_pos (by omega)]; rfl
        · skip
          refine wa_iload_n (n := 2) rfl ?_
          refine wa_bipush (w_rg2 (by omega) (by omega)) ?_
          refine wa_isub ?_
          refine wa_aload_n (n := 3) rfl ?_
          refine wb_gf4 73 rfl (wy_pr rfl) wt_73 wf_3_3 (v := 96) wl_73_3 ?_
          refine wa_iconst ?_
          refine wb_aald5 96 4 rfl rfl (wy_pr rfl) wt_96 (by rw [show _ = _ from ((cl_96 hC))]; omega) wl_96_4 ?_
          refine wa_iload_n (n := 1) rfl ?_
          refine wb_iald 101 rfl (wy_pr rfl) wt_101 (n := 400) ((cl_101 hC)) (by omega) (by omega) (v := (S 101 k)) rfl (fun r35 => ?_)
          refine wa_icmpge (w_rg0 (by omega) (by omega)) (w_rg0 (by omega) (by omega)) ⟨_, rfl⟩ (fun c36 => ?_) (fun c36 => ?_)
          · skip
            refine wa_iconst ?_
            refine wa_fall ⟨_, rfl⟩ ?_
            refine wa_istore (n := 4) rfl ?_
            refine wa_iload (n := 4) rfl ?_
            refine wa_ifeq (w_rg0 (by omega) (by omega)) ⟨_, rfl⟩ (fun c37 => ?_) (fun c37 => ?_)
            · skip
              refine wa_iconst ?_
              refine wa_fall ⟨_, rfl⟩ ?_
              refine wa_ireturn rfl ?_
              refine ⟨rfl, congrArg (fun z => Sum.inl (some (0, z))) ?_⟩
              unfold me_v; simp only [Nat.reduceAdd]; rw [if_neg (by omega)]
            · skip
              exact absurd c37 (by omega)
          · skip
            refine wa_fall ⟨_, rfl⟩ ?_
            refine wa_iconst ?_
            refine wa_goto ⟨_, rfl⟩ ?_
            rcases (show wh = 0 ∨ wh = 1 ∨ wh = 2 ∨ wh = 3 ∨ wh = 4 ∨ wh = 5 ∨ wh = 6 ∨ wh = 7 ∨ wh = 8 ∨ wh = 9 ∨ wh = 10 ∨ wh = 11 ∨ wh = 12 ∨ wh = 13 by omega) with e | e | e | e | e | e | e | e | e | e | e | e | e | e
            · subst e
              refine wa_istore (n := 4) rfl ?_
              refine wa_iload (n := 4) rfl ?_
              refine wa_ifeq (w_rg0 (by omega) (by omega)) ⟨_, rfl⟩ (fun c38 => ?_) (fun c38 => ?_)
              · skip
                exact absurd c38 (by omega)
              · skip
                refine wa_aload_n (n := 3) rfl ?_
                refine wb_gf4 73 rfl (wy_pr rfl) wt_73 wf_3_3 (v := 96) wl_73_3 ?_
                refine wa_iload_n (n := 2) rfl ?_
                refine wb_aald5 96 0 rfl rfl (wy_pr rfl) wt_96 (by rw [show _ = _ from ((cl_96 hC))]; omega) wl_96_0 ?_
                refine wa_iload_n (n := 1) rfl ?_
                refine wb_iald 97 rfl (wy_pr rfl) wt_97 (n := 400) ((cl_97 hC)) (by omega) (by omega) (v := (S 97 k)) rfl (fun r39 => ?_)
                refine wa_goto ⟨_, rfl⟩ ?_
                refine wa_ireturn rfl ?_
                refine ⟨rfl, congrArg (fun z => Sum.inl (some (0, z))) ?_⟩
                unfold me_v; simp only [Nat.reduceAdd]; rw [if_pos (by omega)]; rfl
            · subst e
              refine wa_istore (n := 4) rfl ?_
              refine wa_iload (n := 4) rfl ?_
              refine wa_ifeq (w_rg0 (by omega) (by omega)) ⟨_, rfl⟩ (fun c40 => ?_) (fun c40 => ?_)
              · skip
                exact absurd c40 (by omega)
              · skip
                refine wa_aload_n (n := 3) rfl ?_
                refine wb_gf4 73 rfl (wy_pr rfl) wt_73 wf_3_3 (v := 96) wl_73_3 ?_
                refine wa_iload_n (n := 2) rfl ?_
                refine wb_aald5 96 1 rfl rfl (wy_pr rfl) wt_96 (by rw [show _ = _ from ((cl_96 hC))]; omega) wl_96_1 ?_
                refine wa_iload_n (n := 1) rfl ?_
                refine wb_iald 98 rfl (wy_pr rfl) wt_98 (n := 400) ((cl_98 hC)) (by omega) (by omega) (v := (S 98 k)) rfl (fun r41 => ?_)
                refine wa_goto ⟨_, rfl⟩ ?_
                refine wa_ireturn rfl ?_
                refine ⟨rfl, congrArg (fun z => Sum.inl (some (0, z))) ?_⟩
                unfold me_v; simp only [Nat.reduceAdd]; rw [if_pos (by omega)]; rfl
            · subst e
              refine wa_istore (n := 4) rfl ?_
              refine wa_iload (n := 4) rfl ?_
              refine wa_ifeq (w_rg0 (by omega) (by omega)) ⟨_, rfl⟩ (fun c42 => ?_) (fun c42 => ?_)
              · skip
                exact absurd c42 (by omega)
              · skip
                refine wa_aload_n (n := 3) rfl ?_
                refine wb_gf4 73 rfl (wy_pr rfl) wt_73 wf_3_3 (v := 96) wl_73_3 ?_
                refine wa_iload_n (n := 2) rfl ?_
                refine wb_aald5 96 2 rfl rfl (wy_pr rfl) wt_96 (by rw [show _ = _ from ((cl_96 hC))]; omega) wl_96_2 ?_
                refine wa_iload_n (n := 1) rfl ?_
                refine wb_iald 99 rfl (wy_pr rfl) wt_99 (n := 400) ((cl_99 hC)) (by omega) (by omega) (v := (S 99 k)) rfl (fun r43 => ?_)
                refine wa_goto ⟨_, rfl⟩ ?_
                refine wa_ireturn rfl ?_
                refine ⟨rfl, congrArg (fun z => Sum.inl (some (0, z))) ?_⟩
                unfold me_v; simp only [Nat.reduceAdd]; rw [if_pos (by omega)]; rfl
            · subst e
              refine wa_istore (n := 4) rfl ?_
              refine wa_iload (n := 4) rfl ?_
              refine wa_ifeq (w_rg0 (by omega) (by omega)) ⟨_, rfl⟩ (fun c44 => ?_) (fun c44 => ?_)
              · skip
                exact absurd c44 (by omega)
              · skip
                refine wa_aload_n (n := 3) rfl ?_
                refine wb_gf4 73 rfl (wy_pr rfl) wt_73 wf_3_3 (v := 96) wl_73_3 ?_
                refine wa_iload_n (n := 2) rfl ?_
                refine wb_aald5 96 3 rfl rfl (wy_pr rfl) wt_96 (by rw [show _ = _ from ((cl_96 hC))]; omega) wl_96_3 ?_
                refine wa_iload_n (n := 1) rfl ?_
                refine wb_iald 100 rfl (wy_pr rfl) wt_100 (n := 400) ((cl_100 hC)) (by omega) (by omega) (v := (S 100 k)) rfl (fun r45 => ?_)
                refine wa_goto ⟨_, rfl⟩ ?_
                refine wa_ireturn rfl ?_
                refine ⟨rfl, congrArg (fun z => Sum.inl (some (0, z))) ?_⟩
                unfold me_v; simp only [Nat.reduceAdd]; rw [if_pos (by omega)]; rfl
            · subst e
              refine wa_istore (n := 4) rfl ?_
              refine wa_iload (n := 4) rfl ?_
              refine wa_ifeq (w_rg0 (by omega) (by omega)) ⟨_, rfl⟩ (fun c46 => ?_) (fun c46 => ?_)
              · skip
                exact absurd c46 (by omega)
              · skip
                refine wa_aload_n (n := 3) rfl ?_
                refine wb_gf4 73 rfl (wy_pr rfl) wt_73 wf_3_3 (v := 96) wl_73_3 ?_
                refine wa_iload_n (n := 2) rfl ?_
                refine wb_aald5 96 4 rfl rfl (wy_pr rfl) wt_96 (by rw [show _ = _ from ((cl_96 hC))]; omega) wl_96_4 ?_
                refine wa_iload_n (n := 1) rfl ?_
                refine wb_iald 101 rfl (wy_pr rfl) wt_101 (n := 400) ((cl_101 hC)) (by omega) (by omega) (v := (S 101 k)) rfl (fun r47 => ?_)
                refine wa_goto ⟨_, rfl⟩ ?_
                refine wa_ireturn rfl ?_
                refine ⟨rfl, congrArg (fun z => Sum.inl (some (0, z))) ?_⟩
                unfold me_v; simp only [Nat.reduceAdd]; rw [if_pos (by omega)]; rfl
            · subst e
              refine wa_istore (n := 4) rfl ?_
              refine wa_iload (n := 4) rfl ?_
              refine wa_ifeq (w_rg0 (by omega) (by omega)) ⟨_, rfl⟩ (fun c48 => ?_) (fun c48 => ?_)
              · skip
                exact absurd c48 (by omega)
              · skip
                refine wa_aload_n (n := 3) rfl ?_
                refine wb_gf4 73 rfl (wy_pr rfl) wt_73 wf_3_3 (v := 96) wl_73_3 ?_
                refine wa_iload_n (n := 2) rfl ?_
                refine wb_aald5 96 5 rfl rfl (wy_pr rfl) wt_96 (by rw [show _ = _ from ((cl_96 hC))]; omega) wl_96_5 ?_
                refine wa_iload_n (n := 1) rfl ?_
                refine wb_iald 102 rfl (wy_pr rfl) wt_102 (n := 400) ((cl_102 hC)) (by omega) (by omega) (v := (S 102 k)) rfl (fun r49 => ?_)
                refine wa_goto ⟨_, rfl⟩ ?_
                refine wa_ireturn rfl ?_
                refine ⟨rfl, congrArg (fun z => Sum.inl (some (0, z))) ?_⟩
                unfold me_v; simp only [Nat.reduceAdd]; rw [if_pos (by omega)]; rfl
            · subst e
              refine wa_istore (n := 4) rfl ?_
              refine wa_iload (n := 4) rfl ?_
              refine wa_ifeq (w_rg0 (by omega) (by omega)) ⟨_, rfl⟩ (fun c50 => ?_) (fun c50 => ?_)
              · skip
                exact absurd c50 (by omega)
              · skip
                refine wa_aload_n (n := 3) rfl ?_
                refine wb_gf4 73 rfl (wy_pr rfl) wt_73 wf_3_3 (v := 96) wl_73_3 ?_
                refine wa_iload_n (n := 2) rfl ?_
                refine wb_aald5 96 6 rfl rfl (wy_pr rfl) wt_96 (by rw [show _ = _ from ((cl_96 hC))]; omega) wl_96_6 ?_
                refine wa_iload_n (n := 1) rfl ?_
                refine wb_iald 103 rfl (wy_pr rfl) wt_103 (n := 400) ((cl_103 hC)) (by omega) (by omega) (v := (S 103 k)) rfl (fun r51 => ?_)
                refine wa_goto ⟨_, rfl⟩ ?_
                refine wa_ireturn rfl ?_
                refine ⟨rfl, congrArg (fun z => Sum.inl (some (0, z))) ?_⟩
                unfold me_v; simp only [Nat.reduceAdd]; rw [if_pos (by omega)]; rfl
            · subst e
              refine wa_istore (n := 4) rfl ?_
              refine wa_iload (n := 4) rfl ?_
              refine wa_ifeq (w_rg0 (by omega) (by omega)) ⟨_, rfl⟩ (fun c52 => ?_) (fun c52 => ?_)
              · skip
                exact absurd c52 (by omega)
              · skip
                refine wa_aload_n (n := 3) rfl ?_
                refine wb_gf4 73 rfl (wy_pr rfl) wt_73 wf_3_3 (v := 96) wl_73_3 ?_
                refine wa_iload_n (n := 2) rfl ?_
                refine wb_aald5 96 7 rfl rfl (wy_pr rfl) wt_96 (by rw [show _ = _ from ((cl_96 hC))]; omega) wl_96_7 ?_
                refine wa_iload_n (n := 1) rfl ?_
                refine wb_iald 104 rfl (wy_pr rfl) wt_104 (n := 400) ((cl_104 hC)) (by omega) (by omega) (v := (S 104 k)) rfl (fun r53 => ?_)
                refine wa_goto ⟨_, rfl⟩ ?_
                refine wa_ireturn rfl ?_
                refine ⟨rfl, congrArg (fun z => Sum.inl (some (0, z))) ?_⟩
                unfold me_v; simp only [Nat.reduceAdd]; rw [if_pos (by omega)]; rfl
            · subst e
              refine wa_istore (n := 4) rfl ?_
              refine wa_iload (n := 4) rfl ?_
              refine wa_ifeq (w_rg0 (by omega) (by omega)) ⟨_, rfl⟩ (fun c54 => ?_) (fun c54 => ?_)
              · skip
                exact absurd c54 (by omega)
              · skip
                refine wa_aload_n (n := 3) rfl ?_
                refine wb_gf4 73 rfl (wy_pr rfl) wt_73 wf_3_3 (v := 96) wl_73_3 ?_
                refine wa_iload_n (n := 2) rfl ?_
                refine wb_aald5 96 8 rfl rfl (wy_pr rfl) wt_96 (by rw [show _ = _ from ((cl_96 hC))]; omega) wl_96_8 ?_
                refine wa_iload_n (n := 1) rfl ?_
                refine wb_iald 105 rfl (wy_pr rfl) wt_105 (n := 400) ((cl_105 hC)) (by omega) (by omega) (v := (S 105 k)) rfl (fun r55 => ?_)
                refine wa_goto ⟨_, rfl⟩ ?_
                refine wa_ireturn rfl ?_
                refine ⟨rfl, congrArg (fun z => Sum.inl (some (0, z))) ?_⟩
                unfold me_v; simp only [Nat.reduceAdd]; rw [if_pos (by omega)]; rfl
            · subst e
              refine wa_istore (n := 4) rfl ?_
              refine wa_iload (n := 4) rfl ?_
              refine wa_ifeq (w_rg0 (by omega) (by omega)) ⟨_, rfl⟩ (fun c56 => ?_) (fun c56 => ?_)
              · skip
                exact absurd c56 (by omega)
              · skip
                refine wa_aload_n (n := 3) rfl ?_
                refine wb_gf4 73 rfl (wy_pr rfl) wt_73 wf_3_3 (v := 96) wl_73_3 ?_
                refine wa_iload_n (n := 2) rfl ?_
                refine wb_aald5 96 9 rfl rfl (wy_pr rfl) wt_96 (by rw [show _ = _ from ((cl_96 hC))]; omega) wl_96_9 ?_
                refine wa_iload_n (n := 1) rfl ?_
                refine wb_iald 106 rfl (wy_pr rfl) wt_106 (n := 400) ((cl_106 hC)) (by omega) (by omega) (v := (S 106 k)) rfl (fun r57 => ?_)
                refine wa_goto ⟨_, rfl⟩ ?_
                refine wa_ireturn rfl ?_
                refine ⟨rfl, congrArg (fun z => Sum.inl (some (0, z))) ?_⟩
                unfold me_v; simp only [Nat.reduceAdd]; rw [if_pos (by omega)]; rfl
            · subst e
              refine wa_istore (n := 4) rfl ?_
              refine wa_iload (n := 4) rfl ?_
              refine wa_ifeq (w_rg0 (by omega) (by omega)) ⟨_, rfl⟩ (fun c58 => ?_) (fun c58 => ?_)
              · skip
                exact absurd c58 (by omega)
              · skip
                refine wa_aload_n (n := 3) rfl ?_
                refine wb_gf4 73 rfl (wy_pr rfl) wt_73 wf_3_3 (v := 96) wl_73_3 ?_
                refine wa_iload_n (n := 2) rfl ?_
                refine wb_aald5 96 10 rfl rfl (wy_pr rfl) wt_96 (by rw [show _ = _ from ((cl_96 hC))]; omega) wl_96_10 ?_
                refine wa_iload_n (n := 1) rfl ?_
                refine wb_iald 107 rfl (wy_pr rfl) wt_107 (n := 400) ((cl_107 hC)) (by omega) (by omega) (v := (S 107 k)) rfl (fun r59 => ?_)
                refine wa_goto ⟨_, rfl⟩ ?_
                refine wa_ireturn rfl ?_
                refine ⟨rfl, congrArg (fun z => Sum.inl (some (0, z))) ?_⟩
                unfold me_v; simp only [Nat.reduceAdd]; rw [if_pos (by omega)]; rfl
            · subst e
              refine wa_istore (n := 4) rfl ?_
              refine wa_iload (n := 4) rfl ?_
              refine wa_ifeq (w_rg0 (by omega) (by omega)) ⟨_, rfl⟩ (fun c60 => ?_) (fun c60 => ?_)
              · skip
                exact absurd c60 (by omega)
              · skip
                refine wa_aload_n (n := 3) rfl ?_
                refine wb_gf4 73 rfl (wy_pr rfl) wt_73 wf_3_3 (v := 96) wl_73_3 ?_
                refine wa_iload_n (n := 2) rfl ?_
                refine wb_aald5 96 11 rfl rfl (wy_pr rfl) wt_96 (by rw [show _ = _ from ((cl_96 hC))]; omega) wl_96_11 ?_
                refine wa_iload_n (n := 1) rfl ?_
                refine wb_iald 108 rfl (wy_pr rfl) wt_108 (n := 400) ((cl_108 hC)) (by omega) (by omega) (v := (S 108 k)) rfl (fun r61 => ?_)
                refine wa_goto ⟨_, rfl⟩ ?_
                refine wa_ireturn rfl ?_
                refine ⟨rfl, congrArg (fun z => Sum.inl (some (0, z))) ?_⟩
                unfold me_v; simp only [Nat.reduceAdd]; rw [if_pos (by omega)]; rfl
            · subst e
              refine wa_istore (n := 4) rfl ?_
              refine wa_iload (n := 4) rfl ?_
              refine wa_ifeq (w_rg0 (by omega) (by omega)) ⟨_, rfl⟩ (fun c62 => ?_) (fun c62 => ?_)
              · skip
                exact absurd c62 (by omega)
              · skip
                refine wa_aload_n (n := 3) rfl ?_
                refine wb_gf4 73 rfl (wy_pr rfl) wt_73 wf_3_3 (v := 96) wl_73_3 ?_
                refine wa_iload_n (n := 2) rfl ?_
                refine wb_aald5 96 12 rfl rfl (wy_pr rfl) wt_96 (by rw [show _ = _ from ((cl_96 hC))]; omega) wl_96_12 ?_
                refine wa_iload_n (n := 1) rfl ?_
                refine wb_iald 109 rfl (wy_pr rfl) wt_109 (n := 400) ((cl_109 hC)) (by omega) (by omega) (v := (S 109 k)) rfl (fun r63 => ?_)
                refine wa_goto ⟨_, rfl⟩ ?_
                refine wa_ireturn rfl ?_
                refine ⟨rfl, congrArg (fun z => Sum.inl (some (0, z))) ?_⟩
                unfold me_v; simp only [Nat.reduceAdd]; rw [if_pos (by omega)]; rfl
            · subst e
              refine wa_istore (n := 4) rfl ?_
              refine wa_iload (n := 4) rfl ?_
              refine wa_ifeq (w_rg0 (by omega) (by omega)) ⟨_, rfl⟩ (fun c64 => ?_) (fun c64 => ?_)
              · skip
                exact absurd c64 (by omega)
              · skip
                refine wa_aload_n (n := 3) rfl ?_
                refine wb_gf4 73 rfl (wy_pr rfl) wt_73 wf_3_3 (v := 96) wl_73_3 ?_
                refine wa_iload_n (n := 2) rfl ?_
                refine wb_aald5 96 13 rfl rfl (wy_pr rfl) wt_96 (by rw [show _ = _ from ((cl_96 hC))]; omega) wl_96_13 ?_
                refine wa_iload_n (n := 1) rfl ?_
                refine wb_iald 110 rfl (wy_pr rfl) wt_110 (n := 400) ((cl_110 hC)) (by omega) (by omega) (v := (S 110 k)) rfl (fun r65 => ?_)
                refine wa_goto ⟨_, rfl⟩ ?_
                refine wa_ireturn rfl ?_
                refine ⟨rfl, congrArg (fun z => Sum.inl (some (0, z))) ?_⟩
                unfold me_v; simp only [Nat.reduceAdd]; rw [if_pos (by omega)]; rfl
      · skip
        refine wa_fall ⟨_, rfl⟩ ?_
        refine wa_iconst ?_
        refine wa_ireturn rfl ?_
        refine ⟨rfl, congrArg (fun z => Sum.inl (some (0, z))) ?_⟩
        unfold me_v; simp only [Nat.reduceAdd]; rw [if_neg (by omega)]
theorem xsu_73 {k wh : Int} (hC : w_CL S) (h1 : S 72 1 = 73) (h2 : 0 ≤ S 73 2 ∧ S 73 2 ≤ 60) (hk : -2147483648 ≤ k ∧ k ≤ 2147483647) (hw : -2147483648 ≤ wh ∧ wh ≤ 2147483647) : wJ (pe_GA xs) wY0 M (d + 1) t_X_subtype ((pe_at t_X_subtype.bl 0).getD (0, [])).2 [(0, (2, 0)), (1, (0, k)), (2, (0, wh))] [] S (fun o Z => S = Z ∧ o = .inl (some (0, su_v (S 115) (S 73 2) k wh))) := by
  refine wa_bipush (w_rg2 (by omega) (by omega)) ?_
  refine wa_aload_n (n := 0) rfl ?_
  refine wb_gf4 0 rfl (wy_pr rfl) wt_0 wf_10_7 (v := 72) wl_0_7 ?_
  refine wb_gf5 72 rfl (wy_pr rfl) wt_72 wf_2_1 (v := 73) (h1) (fun r1 => ?_)
  refine wb_gfi 73 rfl (wy_pr rfl) wt_73 wf_3_2 (v := (S 73 2)) rfl (fun r2 => ?_)
  refine wa_iadd ?_
  refine wa_istore_n (n := 3) rfl ?_
  refine wa_iload_n (n := 1) rfl ?_
  refine wa_ifle (w_rg0 (by omega) (by omega)) ⟨_, rfl⟩ (fun c3 => ?_) (fun c3 => ?_)
  · skip
    refine wa_iconst ?_
    refine wa_fall ⟨_, rfl⟩ ?_
    refine wa_zreturn rfl (Or.inl rfl) ?_
    refine ⟨rfl, congrArg (fun z => Sum.inl (some (0, z))) ?_⟩
    unfold su_v
    first | (rw [if_neg (by omega)]) | (have hbb := bb_sh (v := S 115 (k - 9)) (o := wh - 9) (by omega); split at hbb <;> rename_i hbq <;> first | omega | (rw [if_neg (by first | omega | (refine ⟨by omega, by omega, Or.inr (Or.inr (Or.inr ⟨by omega, by omega, by omega, hbq⟩))⟩) | (rintro ⟨-, -, q | q | q | q⟩ <;> first | omega | exact hbq q.2.2.2))]))
  · skip
    refine wa_iload_n (n := 2) rfl ?_
    refine wa_ifle (w_rg0 (by omega) (by omega)) ⟨_, rfl⟩ (fun c4 => ?_) (fun c4 => ?_)
    · skip
      refine wa_iconst ?_
      refine wa_fall ⟨_, rfl⟩ ?_
      refine wa_zreturn rfl (Or.inl rfl) ?_
      refine ⟨rfl, congrArg (fun z => Sum.inl (some (0, z))) ?_⟩
      unfold su_v
      first | (rw [if_neg (by omega)]) | (have hbb := bb_sh (v := S 115 (k - 9)) (o := wh - 9) (by omega); split at hbb <;> rename_i hbq <;> first | omega | (rw [if_neg (by first | omega | (refine ⟨by omega, by omega, Or.inr (Or.inr (Or.inr ⟨by omega, by omega, by omega, hbq⟩))⟩) | (rintro ⟨-, -, q | q | q | q⟩ <;> first | omega | exact hbq q.2.2.2))]))
    · skip
      refine wa_iload_n (n := 1) rfl ?_
      refine wa_iload_n (n := 3) rfl ?_
      refine wa_icmpge (w_rg0 (by omega) (by omega)) (w_rg0 (by omega) (by omega)) ⟨_, rfl⟩ (fun c5 => ?_) (fun c5 => ?_)
      · skip
        refine wa_iconst ?_
        refine wa_fall ⟨_, rfl⟩ ?_
        refine wa_zreturn rfl (Or.inl rfl) ?_
        refine ⟨rfl, congrArg (fun z => Sum.inl (some (0, z))) ?_⟩
        unfold su_v
        first | (rw [if_neg (by omega)]) | (have hbb := bb_sh (v := S 115 (k - 9)) (o := wh - 9) (by omega); split at hbb <;> rename_i hbq <;> first | omega | (rw [if_neg (by first | omega | (refine ⟨by omega, by omega, Or.inr (Or.inr (Or.inr ⟨by omega, by omega, by omega, hbq⟩))⟩) | (rintro ⟨-, -, q | q | q | q⟩ <;> first | omega | exact hbq q.2.2.2))]))
      · skip
        refine wa_iload_n (n := 2) rfl ?_
        refine wa_iload_n (n := 3) rfl ?_
        refine wa_icmpge (w_rg0 (by omega) (by omega)) (w_rg0 (by omega) (by omega)) ⟨_, rfl⟩ (fun c6 => ?_) (fun c6 => ?_)
        · skip
          refine wa_iconst ?_
          refine wa_fall ⟨_, rfl⟩ ?_
          refine wa_zreturn rfl (Or.inl rfl) ?_
          refine ⟨rfl, congrArg (fun z => Sum.inl (some (0, z))) ?_⟩
          unfold su_v
          first | (rw [if_neg (by omega)]) | (have hbb := bb_sh (v := S 115 (k - 9)) (o := wh - 9) (by omega); split at hbb <;> rename_i hbq <;> first | omega | (rw [if_neg (by first | omega | (refine ⟨by omega, by omega, Or.inr (Or.inr (Or.inr ⟨by omega, by omega, by omega, hbq⟩))⟩) | (rintro ⟨-, -, q | q | q | q⟩ <;> first | omega | exact hbq q.2.2.2))]))
        · skip
          refine wa_aload_n (n := 0) rfl ?_
          refine wb_gf4 0 rfl (wy_pr rfl) wt_0 wf_10_7 (v := 72) wl_0_7 ?_
          refine wb_gf5 72 rfl (wy_pr rfl) wt_72 wf_2_1 (v := 73) (h1) (fun r7 => ?_)
          refine wa_iload_n (n := 1) rfl ?_
          refine wa_iload_n (n := 2) rfl ?_
          refine wa_cv 73 rfl (wy_pr rfl) wt_73 (M2 := fun _ => False) rfl at_XO_isSubtype ⟨_, rfl⟩ rfl rfl ⟨trivial, (Or.inr ⟨wy_pr rfl, fun q => q⟩), trivial, trivial, trivial⟩ trivial (fun _ _ q => False.elim q) ?_ (fun _ _ _ q => q)
          refine wa_iload_n (n := 1) rfl ?_
          refine wa_iload_n (n := 2) rfl ?_
          refine wa_icmpeq (w_rg0 (by omega) (by omega)) (w_rg0 (by omega) (by omega)) ⟨_, rfl⟩ (fun c8 => ?_) (fun c8 => ?_)
          · skip
            refine wa_iconst ?_
            refine wa_zreturn rfl (Or.inr rfl) ?_
            show wJ _ _ _ _ _ _ _ _ _ _
            refine wa_ifeq (w_rg0 (by omega) (by omega)) ⟨_, rfl⟩ (fun c9 => ?_) (fun c9 => ?_)
            · skip
              exact absurd c9 (by omega)
            · skip
              refine wa_iconst ?_
              refine wa_goto ⟨_, rfl⟩ ?_
              refine wa_zreturn rfl (Or.inr rfl) ?_
              refine ⟨rfl, congrArg (fun z => Sum.inl (some (0, z))) ?_⟩
              unfold su_v
              first | (rw [if_pos (by omega)]) | (have hbb := bb_sh (v := S 115 (k - 9)) (o := wh - 9) (by omega); split at hbb <;> rename_i hbq <;> first | omega | (rw [if_pos (by first | omega | (refine ⟨by omega, by omega, Or.inr (Or.inr (Or.inr ⟨by omega, by omega, by omega, hbq⟩))⟩) | (rintro ⟨-, -, q | q | q | q⟩ <;> first | omega | exact hbq q.2.2.2))]))
          · skip
            refine wa_iload_n (n := 1) rfl ?_
            refine wa_iconst ?_
            refine wa_icmpne (w_rg0 (by omega) (by omega)) (w_rg0 (by omega) (by omega)) ⟨_, rfl⟩ (fun c10 => ?_) (fun c10 => ?_)
            · skip
              refine wa_iload_n (n := 2) rfl ?_
              refine wa_bipush (w_rg2 (by omega) (by omega)) ?_
              refine wa_icmpne (w_rg0 (by omega) (by omega)) (w_rg0 (by omega) (by omega)) ⟨_, rfl⟩ (fun c11 => ?_) (fun c11 => ?_)
              · skip
                refine wa_iload_n (n := 1) rfl ?_
                refine wa_bipush (w_rg2 (by omega) (by omega)) ?_
                refine wa_icmplt (w_rg0 (by omega) (by omega)) (w_rg0 (by omega) (by omega)) ⟨_, rfl⟩ (fun c12 => ?_) (fun c12 => ?_)
                · skip
                  refine wa_iconst ?_
                  refine wa_fall ⟨_, rfl⟩ ?_
                  refine wa_zreturn rfl (Or.inl rfl) ?_
                  show wJ _ _ _ _ _ _ _ _ _ _
                  refine wa_ifeq (w_rg0 (by omega) (by omega)) ⟨_, rfl⟩ (fun c13 => ?_) (fun c13 => ?_)
                  · skip
                    refine wa_iconst ?_
                    refine wa_fall ⟨_, rfl⟩ ?_
                    refine wa_zreturn rfl (Or.inl rfl) ?_
                    refine ⟨rfl, congrArg (fun z => Sum.inl (some (0, z))) ?_⟩
                    unfold su_v
                    first | (rw [if_neg (by omega)]) | (have hbb := bb_sh (v := S 115 (k - 9)) (o := wh - 9) (by omega); split at hbb <;> rename_i hbq <;> first | omega | (rw [if_neg (by first | omega | (refine ⟨by omega, by omega, Or.inr (Or.inr (Or.inr ⟨by omega, by omega, by omega, hbq⟩))⟩) | (rintro ⟨-, -, q | q | q | q⟩ <;> first | omega | exact hbq q.2.2.2))]))
                  · skip
                    exact absurd c13 (by omega)
                · skip
                  refine wa_iload_n (n := 2) rfl ?_
                  refine wa_bipush (w_rg2 (by omega) (by omega)) ?_
                  refine wa_icmplt (w_rg0 (by omega) (by omega)) (w_rg0 (by omega) (by omega)) ⟨_, rfl⟩ (fun c14 => ?_) (fun c14 => ?_)
                  · skip
                    refine wa_iconst ?_
                    refine wa_fall ⟨_, rfl⟩ ?_
                    refine wa_zreturn rfl (Or.inl rfl) ?_
                    show wJ _ _ _ _ _ _ _ _ _ _
                    refine wa_ifeq (w_rg0 (by omega) (by omega)) ⟨_, rfl⟩ (fun c15 => ?_) (fun c15 => ?_)
                    · skip
                      refine wa_iconst ?_
                      refine wa_fall ⟨_, rfl⟩ ?_
                      refine wa_zreturn rfl (Or.inl rfl) ?_
                      refine ⟨rfl, congrArg (fun z => Sum.inl (some (0, z))) ?_⟩
                      unfold su_v
                      first | (rw [if_neg (by omega)]) | (have hbb := bb_sh (v := S 115 (k - 9)) (o := wh - 9) (by omega); split at hbb <;> rename_i hbq <;> first | omega | (rw [if_neg (by first | omega | (refine ⟨by omega, by omega, Or.inr (Or.inr (Or.inr ⟨by omega, by omega, by omega, hbq⟩))⟩) | (rintro ⟨-, -, q | q | q | q⟩ <;> first | omega | exact hbq q.2.2.2))]))
                    · skip
                      exact absurd c15 (by omega)
                  · skip
                    refine wa_aload_n (n := 0) rfl ?_
                    refine wb_gf4 73 rfl (wy_pr rfl) wt_73 wf_3_6 (v := 115) wl_73_6 ?_
                    refine wa_iload_n (n := 1) rfl ?_
                    refine wa_bipush (w_rg2 (by omega) (by omega)) ?_
                    refine wa_isub ?_
                    refine wb_lald 115 rfl (wy_pr rfl) wt_115 (n := 60) ((cl_115 hC)) (by omega) (by omega) (v := (S 115 (k - 9))) rfl (fun r16 => ?_)
                    refine wa_iload_n (n := 2) rfl ?_
                    refine wa_bipush (w_rg2 (by omega) (by omega)) ?_
                    refine wa_isub ?_
                    refine wa_lushr ?_
                    refine wb_lconst (m := 1) rfl ?_
                    refine wa_land ?_
                    refine wb_lconst (m := 1) rfl ?_
                    have hbx : 0 ≤ wb_land (wb_lushr (S 115 (k - 9)) (wh - 9)) 1 ∧ wb_land (wb_lushr (S 115 (k - 9)) (wh - 9)) 1 ≤ 1 := by rw [bb_sh (by omega)]; split <;> omega
                    refine wa_lcmp (w_rg1 (by omega) (by omega)) (w_rg1 (by omega) (by omega)) ?_
                    refine wa_ifne (by have := @wb_lcmp_cases; exact w_lcmp_rg) ⟨_, rfl⟩ (fun c17 => ?_) (fun c17 => ?_)
                    · skip
                      have c17x := @wb_lcmp_cases (wb_land (wb_lushr (S 115 (k - 9)) (wh - 9)) 1) 1
                      refine wa_iconst ?_
                      refine wa_fall ⟨_, rfl⟩ ?_
                      refine wa_zreturn rfl (Or.inl rfl) ?_
                      show wJ _ _ _ _ _ _ _ _ _ _
                      refine wa_ifeq (w_rg0 (by omega) (by omega)) ⟨_, rfl⟩ (fun c18 => ?_) (fun c18 => ?_)
                      · skip
                        refine wa_iconst ?_
                        refine wa_fall ⟨_, rfl⟩ ?_
                        refine wa_zreturn rfl (Or.inl rfl) ?_
                        refine ⟨rfl, congrArg (fun z => Sum.inl (some (0, z))) ?_⟩
                        unfold su_v
                        first | (rw [if_neg (by omega)]) | (have hbb := bb_sh (v := S 115 (k - 9)) (o := wh - 9) (by omega); split at hbb <;> rename_i hbq <;> first | omega | (rw [if_neg (by first | omega | (refine ⟨by omega, by omega, Or.inr (Or.inr (Or.inr ⟨by omega, by omega, by omega, hbq⟩))⟩) | (rintro ⟨-, -, q | q | q | q⟩ <;> first | omega | exact hbq q.2.2.2))]))
                      · skip
                        exact absurd c18 (by omega)
                    · skip
                      have c17x := @wb_lcmp_cases (wb_land (wb_lushr (S 115 (k - 9)) (wh - 9)) 1) 1
                      refine wa_iconst ?_
                      refine wa_goto ⟨_, rfl⟩ ?_
                      refine wa_zreturn rfl (Or.inr rfl) ?_
                      show wJ _ _ _ _ _ _ _ _ _ _
                      refine wa_ifeq (w_rg0 (by omega) (by omega)) ⟨_, rfl⟩ (fun c19 => ?_) (fun c19 => ?_)
                      · skip
                        exact absurd c19 (by omega)
                      · skip
                        refine wa_iconst ?_
                        refine wa_goto ⟨_, rfl⟩ ?_
                        refine wa_zreturn rfl (Or.inr rfl) ?_
                        refine ⟨rfl, congrArg (fun z => Sum.inl (some (0, z))) ?_⟩
                        unfold su_v
                        first | (rw [if_pos (by omega)]) | (have hbb := bb_sh (v := S 115 (k - 9)) (o := wh - 9) (by omega); split at hbb <;> rename_i hbq <;> first | omega | (rw [if_pos (by first | omega | (refine ⟨by omega, by omega, Or.inr (Or.inr (Or.inr ⟨by omega, by omega, by omega, hbq⟩))⟩) | (rintro ⟨-, -, q | q | q | q⟩ <;> first | omega | exact hbq q.2.2.2))]))
              · skip
                refine wa_iload_n (n := 1) rfl ?_
                refine wa_iconst ?_
                refine wa_icmple (w_rg0 (by omega) (by omega)) (w_rg0 (by omega) (by omega)) ⟨_, rfl⟩ (fun c20 => ?_) (fun c20 => ?_)
                · skip
                  refine wa_iconst ?_
                  refine wa_fall ⟨_, rfl⟩ ?_
                  refine wa_zreturn rfl (Or.inl rfl) ?_
                  show wJ _ _ _ _ _ _ _ _ _ _
                  refine wa_ifeq (w_rg0 (by omega) (by omega)) ⟨_, rfl⟩ (fun c21 => ?_) (fun c21 => ?_)
                  · skip
                    refine wa_iconst ?_
                    refine wa_fall ⟨_, rfl⟩ ?_
                    refine wa_zreturn rfl (Or.inl rfl) ?_
                    refine ⟨rfl, congrArg (fun z => Sum.inl (some (0, z))) ?_⟩
                    unfold su_v
                    first | (rw [if_neg (by omega)]) | (have hbb := bb_sh (v := S 115 (k - 9)) (o := wh - 9) (by omega); split at hbb <;> rename_i hbq <;> first | omega | (rw [if_neg (by first | omega | (refine ⟨by omega, by omega, Or.inr (Or.inr (Or.inr ⟨by omega, by omega, by omega, hbq⟩))⟩) | (rintro ⟨-, -, q | q | q | q⟩ <;> first | omega | exact hbq q.2.2.2))]))
                  · skip
                    exact absurd c21 (by omega)
                · skip
                  refine wa_iconst ?_
                  refine wa_goto ⟨_, rfl⟩ ?_
                  refine wa_zreturn rfl (Or.inr rfl) ?_
                  show wJ _ _ _ _ _ _ _ _ _ _
                  refine wa_ifeq (w_rg0 (by omega) (by omega)) ⟨_, rfl⟩ (fun c22 => ?_) (fun c22 => ?_)
                  · skip
                    exact absurd c22 (by omega)
                  · skip
                    refine wa_iconst ?_
                    refine wa_goto ⟨_, rfl⟩ ?_
                    refine wa_zreturn rfl (Or.inr rfl) ?_
                    refine ⟨rfl, congrArg (fun z => Sum.inl (some (0, z))) ?_⟩
                    unfold su_v
                    first | (rw [if_pos (by omega)]) | (have hbb := bb_sh (v := S 115 (k - 9)) (o := wh - 9) (by omega); split at hbb <;> rename_i hbq <;> first | omega | (rw [if_pos (by first | omega | (refine ⟨by omega, by omega, Or.inr (Or.inr (Or.inr ⟨by omega, by omega, by omega, hbq⟩))⟩) | (rintro ⟨-, -, q | q | q | q⟩ <;> first | omega | exact hbq q.2.2.2))]))
            · skip
              refine wa_iload_n (n := 2) rfl ?_
              refine wa_iconst ?_
              refine wa_icmpne (w_rg0 (by omega) (by omega)) (w_rg0 (by omega) (by omega)) ⟨_, rfl⟩ (fun c23 => ?_) (fun c23 => ?_)
              · skip
                refine wa_iload_n (n := 2) rfl ?_
                refine wa_bipush (w_rg2 (by omega) (by omega)) ?_
                refine wa_icmpne (w_rg0 (by omega) (by omega)) (w_rg0 (by omega) (by omega)) ⟨_, rfl⟩ (fun c24 => ?_) (fun c24 => ?_)
                · skip
                  refine wa_iload_n (n := 1) rfl ?_
                  refine wa_bipush (w_rg2 (by omega) (by omega)) ?_
                  refine wa_icmplt (w_rg0 (by omega) (by omega)) (w_rg0 (by omega) (by omega)) ⟨_, rfl⟩ (fun c25 => ?_) (fun c25 => ?_)
                  · skip
                    refine wa_iconst ?_
                    refine wa_fall ⟨_, rfl⟩ ?_
                    refine wa_zreturn rfl (Or.inl rfl) ?_
                    show wJ _ _ _ _ _ _ _ _ _ _
                    refine wa_ifeq (w_rg0 (by omega) (by omega)) ⟨_, rfl⟩ (fun c26 => ?_) (fun c26 => ?_)
                    · skip
                      refine wa_iconst ?_
                      refine wa_fall ⟨_, rfl⟩ ?_
                      refine wa_zreturn rfl (Or.inl rfl) ?_
                      refine ⟨rfl, congrArg (fun z => Sum.inl (some (0, z))) ?_⟩
                      unfold su_v
                      first | (rw [if_neg (by omega)]) | (have hbb := bb_sh (v := S 115 (k - 9)) (o := wh - 9) (by omega); split at hbb <;> rename_i hbq <;> first | omega | (rw [if_neg (by first | omega | (refine ⟨by omega, by omega, Or.inr (Or.inr (Or.inr ⟨by omega, by omega, by omega, hbq⟩))⟩) | (rintro ⟨-, -, q | q | q | q⟩ <;> first | omega | exact hbq q.2.2.2))]))
                    · skip
                      exact absurd c26 (by omega)
                  · skip
                    exact absurd c25 (by omega)
                · skip
                  refine wa_iload_n (n := 1) rfl ?_
                  refine wa_iconst ?_
                  refine wa_icmple (w_rg0 (by omega) (by omega)) (w_rg0 (by omega) (by omega)) ⟨_, rfl⟩ (fun c27 => ?_) (fun c27 => ?_)
                  · skip
                    refine wa_iconst ?_
                    refine wa_fall ⟨_, rfl⟩ ?_
                    refine wa_zreturn rfl (Or.inl rfl) ?_
                    show wJ _ _ _ _ _ _ _ _ _ _
                    refine wa_ifeq (w_rg0 (by omega) (by omega)) ⟨_, rfl⟩ (fun c28 => ?_) (fun c28 => ?_)
                    · skip
                      refine wa_iconst ?_
                      refine wa_fall ⟨_, rfl⟩ ?_
                      refine wa_zreturn rfl (Or.inl rfl) ?_
                      refine ⟨rfl, congrArg (fun z => Sum.inl (some (0, z))) ?_⟩
                      unfold su_v
                      first | (rw [if_neg (by omega)]) | (have hbb := bb_sh (v := S 115 (k - 9)) (o := wh - 9) (by omega); split at hbb <;> rename_i hbq <;> first | omega | (rw [if_neg (by first | omega | (refine ⟨by omega, by omega, Or.inr (Or.inr (Or.inr ⟨by omega, by omega, by omega, hbq⟩))⟩) | (rintro ⟨-, -, q | q | q | q⟩ <;> first | omega | exact hbq q.2.2.2))]))
                    · skip
                      exact absurd c28 (by omega)
                  · skip
                    exact absurd c27 (by omega)
              · skip
                refine wa_fall ⟨_, rfl⟩ ?_
                refine wa_iconst ?_
                refine wa_zreturn rfl (Or.inr rfl) ?_
                show wJ _ _ _ _ _ _ _ _ _ _
                refine wa_ifeq (w_rg0 (by omega) (by omega)) ⟨_, rfl⟩ (fun c29 => ?_) (fun c29 => ?_)
                · skip
                  exact absurd c29 (by omega)
                · skip
                  refine wa_iconst ?_
                  refine wa_goto ⟨_, rfl⟩ ?_
                  refine wa_zreturn rfl (Or.inr rfl) ?_
                  refine ⟨rfl, congrArg (fun z => Sum.inl (some (0, z))) ?_⟩
                  unfold su_v
                  first | (rw [if_pos (by omega)]) | (have hbb := bb_sh (v := S 115 (k - 9)) (o := wh - 9) (by omega); split at hbb <;> rename_i hbq <;> first | omega | (rw [if_pos (by first | omega | (refine ⟨by omega, by omega, Or.inr (Or.inr (Or.inr ⟨by omega, by omega, by omega, hbq⟩))⟩) | (rintro ⟨-, -, q | q | q | q⟩ <;> first | omega | exact hbq q.2.2.2))]))
theorem xty_162 {k wh : Int} (hC : w_CL S) (h1 : S 72 1 = 162) (h2 : 0 ≤ S 162 2 ∧ S 162 2 ≤ 60) (hk : -2147483648 ≤ k ∧ k ≤ 2147483647) (hw : -2147483648 ≤ wh ∧ wh ≤ 2147483647) : wJ (pe_GA xs) wY0 M d t_X_type ((pe_at t_X_type.bl 0).getD (0, [])).2 [(0, (2, 0)), (1, (0, k)), (2, (0, wh))] [] S (fun o Z => S = Z ∧ o = .inl (some (0, ty_v 176 162 S k wh))) := by
  refine wa_aload_n (n := 0) rfl ?_
  refine wb_gf4 0 rfl (wy_pr rfl) wt_0 wf_10_7 (v := 72) wl_0_7 ?_
  refine wb_gf5 72 rfl (wy_pr rfl) wt_72 wf_2_1 (v := 162) (h1) (fun r1 => ?_)
  refine wa_astore_n (n := 3) rfl ?_
  refine wa_iload_n (n := 1) rfl ?_
  refine wa_iflt (w_rg0 (by omega) (by omega)) ⟨_, rfl⟩ (fun c2 => ?_) (fun c2 => ?_)
  · skip
    refine wa_iconst ?_
    refine wa_ireturn rfl ?_
    refine ⟨rfl, congrArg (fun z => Sum.inl (some (0, z))) ?_⟩
    unfold ty_v; rw [if_neg (by omega)]
  · skip
    refine wa_iload_n (n := 1) rfl ?_
    refine wa_aload_n (n := 3) rfl ?_
    refine wb_gfi 162 rfl (wy_pr rfl) wt_162 wf_3_2 (v := (S 162 2)) rfl (fun r3 => ?_)
    refine wa_icmpge (w_rg0 (by omega) (by omega)) (w_rg0 (by omega) (by omega)) ⟨_, rfl⟩ (fun c4 => ?_) (fun c4 => ?_)
    · skip
      refine wa_iconst ?_
      refine wa_ireturn rfl ?_
      refine ⟨rfl, congrArg (fun z => Sum.inl (some (0, z))) ?_⟩
      unfold ty_v; rw [if_neg (by omega)]
    · skip
      refine wa_iload_n (n := 2) rfl ?_
      refine wa_iflt (w_rg0 (by omega) (by omega)) ⟨_, rfl⟩ (fun c5 => ?_) (fun c5 => ?_)
      · skip
        refine wa_iconst ?_
        refine wa_ireturn rfl ?_
        refine ⟨rfl, congrArg (fun z => Sum.inl (some (0, z))) ?_⟩
        unfold ty_v; rw [if_neg (by omega)]
      · skip
        refine wa_iload_n (n := 2) rfl ?_
        refine wa_iconst ?_
        refine wa_icmple (w_rg0 (by omega) (by omega)) (w_rg0 (by omega) (by omega)) ⟨_, rfl⟩ (fun c6 => ?_) (fun c6 => ?_)
        · skip
          rcases (show wh = 0 ∨ wh = 1 ∨ wh = 2 ∨ wh = 3 ∨ wh = 4 by omega) with e | e | e | e | e
          · subst e
            refine wa_aload_n (n := 3) rfl ?_
            refine wb_gf4 162 rfl (wy_pr rfl) wt_162 wf_3_1 (v := 175) wl_162_1 ?_
            refine wa_iload_n (n := 2) rfl ?_
            refine wb_aald5 175 0 rfl rfl (wy_pr rfl) wt_175 (by rw [show _ = _ from ((cl_175 hC))]; omega) wl_175_0 ?_
            refine wa_iload_n (n := 1) rfl ?_
            refine wb_iald 176 rfl (wy_pr rfl) wt_176 (n := 60) ((cl_176 hC)) (by omega) (by omega) (v := (S 176 k)) rfl (fun r7 => ?_)
            refine wa_ireturn rfl ?_
            refine ⟨rfl, congrArg (fun z => Sum.inl (some (0, z))) ?_⟩
            unfold ty_v; rw [if_pos (by omega)]; rfl
          · subst e
            refine wa_aload_n (n := 3) rfl ?_
            refine wb_gf4 162 rfl (wy_pr rfl) wt_162 wf_3_1 (v := 175) wl_162_1 ?_
            refine wa_iload_n (n := 2) rfl ?_
            refine wb_aald5 175 1 rfl rfl (wy_pr rfl) wt_175 (by rw [show _ = _ from ((cl_175 hC))]; omega) wl_175_1 ?_
            refine wa_iload_n (n := 1) rfl ?_
            refine wb_iald 177 rfl (wy_pr rfl) wt_177 (n := 60) ((cl_177 hC)) (by omega) (by omega) (v := (S 177 k)) rfl (fun r8 => ?_)
            refine wa_ireturn rfl ?_
            refine ⟨rfl, congrArg (fun z => Sum.inl (some (0, z))) ?_⟩
            unfold ty_v; rw [if_pos (by omega)]; rfl
          · subst e
            refine wa_aload_n (n := 3) rfl ?_
            refine wb_gf4 162 rfl (wy_pr rfl) wt_162 wf_3_1 (v := 175) wl_162_1 ?_
            refine wa_iload_n (n := 2) rfl ?_
            refine wb_aald5 175 2 rfl rfl (wy_pr rfl) wt_175 (by rw [show _ = _ from ((cl_175 hC))]; omega) wl_175_2 ?_
            refine wa_iload_n (n := 1) rfl ?_
            refine wb_iald 178 rfl (wy_pr rfl) wt_178 (n := 60) ((cl_178 hC)) (by omega) (by omega) (v := (S 178 k)) rfl (fun r9 => ?_)
            refine wa_ireturn rfl ?_
            refine ⟨rfl, congrArg (fun z => Sum.inl (some (0, z))) ?_⟩
            unfold ty_v; rw [if_pos (by omega)]; rfl
          · subst e
            refine wa_aload_n (n := 3) rfl ?_
            refine wb_gf4 162 rfl (wy_pr rfl) wt_162 wf_3_1 (v := 175) wl_162_1 ?_
            refine wa_iload_n (n := 2) rfl ?_
            refine wb_aald5 175 3 rfl rfl (wy_pr rfl) wt_175 (by rw [show _ = _ from ((cl_175 hC))]; omega) wl_175_3 ?_
            refine wa_iload_n (n := 1) rfl ?_
            refine wb_iald 179 rfl (wy_pr rfl) wt_179 (n := 60) ((cl_179 hC)) (by omega) (by omega) (v := (S 179 k)) rfl (fun r10 => ?_)
            refine wa_ireturn rfl ?_
            refine ⟨rfl, congrArg (fun z => Sum.inl (some (0, z))) ?_⟩
            unfold ty_v; rw [if_pos (by omega)]; rfl
          · subst e
            refine wa_aload_n (n := 3) rfl ?_
            refine wb_gf4 162 rfl (wy_pr rfl) wt_162 wf_3_1 (v := 175) wl_162_1 ?_
            refine wa_iload_n (n := 2) rfl ?_
            refine wb_aald5 175 4 rfl rfl (wy_pr rfl) wt_175 (by rw [show _ = _ from ((cl_175 hC))]; omega) wl_175_4 ?_
            refine wa_iload_n (n := 1) rfl ?_
            refine wb_iald 180 rfl (wy_pr rfl) wt_180 (n := 60) ((cl_180 hC)) (by omega) (by omega) (v := (S 180 k)) rfl (fun r11 => ?_)
            refine wa_ireturn rfl ?_
            refine ⟨rfl, congrArg (fun z => Sum.inl (some (0, z))) ?_⟩
            unfold ty_v; rw [if_pos (by omega)]; rfl
        · skip
          refine wa_fall ⟨_, rfl⟩ ?_
          refine wa_iconst ?_
          refine wa_ireturn rfl ?_
          refine ⟨rfl, congrArg (fun z => Sum.inl (some (0, z))) ?_⟩
          unfold ty_v; rw [if_neg (by omega)]
theorem xme_162 {k wh : Int} (hC : w_CL S) (h1 : S 72 1 = 162) (h2 : 0 ≤ S 162 4 ∧ S 162 4 ≤ 400) (h4 : ∀ i : Int, 0 ≤ i → i < S 162 4 → S 190 i ≤ 8) (hk : -2147483648 ≤ k ∧ k ≤ 2147483647) (hw : -2147483648 ≤ wh ∧ wh ≤ 2147483647) : wJ (pe_GA xs) wY0 M d t_X_member ((pe_at t_X_member.bl 0).getD (0, [])).2 [(0, (2, 0)), (1, (0, k)), (2, (0, wh))] [] S (fun o Z => S = Z ∧ o = .inl (some (0, me_v 186 162 S k wh))) := by
  refine wa_aload_n (n := 0) rfl ?_
  refine wb_gf4 0 rfl (wy_pr rfl) wt_0 wf_10_7 (v := 72) wl_0_7 ?_
  refine wb_gf5 72 rfl (wy_pr rfl) wt_72 wf_2_1 (v := 162) (h1) (fun r1 => ?_)
  refine wa_astore_n (n := 3) rfl ?_
  refine wa_iload_n (n := 1) rfl ?_
  refine wa_iflt (w_rg0 (by omega) (by omega)) ⟨_, rfl⟩ (fun c2 => ?_) (fun c2 => ?_)
  · skip
    refine wa_iconst ?_
    refine wa_ireturn rfl ?_
    refine ⟨rfl, congrArg (fun z => Sum.inl (some (0, z))) ?_⟩
    unfold me_v; simp only [Nat.reduceAdd]; rw [if_neg (by omega)]
  · skip
    refine wa_iload_n (n := 1) rfl ?_
    refine wa_aload_n (n := 3) rfl ?_
    refine wb_gfi 162 rfl (wy_pr rfl) wt_162 wf_3_4 (v := (S 162 4)) rfl (fun r3 => ?_)
    refine wa_icmpge (w_rg0 (by omega) (by omega)) (w_rg0 (by omega) (by omega)) ⟨_, rfl⟩ (fun c4 => ?_) (fun c4 => ?_)
    · skip
      refine wa_iconst ?_
      refine wa_ireturn rfl ?_
      refine ⟨rfl, congrArg (fun z => Sum.inl (some (0, z))) ?_⟩
      unfold me_v; simp only [Nat.reduceAdd]; rw [if_neg (by omega)]
    · skip
      refine wa_iload_n (n := 2) rfl ?_
      refine wa_ifge (w_rg0 (by omega) (by omega)) ⟨_, rfl⟩ (fun c5 => ?_) (fun c5 => ?_)
      · skip
        have h8 := h4 k (by omega) (by omega)
        refine wa_iload_n (n := 2) rfl ?_
        refine wa_bipush (w_rg2 (by omega) (by omega)) ?_
        refine wa_icmplt (w_rg0 (by omega) (by omega)) (w_rg0 (by omega) (by omega)) ⟨_, rfl⟩ (fun c6 => ?_) (fun c6 => ?_)
        · skip
          refine wa_iconst ?_
          refine wa_goto ⟨_, rfl⟩ ?_
          rcases (show wh = 0 ∨ wh = 1 ∨ wh = 2 ∨ wh = 3 ∨ wh = 4 ∨ wh = 5 ∨ wh = 6 ∨ wh = 7 ∨ wh = 8 ∨ wh = 9 ∨ wh = 10 ∨ wh = 11 ∨ wh = 12 ∨ wh = 13 by omega) with e | e | e | e | e | e | e | e | e | e | e | e | e | e
          · subst e
            refine wa_istore (n := 4) rfl ?_
            refine wa_iload (n := 4) rfl ?_
            refine wa_ifeq (w_rg0 (by omega) (by omega)) ⟨_, rfl⟩ (fun c7 => ?_) (fun c7 => ?_)
            · skip
              exact absurd c7 (by omega)
            · skip
              refine wa_aload_n (n := 3) rfl ?_
              refine wb_gf4 162 rfl (wy_pr rfl) wt_162 wf_3_3 (v := 185) wl_162_3 ?_
              refine wa_iload_n (n := 2) rfl ?_
              refine wb_aald5 185 0 rfl rfl (wy_pr rfl) wt_185 (by rw [show _ = _ from ((cl_185 hC))]; omega) wl_185_0 ?_
              refine wa_iload_n (n := 1) rfl ?_
              refine wb_iald 186 rfl (wy_pr rfl) wt_186 (n := 400) ((cl_186 hC)) (by omega) (by omega) (v := (S 186 k)) rfl (fun r8 => ?_)
              refine wa_goto ⟨_, rfl⟩ ?_
              refine wa_ireturn rfl ?_
              refine ⟨rfl, congrArg (fun z => Sum.inl (some (0, z))) ?_⟩
              unfold me_v; simp only [Nat.reduceAdd]; rw [if_pos (by omega)]; rfl
          · subst e
            refine wa_istore (n := 4) rfl ?_
            refine wa_iload (n := 4) rfl ?_
            refine wa_ifeq (w_rg0 (by omega) (by omega)) ⟨_, rfl⟩ (fun c9 => ?_) (fun c9 => ?_)
            · skip
              exact absurd c9 (by omega)
            · skip
              refine wa_aload_n (n := 3) rfl ?_
              refine wb_gf4 162 rfl (wy_pr rfl) wt_162 wf_3_3 (v := 185) wl_162_3 ?_
              refine wa_iload_n (n := 2) rfl ?_
              refine wb_aald5 185 1 rfl rfl (wy_pr rfl) wt_185 (by rw [show _ = _ from ((cl_185 hC))]; omega) wl_185_1 ?_
              refine wa_iload_n (n := 1) rfl ?_
              refine wb_iald 187 rfl (wy_pr rfl) wt_187 (n := 400) ((cl_187 hC)) (by omega) (by omega) (v := (S 187 k)) rfl (fun r10 => ?_)
              refine wa_goto ⟨_, rfl⟩ ?_
              refine wa_ireturn rfl ?_
              refine ⟨rfl, congrArg (fun z => Sum.inl (some (0, z))) ?_⟩
              unfold me_v; simp only [Nat.reduceAdd]; rw [if_pos (by omega)]; rfl
          · subst e
            refine wa_istore (n := 4) rfl ?_
            refine wa_iload (n := 4) rfl ?_
            refine wa_ifeq (w_rg0 (by omega) (by omega)) ⟨_, rfl⟩ (fun c11 => ?_) (fun c11 => ?_)
            · skip
              exact absurd c11 (by omega)
            · skip
              refine wa_aload_n (n := 3) rfl ?_
              refine wb_gf4 162 rfl (wy_pr rfl) wt_162 wf_3_3 (v := 185) wl_162_3 ?_
              refine wa_iload_n (n := 2) rfl ?_
              refine wb_aald5 185 2 rfl rfl (wy_pr rfl) wt_185 (by rw [show _ = _ from ((cl_185 hC))]; omega) wl_185_2 ?_
              refine wa_iload_n (n := 1) rfl ?_
              refine wb_iald 188 rfl (wy_pr rfl) wt_188 (n := 400) ((cl_188 hC)) (by omega) (by omega) (v := (S 188 k)) rfl (fun r12 => ?_)
              refine wa_goto ⟨_, rfl⟩ ?_
              refine wa_ireturn rfl ?_
              refine ⟨rfl, congrArg (fun z => Sum.inl (some (0, z))) ?_⟩
              unfold me_v; simp only [Nat.reduceAdd]; rw [if_pos (by omega)]; rfl
          · subst e
            refine wa_istore (n := 4) rfl ?_
            refine wa_iload (n := 4) rfl ?_
            refine wa_ifeq (w_rg0 (by omega) (by omega)) ⟨_, rfl⟩ (fun c13 => ?_) (fun c13 => ?_)
            · skip
              exact absurd c13 (by omega)
            · skip
              refine wa_aload_n (n := 3) rfl ?_
              refine wb_gf4 162 rfl (wy_pr rfl) wt_162 wf_3_3 (v := 185) wl_162_3 ?_
              refine wa_iload_n (n := 2) rfl ?_
              refine wb_aald5 185 3 rfl rfl (wy_pr rfl) wt_185 (by rw [show _ = _ from ((cl_185 hC))]; omega) wl_185_3 ?_
              refine wa_iload_n (n := 1) rfl ?_
              refine wb_iald 189 rfl (wy_pr rfl) wt_189 (n := 400) ((cl_189 hC)) (by omega) (by omega) (v := (S 189 k)) rfl (fun r14 => ?_)
              refine wa_goto ⟨_, rfl⟩ ?_
              refine wa_ireturn rfl ?_
              refine ⟨rfl, congrArg (fun z => Sum.inl (some (0, z))) ?_⟩
              unfold me_v; simp only [Nat.reduceAdd]; rw [if_pos (by omega)]; rfl
          · subst e
            refine wa_istore (n := 4) rfl ?_
            refine wa_iload (n := 4) rfl ?_
            refine wa_ifeq (w_rg0 (by omega) (by omega)) ⟨_, rfl⟩ (fun c15 => ?_) (fun c15 => ?_)
            · skip
              exact absurd c15 (by omega)
            · skip
              refine wa_aload_n (n := 3) rfl ?_
              refine wb_gf4 162 rfl (wy_pr rfl) wt_162 wf_3_3 (v := 185) wl_162_3 ?_
              refine wa_iload_n (n := 2) rfl ?_
              refine wb_aald5 185 4 rfl rfl (wy_pr rfl) wt_185 (by rw [show _ = _ from ((cl_185 hC))]; omega) wl_185_4 ?_
              refine wa_iload_n (n := 1) rfl ?_
              refine wb_iald 190 rfl (wy_pr rfl) wt_190 (n := 400) ((cl_190 hC)) (by omega) (by omega) (v := (S 190 k)) rfl (fun r16 => ?_)
              refine wa_goto ⟨_, rfl⟩ ?_
              refine wa_ireturn rfl ?_
              refine ⟨rfl, congrArg (fun z => Sum.inl (some (0, z))) ?_⟩
              unfold me_v; simp only [Nat.reduceAdd]; rw [if_pos (by omega)]; rfl
          · subst e
            refine wa_istore (n := 4) rfl ?_
            refine wa_iload (n := 4) rfl ?_
            refine wa_ifeq (w_rg0 (by omega) (by omega)) ⟨_, rfl⟩ (fun c17 => ?_) (fun c17 => ?_)
            · skip
              exact absurd c17 (by omega)
            · skip
              refine wa_aload_n (n := 3) rfl ?_
              refine wb_gf4 162 rfl (wy_pr rfl) wt_162 wf_3_3 (v := 185) wl_162_3 ?_
              refine wa_iload_n (n := 2) rfl ?_
              refine wb_aald5 185 5 rfl rfl (wy_pr rfl) wt_185 (by rw [show _ = _ from ((cl_185 hC))]; omega) wl_185_5 ?_
              refine wa_iload_n (n := 1) rfl ?_
              refine wb_iald 191 rfl (wy_pr rfl) wt_191 (n := 400) ((cl_191 hC)) (by omega) (by omega) (v := (S 191 k)) rfl (fun r18 => ?_)
              refine wa_goto ⟨_, rfl⟩ ?_
              refine wa_ireturn rfl ?_
              refine ⟨rfl, congrArg (fun z => Sum.inl (some (0, z))) ?_⟩
              unfold me_v; simp only [Nat.reduceAdd]; rw [if_pos (by omega)]; rfl
          · subst e
            refine wa_istore (n := 4) rfl ?_
            refine wa_iload (n := 4) rfl ?_
            refine wa_ifeq (w_rg0 (by omega) (by omega)) ⟨_, rfl⟩ (fun c19 => ?_) (fun c19 => ?_)
            · skip
              exact absurd c19 (by omega)
            · skip
              refine wa_aload_n (n := 3) rfl ?_
              refine wb_gf4 162 rfl (wy_pr rfl) wt_162 wf_3_3 (v := 185) wl_162_3 ?_
              refine wa_iload_n (n := 2) rfl ?_
              refine wb_aald5 185 6 rfl rfl (wy_pr rfl) wt_185 (by rw [show _ = _ from ((cl_185 hC))]; omega) wl_185_6 ?_
              refine wa_iload_n (n := 1) rfl ?_
              refine wb_iald 192 rfl (wy_pr rfl) wt_192 (n := 400) ((cl_192 hC)) (by omega) (by omega) (v := (S 192 k)) rfl (fun r20 => ?_)
              refine wa_goto ⟨_, rfl⟩ ?_
              refine wa_ireturn rfl ?_
              refine ⟨rfl, congrArg (fun z => Sum.inl (some (0, z))) ?_⟩
              unfold me_v; simp only [Nat.reduceAdd]; rw [if_pos (by omega)]; rfl
          · subst e
            refine wa_istore (n := 4) rfl ?_
            refine wa_iload (n := 4) rfl ?_
            refine wa_ifeq (w_rg0 (by omega) (by omega)) ⟨_, rfl⟩ (fun c21 => ?_) (fun c21 => ?_)
            · skip
              exact absurd c21 (by omega)
            · skip
              refine wa_aload_n (n := 3) rfl ?_
              refine wb_gf4 162 rfl (wy_pr rfl) wt_162 wf_3_3 (v := 185) wl_162_3 ?_
              refine wa_iload_n (n := 2) rfl ?_
              refine wb_aald5 185 7 rfl rfl (wy_pr rfl) wt_185 (by rw [show _ = _ from ((cl_185 hC))]; omega) wl_185_7 ?_
              refine wa_iload_n (n := 1) rfl ?_
              refine wb_iald 193 rfl (wy_pr rfl) wt_193 (n := 400) ((cl_193 hC)) (by omega) (by omega) (v := (S 193 k)) rfl (fun r22 => ?_)
              refine wa_goto ⟨_, rfl⟩ ?_
              refine wa_ireturn rfl ?_
              refine ⟨rfl, congrArg (fun z => Sum.inl (some (0, z))) ?_⟩
              unfold me_v; simp only [Nat.reduceAdd]; rw [if_pos (by omega)]; rfl
          · subst e
            refine wa_istore (n := 4) rfl ?_
            refine wa_iload (n := 4) rfl ?_
            refine wa_ifeq (w_rg0 (by omega) (by omega)) ⟨_, rfl⟩ (fun c23 => ?_) (fun c23 => ?_)
            · skip
              exact absurd c23 (by omega)
            · skip
              refine wa_aload_n (n := 3) rfl ?_
              refine wb_gf4 162 rfl (wy_pr rfl) wt_162 wf_3_3 (v := 185) wl_162_3 ?_
              refine wa_iload_n (n := 2) rfl ?_
              refine wb_aald5 185 8 rfl rfl (wy_pr rfl) wt_185 (by rw [show _ = _ from ((cl_185 hC))]; omega) wl_185_8 ?_
              refine wa_iload_n (n := 1) rfl ?_
              refine wb_iald 194 rfl (wy_pr rfl) wt_194 (n := 400) ((cl_194 hC)) (by omega) (by omega) (v := (S 194 k)) rfl (fun r24 => ?_)
              refine wa_goto ⟨_, rfl⟩ ?_
              refine wa_ireturn rfl ?_
              refine ⟨rfl, congrArg (fun z => Sum.inl (some (0, z))) ?_⟩
              unfold me_v; simp only [Nat.reduceAdd]; rw [if_pos (by omega)]; rfl
          · subst e
            refine wa_istore (n := 4) rfl ?_
            refine wa_iload (n := 4) rfl ?_
            refine wa_ifeq (w_rg0 (by omega) (by omega)) ⟨_, rfl⟩ (fun c25 => ?_) (fun c25 => ?_)
            · skip
              exact absurd c25 (by omega)
            · skip
              refine wa_aload_n (n := 3) rfl ?_
              refine wb_gf4 162 rfl (wy_pr rfl) wt_162 wf_3_3 (v := 185) wl_162_3 ?_
              refine wa_iload_n (n := 2) rfl ?_
              refine wb_aald5 185 9 rfl rfl (wy_pr rfl) wt_185 (by rw [show _ = _ from ((cl_185 hC))]; omega) wl_185_9 ?_
              refine wa_iload_n (n := 1) rfl ?_
              refine wb_iald 195 rfl (wy_pr rfl) wt_195 (n := 400) ((cl_195 hC)) (by omega) (by omega) (v := (S 195 k)) rfl (fun r26 => ?_)
              refine wa_goto ⟨_, rfl⟩ ?_
              refine wa_ireturn rfl ?_
              refine ⟨rfl, congrArg (fun z => Sum.inl (some (0, z))) ?_⟩
              unfold me_v; simp only [Nat.reduceAdd]; rw [if_pos (by omega)]; rfl
          · subst e
            refine wa_istore (n := 4) rfl ?_
            refine wa_iload (n := 4) rfl ?_
            refine wa_ifeq (w_rg0 (by omega) (by omega)) ⟨_, rfl⟩ (fun c27 => ?_) (fun c27 => ?_)
            · skip
              exact absurd c27 (by omega)
            · skip
              refine wa_aload_n (n := 3) rfl ?_
              refine wb_gf4 162 rfl (wy_pr rfl) wt_162 wf_3_3 (v := 185) wl_162_3 ?_
              refine wa_iload_n (n := 2) rfl ?_
              refine wb_aald5 185 10 rfl rfl (wy_pr rfl) wt_185 (by rw [show _ = _ from ((cl_185 hC))]; omega) wl_185_10 ?_
              refine wa_iload_n (n := 1) rfl ?_
              refine wb_iald 196 rfl (wy_pr rfl) wt_196 (n := 400) ((cl_196 hC)) (by omega) (by omega) (v := (S 196 k)) rfl (fun r28 => ?_)
              refine wa_goto ⟨_, rfl⟩ ?_
              refine wa_ireturn rfl ?_
              refine ⟨rfl, congrArg (fun z => Sum.inl (some (0, z))) ?_⟩
              unfold me_v; simp only [Nat.reduceAdd]; rw [if_pos (by omega)]; rfl
          · subst e
            refine wa_istore (n := 4) rfl ?_
            refine wa_iload (n := 4) rfl ?_
            refine wa_ifeq (w_rg0 (by omega) (by omega)) ⟨_, rfl⟩ (fun c29 => ?_) (fun c29 => ?_)
            · skip
              exact absurd c29 (by omega)
            · skip
              refine wa_aload_n (n := 3) rfl ?_
              refine wb_gf4 162 rfl (wy_pr rfl) wt_162 wf_3_3 (v := 185) wl_162_3 ?_
              refine wa_iload_n (n := 2) rfl ?_
              refine wb_aald5 185 11 rfl rfl (wy_pr rfl) wt_185 (by rw [show _ = _ from ((cl_185 hC))]; omega) wl_185_11 ?_
              refine wa_iload_n (n := 1) rfl ?_
              refine wb_iald 197 rfl (wy_pr rfl) wt_197 (n := 400) ((cl_197 hC)) (by omega) (by omega) (v := (S 197 k)) rfl (fun r30 => ?_)
              refine wa_goto ⟨_, rfl⟩ ?_
              refine wa_ireturn rfl ?_
              refine ⟨rfl, congrArg (fun z => Sum.inl (some (0, z))) ?_⟩
              unfold me_v; simp only [Nat.reduceAdd]; rw [if_pos (by omega)]; rfl
          · subst e
            refine wa_istore (n := 4) rfl ?_
            refine wa_iload (n := 4) rfl ?_
            refine wa_ifeq (w_rg0 (by omega) (by omega)) ⟨_, rfl⟩ (fun c31 => ?_) (fun c31 => ?_)
            · skip
              exact absurd c31 (by omega)
            · skip
              refine wa_aload_n (n := 3) rfl ?_
              refine wb_gf4 162 rfl (wy_pr rfl) wt_162 wf_3_3 (v := 185) wl_162_3 ?_
              refine wa_iload_n (n := 2) rfl ?_
              refine wb_aald5 185 12 rfl rfl (wy_pr rfl) wt_185 (by rw [show _ = _ from ((cl_185 hC))]; omega) wl_185_12 ?_
              refine wa_iload_n (n := 1) rfl ?_
              refine wb_iald 198 rfl (wy_pr rfl) wt_198 (n := 400) ((cl_198 hC)) (by omega) (by omega) (v := (S 198 k)) rfl (fun r32 => ?_)
              refine wa_goto ⟨_, rfl⟩ ?_
              refine wa_ireturn rfl ?_
              refine ⟨rfl, congrArg (fun z => Sum.inl (some (0, z))) ?_⟩
              unfold me_v; simp only [Nat.reduceAdd]; rw [if_pos (by omega)]; rfl
          · subst e
            refine wa_istore (n := 4) rfl ?_
            refine wa_iload (n := 4) rfl ?_
            refine wa_ifeq (w_rg0 (by omega) (by omega)) ⟨_, rfl⟩ (fun c33 => ?_) (fun c33 => ?_)
            · skip
              exact absurd c33 (by omega)
            · skip
              refine wa_aload_n (n := 3) rfl ?_
              refine wb_gf4 162 rfl (wy_pr rfl) wt_162 wf_3_3 (v := 185) wl_162_3 ?_
              refine wa_iload_n (n := 2) rfl ?_
              refine wb_aald5 185 13 rfl rfl (wy_pr rfl) wt_185 (by rw [show _ = _ from ((cl_185 hC))]; omega) wl_185_13 ?_
              refine wa_iload_n (n := 1) rfl ?_
              refine wb_iald 199 rfl (wy_pr rfl) wt_199 (n := 400) ((cl_199 hC)) (by omega) (by omega) (v := (S 199 k)) rfl (fun r34 => ?_)
              refine wa_goto ⟨_, rfl⟩ ?_
              refine wa_ireturn rfl ?_
              refine ⟨rfl, congrArg (fun z => Sum.inl (some (0, z))) ?_⟩
              unfold me_v; simp only [Nat.reduceAdd]; rw [if_pos (by omega)]; rfl
        · skip
          refine wa_iload_n (n := 2) rfl ?_
          refine wa_bipush (w_rg2 (by omega) (by omega)) ?_
          refine wa_isub ?_
          refine wa_aload_n (n := 3) rfl ?_
          refine wb_gf4 162 rfl (wy_pr rfl) wt_162 wf_3_3 (v := 185) wl_162_3 ?_
          refine wa_iconst ?_
          refine wb_aald5 185 4 rfl rfl (wy_pr rfl) wt_185 (by rw [show _ = _ from ((cl_185 hC))]; omega) wl_185_4 ?_
          refine wa_iload_n (n := 1) rfl ?_
          refine wb_iald 190 rfl (wy_pr rfl) wt_190 (n := 400) ((cl_190 hC)) (by omega) (by omega) (v := (S 190 k)) rfl (fun r35 => ?_)
          refine wa_icmpge (w_rg0 (by omega) (by omega)) (w_rg0 (by omega) (by omega)) ⟨_, rfl⟩ (fun c36 => ?_) (fun c36 => ?_)
          · skip
            refine wa_iconst ?_
            refine wa_fall ⟨_, rfl⟩ ?_
            refine wa_istore (n := 4) rfl ?_
            refine wa_iload (n := 4) rfl ?_
            refine wa_ifeq (w_rg0 (by omega) (by omega)) ⟨_, rfl⟩ (fun c37 => ?_) (fun c37 => ?_)
            · skip
              refine wa_iconst ?_
              refine wa_fall ⟨_, rfl⟩ ?_
              refine wa_ireturn rfl ?_
              refine ⟨rfl, congrArg (fun z => Sum.inl (some (0, z))) ?_⟩
              unfold me_v; simp only [Nat.reduceAdd]; rw [if_neg (by omega)]
            · skip
              exact absurd c37 (by omega)
          · skip
            refine wa_fall ⟨_, rfl⟩ ?_
            refine wa_iconst ?_
            refine wa_goto ⟨_, rfl⟩ ?_
            rcases (show wh = 0 ∨ wh = 1 ∨ wh = 2 ∨ wh = 3 ∨ wh = 4 ∨ wh = 5 ∨ wh = 6 ∨ wh = 7 ∨ wh = 8 ∨ wh = 9 ∨ wh = 10 ∨ wh = 11 ∨ wh = 12 ∨ wh = 13 by omega) with e | e | e | e | e | e | e | e | e | e | e | e | e | e
            · subst e
              refine wa_istore (n := 4) rfl ?_
              refine wa_iload (n := 4) rfl ?_
              refine wa_ifeq (w_rg0 (by omega) (by omega)) ⟨_, rfl⟩ (fun c38 => ?_) (fun c38 => ?_)
              · skip
                exact absurd c38 (by omega)
              · skip
                refine wa_aload_n (n := 3) rfl ?_
                refine wb_gf4 162 rfl (wy_pr rfl) wt_162 wf_3_3 (v := 185) wl_162_3 ?_
                refine wa_iload_n (n := 2) rfl ?_
                refine wb_aald5 185 0 rfl rfl (wy_pr rfl) wt_185 (by rw [show _ = _ from ((cl_185 hC))]; omega) wl_185_0 ?_
                refine wa_iload_n (n := 1) rfl ?_
                refine wb_iald 186 rfl (wy_pr rfl) wt_186 (n := 400) ((cl_186 hC)) (by omega) (by omega) (v := (S 186 k)) rfl (fun r39 => ?_)
                refine wa_goto ⟨_, rfl⟩ ?_
                refine wa_ireturn rfl ?_
                refine ⟨rfl, congrArg (fun z => Sum.inl (some (0, z))) ?_⟩
                unfold me_v; simp only [Nat.reduceAdd]; rw [if_pos (by omega)]; rfl
            · subst e
              refine wa_istore (n := 4) rfl ?_
              refine wa_iload (n := 4) rfl ?_
              refine wa_ifeq (w_rg0 (by omega) (by omega)) ⟨_, rfl⟩ (fun c40 => ?_) (fun c40 => ?_)
              · skip
                exact absurd c40 (by omega)
              · skip
                refine wa_aload_n (n := 3) rfl ?_
                refine wb_gf4 162 rfl (wy_pr rfl) wt_162 wf_3_3 (v := 185) wl_162_3 ?_
                refine wa_iload_n (n := 2) rfl ?_
                refine wb_aald5 185 1 rfl rfl (wy_pr rfl) wt_185 (by rw [show _ = _ from ((cl_185 hC))]; omega) wl_185_1 ?_
                refine wa_iload_n (n := 1) rfl ?_
                refine wb_iald 187 rfl (wy_pr rfl) wt_187 (n := 400) ((cl_187 hC)) (by omega) (by omega) (v := (S 187 k)) rfl (fun r41 => ?_)
                refine wa_goto ⟨_, rfl⟩ ?_
                refine wa_ireturn rfl ?_
                refine ⟨rfl, congrArg (fun z => Sum.inl (some (0, z))) ?_⟩
                unfold me_v; simp only [Nat.reduceAdd]; rw [if_pos (by omega)]; rfl
            · subst e
              refine wa_istore (n := 4) rfl ?_
              refine wa_iload (n := 4) rfl ?_
              refine wa_ifeq (w_rg0 (by omega) (by omega)) ⟨_, rfl⟩ (fun c42 => ?_) (fun c42 => ?_)
              · skip
                exact absurd c42 (by omega)
              · skip
                refine wa_aload_n (n := 3) rfl ?_
                refine wb_gf4 162 rfl (wy_pr rfl) wt_162 wf_3_3 (v := 185) wl_162_3 ?_
                refine wa_iload_n (n := 2) rfl ?_
                refine wb_aald5 185 2 rfl rfl (wy_pr rfl) wt_185 (by rw [show _ = _ from ((cl_185 hC))]; omega) wl_185_2 ?_
                refine wa_iload_n (n := 1) rfl ?_
                refine wb_iald 188 rfl (wy_pr rfl) wt_188 (n := 400) ((cl_188 hC)) (by omega) (by omega) (v := (S 188 k)) rfl (fun r43 => ?_)
                refine wa_goto ⟨_, rfl⟩ ?_
                refine wa_ireturn rfl ?_
                refine ⟨rfl, congrArg (fun z => Sum.inl (some (0, z))) ?_⟩
                unfold me_v; simp only [Nat.reduceAdd]; rw [if_pos (by omega)]; rfl
            · subst e
              refine wa_istore (n := 4) rfl ?_
              refine wa_iload (n := 4) rfl ?_
              refine wa_ifeq (w_rg0 (by omega) (by omega)) ⟨_, rfl⟩ (fun c44 => ?_) (fun c44 => ?_)
              · skip
                exact absurd c44 (by omega)
              · skip
                refine wa_aload_n (n := 3) rfl ?_
                refine wb_gf4 162 rfl (wy_pr rfl) wt_162 wf_3_3 (v := 185) wl_162_3 ?_
                refine wa_iload_n (n := 2) rfl ?_
                refine wb_aald5 185 3 rfl rfl (wy_pr rfl) wt_185 (by rw [show _ = _ from ((cl_185 hC))]; omega) wl_185_3 ?_
                refine wa_iload_n (n := 1) rfl ?_
                refine wb_iald 189 rfl (wy_pr rfl) wt_189 (n := 400) ((cl_189 hC)) (by omega) (by omega) (v := (S 189 k)) rfl (fun r45 => ?_)
                refine wa_goto ⟨_, rfl⟩ ?_
                refine wa_ireturn rfl ?_
                refine ⟨rfl, congrArg (fun z => Sum.inl (some (0, z))) ?_⟩
                unfold me_v; simp only [Nat.reduceAdd]; rw [if_pos (by omega)]; rfl
            · subst e
              refine wa_istore (n := 4) rfl ?_
              refine wa_iload (n := 4) rfl ?_
              refine wa_ifeq (w_rg0 (by omega) (by omega)) ⟨_, rfl⟩ (fun c46 => ?_) (fun c46 => ?_)
              · skip
                exact absurd c46 (by omega)
              · skip
                refine wa_aload_n (n := 3) rfl ?_
                refine wb_gf4 162 rfl (wy_pr rfl) wt_162 wf_3_3 (v := 185) wl_162_3 ?_
                refine wa_iload_n (n := 2) rfl ?_
                refine wb_aald5 185 4 rfl rfl (wy_pr rfl) wt_185 (by rw [show _ = _ from ((cl_185 hC))]; omega) wl_185_4 ?_
                refine wa_iload_n (n := 1) rfl ?_
                refine wb_iald 190 rfl (wy_pr rfl) wt_190 (n := 400) ((cl_190 hC)) (by omega) (by omega) (v := (S 190 k)) rfl (fun r47 => ?_)
                refine wa_goto ⟨_, rfl⟩ ?_
                refine wa_ireturn rfl ?_
                refine ⟨rfl, congrArg (fun z => Sum.inl (some (0, z))) ?_⟩
                unfold me_v; simp only [Nat.reduceAdd]; rw [if_pos (by omega)]; rfl
            · subst e
              refine wa_istore (n := 4) rfl ?_
              refine wa_iload (n := 4) rfl ?_
              refine wa_ifeq (w_rg0 (by omega) (by omega)) ⟨_, rfl⟩ (fun c48 => ?_) (fun c48 => ?_)
              · skip
                exact absurd c48 (by omega)
              · skip
                refine wa_aload_n (n := 3) rfl ?_
                refine wb_gf4 162 rfl (wy_pr rfl) wt_162 wf_3_3 (v := 185) wl_162_3 ?_
                refine wa_iload_n (n := 2) rfl ?_
                refine wb_aald5 185 5 rfl rfl (wy_pr rfl) wt_185 (by rw [show _ = _ from ((cl_185 hC))]; omega) wl_185_5 ?_
                refine wa_iload_n (n := 1) rfl ?_
                refine wb_iald 191 rfl (wy_pr rfl) wt_191 (n := 400) ((cl_191 hC)) (by omega) (by omega) (v := (S 191 k)) rfl (fun r49 => ?_)
                refine wa_goto ⟨_, rfl⟩ ?_
                refine wa_ireturn rfl ?_
                refine ⟨rfl, congrArg (fun z => Sum.inl (some (0, z))) ?_⟩
                unfold me_v; simp only [Nat.reduceAdd]; rw [if_pos (by omega)]; rfl
            · subst e
              refine wa_istore (n := 4) rfl ?_
              refine wa_iload (n := 4) rfl ?_
              refine wa_ifeq (w_rg0 (by omega) (by omega)) ⟨_, rfl⟩ (fun c50 => ?_) (fun c50 => ?_)
              · skip
                exact absurd c50 (by omega)
              · skip
                refine wa_aload_n (n := 3) rfl ?_
                refine wb_gf4 162 rfl (wy_pr rfl) wt_162 wf_3_3 (v := 185) wl_162_3 ?_
                refine wa_iload_n (n := 2) rfl ?_
                refine wb_aald5 185 6 rfl rfl (wy_pr rfl) wt_185 (by rw [show _ = _ from ((cl_185 hC))]; omega) wl_185_6 ?_
                refine wa_iload_n (n := 1) rfl ?_
                refine wb_iald 192 rfl (wy_pr rfl) wt_192 (n := 400) ((cl_192 hC)) (by omega) (by omega) (v := (S 192 k)) rfl (fun r51 => ?_)
                refine wa_goto ⟨_, rfl⟩ ?_
                refine wa_ireturn rfl ?_
                refine ⟨rfl, congrArg (fun z => Sum.inl (some (0, z))) ?_⟩
                unfold me_v; simp only [Nat.reduceAdd]; rw [if_pos (by omega)]; rfl
            · subst e
              refine wa_istore (n := 4) rfl ?_
              refine wa_iload (n := 4) rfl ?_
              refine wa_ifeq (w_rg0 (by omega) (by omega)) ⟨_, rfl⟩ (fun c52 => ?_) (fun c52 => ?_)
              · skip
                exact absurd c52 (by omega)
              · skip
                refine wa_aload_n (n := 3) rfl ?_
                refine wb_gf4 162 rfl (wy_pr rfl) wt_162 wf_3_3 (v := 185) wl_162_3 ?_
                refine wa_iload_n (n := 2) rfl ?_
                refine wb_aald5 185 7 rfl rfl (wy_pr rfl) wt_185 (by rw [show _ = _ from ((cl_185 hC))]; omega) wl_185_7 ?_
                refine wa_iload_n (n := 1) rfl ?_
                refine wb_iald 193 rfl (wy_pr rfl) wt_193 (n := 400) ((cl_193 hC)) (by omega) (by omega) (v := (S 193 k)) rfl (fun r53 => ?_)
                refine wa_goto ⟨_, rfl⟩ ?_
                refine wa_ireturn rfl ?_
                refine ⟨rfl, congrArg (fun z => Sum.inl (some (0, z))) ?_⟩
                unfold me_v; simp only [Nat.reduceAdd]; rw [if_pos (by omega)]; rfl
            · subst e
              refine wa_istore (n := 4) rfl ?_
              refine wa_iload (n := 4) rfl ?_
              refine wa_ifeq (w_rg0 (by omega) (by omega)) ⟨_, rfl⟩ (fun c54 => ?_) (fun c54 => ?_)
              · skip
                exact absurd c54 (by omega)
              · skip
                refine wa_aload_n (n := 3) rfl ?_
                refine wb_gf4 162 rfl (wy_pr rfl) wt_162 wf_3_3 (v := 185) wl_162_3 ?_
                refine wa_iload_n (n := 2) rfl ?_
                refine wb_aald5 185 8 rfl rfl (wy_pr rfl) wt_185 (by rw [show _ = _ from ((cl_185 hC))]; omega) wl_185_8 ?_
                refine wa_iload_n (n := 1) rfl ?_
                refine wb_iald 194 rfl (wy_pr rfl) wt_194 (n := 400) ((cl_194 hC)) (by omega) (by omega) (v := (S 194 k)) rfl (fun r55 => ?_)
                refine wa_goto ⟨_, rfl⟩ ?_
                refine wa_ireturn rfl ?_
                refine ⟨rfl, congrArg (fun z => Sum.inl (some (0, z))) ?_⟩
                unfold me_v; simp only [Nat.reduceAdd]; rw [if_pos (by omega)]; rfl
            · subst e
              refine wa_istore (n := 4) rfl ?_
              refine wa_iload (n := 4) rfl ?_
              refine wa_ifeq (w_rg0 (by omega) (by omega)) ⟨_, rfl⟩ (fun c56 => ?_) (fun c56 => ?_)
              · skip
                exact absurd c56 (by omega)
              · skip
                refine wa_aload_n (n := 3) rfl ?_
                refine wb_gf4 162 rfl (wy_pr rfl) wt_162 wf_3_3 (v := 185) wl_162_3 ?_
                refine wa_iload_n (n := 2) rfl ?_
                refine wb_aald5 185 9 rfl rfl (wy_pr rfl) wt_185 (by rw [show _ = _ from ((cl_185 hC))]; omega) wl_185_9 ?_
                refine wa_iload_n (n := 1) rfl ?_
                refine wb_iald 195 rfl (wy_pr rfl) wt_195 (n := 400) ((cl_195 hC)) (by omega) (by omega) (v := (S 195 k)) rfl (fun r57 => ?_)
                refine wa_goto ⟨_, rfl⟩ ?_
                refine wa_ireturn rfl ?_
                refine ⟨rfl, congrArg (fun z => Sum.inl (some (0, z))) ?_⟩
                unfold me_v; simp only [Nat.reduceAdd]; rw [if_pos (by omega)]; rfl
            · subst e
              refine wa_istore (n := 4) rfl ?_
              refine wa_iload (n := 4) rfl ?_
              refine wa_ifeq (w_rg0 (by omega) (by omega)) ⟨_, rfl⟩ (fun c58 => ?_) (fun c58 => ?_)
              · skip
                exact absurd c58 (by omega)
              · skip
                refine wa_aload_n (n := 3) rfl ?_
                refine wb_gf4 162 rfl (wy_pr rfl) wt_162 wf_3_3 (v := 185) wl_162_3 ?_
                refine wa_iload_n (n := 2) rfl ?_
                refine wb_aald5 185 10 rfl rfl (wy_pr rfl) wt_185 (by rw [show _ = _ from ((cl_185 hC))]; omega) wl_185_10 ?_
                refine wa_iload_n (n := 1) rfl ?_
                refine wb_iald 196 rfl (wy_pr rfl) wt_196 (n := 400) ((cl_196 hC)) (by omega) (by omega) (v := (S 196 k)) rfl (fun r59 => ?_)
                refine wa_goto ⟨_, rfl⟩ ?_
                refine wa_ireturn rfl ?_
                refine ⟨rfl, congrArg (fun z => Sum.inl (some (0, z))) ?_⟩
                unfold me_v; simp only [Nat.reduceAdd]; rw [if_pos (by omega)]; rfl
            · subst e
              refine wa_istore (n := 4) rfl ?_
              refine wa_iload (n := 4) rfl ?_
              refine wa_ifeq (w_rg0 (by omega) (by omega)) ⟨_, rfl⟩ (fun c60 => ?_) (fun c60 => ?_)
              · skip
                exact absurd c60 (by omega)
              · skip
                refine wa_aload_n (n := 3) rfl ?_
                refine wb_gf4 162 rfl (wy_pr rfl) wt_162 wf_3_3 (v := 185) wl_162_3 ?_
                refine wa_iload_n (n := 2) rfl ?_
                refine wb_aald5 185 11 rfl rfl (wy_pr rfl) wt_185 (by rw [show _ = _ from ((cl_185 hC))]; omega) wl_185_11 ?_
                refine wa_iload_n (n := 1) rfl ?_
                refine wb_iald 197 rfl (wy_pr rfl) wt_197 (n := 400) ((cl_197 hC)) (by omega) (by omega) (v := (S 197 k)) rfl (fun r61 => ?_)
                refine wa_goto ⟨_, rfl⟩ ?_
                refine wa_ireturn rfl ?_
                refine ⟨rfl, congrArg (fun z => Sum.inl (some (0, z))) ?_⟩
                unfold me_v; simp only [Nat.reduceAdd]; rw [if_pos (by omega)]; rfl
            · subst e
              refine wa_istore (n := 4) rfl ?_
              refine wa_iload (n := 4) rfl ?_
              refine wa_ifeq (w_rg0 (by omega) (by omega)) ⟨_, rfl⟩ (fun c62 => ?_) (fun c62 => ?_)
              · skip
                exact absurd c62 (by omega)
              · skip
                refine wa_aload_n (n := 3) rfl ?_
                refine wb_gf4 162 rfl (wy_pr rfl) wt_162 wf_3_3 (v := 185) wl_162_3 ?_
                refine wa_iload_n (n := 2) rfl ?_
                refine wb_aald5 185 12 rfl rfl (wy_pr rfl) wt_185 (by rw [show _ = _ from ((cl_185 hC))]; omega) wl_185_12 ?_
                refine wa_iload_n (n := 1) rfl ?_
                refine wb_iald 198 rfl (wy_pr rfl) wt_198 (n := 400) ((cl_198 hC)) (by omega) (by omega) (v := (S 198 k)) rfl (fun r63 => ?_)
                refine wa_goto ⟨_, rfl⟩ ?_
                refine wa_ireturn rfl ?_
                refine ⟨rfl, congrArg (fun z => Sum.inl (some (0, z))) ?_⟩
                unfold me_v; simp only [Nat.reduceAdd]; rw [if_pos (by omega)]; rfl
            · subst e
              refine wa_istore (n := 4) rfl ?_
              refine wa_iload (n := 4) rfl ?_
              refine wa_ifeq (w_rg0 (by omega) (by omega)) ⟨_, rfl⟩ (fun c64 => ?_) (fun c64 => ?_)
              · skip
                exact absurd c64 (by omega)
              · skip
                refine wa_aload_n (n := 3) rfl ?_
                refine wb_gf4 162 rfl (wy_pr rfl) wt_162 wf_3_3 (v := 185) wl_162_3 ?_
                refine wa_iload_n (n := 2) rfl ?_
                refine wb_aald5 185 13 rfl rfl (wy_pr rfl) wt_185 (by rw [show _ = _ from ((cl_185 hC))]; omega) wl_185_13 ?_
                refine wa_iload_n (n := 1) rfl ?_
                refine wb_iald 199 rfl (wy_pr rfl) wt_199 (n := 400) ((cl_199 hC)) (by omega) (by omega) (v := (S 199 k)) rfl (fun r65 => ?_)
                refine wa_goto ⟨_, rfl⟩ ?_
                refine wa_ireturn rfl ?_
                refine ⟨rfl, congrArg (fun z => Sum.inl (some (0, z))) ?_⟩
                unfold me_v; simp only [Nat.reduceAdd]; rw [if_pos (by omega)]; rfl
      · skip
        refine wa_fall ⟨_, rfl⟩ ?_
        refine wa_iconst ?_
        refine wa_ireturn rfl ?_
        refine ⟨rfl, congrArg (fun z => Sum.inl (some (0, z))) ?_⟩
        unfold me_v; simp only [Nat.reduceAdd]; rw [if_neg (by omega)]
theorem xsu_162 {k wh : Int} (hC : w_CL S) (h1 : S 72 1 = 162) (h2 : 0 ≤ S 162 2 ∧ S 162 2 ≤ 60) (hk : -2147483648 ≤ k ∧ k ≤ 2147483647) (hw : -2147483648 ≤ wh ∧ wh ≤ 2147483647) : wJ (pe_GA xs) wY0 M (d + 1) t_X_subtype ((pe_at t_X_subtype.bl 0).getD (0, [])).2 [(0, (2, 0)), (1, (0, k)), (2, (0, wh))] [] S (fun o Z => S = Z ∧ o = .inl (some (0, su_v (S 204) (S 162 2) k wh))) := by
  refine wa_bipush (w_rg2 (by omega) (by omega)) ?_
  refine wa_aload_n (n := 0) rfl ?_
  refine wb_gf4 0 rfl (wy_pr rfl) wt_0 wf_10_7 (v := 72) wl_0_7 ?_
  refine wb_gf5 72 rfl (wy_pr rfl) wt_72 wf_2_1 (v := 162) (h1) (fun r1 => ?_)
  refine wb_gfi 162 rfl (wy_pr rfl) wt_162 wf_3_2 (v := (S 162 2)) rfl (fun r2 => ?_)
  refine wa_iadd ?_
  refine wa_istore_n (n := 3) rfl ?_
  refine wa_iload_n (n := 1) rfl ?_
  refine wa_ifle (w_rg0 (by omega) (by omega)) ⟨_, rfl⟩ (fun c3 => ?_) (fun c3 => ?_)
  · skip
    refine wa_iconst ?_
    refine wa_fall ⟨_, rfl⟩ ?_
    refine wa_zreturn rfl (Or.inl rfl) ?_
    refine ⟨rfl, congrArg (fun z => Sum.inl (some (0, z))) ?_⟩
    unfold su_v
    first | (rw [if_neg (by omega)]) | (have hbb := bb_sh (v := S 204 (k - 9)) (o := wh - 9) (by omega); split at hbb <;> rename_i hbq <;> first | omega | (rw [if_neg (by first | omega | (refine ⟨by omega, by omega, Or.inr (Or.inr (Or.inr ⟨by omega, by omega, by omega, hbq⟩))⟩) | (rintro ⟨-, -, q | q | q | q⟩ <;> first | omega | exact hbq q.2.2.2))]))
  · skip
    refine wa_iload_n (n := 2) rfl ?_
    refine wa_ifle (w_rg0 (by omega) (by omega)) ⟨_, rfl⟩ (fun c4 => ?_) (fun c4 => ?_)
    · skip
      refine wa_iconst ?_
      refine wa_fall ⟨_, rfl⟩ ?_
      refine wa_zreturn rfl (Or.inl rfl) ?_
      refine ⟨rfl, congrArg (fun z => Sum.inl (some (0, z))) ?_⟩
      unfold su_v
      first | (rw [if_neg (by omega)]) | (have hbb := bb_sh (v := S 204 (k - 9)) (o := wh - 9) (by omega); split at hbb <;> rename_i hbq <;> first | omega | (rw [if_neg (by first | omega | (refine ⟨by omega, by omega, Or.inr (Or.inr (Or.inr ⟨by omega, by omega, by omega, hbq⟩))⟩) | (rintro ⟨-, -, q | q | q | q⟩ <;> first | omega | exact hbq q.2.2.2))]))
    · skip
      refine wa_iload_n (n := 1) rfl ?_
      refine wa_iload_n (n := 3) rfl ?_
      refine wa_icmpge (w_rg0 (by omega) (by omega)) (w_rg0 (by omega) (by omega)) ⟨_, rfl⟩ (fun c5 => ?_) (fun c5 => ?_)
      · skip
        refine wa_iconst ?_
        refine wa_fall ⟨_, rfl⟩ ?_
        refine wa_zreturn rfl (Or.inl rfl) ?_
        refine ⟨rfl, congrArg (fun z => Sum.inl (some (0, z))) ?_⟩
        unfold su_v
        first | (rw [if_neg (by omega)]) | (have hbb := bb_sh (v := S 204 (k - 9)) (o := wh - 9) (by omega); split at hbb <;> rename_i hbq <;> first | omega | (rw [if_neg (by first | omega | (refine ⟨by omega, by omega, Or.inr (Or.inr (Or.inr ⟨by omega, by omega, by omega, hbq⟩))⟩) | (rintro ⟨-, -, q | q | q | q⟩ <;> first | omega | exact hbq q.2.2.2))]))
      · skip
        refine wa_iload_n (n := 2) rfl ?_
        refine wa_iload_n (n := 3) rfl ?_
        refine wa_icmpge (w_rg0 (by omega) (by omega)) (w_rg0 (by omega) (by omega)) ⟨_, rfl⟩ (fun c6 => ?_) (fun c6 => ?_)
        · skip
          refine wa_iconst ?_
          refine wa_fall ⟨_, rfl⟩ ?_
          refine wa_zreturn rfl (Or.inl rfl) ?_
          refine ⟨rfl, congrArg (fun z => Sum.inl (some (0, z))) ?_⟩
          unfold su_v
          first | (rw [if_neg (by omega)]) | (have hbb := bb_sh (v := S 204 (k - 9)) (o := wh - 9) (by omega); split at hbb <;> rename_i hbq <;> first | omega | (rw [if_neg (by first | omega | (refine ⟨by omega, by omega, Or.inr (Or.inr (Or.inr ⟨by omega, by omega, by omega, hbq⟩))⟩) | (rintro ⟨-, -, q | q | q | q⟩ <;> first | omega | exact hbq q.2.2.2))]))
        · skip
          refine wa_aload_n (n := 0) rfl ?_
          refine wb_gf4 0 rfl (wy_pr rfl) wt_0 wf_10_7 (v := 72) wl_0_7 ?_
          refine wb_gf5 72 rfl (wy_pr rfl) wt_72 wf_2_1 (v := 162) (h1) (fun r7 => ?_)
          refine wa_iload_n (n := 1) rfl ?_
          refine wa_iload_n (n := 2) rfl ?_
          refine wa_cv 162 rfl (wy_pr rfl) wt_162 (M2 := fun _ => False) rfl at_XO_isSubtype ⟨_, rfl⟩ rfl rfl ⟨trivial, (Or.inr ⟨wy_pr rfl, fun q => q⟩), trivial, trivial, trivial⟩ trivial (fun _ _ q => False.elim q) ?_ (fun _ _ _ q => q)
          refine wa_iload_n (n := 1) rfl ?_
          refine wa_iload_n (n := 2) rfl ?_
          refine wa_icmpeq (w_rg0 (by omega) (by omega)) (w_rg0 (by omega) (by omega)) ⟨_, rfl⟩ (fun c8 => ?_) (fun c8 => ?_)
          · skip
            refine wa_iconst ?_
            refine wa_zreturn rfl (Or.inr rfl) ?_
            show wJ _ _ _ _ _ _ _ _ _ _
            refine wa_ifeq (w_rg0 (by omega) (by omega)) ⟨_, rfl⟩ (fun c9 => ?_) (fun c9 => ?_)
            · skip
              exact absurd c9 (by omega)
            · skip
              refine wa_iconst ?_
              refine wa_goto ⟨_, rfl⟩ ?_
              refine wa_zreturn rfl (Or.inr rfl) ?_
              refine ⟨rfl, congrArg (fun z => Sum.inl (some (0, z))) ?_⟩
              unfold su_v
              first | (rw [if_pos (by omega)]) | (have hbb := bb_sh (v := S 204 (k - 9)) (o := wh - 9) (by omega); split at hbb <;> rename_i hbq <;> first | omega | (rw [if_pos (by first | omega | (refine ⟨by omega, by omega, Or.inr (Or.inr (Or.inr ⟨by omega, by omega, by omega, hbq⟩))⟩) | (rintro ⟨-, -, q | q | q | q⟩ <;> first | omega | exact hbq q.2.2.2))]))
          · skip
            refine wa_iload_n (n := 1) rfl ?_
            refine wa_iconst ?_
            refine wa_icmpne (w_rg0 (by omega) (by omega)) (w_rg0 (by omega) (by omega)) ⟨_, rfl⟩ (fun c10 => ?_) (fun c10 => ?_)
            · skip
              refine wa_iload_n (n := 2) rfl ?_
              refine wa_bipush (w_rg2 (by omega) (by omega)) ?_
              refine wa_icmpne (w_rg0 (by omega) (by omega)) (w_rg0 (by omega) (by omega)) ⟨_, rfl⟩ (fun c11 => ?_) (fun c11 => ?_)
              · skip
                refine wa_iload_n (n := 1) rfl ?_
                refine wa_bipush (w_rg2 (by omega) (by omega)) ?_
                refine wa_icmplt (w_rg0 (by omega) (by omega)) (w_rg0 (by omega) (by omega)) ⟨_, rfl⟩ (fun c12 => ?_) (fun c12 => ?_)
                · skip
                  refine wa_iconst ?_
                  refine wa_fall ⟨_, rfl⟩ ?_
                  refine wa_zreturn rfl (Or.inl rfl) ?_
                  show wJ _ _ _ _ _ _ _ _ _ _
                  refine wa_ifeq (w_rg0 (by omega) (by omega)) ⟨_, rfl⟩ (fun c13 => ?_) (fun c13 => ?_)
                  · skip
                    refine wa_iconst ?_
                    refine wa_fall ⟨_, rfl⟩ ?_
                    refine wa_zreturn rfl (Or.inl rfl) ?_
                    refine ⟨rfl, congrArg (fun z => Sum.inl (some (0, z))) ?_⟩
                    unfold su_v
                    first | (rw [if_neg (by omega)]) | (have hbb := bb_sh (v := S 204 (k - 9)) (o := wh - 9) (by omega); split at hbb <;> rename_i hbq <;> first | omega | (rw [if_neg (by first | omega | (refine ⟨by omega, by omega, Or.inr (Or.inr (Or.inr ⟨by omega, by omega, by omega, hbq⟩))⟩) | (rintro ⟨-, -, q | q | q | q⟩ <;> first | omega | exact hbq q.2.2.2))]))
                  · skip
                    exact absurd c13 (by omega)
                · skip
                  refine wa_iload_n (n := 2) rfl ?_
                  refine wa_bipush (w_rg2 (by omega) (by omega)) ?_
                  refine wa_icmplt (w_rg0 (by omega) (by omega)) (w_rg0 (by omega) (by omega)) ⟨_, rfl⟩ (fun c14 => ?_) (fun c14 => ?_)
                  · skip
                    refine wa_iconst ?_
                    refine wa_fall ⟨_, rfl⟩ ?_
                    refine wa_zreturn rfl (Or.inl rfl) ?_
                    show wJ _ _ _ _ _ _ _ _ _ _
                    refine wa_ifeq (w_rg0 (by omega) (by omega)) ⟨_, rfl⟩ (fun c15 => ?_) (fun c15 => ?_)
                    · skip
                      refine wa_iconst ?_
                      refine wa_fall ⟨_, rfl⟩ ?_
                      refine wa_zreturn rfl (Or.inl rfl) ?_
                      refine ⟨rfl, congrArg (fun z => Sum.inl (some (0, z))) ?_⟩
                      unfold su_v
                      first | (rw [if_neg (by omega)]) | (have hbb := bb_sh (v := S 204 (k - 9)) (o := wh - 9) (by omega); split at hbb <;> rename_i hbq <;> first | omega | (rw [if_neg (by first | omega | (refine ⟨by omega, by omega, Or.inr (Or.inr (Or.inr ⟨by omega, by omega, by omega, hbq⟩))⟩) | (rintro ⟨-, -, q | q | q | q⟩ <;> first | omega | exact hbq q.2.2.2))]))
                    · skip
                      exact absurd c15 (by omega)
                  · skip
                    refine wa_aload_n (n := 0) rfl ?_
                    refine wb_gf4 162 rfl (wy_pr rfl) wt_162 wf_3_6 (v := 204) wl_162_6 ?_
                    refine wa_iload_n (n := 1) rfl ?_
                    refine wa_bipush (w_rg2 (by omega) (by omega)) ?_
                    refine wa_isub ?_
                    refine wb_lald 204 rfl (wy_pr rfl) wt_204 (n := 60) ((cl_204 hC)) (by omega) (by omega) (v := (S 204 (k - 9))) rfl (fun r16 => ?_)
                    refine wa_iload_n (n := 2) rfl ?_
                    refine wa_bipush (w_rg2 (by omega) (by omega)) ?_
                    refine wa_isub ?_
                    refine wa_lushr ?_
                    refine wb_lconst (m := 1) rfl ?_
                    refine wa_land ?_
                    refine wb_lconst (m := 1) rfl ?_
                    have hbx : 0 ≤ wb_land (wb_lushr (S 204 (k - 9)) (wh - 9)) 1 ∧ wb_land (wb_lushr (S 204 (k - 9)) (wh - 9)) 1 ≤ 1 := by rw [bb_sh (by omega)]; split <;> omega
                    refine wa_lcmp (w_rg1 (by omega) (by omega)) (w_rg1 (by omega) (by omega)) ?_
                    refine wa_ifne (by have := @wb_lcmp_cases; exact w_lcmp_rg) ⟨_, rfl⟩ (fun c17 => ?_) (fun c17 => ?_)
                    · skip
                      have c17x := @wb_lcmp_cases (wb_land (wb_lushr (S 204 (k - 9)) (wh - 9)) 1) 1
                      refine wa_iconst ?_
                      refine wa_fall ⟨_, rfl⟩ ?_
                      refine wa_zreturn rfl (Or.inl rfl) ?_
                      show wJ _ _ _ _ _ _ _ _ _ _
                      refine wa_ifeq (w_rg0 (by omega) (by omega)) ⟨_, rfl⟩ (fun c18 => ?_) (fun c18 => ?_)
                      · skip
                        refine wa_iconst ?_
                        refine wa_fall ⟨_, rfl⟩ ?_
                        refine wa_zreturn rfl (Or.inl rfl) ?_
                        refine ⟨rfl, congrArg (fun z => Sum.inl (some (0, z))) ?_⟩
                        unfold su_v
                        first | (rw [if_neg (by omega)]) | (have hbb := bb_sh (v := S 204 (k - 9)) (o := wh - 9) (by omega); split at hbb <;> rename_i hbq <;> first | omega | (rw [if_neg (by first | omega | (refine ⟨by omega, by omega, Or.inr (Or.inr (Or.inr ⟨by omega, by omega, by omega, hbq⟩))⟩) | (rintro ⟨-, -, q | q | q | q⟩ <;> first | omega | exact hbq q.2.2.2))]))
                      · skip
                        exact absurd c18 (by omega)
                    · skip
                      have c17x := @wb_lcmp_cases (wb_land (wb_lushr (S 204 (k - 9)) (wh - 9)) 1) 1
                      refine wa_iconst ?_
                      refine wa_goto ⟨_, rfl⟩ ?_
                      refine wa_zreturn rfl (Or.inr rfl) ?_
                      show wJ _ _ _ _ _ _ _ _ _ _
                      refine wa_ifeq (w_rg0 (by omega) (by omega)) ⟨_, rfl⟩ (fun c19 => ?_) (fun c19 => ?_)
                      · skip
                        exact absurd c19 (by omega)
                      · skip
                        refine wa_iconst ?_
                        refine wa_goto ⟨_, rfl⟩ ?_
                        refine wa_zreturn rfl (Or.inr rfl) ?_
                        refine ⟨rfl, congrArg (fun z => Sum.inl (some (0, z))) ?_⟩
                        unfold su_v
                        first | (rw [if_pos (by omega)]) | (have hbb := bb_sh (v := S 204 (k - 9)) (o := wh - 9) (by omega); split at hbb <;> rename_i hbq <;> first | omega | (rw [if_pos (by first | omega | (refine ⟨by omega, by omega, Or.inr (Or.inr (Or.inr ⟨by omega, by omega, by omega, hbq⟩))⟩) | (rintro ⟨-, -, q | q | q | q⟩ <;> first | omega | exact hbq q.2.2.2))]))
              · skip
                refine wa_iload_n (n := 1) rfl ?_
                refine wa_iconst ?_
                refine wa_icmple (w_rg0 (by omega) (by omega)) (w_rg0 (by omega) (by omega)) ⟨_, rfl⟩ (fun c20 => ?_) (fun c20 => ?_)
                · skip
                  refine wa_iconst ?_
                  refine wa_fall ⟨_, rfl⟩ ?_
                  refine wa_zreturn rfl (Or.inl rfl) ?_
                  show wJ _ _ _ _ _ _ _ _ _ _
                  refine wa_ifeq (w_rg0 (by omega) (by omega)) ⟨_, rfl⟩ (fun c21 => ?_) (fun c21 => ?_)
                  · skip
                    refine wa_iconst ?_
                    refine wa_fall ⟨_, rfl⟩ ?_
                    refine wa_zreturn rfl (Or.inl rfl) ?_
                    refine ⟨rfl, congrArg (fun z => Sum.inl (some (0, z))) ?_⟩
                    unfold su_v
                    first | (rw [if_neg (by omega)]) | (have hbb := bb_sh (v := S 204 (k - 9)) (o := wh - 9) (by omega); split at hbb <;> rename_i hbq <;> first | omega | (rw [if_neg (by first | omega | (refine ⟨by omega, by omega, Or.inr (Or.inr (Or.inr ⟨by omega, by omega, by omega, hbq⟩))⟩) | (rintro ⟨-, -, q | q | q | q⟩ <;> first | omega | exact hbq q.2.2.2))]))
                  · skip
                    exact absurd c21 (by omega)
                · skip
                  refine wa_iconst ?_
                  refine wa_goto ⟨_, rfl⟩ ?_
                  refine wa_zreturn rfl (Or.inr rfl) ?_
                  show wJ _ _ _ _ _ _ _ _ _ _
                  refine wa_ifeq (w_rg0 (by omega) (by omega)) ⟨_, rfl⟩ (fun c22 => ?_) (fun c22 => ?_)
                  · skip
                    exact absurd c22 (by omega)
                  · skip
                    refine wa_iconst ?_
                    refine wa_goto ⟨_, rfl⟩ ?_
                    refine wa_zreturn rfl (Or.inr rfl) ?_
                    refine ⟨rfl, congrArg (fun z => Sum.inl (some (0, z))) ?_⟩
                    unfold su_v
                    first | (rw [if_pos (by omega)]) | (have hbb := bb_sh (v := S 204 (k - 9)) (o := wh - 9) (by omega); split at hbb <;> rename_i hbq <;> first | omega | (rw [if_pos (by first | omega | (refine ⟨by omega, by omega, Or.inr (Or.inr (Or.inr ⟨by omega, by omega, by omega, hbq⟩))⟩) | (rintro ⟨-, -, q | q | q | q⟩ <;> first | omega | exact hbq q.2.2.2))]))
            · skip
              refine wa_iload_n (n := 2) rfl ?_
              refine wa_iconst ?_
              refine wa_icmpne (w_rg0 (by omega) (by omega)) (w_rg0 (by omega) (by omega)) ⟨_, rfl⟩ (fun c23 => ?_) (fun c23 => ?_)
              · skip
                refine wa_iload_n (n := 2) rfl ?_
                refine wa_bipush (w_rg2 (by omega) (by omega)) ?_
                refine wa_icmpne (w_rg0 (by omega) (by omega)) (w_rg0 (by omega) (by omega)) ⟨_, rfl⟩ (fun c24 => ?_) (fun c24 => ?_)
                · skip
                  refine wa_iload_n (n := 1) rfl ?_
                  refine wa_bipush (w_rg2 (by omega) (by omega)) ?_
                  refine wa_icmplt (w_rg0 (by omega) (by omega)) (w_rg0 (by omega) (by omega)) ⟨_, rfl⟩ (fun c25 => ?_) (fun c25 => ?_)
                  · skip
                    refine wa_iconst ?_
                    refine wa_fall ⟨_, rfl⟩ ?_
                    refine wa_zreturn rfl (Or.inl rfl) ?_
                    show wJ _ _ _ _ _ _ _ _ _ _
                    refine wa_ifeq (w_rg0 (by omega) (by omega)) ⟨_, rfl⟩ (fun c26 => ?_) (fun c26 => ?_)
                    · skip
                      refine wa_iconst ?_
                      refine wa_fall ⟨_, rfl⟩ ?_
                      refine wa_zreturn rfl (Or.inl rfl) ?_
                      refine ⟨rfl, congrArg (fun z => Sum.inl (some (0, z))) ?_⟩
                      unfold su_v
                      first | (rw [if_neg (by omega)]) | (have hbb := bb_sh (v := S 204 (k - 9)) (o := wh - 9) (by omega); split at hbb <;> rename_i hbq <;> first | omega | (rw [if_neg (by first | omega | (refine ⟨by omega, by omega, Or.inr (Or.inr (Or.inr ⟨by omega, by omega, by omega, hbq⟩))⟩) | (rintro ⟨-, -, q | q | q | q⟩ <;> first | omega | exact hbq q.2.2.2))]))
                    · skip
                      exact absurd c26 (by omega)
                  · skip
                    exact absurd c25 (by omega)
                · skip
                  refine wa_iload_n (n := 1) rfl ?_
                  refine wa_iconst ?_
                  refine wa_icmple (w_rg0 (by omega) (by omega)) (w_rg0 (by omega) (by omega)) ⟨_, rfl⟩ (fun c27 => ?_) (fun c27 => ?_)
                  · skip
                    refine wa_iconst ?_
                    refine wa_fall ⟨_, rfl⟩ ?_
                    refine wa_zreturn rfl (Or.inl rfl) ?_
                    show wJ _ _ _ _ _ _ _ _ _ _
                    refine wa_ifeq (w_rg0 (by omega) (by omega)) ⟨_, rfl⟩ (fun c28 => ?_) (fun c28 => ?_)
                    · skip
                      refine wa_iconst ?_
                      refine wa_fall ⟨_, rfl⟩ ?_
                      refine wa_zreturn rfl (Or.inl rfl) ?_
                      refine ⟨rfl, congrArg (fun z => Sum.inl (some (0, z))) ?_⟩
                      unfold su_v
                      first | (rw [if_neg (by omega)]) | (have hbb := bb_sh (v := S 204 (k - 9)) (o := wh - 9) (by omega); split at hbb <;> rename_i hbq <;> first | omega | (rw [if_neg (by first | omega | (refine ⟨by omega, by omega, Or.inr (Or.inr (Or.inr ⟨by omega, by omega, by omega, hbq⟩))⟩) | (rintro ⟨-, -, q | q | q | q⟩ <;> first | omega | exact hbq q.2.2.2))]))
                    · skip
                      exact absurd c28 (by omega)
                  · skip
                    exact absurd c27 (by omega)
              · skip
                refine wa_fall ⟨_, rfl⟩ ?_
                refine wa_iconst ?_
                refine wa_zreturn rfl (Or.inr rfl) ?_
                show wJ _ _ _ _ _ _ _ _ _ _
                refine wa_ifeq (w_rg0 (by omega) (by omega)) ⟨_, rfl⟩ (fun c29 => ?_) (fun c29 => ?_)
                · skip
                  exact absurd c29 (by omega)
                · skip
                  refine wa_iconst ?_
                  refine wa_goto ⟨_, rfl⟩ ?_
                  refine wa_zreturn rfl (Or.inr rfl) ?_
                  refine ⟨rfl, congrArg (fun z => Sum.inl (some (0, z))) ?_⟩
                  unfold su_v
                  first | (rw [if_pos (by omega)]) | (have hbb := bb_sh (v := S 204 (k - 9)) (o := wh - 9) (by omega); split at hbb <;> rename_i hbq <;> first | omega | (rw [if_pos (by first | omega | (refine ⟨by omega, by omega, Or.inr (Or.inr (Or.inr ⟨by omega, by omega, by omega, hbq⟩))⟩) | (rintro ⟨-, -, q | q | q | q⟩ <;> first | omega | exact hbq q.2.2.2))]))
end Waj
