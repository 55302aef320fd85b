/-! PART ak: type, member, subtype of the reference. -/
section Wak
variable {xs : List (Nat × List Int32)} {M : Nat → Prop} {d c : Nat} {A B C S Z : wS} {Q : wO → wS → Prop} {T : Int → Int} {n : Int}
theorem mty_241 {k wh : Int} (hM : w_ML S) (h1 : S 237 13 = 241) (h2 : 0 ≤ S 241 1 ∧ S 241 1 ≤ 60) (hk : -2147483648 ≤ k ∧ k ≤ 2147483647) (hw : -2147483648 ≤ wh ∧ wh ≤ 2147483647) : wJ (pe_GA xs) wY0 M (d + 1) t_M_type ((pe_at t_M_type.bl 0).getD (0, [])).2 [(0, (2, 237)), (1, (0, k)), (2, (0, wh))] [] S (fun o Z => w_up S 237 0 0 = Z ∧ o = .inl (some (0, ty_r 241 S k wh))) := by
  refine wa_aload_n (n := 0) rfl ?_
  refine wa_iconst ?_
  refine wb_pfi 237 rfl (wy_pr rfl) wt_237 wf_15_0 (n := 0) rfl ⟨(by omega), (by omega)⟩ ?_
  refine wa_iload_n (n := 1) rfl ?_
  refine wa_i2l (w_rg0 (by omega) (by omega)) ?_
  refine wa_lconst ?_
  refine wa_aload_n (n := 0) rfl ?_
  refine wb_gf5 237 rfl (wy_pr rfl) wt_237 wf_15_13 (v := 241) ((w_up_at (by decide)).trans (h1)) (fun r1 => ?_)
  refine wb_gfi 241 rfl (wy_pr rfl) wt_241 wf_12_1 (v := (S 241 1)) (w_up_slot (by decide)) (fun r2 => ?_)
  refine wa_iconst ?_
  refine wa_isub ?_
  refine wa_i2l (w_rg0 (by omega) (by omega)) ?_
  refine wa_cs (M2 := fun _ => False) rfl at_M_in ⟨_, rfl⟩ rfl rfl ⟨(Or.inr ⟨wy_pr rfl, fun q => q⟩), trivial, trivial, trivial⟩ trivial (fun _ _ q => False.elim q) (in_ok (S := (w_up S 237 0 0)) (a := k) (lo := 0) (hi := ((S 241 1) - 1)) ⟨by omega, by omega⟩ ⟨by omega, by omega⟩ ⟨by omega, by omega⟩) (fun oq4 Sq4 hp5 q4 => ?_)
  rcases q4 with ⟨rfl, ⟨rfl, hin3⟩ | ⟨rfl, hin3⟩⟩
  · skip
    show wJ _ _ _ _ _ _ _ _ _ _
    refine wa_ifne (w_rg0 (by omega) (by omega)) ⟨_, rfl⟩ (fun c6 => ?_) (fun c6 => ?_)
    · skip
      refine wa_iload_n (n := 2) rfl ?_
      by_cases c7 : wh = 0
      · refine wb_sw (w_rg0 (by omega) (by omega)) (tb := 2) (by rw [c7]; rfl) ⟨_, rfl⟩ ?_
        refine wa_aload_n (n := 0) rfl ?_
        refine wb_gf5 237 rfl (wy_pr rfl) wt_237 wf_15_13 (v := 241) ((w_up_at (by decide)).trans (h1)) (fun r8 => ?_)
        refine wb_gf4 241 rfl (wy_pr rfl) wt_241 wf_12_2 (v := 243) wl_241_2 ?_
        refine wa_iload_n (n := 1) rfl ?_
        refine wb_zald 243 rfl (wy_pr rfl) wt_243 (n := 60) ((w_up_slot (by decide)).trans ((ml_243 hM))) (by omega) (by omega) (v := (S 243 k)) (w_up_slot (by decide)) (fun r9 => ?_)
        refine wa_ifeq (w_rg0 (by omega) (by omega)) ⟨_, rfl⟩ (fun c10 => ?_) (fun c10 => ?_)
        · skip
          refine wa_iconst ?_
          refine wa_fall ⟨_, rfl⟩ ?_
          refine wa_ireturn rfl ?_
          refine ⟨rfl, congrArg (fun z => Sum.inl (some (0, z))) ?_⟩
          unfold ty_r
          simp only [Nat.reduceAdd]
          first | (have hz : 0 ≤ S 243 k ∧ S 243 k ≤ 1 := by first | assumption | exact (by assumption : w_rg 3 (S 243 k)))
          first | (rw [if_neg (by omega)]; done) | (rw [if_pos (by omega)]; repeat (first | rw [if_pos (by omega)] | rw [if_neg (by omega)]))
          all_goals first | rfl | (show _ = _; omega)
        · skip
          refine wa_iconst ?_
          refine wa_goto ⟨_, rfl⟩ ?_
          refine wa_ireturn rfl ?_
          refine ⟨rfl, congrArg (fun z => Sum.inl (some (0, z))) ?_⟩
          unfold ty_r
          simp only [Nat.reduceAdd]
          first | (have hz : 0 ≤ S 243 k ∧ S 243 k ≤ 1 := by first | assumption | exact (by assumption : w_rg 3 (S 243 k)))
          first | (rw [if_neg (by omega)]; done) | (rw [if_pos (by omega)]; repeat (first | rw [if_pos (by omega)] | rw [if_neg (by omega)]))
          all_goals first | rfl | (show _ = _; omega)
      by_cases c11 : wh = 1
      · refine wb_sw (w_rg0 (by omega) (by omega)) (tb := 5) (by rw [c11]; rfl) ⟨_, rfl⟩ ?_
        refine wa_aload_n (n := 0) rfl ?_
        refine wb_gf5 237 rfl (wy_pr rfl) wt_237 wf_15_13 (v := 241) ((w_up_at (by decide)).trans (h1)) (fun r12 => ?_)
        refine wb_gf4 241 rfl (wy_pr rfl) wt_241 wf_12_3 (v := 244) wl_241_3 ?_
        refine wa_iload_n (n := 1) rfl ?_
        refine wb_iald 244 rfl (wy_pr rfl) wt_244 (n := 60) ((w_up_slot (by decide)).trans ((ml_244 hM))) (by omega) (by omega) (v := (S 244 k)) (w_up_slot (by decide)) (fun r13 => ?_)
        refine wa_ireturn rfl ?_
        refine ⟨rfl, congrArg (fun z => Sum.inl (some (0, z))) ?_⟩
        unfold ty_r
        simp only [Nat.reduceAdd]
        first | (rw [if_neg (by omega)]; done) | (rw [if_pos (by omega)]; repeat (first | rw [if_pos (by omega)] | rw [if_neg (by omega)]))
        all_goals first | rfl | (show _ = _; omega)
      by_cases c14 : wh = 2
      · refine wb_sw (w_rg0 (by omega) (by omega)) (tb := 6) (by rw [c14]; rfl) ⟨_, rfl⟩ ?_
        refine wa_aload_n (n := 0) rfl ?_
        refine wb_gf5 237 rfl (wy_pr rfl) wt_237 wf_15_13 (v := 241) ((w_up_at (by decide)).trans (h1)) (fun r15 => ?_)
        refine wb_gf4 241 rfl (wy_pr rfl) wt_241 wf_12_4 (v := 245) wl_241_4 ?_
        refine wa_iload_n (n := 1) rfl ?_
        refine wb_iald 245 rfl (wy_pr rfl) wt_245 (n := 60) ((w_up_slot (by decide)).trans ((ml_245 hM))) (by omega) (by omega) (v := (S 245 k)) (w_up_slot (by decide)) (fun r16 => ?_)
        refine wa_ireturn rfl ?_
        refine ⟨rfl, congrArg (fun z => Sum.inl (some (0, z))) ?_⟩
        unfold ty_r
        simp only [Nat.reduceAdd]
        first | (rw [if_neg (by omega)]; done) | (rw [if_pos (by omega)]; repeat (first | rw [if_pos (by omega)] | rw [if_neg (by omega)]))
        all_goals first | rfl | (show _ = _; omega)
      by_cases c17 : wh = 3
      · refine wb_sw (w_rg0 (by omega) (by omega)) (tb := 7) (by rw [c17]; rfl) ⟨_, rfl⟩ ?_
        refine wa_aload_n (n := 0) rfl ?_
        refine wb_gf5 237 rfl (wy_pr rfl) wt_237 wf_15_13 (v := 241) ((w_up_at (by decide)).trans (h1)) (fun r18 => ?_)
        refine wb_gf4 241 rfl (wy_pr rfl) wt_241 wf_12_8 (v := 249) wl_241_8 ?_
        refine wa_iload_n (n := 1) rfl ?_
        refine wb_iald 249 rfl (wy_pr rfl) wt_249 (n := 60) ((w_up_slot (by decide)).trans ((ml_249 hM))) (by omega) (by omega) (v := (S 249 k)) (w_up_slot (by decide)) (fun r19 => ?_)
        refine wa_ireturn rfl ?_
        refine ⟨rfl, congrArg (fun z => Sum.inl (some (0, z))) ?_⟩
        unfold ty_r
        simp only [Nat.reduceAdd]
        first | (rw [if_neg (by omega)]; done) | (rw [if_pos (by omega)]; repeat (first | rw [if_pos (by omega)] | rw [if_neg (by omega)]))
        all_goals first | rfl | (show _ = _; omega)
      by_cases c20 : wh = 4
      · refine wb_sw (w_rg0 (by omega) (by omega)) (tb := 8) (by rw [c20]; rfl) ⟨_, rfl⟩ ?_
        refine wa_aload_n (n := 0) rfl ?_
        refine wb_gf5 237 rfl (wy_pr rfl) wt_237 wf_15_13 (v := 241) ((w_up_at (by decide)).trans (h1)) (fun r21 => ?_)
        refine wb_gf4 241 rfl (wy_pr rfl) wt_241 wf_12_7 (v := 248) wl_241_7 ?_
        refine wa_iload_n (n := 1) rfl ?_
        refine wb_iald 248 rfl (wy_pr rfl) wt_248 (n := 60) ((w_up_slot (by decide)).trans ((ml_248 hM))) (by omega) (by omega) (v := (S 248 k)) (w_up_slot (by decide)) (fun r22 => ?_)
        refine wa_ireturn rfl ?_
        refine ⟨rfl, congrArg (fun z => Sum.inl (some (0, z))) ?_⟩
        unfold ty_r
        simp only [Nat.reduceAdd]
        first | (rw [if_neg (by omega)]; done) | (rw [if_pos (by omega)]; repeat (first | rw [if_pos (by omega)] | rw [if_neg (by omega)]))
        all_goals first | rfl | (show _ = _; omega)
      refine wb_sw (w_rg0 (by omega) (by omega)) (tb := 9) (w_tb_df (by simp only [List.length_cons, List.length_nil]; omega)) ⟨_, rfl⟩ ?_
      refine wa_iconst ?_
      refine wa_ireturn rfl ?_
      refine ⟨rfl, congrArg (fun z => Sum.inl (some (0, z))) ?_⟩
      unfold ty_r
      simp only [Nat.reduceAdd]
      first | (rw [if_neg (by omega)]; done) | (rw [if_pos (by omega)]; repeat (first | rw [if_pos (by omega)] | rw [if_neg (by omega)]))
      all_goals first | rfl | (show _ = _; omega)
    · skip
      exact absurd c6 (by omega)
  · skip
    show wJ _ _ _ _ _ _ _ _ _ _
    refine wa_ifne (w_rg0 (by omega) (by omega)) ⟨_, rfl⟩ (fun c23 => ?_) (fun c23 => ?_)
    · skip
      exact absurd c23 (by omega)
    · skip
      refine wa_iconst ?_
      refine wa_ireturn rfl ?_
      refine ⟨rfl, congrArg (fun z => Sum.inl (some (0, z))) ?_⟩
      unfold ty_r
      simp only [Nat.reduceAdd]
      first | (rw [if_neg (by omega)]; done) | (rw [if_pos (by omega)]; repeat (first | rw [if_pos (by omega)] | rw [if_neg (by omega)]))
      all_goals first | rfl | (show _ = _; omega)
theorem mme_241 {k wh : Int} (hM : w_ML S) (h1 : S 237 13 = 241) (h2 : 0 ≤ S 241 11 ∧ S 241 11 ≤ 400) (h4 : ∀ i : Int, 0 ≤ i → i < S 241 11 → 0 ≤ S 256 i ∧ S 256 i ≤ 8) (hk : -2147483648 ≤ k ∧ k ≤ 2147483647) (hw : -2147483648 ≤ wh ∧ wh ≤ 2147483647) : wJ (pe_GA xs) wY0 M (d + 1) t_M_member ((pe_at t_M_member.bl 0).getD (0, [])).2 [(0, (2, 237)), (1, (0, k)), (2, (0, wh))] [] S (fun o Z => w_up S 237 0 0 = Z ∧ o = .inl (some (0, me_r 241 S k wh))) := by
  refine wa_aload_n (n := 0) rfl ?_
  refine wa_iconst ?_
  refine wb_pfi 237 rfl (wy_pr rfl) wt_237 wf_15_0 (n := 0) rfl ⟨(by omega), (by omega)⟩ ?_
  refine wa_iload_n (n := 1) rfl ?_
  refine wa_i2l (w_rg0 (by omega) (by omega)) ?_
  refine wa_lconst ?_
  refine wa_aload_n (n := 0) rfl ?_
  refine wb_gf5 237 rfl (wy_pr rfl) wt_237 wf_15_13 (v := 241) ((w_up_at (by decide)).trans (h1)) (fun r1 => ?_)
  refine wb_gfi 241 rfl (wy_pr rfl) wt_241 wf_12_11 (v := (S 241 11)) (w_up_slot (by decide)) (fun r2 => ?_)
  refine wa_iconst ?_
  refine wa_isub ?_
  refine wa_i2l (w_rg0 (by omega) (by omega)) ?_
  refine wa_cs (M2 := fun _ => False) rfl at_M_in ⟨_, rfl⟩ rfl rfl ⟨(Or.inr ⟨wy_pr rfl, fun q => q⟩), trivial, trivial, trivial⟩ trivial (fun _ _ q => False.elim q) (in_ok (S := (w_up S 237 0 0)) (a := k) (lo := 0) (hi := ((S 241 11) - 1)) ⟨by omega, by omega⟩ ⟨by omega, by omega⟩ ⟨by omega, by omega⟩) (fun oq4 Sq4 hp5 q4 => ?_)
  rcases q4 with ⟨rfl, ⟨rfl, hin3⟩ | ⟨rfl, hin3⟩⟩
  · skip
    show wJ _ _ _ _ _ _ _ _ _ _
    refine wa_ifne (w_rg0 (by omega) (by omega)) ⟨_, rfl⟩ (fun c6 => ?_) (fun c6 => ?_)
    · skip
      refine wa_iload_n (n := 2) rfl ?_
      by_cases c7 : wh = 0
      · refine wb_sw (w_rg0 (by omega) (by omega)) (tb := 2) (by rw [c7]; rfl) ⟨_, rfl⟩ ?_
        refine wa_aload_n (n := 0) rfl ?_
        refine wb_gf5 237 rfl (wy_pr rfl) wt_237 wf_15_13 (v := 241) ((w_up_at (by decide)).trans (h1)) (fun r8 => ?_)
        refine wb_gf4 241 rfl (wy_pr rfl) wt_241 wf_12_12 (v := 252) wl_241_12 ?_
        refine wa_iload_n (n := 1) rfl ?_
        refine wb_iald 252 rfl (wy_pr rfl) wt_252 (n := 400) ((w_up_slot (by decide)).trans ((ml_252 hM))) (by omega) (by omega) (v := (S 252 k)) (w_up_slot (by decide)) (fun r9 => ?_)
        refine wa_ireturn rfl ?_
        refine ⟨rfl, congrArg (fun z => Sum.inl (some (0, z))) ?_⟩
        unfold me_r
        simp only [Nat.reduceAdd]
        first | (rw [if_neg (by omega)]; done) | (rw [if_pos (by omega)]; repeat (first | rw [if_pos (by omega)] | rw [if_neg (by omega)]))
        all_goals first | rfl | (show _ = _; omega)
      by_cases c10 : wh = 1
      · refine wb_sw (w_rg0 (by omega) (by omega)) (tb := 3) (by rw [c10]; rfl) ⟨_, rfl⟩ ?_
        refine wa_aload_n (n := 0) rfl ?_
        refine wb_gf5 237 rfl (wy_pr rfl) wt_237 wf_15_13 (v := 241) ((w_up_at (by decide)).trans (h1)) (fun r11 => ?_)
        refine wb_gf4 241 rfl (wy_pr rfl) wt_241 wf_12_13 (v := 253) wl_241_13 ?_
        refine wa_iload_n (n := 1) rfl ?_
        refine wb_iald 253 rfl (wy_pr rfl) wt_253 (n := 400) ((w_up_slot (by decide)).trans ((ml_253 hM))) (by omega) (by omega) (v := (S 253 k)) (w_up_slot (by decide)) (fun r12 => ?_)
        refine wa_ireturn rfl ?_
        refine ⟨rfl, congrArg (fun z => Sum.inl (some (0, z))) ?_⟩
        unfold me_r
        simp only [Nat.reduceAdd]
        first | (rw [if_neg (by omega)]; done) | (rw [if_pos (by omega)]; repeat (first | rw [if_pos (by omega)] | rw [if_neg (by omega)]))
        all_goals first | rfl | (show _ = _; omega)
      by_cases c13 : wh = 2
      · refine wb_sw (w_rg0 (by omega) (by omega)) (tb := 4) (by rw [c13]; rfl) ⟨_, rfl⟩ ?_
        refine wa_aload_n (n := 0) rfl ?_
        refine wb_gf5 237 rfl (wy_pr rfl) wt_237 wf_15_13 (v := 241) ((w_up_at (by decide)).trans (h1)) (fun r14 => ?_)
        refine wb_gf4 241 rfl (wy_pr rfl) wt_241 wf_12_14 (v := 254) wl_241_14 ?_
        refine wa_iload_n (n := 1) rfl ?_
        refine wb_zald 254 rfl (wy_pr rfl) wt_254 (n := 400) ((w_up_slot (by decide)).trans ((ml_254 hM))) (by omega) (by omega) (v := (S 254 k)) (w_up_slot (by decide)) (fun r15 => ?_)
        refine wa_ifeq (w_rg0 (by omega) (by omega)) ⟨_, rfl⟩ (fun c16 => ?_) (fun c16 => ?_)
        · skip
          refine wa_iconst ?_
          refine wa_fall ⟨_, rfl⟩ ?_
          refine wa_ireturn rfl ?_
          refine ⟨rfl, congrArg (fun z => Sum.inl (some (0, z))) ?_⟩
          unfold me_r
          simp only [Nat.reduceAdd]
          first | (have hz : 0 ≤ S 254 k ∧ S 254 k ≤ 1 := by first | assumption | exact (by assumption : w_rg 3 (S 254 k))) | (have hz : 0 ≤ S 257 k ∧ S 257 k ≤ 1 := by first | assumption | exact (by assumption : w_rg 3 (S 257 k)))
          first | (rw [if_neg (by omega)]; done) | (rw [if_pos (by omega)]; repeat (first | rw [if_pos (by omega)] | rw [if_neg (by omega)]))
          all_goals first | rfl | (show _ = _; omega)
        · skip
          refine wa_iconst ?_
          refine wa_goto ⟨_, rfl⟩ ?_
          refine wa_ireturn rfl ?_
          refine ⟨rfl, congrArg (fun z => Sum.inl (some (0, z))) ?_⟩
          unfold me_r
          simp only [Nat.reduceAdd]
          first | (have hz : 0 ≤ S 254 k ∧ S 254 k ≤ 1 := by first | assumption | exact (by assumption : w_rg 3 (S 254 k))) | (have hz : 0 ≤ S 257 k ∧ S 257 k ≤ 1 := by first | assumption | exact (by assumption : w_rg 3 (S 257 k)))
          first | (rw [if_neg (by omega)]; done) | (rw [if_pos (by omega)]; repeat (first | rw [if_pos (by omega)] | rw [if_neg (by omega)]))
          all_goals first | rfl | (show _ = _; omega)
      by_cases c17 : wh = 3
      · refine wb_sw (w_rg0 (by omega) (by omega)) (tb := 7) (by rw [c17]; rfl) ⟨_, rfl⟩ ?_
        refine wa_aload_n (n := 0) rfl ?_
        refine wb_gf5 237 rfl (wy_pr rfl) wt_237 wf_15_13 (v := 241) ((w_up_at (by decide)).trans (h1)) (fun r18 => ?_)
        refine wb_gf4 241 rfl (wy_pr rfl) wt_241 wf_12_15 (v := 255) wl_241_15 ?_
        refine wa_iload_n (n := 1) rfl ?_
        refine wb_iald 255 rfl (wy_pr rfl) wt_255 (n := 400) ((w_up_slot (by decide)).trans ((ml_255 hM))) (by omega) (by omega) (v := (S 255 k)) (w_up_slot (by decide)) (fun r19 => ?_)
        refine wa_ireturn rfl ?_
        refine ⟨rfl, congrArg (fun z => Sum.inl (some (0, z))) ?_⟩
        unfold me_r
        simp only [Nat.reduceAdd]
        first | (rw [if_neg (by omega)]; done) | (rw [if_pos (by omega)]; repeat (first | rw [if_pos (by omega)] | rw [if_neg (by omega)]))
        all_goals first | rfl | (show _ = _; omega)
      by_cases c20 : wh = 4
      · refine wb_sw (w_rg0 (by omega) (by omega)) (tb := 8) (by rw [c20]; rfl) ⟨_, rfl⟩ ?_
        refine wa_aload_n (n := 0) rfl ?_
        refine wb_gf5 237 rfl (wy_pr rfl) wt_237 wf_15_13 (v := 241) ((w_up_at (by decide)).trans (h1)) (fun r21 => ?_)
        refine wb_gf4 241 rfl (wy_pr rfl) wt_241 wf_12_16 (v := 256) wl_241_16 ?_
        refine wa_iload_n (n := 1) rfl ?_
        refine wb_iald 256 rfl (wy_pr rfl) wt_256 (n := 400) ((w_up_slot (by decide)).trans ((ml_256 hM))) (by omega) (by omega) (v := (S 256 k)) (w_up_slot (by decide)) (fun r22 => ?_)
        refine wa_ireturn rfl ?_
        refine ⟨rfl, congrArg (fun z => Sum.inl (some (0, z))) ?_⟩
        unfold me_r
        simp only [Nat.reduceAdd]
        first | (rw [if_neg (by omega)]; done) | (rw [if_pos (by omega)]; repeat (first | rw [if_pos (by omega)] | rw [if_neg (by omega)]))
        all_goals first | rfl | (show _ = _; omega)
      by_cases c23 : wh = 5
      · refine wb_sw (w_rg0 (by omega) (by omega)) (tb := 9) (by rw [c23]; rfl) ⟨_, rfl⟩ ?_
        refine wa_aload_n (n := 0) rfl ?_
        refine wb_gf5 237 rfl (wy_pr rfl) wt_237 wf_15_13 (v := 241) ((w_up_at (by decide)).trans (h1)) (fun r24 => ?_)
        refine wb_gf4 241 rfl (wy_pr rfl) wt_241 wf_12_17 (v := 257) wl_241_17 ?_
        refine wa_iload_n (n := 1) rfl ?_
        refine wb_zald 257 rfl (wy_pr rfl) wt_257 (n := 400) ((w_up_slot (by decide)).trans ((ml_257 hM))) (by omega) (by omega) (v := (S 257 k)) (w_up_slot (by decide)) (fun r25 => ?_)
        refine wa_ifeq (w_rg0 (by omega) (by omega)) ⟨_, rfl⟩ (fun c26 => ?_) (fun c26 => ?_)
        · skip
          refine wa_iconst ?_
          refine wa_fall ⟨_, rfl⟩ ?_
          refine wa_ireturn rfl ?_
          refine ⟨rfl, congrArg (fun z => Sum.inl (some (0, z))) ?_⟩
          unfold me_r
          simp only [Nat.reduceAdd]
          first | (have hz : 0 ≤ S 254 k ∧ S 254 k ≤ 1 := by first | assumption | exact (by assumption : w_rg 3 (S 254 k))) | (have hz : 0 ≤ S 257 k ∧ S 257 k ≤ 1 := by first | assumption | exact (by assumption : w_rg 3 (S 257 k)))
          first | (rw [if_neg (by omega)]; done) | (rw [if_pos (by omega)]; repeat (first | rw [if_pos (by omega)] | rw [if_neg (by omega)]))
          all_goals first | rfl | (show _ = _; omega)
        · skip
          refine wa_iconst ?_
          refine wa_goto ⟨_, rfl⟩ ?_
          refine wa_ireturn rfl ?_
          refine ⟨rfl, congrArg (fun z => Sum.inl (some (0, z))) ?_⟩
          unfold me_r
          simp only [Nat.reduceAdd]
          first | (have hz : 0 ≤ S 254 k ∧ S 254 k ≤ 1 := by first | assumption | exact (by assumption : w_rg 3 (S 254 k))) | (have hz : 0 ≤ S 257 k ∧ S 257 k ≤ 1 := by first | assumption | exact (by assumption : w_rg 3 (S 257 k)))
          first | (rw [if_neg (by omega)]; done) | (rw [if_pos (by omega)]; repeat (first | rw [if_pos (by omega)] | rw [if_neg (by omega)]))
          all_goals first | rfl | (show _ = _; omega)
      refine wb_sw (w_rg0 (by omega) (by omega)) (tb := 12) (w_tb_df (by simp only [List.length_cons, List.length_nil]; omega)) ⟨_, rfl⟩ ?_
      have h8 := h4 k (by omega) (by omega)
      refine wa_iload_n (n := 2) rfl ?_
      refine wa_iconst ?_
      refine wa_icmple (w_rg0 (by omega) (by omega)) (w_rg0 (by omega) (by omega)) ⟨_, rfl⟩ (fun c27 => ?_) (fun c27 => ?_)
      · skip
        refine wa_iconst ?_
        refine wa_fall ⟨_, rfl⟩ ?_
        refine wa_ireturn rfl ?_
        refine ⟨rfl, congrArg (fun z => Sum.inl (some (0, z))) ?_⟩
        unfold me_r
        simp only [Nat.reduceAdd]
        first | (rw [if_neg (by omega)]; done) | (rw [if_pos (by omega)]; repeat (first | rw [if_pos (by omega)] | rw [if_neg (by omega)]))
        all_goals first | rfl | (show _ = _; omega)
      · skip
        refine wa_iload_n (n := 2) rfl ?_
        refine wa_bipush (w_rg2 (by omega) (by omega)) ?_
        refine wa_isub ?_
        refine wa_aload_n (n := 0) rfl ?_
        refine wb_gf5 237 rfl (wy_pr rfl) wt_237 wf_15_13 (v := 241) ((w_up_at (by decide)).trans (h1)) (fun r28 => ?_)
        refine wb_gf4 241 rfl (wy_pr rfl) wt_241 wf_12_16 (v := 256) wl_241_16 ?_
        refine wa_iload_n (n := 1) rfl ?_
        refine wb_iald 256 rfl (wy_pr rfl) wt_256 (n := 400) ((w_up_slot (by decide)).trans ((ml_256 hM))) (by omega) (by omega) (v := (S 256 k)) (w_up_slot (by decide)) (fun r29 => ?_)
        refine wa_icmpge (w_rg0 (by omega) (by omega)) (w_rg0 (by omega) (by omega)) ⟨_, rfl⟩ (fun c30 => ?_) (fun c30 => ?_)
        · skip
          refine wa_iconst ?_
          refine wa_fall ⟨_, rfl⟩ ?_
          refine wa_ireturn rfl ?_
          refine ⟨rfl, congrArg (fun z => Sum.inl (some (0, z))) ?_⟩
          unfold me_r
          simp only [Nat.reduceAdd]
          first | (rw [if_neg (by omega)]; done) | (rw [if_pos (by omega)]; repeat (first | rw [if_pos (by omega)] | rw [if_neg (by omega)]))
          all_goals first | rfl | (show _ = _; omega)
        · skip
          refine wa_aload_n (n := 0) rfl ?_
          refine wb_gf5 237 rfl (wy_pr rfl) wt_237 wf_15_13 (v := 241) ((w_up_at (by decide)).trans (h1)) (fun r31 => ?_)
          refine wb_gf4 241 rfl (wy_pr rfl) wt_241 wf_12_18 (v := 258) wl_241_18 ?_
          refine wa_bipush (w_rg2 (by omega) (by omega)) ?_
          refine wa_iload_n (n := 1) rfl ?_
          refine wa_imul ?_
          refine wa_iload_n (n := 2) rfl ?_
          refine wa_iadd ?_
          refine wa_bipush (w_rg2 (by omega) (by omega)) ?_
          refine wa_isub ?_
          refine wb_iald 258 rfl (wy_pr rfl) wt_258 (n := 3200) ((w_up_slot (by decide)).trans ((ml_258 hM))) (by omega) (by omega) (v := (S 258 (((8 * k) + wh) - 6))) (w_up_slot (by decide)) (fun r32 => ?_)
          refine wa_goto ⟨_, rfl⟩ ?_
          refine wa_ireturn rfl ?_
          refine ⟨rfl, congrArg (fun z => Sum.inl (some (0, z))) ?_⟩
          unfold me_r
          simp only [Nat.reduceAdd]
          first | (rw [if_neg (by omega)]; done) | (rw [if_pos (by omega)]; repeat (first | rw [if_pos (by omega)] | rw [if_neg (by omega)]))
          all_goals first | rfl | (show _ = _; omega)
    · skip
      exact absurd c6 (by omega)
  · skip
    show wJ _ _ _ _ _ _ _ _ _ _
    refine wa_ifne (w_rg0 (by omega) (by omega)) ⟨_, rfl⟩ (fun c33 => ?_) (fun c33 => ?_)
    · skip
      exact absurd c33 (by omega)
    · skip
      refine wa_iconst ?_
      refine wa_ireturn rfl ?_
      refine ⟨rfl, congrArg (fun z => Sum.inl (some (0, z))) ?_⟩
      unfold me_r
      simp only [Nat.reduceAdd]
      first | (rw [if_neg (by omega)]; done) | (rw [if_pos (by omega)]; repeat (first | rw [if_pos (by omega)] | rw [if_neg (by omega)]))
      all_goals first | rfl | (show _ = _; omega)
theorem msu_241 {k wh : Int} (hM : w_ML S) (h1 : S 237 13 = 241) (h2 : 0 ≤ S 241 1 ∧ S 241 1 ≤ 60) (hk : -2147483648 ≤ k ∧ k ≤ 2147483647) (hw : -2147483648 ≤ wh ∧ wh ≤ 2147483647) : wJ (pe_GA xs) wY0 M (d + 1) t_M_subtype ((pe_at t_M_subtype.bl 0).getD (0, [])).2 [(0, (2, 237)), (1, (0, k)), (2, (0, wh))] [] S (fun o Z => w_up S 237 0 0 = Z ∧ o = .inl (some (0, su_v (S 247) (S 241 1) k wh))) := by
  refine wa_aload_n (n := 0) rfl ?_
  refine wa_iconst ?_
  refine wb_pfi 237 rfl (wy_pr rfl) wt_237 wf_15_0 (n := 0) rfl ⟨(by omega), (by omega)⟩ ?_
  refine wa_bipush (w_rg2 (by omega) (by omega)) ?_
  refine wa_aload_n (n := 0) rfl ?_
  refine wb_gf5 237 rfl (wy_pr rfl) wt_237 wf_15_13 (v := 241) ((w_up_at (by decide)).trans (h1)) (fun r1 => ?_)
  refine wb_gfi 241 rfl (wy_pr rfl) wt_241 wf_12_1 (v := (S 241 1)) (w_up_slot (by decide)) (fun r2 => ?_)
  refine wa_iadd ?_
  refine wa_iconst ?_
  refine wa_isub ?_
  refine wa_istore_n (n := 3) rfl ?_
  refine wa_iload_n (n := 1) rfl ?_
  refine wa_i2l (w_rg0 (by omega) (by omega)) ?_
  refine wb_lconst (m := 1) rfl ?_
  refine wa_iload_n (n := 3) rfl ?_
  refine wa_i2l (w_rg0 (by omega) (by omega)) ?_
  refine wa_cs (M2 := fun _ => False) rfl at_M_in ⟨_, rfl⟩ rfl rfl ⟨trivial, (Or.inr ⟨wy_pr rfl, fun q => q⟩), trivial, trivial, trivial⟩ trivial (fun _ _ q => False.elim q) (in_ok (S := (w_up S 237 0 0)) (a := k) (lo := 1) (hi := ((9 + (S 241 1)) - 1)) ⟨by omega, by omega⟩ ⟨by omega, by omega⟩ ⟨by omega, by omega⟩) (fun oq4 Sq4 hp5 q4 => ?_)
  rcases q4 with ⟨rfl, ⟨rfl, hin3⟩ | ⟨rfl, hin3⟩⟩
  · skip
    show wJ _ _ _ _ _ _ _ _ _ _
    refine wa_ifeq (w_rg0 (by omega) (by omega)) ⟨_, rfl⟩ (fun c6 => ?_) (fun c6 => ?_)
    · skip
      exact absurd c6 (by omega)
    · skip
      refine wa_iload_n (n := 2) rfl ?_
      refine wa_i2l (w_rg0 (by omega) (by omega)) ?_
      refine wb_lconst (m := 1) rfl ?_
      refine wa_iload_n (n := 3) rfl ?_
      refine wa_i2l (w_rg0 (by omega) (by omega)) ?_
      refine wa_cs (M2 := fun _ => False) rfl at_M_in ⟨_, rfl⟩ rfl rfl ⟨trivial, (Or.inr ⟨wy_pr rfl, fun q => q⟩), trivial, trivial, trivial⟩ trivial (fun _ _ q => False.elim q) (in_ok (S := (w_up S 237 0 0)) (a := wh) (lo := 1) (hi := ((9 + (S 241 1)) - 1)) ⟨by omega, by omega⟩ ⟨by omega, by omega⟩ ⟨by omega, by omega⟩) (fun oq8 Sq8 hp9 q8 => ?_)
      rcases q8 with ⟨rfl, ⟨rfl, hin7⟩ | ⟨rfl, hin7⟩⟩
      · skip
        show wJ _ _ _ _ _ _ _ _ _ _
        refine wa_ifeq (w_rg0 (by omega) (by omega)) ⟨_, rfl⟩ (fun c10 => ?_) (fun c10 => ?_)
        · skip
          exact absurd c10 (by omega)
        · skip
          refine wa_aload_n (n := 0) rfl ?_
          refine wb_gf5 237 rfl (wy_pr rfl) wt_237 wf_15_13 (v := 241) ((w_up_at (by decide)).trans (h1)) (fun r11 => ?_)
          refine wa_iload_n (n := 1) rfl ?_
          refine wa_iload_n (n := 2) rfl ?_
          refine wa_cv 241 rfl (wy_pr rfl) wt_241 (M2 := fun _ => False) rfl at_MO_isSub ⟨_, rfl⟩ rfl rfl ⟨trivial, (Or.inr ⟨wy_pr rfl, fun q => q⟩), trivial, trivial, trivial⟩ trivial (fun _ _ q => False.elim q) ?_ (fun _ _ _ q => q)
          refine wa_iload_n (n := 1) rfl ?_
          refine wa_ifeq (w_rg0 (by omega) (by omega)) ⟨_, rfl⟩ (fun c12 => ?_) (fun c12 => ?_)
          · skip
            refine wa_iconst ?_
            refine wa_zreturn rfl (Or.inl rfl) ?_
            show wJ _ _ _ _ _ _ _ _ _ _
            refine wa_ifeq (w_rg0 (by omega) (by omega)) ⟨_, rfl⟩ (fun c13 => ?_) (fun c13 => ?_)
            · skip
              refine wa_iconst ?_
              refine wa_fall ⟨_, rfl⟩ ?_
              refine wa_zreturn rfl (Or.inl rfl) ?_
              refine ⟨rfl, congrArg (fun z => Sum.inl (some (0, z))) ?_⟩
              unfold su_v
              first | (rw [if_neg (by omega)]) | (have hbb := bb_sh (v := S 247 (k - 9)) (o := wh - 9) (by omega); split at hbb <;> rename_i hbq <;> first | omega | (rw [if_neg (by first | omega | (refine ⟨by omega, by omega, Or.inr (Or.inr (Or.inr ⟨by omega, by omega, by omega, hbq⟩))⟩) | (rintro ⟨-, -, q | q | q | q⟩ <;> first | omega | exact hbq q.2.2.2))]))
            · skip
              exact absurd c13 (by omega)
          · skip
            refine wa_iload_n (n := 2) rfl ?_
            refine wa_ifne (w_rg0 (by omega) (by omega)) ⟨_, rfl⟩ (fun c14 => ?_) (fun c14 => ?_)
            · skip
              refine wa_iload_n (n := 1) rfl ?_
              refine wa_iload_n (n := 2) rfl ?_
              refine wa_icmpeq (w_rg0 (by omega) (by omega)) (w_rg0 (by omega) (by omega)) ⟨_, rfl⟩ (fun c15 => ?_) (fun c15 => ?_)
              · skip
                refine wa_iconst ?_
                refine wa_zreturn rfl (Or.inr rfl) ?_
                show wJ _ _ _ _ _ _ _ _ _ _
                refine wa_ifeq (w_rg0 (by omega) (by omega)) ⟨_, rfl⟩ (fun c16 => ?_) (fun c16 => ?_)
                · skip
                  exact absurd c16 (by omega)
                · skip
                  refine wa_iconst ?_
                  refine wa_goto ⟨_, rfl⟩ ?_
                  refine wa_zreturn rfl (Or.inr rfl) ?_
                  refine ⟨rfl, congrArg (fun z => Sum.inl (some (0, z))) ?_⟩
                  unfold su_v
                  first | (rw [if_pos (by omega)]) | (have hbb := bb_sh (v := S 247 (k - 9)) (o := wh - 9) (by omega); split at hbb <;> rename_i hbq <;> first | omega | (rw [if_pos (by first | omega | (refine ⟨by omega, by omega, Or.inr (Or.inr (Or.inr ⟨by omega, by omega, by omega, hbq⟩))⟩) | (rintro ⟨-, -, q | q | q | q⟩ <;> first | omega | exact hbq q.2.2.2))]))
              · skip
                refine wa_iload_n (n := 1) rfl ?_
                refine wa_iconst ?_
                refine wa_icmpne (w_rg0 (by omega) (by omega)) (w_rg0 (by omega) (by omega)) ⟨_, rfl⟩ (fun c17 => ?_) (fun c17 => ?_)
                · skip
                  refine wa_iload_n (n := 2) rfl ?_
                  refine wa_bipush (w_rg2 (by omega) (by omega)) ?_
                  refine wa_icmpne (w_rg0 (by omega) (by omega)) (w_rg0 (by omega) (by omega)) ⟨_, rfl⟩ (fun c18 => ?_) (fun c18 => ?_)
                  · skip
                    refine wa_iload_n (n := 1) rfl ?_
                    refine wa_bipush (w_rg2 (by omega) (by omega)) ?_
                    refine wa_icmplt (w_rg0 (by omega) (by omega)) (w_rg0 (by omega) (by omega)) ⟨_, rfl⟩ (fun c19 => ?_) (fun c19 => ?_)
                    · skip
                      refine wa_iconst ?_
                      refine wa_fall ⟨_, rfl⟩ ?_
                      refine wa_zreturn rfl (Or.inl rfl) ?_
                      show wJ _ _ _ _ _ _ _ _ _ _
                      refine wa_ifeq (w_rg0 (by omega) (by omega)) ⟨_, rfl⟩ (fun c20 => ?_) (fun c20 => ?_)
                      · skip
                        refine wa_iconst ?_
                        refine wa_fall ⟨_, rfl⟩ ?_
                        refine wa_zreturn rfl (Or.inl rfl) ?_
                        refine ⟨rfl, congrArg (fun z => Sum.inl (some (0, z))) ?_⟩
                        unfold su_v
                        first | (rw [if_neg (by omega)]) | (have hbb := bb_sh (v := S 247 (k - 9)) (o := wh - 9) (by omega); split at hbb <;> rename_i hbq <;> first | omega | (rw [if_neg (by first | omega | (refine ⟨by omega, by omega, Or.inr (Or.inr (Or.inr ⟨by omega, by omega, by omega, hbq⟩))⟩) | (rintro ⟨-, -, q | q | q | q⟩ <;> first | omega | exact hbq q.2.2.2))]))
                      · skip
                        exact absurd c20 (by omega)
                    · skip
                      refine wa_iload_n (n := 2) rfl ?_
                      refine wa_bipush (w_rg2 (by omega) (by omega)) ?_
                      refine wa_icmplt (w_rg0 (by omega) (by omega)) (w_rg0 (by omega) (by omega)) ⟨_, rfl⟩ (fun c21 => ?_) (fun c21 => ?_)
                      · skip
                        refine wa_iconst ?_
                        refine wa_fall ⟨_, rfl⟩ ?_
                        refine wa_zreturn rfl (Or.inl rfl) ?_
                        show wJ _ _ _ _ _ _ _ _ _ _
                        refine wa_ifeq (w_rg0 (by omega) (by omega)) ⟨_, rfl⟩ (fun c22 => ?_) (fun c22 => ?_)
                        · skip
                          refine wa_iconst ?_
                          refine wa_fall ⟨_, rfl⟩ ?_
                          refine wa_zreturn rfl (Or.inl rfl) ?_
                          refine ⟨rfl, congrArg (fun z => Sum.inl (some (0, z))) ?_⟩
                          unfold su_v
                          first | (rw [if_neg (by omega)]) | (have hbb := bb_sh (v := S 247 (k - 9)) (o := wh - 9) (by omega); split at hbb <;> rename_i hbq <;> first | omega | (rw [if_neg (by first | omega | (refine ⟨by omega, by omega, Or.inr (Or.inr (Or.inr ⟨by omega, by omega, by omega, hbq⟩))⟩) | (rintro ⟨-, -, q | q | q | q⟩ <;> first | omega | exact hbq q.2.2.2))]))
                        · skip
                          exact absurd c22 (by omega)
                      · skip
                        refine wa_aload_n (n := 0) rfl ?_
                        refine wb_gf4 241 rfl (wy_pr rfl) wt_241 wf_12_6 (v := 247) wl_241_6 ?_
                        refine wa_iload_n (n := 1) rfl ?_
                        refine wa_bipush (w_rg2 (by omega) (by omega)) ?_
                        refine wa_isub ?_
                        refine wb_lald 247 rfl (wy_pr rfl) wt_247 (n := 60) ((w_up_slot (by decide)).trans ((ml_247 hM))) (by omega) (by omega) (v := (S 247 (k - 9))) (w_up_slot (by decide)) (fun r23 => ?_)
                        refine wa_iload_n (n := 2) rfl ?_
                        refine wa_bipush (w_rg2 (by omega) (by omega)) ?_
                        refine wa_isub ?_
                        refine wa_lushr ?_
                        refine wb_lconst (m := 1) rfl ?_
                        refine wa_land ?_
                        refine wb_lconst (m := 1) rfl ?_
                        have hbx : 0 ≤ wb_land (wb_lushr (S 247 (k - 9)) (wh - 9)) 1 ∧ wb_land (wb_lushr (S 247 (k - 9)) (wh - 9)) 1 ≤ 1 := by rw [bb_sh (by omega)]; split <;> omega
                        refine wa_lcmp (w_rg1 (by omega) (by omega)) (w_rg1 (by omega) (by omega)) ?_
                        refine wa_ifne (by have := @wb_lcmp_cases; exact w_lcmp_rg) ⟨_, rfl⟩ (fun c24 => ?_) (fun c24 => ?_)
                        · skip
                          have c24x := @wb_lcmp_cases (wb_land (wb_lushr (S 247 (k - 9)) (wh - 9)) 1) 1
                          refine wa_iconst ?_
                          refine wa_fall ⟨_, rfl⟩ ?_
                          refine wa_zreturn rfl (Or.inl rfl) ?_
                          show wJ _ _ _ _ _ _ _ _ _ _
                          refine wa_ifeq (w_rg0 (by omega) (by omega)) ⟨_, rfl⟩ (fun c25 => ?_) (fun c25 => ?_)
                          · skip
                            refine wa_iconst ?_
                            refine wa_fall ⟨_, rfl⟩ ?_
                            refine wa_zreturn rfl (Or.inl rfl) ?_
                            refine ⟨rfl, congrArg (fun z => Sum.inl (some (0, z))) ?_⟩
                            unfold su_v
                            first | (rw [if_neg (by omega)]) | (have hbb := bb_sh (v := S 247 (k - 9)) (o := wh - 9) (by omega); split at hbb <;> rename_i hbq <;> first | omega | (rw [if_neg (by first | omega | (refine ⟨by omega, by omega, Or.inr (Or.inr (Or.inr ⟨by omega, by omega, by omega, hbq⟩))⟩) | (rintro ⟨-, -, q | q | q | q⟩ <;> first | omega | exact hbq q.2.2.2))]))
                          · skip
                            exact absurd c25 (by omega)
                        · skip
                          have c24x := @wb_lcmp_cases (wb_land (wb_lushr (S 247 (k - 9)) (wh - 9)) 1) 1
                          refine wa_iconst ?_
                          refine wa_goto ⟨_, rfl⟩ ?_
                          refine wa_zreturn rfl (Or.inr rfl) ?_
                          show wJ _ _ _ _ _ _ _ _ _ _
                          refine wa_ifeq (w_rg0 (by omega) (by omega)) ⟨_, rfl⟩ (fun c26 => ?_) (fun c26 => ?_)
                          · skip
                            exact absurd c26 (by omega)
                          · skip
                            refine wa_iconst ?_
                            refine wa_goto ⟨_, rfl⟩ ?_
                            refine wa_zreturn rfl (Or.inr rfl) ?_
                            refine ⟨rfl, congrArg (fun z => Sum.inl (some (0, z))) ?_⟩
                            unfold su_v
                            first | (rw [if_pos (by omega)]) | (have hbb := bb_sh (v := S 247 (k - 9)) (o := wh - 9) (by omega); split at hbb <;> rename_i hbq <;> first | omega | (rw [if_pos (by first | omega | (refine ⟨by omega, by omega, Or.inr (Or.inr (Or.inr ⟨by omega, by omega, by omega, hbq⟩))⟩) | (rintro ⟨-, -, q | q | q | q⟩ <;> first | omega | exact hbq q.2.2.2))]))
                  · skip
                    refine wa_iload_n (n := 1) rfl ?_
                    refine wa_iconst ?_
                    refine wa_icmple (w_rg0 (by omega) (by omega)) (w_rg0 (by omega) (by omega)) ⟨_, rfl⟩ (fun c27 => ?_) (fun c27 => ?_)
                    · skip
                      refine wa_iconst ?_
                      refine wa_fall ⟨_, rfl⟩ ?_
                      refine wa_zreturn rfl (Or.inl rfl) ?_
                      show wJ _ _ _ _ _ _ _ _ _ _
                      refine wa_ifeq (w_rg0 (by omega) (by omega)) ⟨_, rfl⟩ (fun c28 => ?_) (fun c28 => ?_)
                      · skip
                        refine wa_iconst ?_
                        refine wa_fall ⟨_, rfl⟩ ?_
                        refine wa_zreturn rfl (Or.inl rfl) ?_
                        refine ⟨rfl, congrArg (fun z => Sum.inl (some (0, z))) ?_⟩
                        unfold su_v
                        first | (rw [if_neg (by omega)]) | (have hbb := bb_sh (v := S 247 (k - 9)) (o := wh - 9) (by omega); split at hbb <;> rename_i hbq <;> first | omega | (rw [if_neg (by first | omega | (refine ⟨by omega, by omega, Or.inr (Or.inr (Or.inr ⟨by omega, by omega, by omega, hbq⟩))⟩) | (rintro ⟨-, -, q | q | q | q⟩ <;> first | omega | exact hbq q.2.2.2))]))
                      · skip
                        exact absurd c28 (by omega)
                    · skip
                      refine wa_iconst ?_
                      refine wa_goto ⟨_, rfl⟩ ?_
                      refine wa_zreturn rfl (Or.inr rfl) ?_
                      show wJ _ _ _ _ _ _ _ _ _ _
                      refine wa_ifeq (w_rg0 (by omega) (by omega)) ⟨_, rfl⟩ (fun c29 => ?_) (fun c29 => ?_)
                      · skip
                        exact absurd c29 (by omega)
                      · skip
                        refine wa_iconst ?_
                        refine wa_goto ⟨_, rfl⟩ ?_
                        refine wa_zreturn rfl (Or.inr rfl) ?_
                        refine ⟨rfl, congrArg (fun z => Sum.inl (some (0, z))) ?_⟩
                        unfold su_v
                        first | (rw [if_pos (by omega)]) | (have hbb := bb_sh (v := S 247 (k - 9)) (o := wh - 9) (by omega); split at hbb <;> rename_i hbq <;> first | omega | (rw [if_pos (by first | omega | (refine ⟨by omega, by omega, Or.inr (Or.inr (Or.inr ⟨by omega, by omega, by omega, hbq⟩))⟩) | (rintro ⟨-, -, q | q | q | q⟩ <;> first | omega | exact hbq q.2.2.2))]))
                · skip
                  refine wa_iload_n (n := 2) rfl ?_
                  refine wa_iconst ?_
                  refine wa_icmpne (w_rg0 (by omega) (by omega)) (w_rg0 (by omega) (by omega)) ⟨_, rfl⟩ (fun c30 => ?_) (fun c30 => ?_)
                  · skip
                    refine wa_iload_n (n := 2) rfl ?_
                    refine wa_bipush (w_rg2 (by omega) (by omega)) ?_
                    refine wa_icmpne (w_rg0 (by omega) (by omega)) (w_rg0 (by omega) (by omega)) ⟨_, rfl⟩ (fun c31 => ?_) (fun c31 => ?_)
                    · skip
                      refine wa_iload_n (n := 1) rfl ?_
                      refine wa_bipush (w_rg2 (by omega) (by omega)) ?_
                      refine wa_icmplt (w_rg0 (by omega) (by omega)) (w_rg0 (by omega) (by omega)) ⟨_, rfl⟩ (fun c32 => ?_) (fun c32 => ?_)
                      · skip
                        refine wa_iconst ?_
                        refine wa_fall ⟨_, rfl⟩ ?_
                        refine wa_zreturn rfl (Or.inl rfl) ?_
                        show wJ _ _ _ _ _ _ _ _ _ _
                        refine wa_ifeq (w_rg0 (by omega) (by omega)) ⟨_, rfl⟩ (fun c33 => ?_) (fun c33 => ?_)
                        · skip
                          refine wa_iconst ?_
                          refine wa_fall ⟨_, rfl⟩ ?_
                          refine wa_zreturn rfl (Or.inl rfl) ?_
                          refine ⟨rfl, congrArg (fun z => Sum.inl (some (0, z))) ?_⟩
                          unfold su_v
                          first | (rw [if_neg (by omega)]) | (have hbb := bb_sh (v := S 247 (k - 9)) (o := wh - 9) (by omega); split at hbb <;> rename_i hbq <;> first | omega | (rw [if_neg (by first | omega | (refine ⟨by omega, by omega, Or.inr (Or.inr (Or.inr ⟨by omega, by omega, by omega, hbq⟩))⟩) | (rintro ⟨-, -, q | q | q | q⟩ <;> first | omega | exact hbq q.2.2.2))]))
                        · skip
                          exact absurd c33 (by omega)
                      · skip
                        exact absurd c32 (by omega)
                    · skip
                      refine wa_iload_n (n := 1) rfl ?_
                      refine wa_iconst ?_
                      refine wa_icmple (w_rg0 (by omega) (by omega)) (w_rg0 (by omega) (by omega)) ⟨_, rfl⟩ (fun c34 => ?_) (fun c34 => ?_)
                      · skip
                        refine wa_iconst ?_
                        refine wa_fall ⟨_, rfl⟩ ?_
                        refine wa_zreturn rfl (Or.inl rfl) ?_
                        show wJ _ _ _ _ _ _ _ _ _ _
                        refine wa_ifeq (w_rg0 (by omega) (by omega)) ⟨_, rfl⟩ (fun c35 => ?_) (fun c35 => ?_)
                        · skip
                          refine wa_iconst ?_
                          refine wa_fall ⟨_, rfl⟩ ?_
                          refine wa_zreturn rfl (Or.inl rfl) ?_
                          refine ⟨rfl, congrArg (fun z => Sum.inl (some (0, z))) ?_⟩
                          unfold su_v
                          first | (rw [if_neg (by omega)]) | (have hbb := bb_sh (v := S 247 (k - 9)) (o := wh - 9) (by omega); split at hbb <;> rename_i hbq <;> first | omega | (rw [if_neg (by first | omega | (refine ⟨by omega, by omega, Or.inr (Or.inr (Or.inr ⟨by omega, by omega, by omega, hbq⟩))⟩) | (rintro ⟨-, -, q | q | q | q⟩ <;> first | omega | exact hbq q.2.2.2))]))
                        · skip
                          exact absurd c35 (by omega)
                      · skip
                        exact absurd c34 (by omega)
                  · skip
                    refine wa_fall ⟨_, rfl⟩ ?_
                    refine wa_iconst ?_
                    refine wa_zreturn rfl (Or.inr rfl) ?_
                    show wJ _ _ _ _ _ _ _ _ _ _
                    refine wa_ifeq (w_rg0 (by omega) (by omega)) ⟨_, rfl⟩ (fun c36 => ?_) (fun c36 => ?_)
                    · skip
                      exact absurd c36 (by omega)
                    · skip
                      refine wa_iconst ?_
                      refine wa_goto ⟨_, rfl⟩ ?_
                      refine wa_zreturn rfl (Or.inr rfl) ?_
                      refine ⟨rfl, congrArg (fun z => Sum.inl (some (0, z))) ?_⟩
                      unfold su_v
                      first | (rw [if_pos (by omega)]) | (have hbb := bb_sh (v := S 247 (k - 9)) (o := wh - 9) (by omega); split at hbb <;> rename_i hbq <;> first | omega | (rw [if_pos (by first | omega | (refine ⟨by omega, by omega, Or.inr (Or.inr (Or.inr ⟨by omega, by omega, by omega, hbq⟩))⟩) | (rintro ⟨-, -, q | q | q | q⟩ <;> first | omega | exact hbq q.2.2.2))]))
            · skip
              refine wa_fall ⟨_, rfl⟩ ?_
              refine wa_iconst ?_
              refine wa_zreturn rfl (Or.inl rfl) ?_
              show wJ _ _ _ _ _ _ _ _ _ _
              refine wa_ifeq (w_rg0 (by omega) (by omega)) ⟨_, rfl⟩ (fun c37 => ?_) (fun c37 => ?_)
              · skip
                refine wa_iconst ?_
                refine wa_fall ⟨_, rfl⟩ ?_
                refine wa_zreturn rfl (Or.inl rfl) ?_
                refine ⟨rfl, congrArg (fun z => Sum.inl (some (0, z))) ?_⟩
                unfold su_v
                first | (rw [if_neg (by omega)]) | (have hbb := bb_sh (v := S 247 (k - 9)) (o := wh - 9) (by omega); split at hbb <;> rename_i hbq <;> first | omega | (rw [if_neg (by first | omega | (refine ⟨by omega, by omega, Or.inr (Or.inr (Or.inr ⟨by omega, by omega, by omega, hbq⟩))⟩) | (rintro ⟨-, -, q | q | q | q⟩ <;> first | omega | exact hbq q.2.2.2))]))
              · skip
                exact absurd c37 (by omega)
      · skip
        show wJ _ _ _ _ _ _ _ _ _ _
        refine wa_ifeq (w_rg0 (by omega) (by omega)) ⟨_, rfl⟩ (fun c38 => ?_) (fun c38 => ?_)
        · skip
          refine wa_iconst ?_
          refine wa_fall ⟨_, rfl⟩ ?_
          refine wa_zreturn rfl (Or.inl rfl) ?_
          refine ⟨rfl, congrArg (fun z => Sum.inl (some (0, z))) ?_⟩
          unfold su_v
          first | (rw [if_neg (by omega)]) | (have hbb := bb_sh (v := S 247 (k - 9)) (o := wh - 9) (by omega); split at hbb <;> rename_i hbq <;> first | omega | (rw [if_neg (by first | omega | (refine ⟨by omega, by omega, Or.inr (Or.inr (Or.inr ⟨by omega, by omega, by omega, hbq⟩))⟩) | (rintro ⟨-, -, q | q | q | q⟩ <;> first | omega | exact hbq q.2.2.2))]))
        · skip
          exact absurd c38 (by omega)
  · skip
    show wJ _ _ _ _ _ _ _ _ _ _
    refine wa_ifeq (w_rg0 (by omega) (by omega)) ⟨_, rfl⟩ (fun c39 => ?_) (fun c39 => ?_)
    · skip
      refine wa_iconst ?_
      refine wa_fall ⟨_, rfl⟩ ?_
      refine wa_zreturn rfl (Or.inl rfl) ?_
      refine ⟨rfl, congrArg (fun z => Sum.inl (some (0, z))) ?_⟩
      unfold su_v
      first | (rw [if_neg (by omega)]) | (have hbb := bb_sh (v := S 247 (k - 9)) (o := wh - 9) (by omega); split at hbb <;> rename_i hbq <;> first | omega | (rw [if_neg (by first | omega | (refine ⟨by omega, by omega, Or.inr (Or.inr (Or.inr ⟨by omega, by omega, by omega, hbq⟩))⟩) | (rintro ⟨-, -, q | q | q | q⟩ <;> first | omega | exact hbq q.2.2.2))]))
    · skip
      exact absurd c39 (by omega)
theorem mty_261 {k wh : Int} (hM : w_ML S) (h1 : S 237 13 = 261) (h2 : 0 ≤ S 261 1 ∧ S 261 1 ≤ 60) (hk : -2147483648 ≤ k ∧ k ≤ 2147483647) (hw : -2147483648 ≤ wh ∧ wh ≤ 2147483647) : wJ (pe_GA xs) wY0 M (d + 1) t_M_type ((pe_at t_M_type.bl 0).getD (0, [])).2 [(0, (2, 237)), (1, (0, k)), (2, (0, wh))] [] S (fun o Z => w_up S 237 0 0 = Z ∧ o = .inl (some (0, ty_r 261 S k wh))) := by
  refine wa_aload_n (n := 0) rfl ?_
  refine wa_iconst ?_
  refine wb_pfi 237 rfl (wy_pr rfl) wt_237 wf_15_0 (n := 0) rfl ⟨(by omega), (by omega)⟩ ?_
  refine wa_iload_n (n := 1) rfl ?_
  refine wa_i2l (w_rg0 (by omega) (by omega)) ?_
  refine wa_lconst ?_
  refine wa_aload_n (n := 0) rfl ?_
  refine wb_gf5 237 rfl (wy_pr rfl) wt_237 wf_15_13 (v := 261) ((w_up_at (by decide)).trans (h1)) (fun r1 => ?_)
  refine wb_gfi 261 rfl (wy_pr rfl) wt_261 wf_12_1 (v := (S 261 1)) (w_up_slot (by decide)) (fun r2 => ?_)
  refine wa_iconst ?_
  refine wa_isub ?_
  refine wa_i2l (w_rg0 (by omega) (by omega)) ?_
  refine wa_cs (M2 := fun _ => False) rfl at_M_in ⟨_, rfl⟩ rfl rfl ⟨(Or.inr ⟨wy_pr rfl, fun q => q⟩), trivial, trivial, trivial⟩ trivial (fun _ _ q => False.elim q) (in_ok (S := (w_up S 237 0 0)) (a := k) (lo := 0) (hi := ((S 261 1) - 1)) ⟨by omega, by omega⟩ ⟨by omega, by omega⟩ ⟨by omega, by omega⟩) (fun oq4 Sq4 hp5 q4 => ?_)
  rcases q4 with ⟨rfl, ⟨rfl, hin3⟩ | ⟨rfl, hin3⟩⟩
  · skip
    show wJ _ _ _ _ _ _ _ _ _ _
    refine wa_ifne (w_rg0 (by omega) (by omega)) ⟨_, rfl⟩ (fun c6 => ?_) (fun c6 => ?_)
    · skip
      refine wa_iload_n (n := 2) rfl ?_
      by_cases c7 : wh = 0
      · refine wb_sw (w_rg0 (by omega) (by omega)) (tb := 2) (by rw [c7]; rfl) ⟨_, rfl⟩ ?_
        refine wa_aload_n (n := 0) rfl ?_
        refine wb_gf5 237 rfl (wy_pr rfl) wt_237 wf_15_13 (v := 261) ((w_up_at (by decide)).trans (h1)) (fun r8 => ?_)
        refine wb_gf4 261 rfl (wy_pr rfl) wt_261 wf_12_2 (v := 263) wl_261_2 ?_
        refine wa_iload_n (n := 1) rfl ?_
        refine wb_zald 263 rfl (wy_pr rfl) wt_263 (n := 60) ((w_up_slot (by decide)).trans ((ml_263 hM))) (by omega) (by omega) (v := (S 263 k)) (w_up_slot (by decide)) (fun r9 => ?_)
        refine wa_ifeq (w_rg0 (by omega) (by omega)) ⟨_, rfl⟩ (fun c10 => ?_) (fun c10 => ?_)
        · skip
          refine wa_iconst ?_
          refine wa_fall ⟨_, rfl⟩ ?_
          refine wa_ireturn rfl ?_
          refine ⟨rfl, congrArg (fun z => Sum.inl (some (0, z))) ?_⟩
          unfold ty_r
          simp only [Nat.reduceAdd]
          first | (have hz : 0 ≤ S 263 k ∧ S 263 k ≤ 1 := by first | assumption | exact (by assumption : w_rg 3 (S 263 k)))
          first | (rw [if_neg (by omega)]; done) | (rw [if_pos (by omega)]; repeat (first | rw [if_pos (by omega)] | rw [if_neg (by omega)]))
          all_goals first | rfl | (show _ = _; omega)
        · skip
          refine wa_iconst ?_
          refine wa_goto ⟨_, rfl⟩ ?_
          refine wa_ireturn rfl ?_
          refine ⟨rfl, congrArg (fun z => Sum.inl (some (0, z))) ?_⟩
          unfold ty_r
          simp only [Nat.reduceAdd]
          first | (have hz : 0 ≤ S 263 k ∧ S 263 k ≤ 1 := by first | assumption | exact (by assumption : w_rg 3 (S 263 k)))
          first | (rw [if_neg (by omega)]; done) | (rw [if_pos (by omega)]; repeat (first | rw [if_pos (by omega)] | rw [if_neg (by omega)]))
          all_goals first | rfl | (show _ = _; omega)
      by_cases c11 : wh = 1
      · refine wb_sw (w_rg0 (by omega) (by omega)) (tb := 5) (by rw [c11]; rfl) ⟨_, rfl⟩ ?_
        refine wa_aload_n (n := 0) rfl ?_
        refine wb_gf5 237 rfl (wy_pr rfl) wt_237 wf_15_13 (v := 261) ((w_up_at (by decide)).trans (h1)) (fun r12 => ?_)
        refine wb_gf4 261 rfl (wy_pr rfl) wt_261 wf_12_3 (v := 264) wl_261_3 ?_
        refine wa_iload_n (n := 1) rfl ?_
        refine wb_iald 264 rfl (wy_pr rfl) wt_264 (n := 60) ((w_up_slot (by decide)).trans ((ml_264 hM))) (by omega) (by omega) (v := (S 264 k)) (w_up_slot (by decide)) (fun r13 => ?_)
        refine wa_ireturn rfl ?_
        refine ⟨rfl, congrArg (fun z => Sum.inl (some (0, z))) ?_⟩
        unfold ty_r
        simp only [Nat.reduceAdd]
        first | (rw [if_neg (by omega)]; done) | (rw [if_pos (by omega)]; repeat (first | rw [if_pos (by omega)] | rw [if_neg (by omega)]))
        all_goals first | rfl | (show _ = _; omega)
      by_cases c14 : wh = 2
      · refine wb_sw (w_rg0 (by omega) (by omega)) (tb := 6) (by rw [c14]; rfl) ⟨_, rfl⟩ ?_
        refine wa_aload_n (n := 0) rfl ?_
        refine wb_gf5 237 rfl (wy_pr rfl) wt_237 wf_15_13 (v := 261) ((w_up_at (by decide)).trans (h1)) (fun r15 => ?_)
        refine wb_gf4 261 rfl (wy_pr rfl) wt_261 wf_12_4 (v := 265) wl_261_4 ?_
        refine wa_iload_n (n := 1) rfl ?_
        refine wb_iald 265 rfl (wy_pr rfl) wt_265 (n := 60) ((w_up_slot (by decide)).trans ((ml_265 hM))) (by omega) (by omega) (v := (S 265 k)) (w_up_slot (by decide)) (fun r16 => ?_)
        refine wa_ireturn rfl ?_
        refine ⟨rfl, congrArg (fun z => Sum.inl (some (0, z))) ?_⟩
        unfold ty_r
        simp only [Nat.reduceAdd]
        first | (rw [if_neg (by omega)]; done) | (rw [if_pos (by omega)]; repeat (first | rw [if_pos (by omega)] | rw [if_neg (by omega)]))
        all_goals first | rfl | (show _ = _; omega)
      by_cases c17 : wh = 3
      · refine wb_sw (w_rg0 (by omega) (by omega)) (tb := 7) (by rw [c17]; rfl) ⟨_, rfl⟩ ?_
        refine wa_aload_n (n := 0) rfl ?_
        refine wb_gf5 237 rfl (wy_pr rfl) wt_237 wf_15_13 (v := 261) ((w_up_at (by decide)).trans (h1)) (fun r18 => ?_)
        refine wb_gf4 261 rfl (wy_pr rfl) wt_261 wf_12_8 (v := 269) wl_261_8 ?_
        refine wa_iload_n (n := 1) rfl ?_
        refine wb_iald 269 rfl (wy_pr rfl) wt_269 (n := 60) ((w_up_slot (by decide)).trans ((ml_269 hM))) (by omega) (by omega) (v := (S 269 k)) (w_up_slot (by decide)) (fun r19 => ?_)
        refine wa_ireturn rfl ?_
        refine ⟨rfl, congrArg (fun z => Sum.inl (some (0, z))) ?_⟩
        unfold ty_r
        simp only [Nat.reduceAdd]
        first | (rw [if_neg (by omega)]; done) | (rw [if_pos (by omega)]; repeat (first | rw [if_pos (by omega)] | rw [if_neg (by omega)]))
        all_goals first | rfl | (show _ = _; omega)
      by_cases c20 : wh = 4
      · refine wb_sw (w_rg0 (by omega) (by omega)) (tb := 8) (by rw [c20]; rfl) ⟨_, rfl⟩ ?_
        refine wa_aload_n (n := 0) rfl ?_
        refine wb_gf5 237 rfl (wy_pr rfl) wt_237 wf_15_13 (v := 261) ((w_up_at (by decide)).trans (h1)) (fun r21 => ?_)
        refine wb_gf4 261 rfl (wy_pr rfl) wt_261 wf_12_7 (v := 268) wl_261_7 ?_
        refine wa_iload_n (n := 1) rfl ?_
        refine wb_iald 268 rfl (wy_pr rfl) wt_268 (n := 60) ((w_up_slot (by decide)).trans ((ml_268 hM))) (by omega) (by omega) (v := (S 268 k)) (w_up_slot (by decide)) (fun r22 => ?_)
        refine wa_ireturn rfl ?_
        refine ⟨rfl, congrArg (fun z => Sum.inl (some (0, z))) ?_⟩
        unfold ty_r
        simp only [Nat.reduceAdd]
        first | (rw [if_neg (by omega)]; done) | (rw [if_pos (by omega)]; repeat (first | rw [if_pos (by omega)] | rw [if_neg (by omega)]))
        all_goals first | rfl | (show _ = _; omega)
      refine wb_sw (w_rg0 (by omega) (by omega)) (tb := 9) (w_tb_df (by simp only [List.length_cons, List.length_nil]; omega)) ⟨_, rfl⟩ ?_
      refine wa_iconst ?_
      refine wa_ireturn rfl ?_
      refine ⟨rfl, congrArg (fun z => Sum.inl (some (0, z))) ?_⟩
      unfold ty_r
      simp only [Nat.reduceAdd]
      first | (rw [if_neg (by omega)]; done) | (rw [if_pos (by omega)]; repeat (first | rw [if_pos (by omega)] | rw [if_neg (by omega)]))
      all_goals first | rfl | (show _ = _; omega)
    · skip
      exact absurd c6 (by omega)
  · skip
    show wJ _ _ _ _ _ _ _ _ _ _
    refine wa_ifne (w_rg0 (by omega) (by omega)) ⟨_, rfl⟩ (fun c23 => ?_) (fun c23 => ?_)
    · skip
      exact absurd c23 (by omega)
    · skip
      refine wa_iconst ?_
      refine wa_ireturn rfl ?_
      refine ⟨rfl, congrArg (fun z => Sum.inl (some (0, z))) ?_⟩
      unfold ty_r
      simp only [Nat.reduceAdd]
      first | (rw [if_neg (by omega)]; done) | (rw [if_pos (by omega)]; repeat (first | rw [if_pos (by omega)] | rw [if_neg (by omega)]))
      all_goals first | rfl | (show _ = _; omega)
theorem mme_261 {k wh : Int} (hM : w_ML S) (h1 : S 237 13 = 261) (h2 : 0 ≤ S 261 11 ∧ S 261 11 ≤ 400) (h4 : ∀ i : Int, 0 ≤ i → i < S 261 11 → 0 ≤ S 276 i ∧ S 276 i ≤ 8) (hk : -2147483648 ≤ k ∧ k ≤ 2147483647) (hw : -2147483648 ≤ wh ∧ wh ≤ 2147483647) : wJ (pe_GA xs) wY0 M (d + 1) t_M_member ((pe_at t_M_member.bl 0).getD (0, [])).2 [(0, (2, 237)), (1, (0, k)), (2, (0, wh))] [] S (fun o Z => w_up S 237 0 0 = Z ∧ o = .inl (some (0, me_r 261 S k wh))) := by
  refine wa_aload_n (n := 0) rfl ?_
  refine wa_iconst ?_
  refine wb_pfi 237 rfl (wy_pr rfl) wt_237 wf_15_0 (n := 0) rfl ⟨(by omega), (by omega)⟩ ?_
  refine wa_iload_n (n := 1) rfl ?_
  refine wa_i2l (w_rg0 (by omega) (by omega)) ?_
  refine wa_lconst ?_
  refine wa_aload_n (n := 0) rfl ?_
  refine wb_gf5 237 rfl (wy_pr rfl) wt_237 wf_15_13 (v := 261) ((w_up_at (by decide)).trans (h1)) (fun r1 => ?_)
  refine wb_gfi 261 rfl (wy_pr rfl) wt_261 wf_12_11 (v := (S 261 11)) (w_up_slot (by decide)) (fun r2 => ?_)
  refine wa_iconst ?_
  refine wa_isub ?_
  refine wa_i2l (w_rg0 (by omega) (by omega)) ?_
  refine wa_cs (M2 := fun _ => False) rfl at_M_in ⟨_, rfl⟩ rfl rfl ⟨(Or.inr ⟨wy_pr rfl, fun q => q⟩), trivial, trivial, trivial⟩ trivial (fun _ _ q => False.elim q) (in_ok (S := (w_up S 237 0 0)) (a := k) (lo := 0) (hi := ((S 261 11) - 1)) ⟨by omega, by omega⟩ ⟨by omega, by omega⟩ ⟨by omega, by omega⟩) (fun oq4 Sq4 hp5 q4 => ?_)
  rcases q4 with ⟨rfl, ⟨rfl, hin3⟩ | ⟨rfl, hin3⟩⟩
  · skip
    show wJ _ _ _ _ _ _ _ _ _ _
    refine wa_ifne (w_rg0 (by omega) (by omega)) ⟨_, rfl⟩ (fun c6 => ?_) (fun c6 => ?_)
    · skip
      refine wa_iload_n (n := 2) rfl ?_
      by_cases c7 : wh = 0
      · refine wb_sw (w_rg0 (by omega) (by omega)) (tb := 2) (by rw [c7]; rfl) ⟨_, rfl⟩ ?_
        refine wa_aload_n (n := 0) rfl ?_
        refine wb_gf5 237 rfl (wy_pr rfl) wt_237 wf_15_13 (v := 261) ((w_up_at (by decide)).trans (h1)) (fun r8 => ?_)
        refine wb_gf4 261 rfl (wy_pr rfl) wt_261 wf_12_12 (v := 272) wl_261_12 ?_
        refine wa_iload_n (n := 1) rfl ?_
        refine wb_iald 272 rfl (wy_pr rfl) wt_272 (n := 400) ((w_up_slot (by decide)).trans ((ml_272 hM))) (by omega) (by omega) (v := (S 272 k)) (w_up_slot (by decide)) (fun r9 => ?_)
        refine wa_ireturn rfl ?_
        refine ⟨rfl, congrArg (fun z => Sum.inl (some (0, z))) ?_⟩
        unfold me_r
        simp only [Nat.reduceAdd]
        first | (rw [if_neg (by omega)]; done) | (rw [if_pos (by omega)]; repeat (first | rw [if_pos (by omega)] | rw [if_neg (by omega)]))
        all_goals first | rfl | (show _ = _; omega)
      by_cases c10 : wh = 1
      · refine wb_sw (w_rg0 (by omega) (by omega)) (tb := 3) (by rw [c10]; rfl) ⟨_, rfl⟩ ?_
        refine wa_aload_n (n := 0) rfl ?_
        refine wb_gf5 237 rfl (wy_pr rfl) wt_237 wf_15_13 (v := 261) ((w_up_at (by decide)).trans (h1)) (fun r11 => ?_)
        refine wb_gf4 261 rfl (wy_pr rfl) wt_261 wf_12_13 (v := 273) wl_261_13 ?_
        refine wa_iload_n (n := 1) rfl ?_
        refine wb_iald 273 rfl (wy_pr rfl) wt_273 (n := 400) ((w_up_slot (by decide)).trans ((ml_273 hM))) (by omega) (by omega) (v := (S 273 k)) (w_up_slot (by decide)) (fun r12 => ?_)
        refine wa_ireturn rfl ?_
        refine ⟨rfl, congrArg (fun z => Sum.inl (some (0, z))) ?_⟩
        unfold me_r
        simp only [Nat.reduceAdd]
        first | (rw [if_neg (by omega)]; done) | (rw [if_pos (by omega)]; repeat (first | rw [if_pos (by omega)] | rw [if_neg (by omega)]))
        all_goals first | rfl | (show _ = _; omega)
      by_cases c13 : wh = 2
      · refine wb_sw (w_rg0 (by omega) (by omega)) (tb := 4) (by rw [c13]; rfl) ⟨_, rfl⟩ ?_
        refine wa_aload_n (n := 0) rfl ?_
        refine wb_gf5 237 rfl (wy_pr rfl) wt_237 wf_15_13 (v := 261) ((w_up_at (by decide)).trans (h1)) (fun r14 => ?_)
        refine wb_gf4 261 rfl (wy_pr rfl) wt_261 wf_12_14 (v := 274) wl_261_14 ?_
        refine wa_iload_n (n := 1) rfl ?_
        refine wb_zald 274 rfl (wy_pr rfl) wt_274 (n := 400) ((w_up_slot (by decide)).trans ((ml_274 hM))) (by omega) (by omega) (v := (S 274 k)) (w_up_slot (by decide)) (fun r15 => ?_)
        refine wa_ifeq (w_rg0 (by omega) (by omega)) ⟨_, rfl⟩ (fun c16 => ?_) (fun c16 => ?_)
        · skip
          refine wa_iconst ?_
          refine wa_fall ⟨_, rfl⟩ ?_
          refine wa_ireturn rfl ?_
          refine ⟨rfl, congrArg (fun z => Sum.inl (some (0, z))) ?_⟩
          unfold me_r
          simp only [Nat.reduceAdd]
          first | (have hz : 0 ≤ S 274 k ∧ S 274 k ≤ 1 := by first | assumption | exact (by assumption : w_rg 3 (S 274 k))) | (have hz : 0 ≤ S 277 k ∧ S 277 k ≤ 1 := by first | assumption | exact (by assumption : w_rg 3 (S 277 k)))
          first | (rw [if_neg (by omega)]; done) | (rw [if_pos (by omega)]; repeat (first | rw [if_pos (by omega)] | rw [if_neg (by omega)]))
          all_goals first | rfl | (show _ = _; omega)
        · skip
          refine wa_iconst ?_
          refine wa_goto ⟨_, rfl⟩ ?_
          refine wa_ireturn rfl ?_
          refine ⟨rfl, congrArg (fun z => Sum.inl (some (0, z))) ?_⟩
          unfold me_r
          simp only [Nat.reduceAdd]
          first | (have hz : 0 ≤ S 274 k ∧ S 274 k ≤ 1 := by first | assumption | exact (by assumption : w_rg 3 (S 274 k))) | (have hz : 0 ≤ S 277 k ∧ S 277 k ≤ 1 := by first | assumption | exact (by assumption : w_rg 3 (S 277 k)))
          first | (rw [if_neg (by omega)]; done) | (rw [if_pos (by omega)]; repeat (first | rw [if_pos (by omega)] | rw [if_neg (by omega)]))
          all_goals first | rfl | (show _ = _; omega)
      by_cases c17 : wh = 3
      · refine wb_sw (w_rg0 (by omega) (by omega)) (tb := 7) (by rw [c17]; rfl) ⟨_, rfl⟩ ?_
        refine wa_aload_n (n := 0) rfl ?_
        refine wb_gf5 237 rfl (wy_pr rfl) wt_237 wf_15_13 (v := 261) ((w_up_at (by decide)).trans (h1)) (fun r18 => ?_)
        refine wb_gf4 261 rfl (wy_pr rfl) wt_261 wf_12_15 (v := 275) wl_261_15 ?_
        refine wa_iload_n (n := 1) rfl ?_
        refine wb_iald 275 rfl (wy_pr rfl) wt_275 (n := 400) ((w_up_slot (by decide)).trans ((ml_275 hM))) (by omega) (by omega) (v := (S 275 k)) (w_up_slot (by decide)) (fun r19 => ?_)
        refine wa_ireturn rfl ?_
        refine ⟨rfl, congrArg (fun z => Sum.inl (some (0, z))) ?_⟩
        unfold me_r
        simp only [Nat.reduceAdd]
        first | (rw [if_neg (by omega)]; done) | (rw [if_pos (by omega)]; repeat (first | rw [if_pos (by omega)] | rw [if_neg (by omega)]))
        all_goals first | rfl | (show _ = _; omega)
      by_cases c20 : wh = 4
      · refine wb_sw (w_rg0 (by omega) (by omega)) (tb := 8) (by rw [c20]; rfl) ⟨_, rfl⟩ ?_
        refine wa_aload_n (n := 0) rfl ?_
        refine wb_gf5 237 rfl (wy_pr rfl) wt_237 wf_15_13 (v := 261) ((w_up_at (by decide)).trans (h1)) (fun r21 => ?_)
        refine wb_gf4 261 rfl (wy_pr rfl) wt_261 wf_12_16 (v := 276) wl_261_16 ?_
        refine wa_iload_n (n := 1) rfl ?_
        refine wb_iald 276 rfl (wy_pr rfl) wt_276 (n := 400) ((w_up_slot (by decide)).trans ((ml_276 hM))) (by omega) (by omega) (v := (S 276 k)) (w_up_slot (by decide)) (fun r22 => ?_)
        refine wa_ireturn rfl ?_
        refine ⟨rfl, congrArg (fun z => Sum.inl (some (0, z))) ?_⟩
        unfold me_r
        simp only [Nat.reduceAdd]
        first | (rw [if_neg (by omega)]; done) | (rw [if_pos (by omega)]; repeat (first | rw [if_pos (by omega)] | rw [if_neg (by omega)]))
        all_goals first | rfl | (show _ = _; omega)
      by_cases c23 : wh = 5
      · refine wb_sw (w_rg0 (by omega) (by omega)) (tb := 9) (by rw [c23]; rfl) ⟨_, rfl⟩ ?_
        refine wa_aload_n (n := 0) rfl ?_
        refine wb_gf5 237 rfl (wy_pr rfl) wt_237 wf_15_13 (v := 261) ((w_up_at (by decide)).trans (h1)) (fun r24 => ?_)
        refine wb_gf4 261 rfl (wy_pr rfl) wt_261 wf_12_17 (v := 277) wl_261_17 ?_
        refine wa_iload_n (n := 1) rfl ?_
        refine wb_zald 277 rfl (wy_pr rfl) wt_277 (n := 400) ((w_up_slot (by decide)).trans ((ml_277 hM))) (by omega) (by omega) (v := (S 277 k)) (w_up_slot (by decide)) (fun r25 => ?_)
        refine wa_ifeq (w_rg0 (by omega) (by omega)) ⟨_, rfl⟩ (fun c26 => ?_) (fun c26 => ?_)
        · skip
          refine wa_iconst ?_
          refine wa_fall ⟨_, rfl⟩ ?_
          refine wa_ireturn rfl ?_
          refine ⟨rfl, congrArg (fun z => Sum.inl (some (0, z))) ?_⟩
          unfold me_r
          simp only [Nat.reduceAdd]
          first | (have hz : 0 ≤ S 274 k ∧ S 274 k ≤ 1 := by first | assumption | exact (by assumption : w_rg 3 (S 274 k))) | (have hz : 0 ≤ S 277 k ∧ S 277 k ≤ 1 := by first | assumption | exact (by assumption : w_rg 3 (S 277 k)))
          first | (rw [if_neg (by omega)]; done) | (rw [if_pos (by omega)]; repeat (first | rw [if_pos (by omega)] | rw [if_neg (by omega)]))
          all_goals first | rfl | (show _ = _; omega)
        · skip
          refine wa_iconst ?_
          refine wa_goto ⟨_, rfl⟩ ?_
          refine wa_ireturn rfl ?_
          refine ⟨rfl, congrArg (fun z => Sum.inl (some (0, z))) ?_⟩
          unfold me_r
          simp only [Nat.reduceAdd]
          first | (have hz : 0 ≤ S 274 k ∧ S 274 k ≤ 1 := by first | assumption | exact (by assumption : w_rg 3 (S 274 k))) | (have hz : 0 ≤ S 277 k ∧ S 277 k ≤ 1 := by first | assumption | exact (by assumption : w_rg 3 (S 277 k)))
          first | (rw [if_neg (by omega)]; done) | (rw [if_pos (by omega)]; repeat (first | rw [if_pos (by omega)] | rw [if_neg (by omega)]))
          all_goals first | rfl | (show _ = _; omega)
      refine wb_sw (w_rg0 (by omega) (by omega)) (tb := 12) (w_tb_df (by simp only [List.length_cons, List.length_nil]; omega)) ⟨_, rfl⟩ ?_
      have h8 := h4 k (by omega) (by omega)
      refine wa_iload_n (n := 2) rfl ?_
      refine wa_iconst ?_
      refine wa_icmple (w_rg0 (by omega) (by omega)) (w_rg0 (by omega) (by omega)) ⟨_, rfl⟩ (fun c27 => ?_) (fun c27 => ?_)
      · skip
        refine wa_iconst ?_
        refine wa_fall ⟨_, rfl⟩ ?_
        refine wa_ireturn rfl ?_
        refine ⟨rfl, congrArg (fun z => Sum.inl (some (0, z))) ?_⟩
        unfold me_r
        simp only [Nat.reduceAdd]
        first | (rw [if_neg (by omega)]; done) | (rw [if_pos (by omega)]; repeat (first | rw [if_pos (by omega)] | rw [if_neg (by omega)]))
        all_goals first | rfl | (show _ = _; omega)
      · skip
        refine wa_iload_n (n := 2) rfl ?_
        refine wa_bipush (w_rg2 (by omega) (by omega)) ?_
        refine wa_isub ?_
        refine wa_aload_n (n := 0) rfl ?_
        refine wb_gf5 237 rfl (wy_pr rfl) wt_237 wf_15_13 (v := 261) ((w_up_at (by decide)).trans (h1)) (fun r28 => ?_)
        refine wb_gf4 261 rfl (wy_pr rfl) wt_261 wf_12_16 (v := 276) wl_261_16 ?_
        refine wa_iload_n (n := 1) rfl ?_
        refine wb_iald 276 rfl (wy_pr rfl) wt_276 (n := 400) ((w_up_slot (by decide)).trans ((ml_276 hM))) (by omega) (by omega) (v := (S 276 k)) (w_up_slot (by decide)) (fun r29 => ?_)
        refine wa_icmpge (w_rg0 (by omega) (by omega)) (w_rg0 (by omega) (by omega)) ⟨_, rfl⟩ (fun c30 => ?_) (fun c30 => ?_)
        · skip
          refine wa_iconst ?_
          refine wa_fall ⟨_, rfl⟩ ?_
          refine wa_ireturn rfl ?_
          refine ⟨rfl, congrArg (fun z => Sum.inl (some (0, z))) ?_⟩
          unfold me_r
          simp only [Nat.reduceAdd]
          first | (rw [if_neg (by omega)]; done) | (rw [if_pos (by omega)]; repeat (first | rw [if_pos (by omega)] | rw [if_neg (by omega)]))
          all_goals first | rfl | (show _ = _; omega)
        · skip
          refine wa_aload_n (n := 0) rfl ?_
          refine wb_gf5 237 rfl (wy_pr rfl) wt_237 wf_15_13 (v := 261) ((w_up_at (by decide)).trans (h1)) (fun r31 => ?_)
          refine wb_gf4 261 rfl (wy_pr rfl) wt_261 wf_12_18 (v := 278) wl_261_18 ?_
          refine wa_bipush (w_rg2 (by omega) (by omega)) ?_
          refine wa_iload_n (n := 1) rfl ?_
          refine wa_imul ?_
          refine wa_iload_n (n := 2) rfl ?_
          refine wa_iadd ?_
          refine wa_bipush (w_rg2 (by omega) (by omega)) ?_
          refine wa_isub ?_
          refine wb_iald 278 rfl (wy_pr rfl) wt_278 (n := 3200) ((w_up_slot (by decide)).trans ((ml_278 hM))) (by omega) (by omega) (v := (S 278 (((8 * k) + wh) - 6))) (w_up_slot (by decide)) (fun r32 => ?_)
          refine wa_goto ⟨_, rfl⟩ ?_
          refine wa_ireturn rfl ?_
          refine ⟨rfl, congrArg (fun z => Sum.inl (some (0, z))) ?_⟩
          unfold me_r
          simp only [Nat.reduceAdd]
          first | (rw [if_neg (by omega)]; done) | (rw [if_pos (by omega)]; repeat (first | rw [if_pos (by omega)] | rw [if_neg (by omega)]))
          all_goals first | rfl | (show _ = _; omega)
    · skip
      exact absurd c6 (by omega)
  · skip
    show wJ _ _ _ _ _ _ _ _ _ _
    refine wa_ifne (w_rg0 (by omega) (by omega)) ⟨_, rfl⟩ (fun c33 => ?_) (fun c33 => ?_)
    · skip
      exact absurd c33 (by omega)
    · skip
      refine wa_iconst ?_
      refine wa_ireturn rfl ?_
      refine ⟨rfl, congrArg (fun z => Sum.inl (some (0, z))) ?_⟩
      unfold me_r
      simp only [Nat.reduceAdd]
      first | (rw [if_neg (by omega)]; done) | (rw [if_pos (by omega)]; repeat (first | rw [if_pos (by omega)] | rw [if_neg (by omega)]))
      all_goals first | rfl | (show _ = _; omega)
theorem msu_261 {k wh : Int} (hM : w_ML S) (h1 : S 237 13 = 261) (h2 : 0 ≤ S 261 1 ∧ S 261 1 ≤ 60) (hk : -2147483648 ≤ k ∧ k ≤ 2147483647) (hw : -2147483648 ≤ wh ∧ wh ≤ 2147483647) : wJ (pe_GA xs) wY0 M (d + 1) t_M_subtype ((pe_at t_M_subtype.bl 0).getD (0, [])).2 [(0, (2, 237)), (1, (0, k)), (2, (0, wh))] [] S (fun o Z => w_up S 237 0 0 = Z ∧ o = .inl (some (0, su_v (S 267) (S 261 1) k wh))) := by
  refine wa_aload_n (n := 0) rfl ?_
  refine wa_iconst ?_
  refine wb_pfi 237 rfl (wy_pr rfl) wt_237 wf_15_0 (n := 0) rfl ⟨(by omega), (by omega)⟩ ?_
  refine wa_bipush (w_rg2 (by omega) (by omega)) ?_
  refine wa_aload_n (n := 0) rfl ?_
  refine wb_gf5 237 rfl (wy_pr rfl) wt_237 wf_15_13 (v := 261) ((w_up_at (by decide)).trans (h1)) (fun r1 => ?_)
  refine wb_gfi 261 rfl (wy_pr rfl) wt_261 wf_12_1 (v := (S 261 1)) (w_up_slot (by decide)) (fun r2 => ?_)
  refine wa_iadd ?_
  refine wa_iconst ?_
  refine wa_isub ?_
  refine wa_istore_n (n := 3) rfl ?_
  refine wa_iload_n (n := 1) rfl ?_
  refine wa_i2l (w_rg0 (by omega) (by omega)) ?_
  refine wb_lconst (m := 1) rfl ?_
  refine wa_iload_n (n := 3) rfl ?_
  refine wa_i2l (w_rg0 (by omega) (by omega)) ?_
  refine wa_cs (M2 := fun _ => False) rfl at_M_in ⟨_, rfl⟩ rfl rfl ⟨trivial, (Or.inr ⟨wy_pr rfl, fun q => q⟩), trivial, trivial, trivial⟩ trivial (fun _ _ q => False.elim q) (in_ok (S := (w_up S 237 0 0)) (a := k) (lo := 1) (hi := ((9 + (S 261 1)) - 1)) ⟨by omega, by omega⟩ ⟨by omega, by omega⟩ ⟨by omega, by omega⟩) (fun oq4 Sq4 hp5 q4 => ?_)
  rcases q4 with ⟨rfl, ⟨rfl, hin3⟩ | ⟨rfl, hin3⟩⟩
  · skip
    show wJ _ _ _ _ _ _ _ _ _ _
    refine wa_ifeq (w_rg0 (by omega) (by omega)) ⟨_, rfl⟩ (fun c6 => ?_) (fun c6 => ?_)
    · skip
      exact absurd c6 (by omega)
    · skip
      refine wa_iload_n (n := 2) rfl ?_
      refine wa_i2l (w_rg0 (by omega) (by omega)) ?_
      refine wb_lconst (m := 1) rfl ?_
      refine wa_iload_n (n := 3) rfl ?_
      refine wa_i2l (w_rg0 (by omega) (by omega)) ?_
      refine wa_cs (M2 := fun _ => False) rfl at_M_in ⟨_, rfl⟩ rfl rfl ⟨trivial, (Or.inr ⟨wy_pr rfl, fun q => q⟩), trivial, trivial, trivial⟩ trivial (fun _ _ q => False.elim q) (in_ok (S := (w_up S 237 0 0)) (a := wh) (lo := 1) (hi := ((9 + (S 261 1)) - 1)) ⟨by omega, by omega⟩ ⟨by omega, by omega⟩ ⟨by omega, by omega⟩) (fun oq8 Sq8 hp9 q8 => ?_)
      rcases q8 with ⟨rfl, ⟨rfl, hin7⟩ | ⟨rfl, hin7⟩⟩
      · skip
        show wJ _ _ _ _ _ _ _ _ _ _
        refine wa_ifeq (w_rg0 (by omega) (by omega)) ⟨_, rfl⟩ (fun c10 => ?_) (fun c10 => ?_)
        · skip
          exact absurd c10 (by omega)
        · skip
          refine wa_aload_n (n := 0) rfl ?_
          refine wb_gf5 237 rfl (wy_pr rfl) wt_237 wf_15_13 (v := 261) ((w_up_at (by decide)).trans (h1)) (fun r11 => ?_)
          refine wa_iload_n (n := 1) rfl ?_
          refine wa_iload_n (n := 2) rfl ?_
          refine wa_cv 261 rfl (wy_pr rfl) wt_261 (M2 := fun _ => False) rfl at_MO_isSub ⟨_, rfl⟩ rfl rfl ⟨trivial, (Or.inr ⟨wy_pr rfl, fun q => q⟩), trivial, trivial, trivial⟩ trivial (fun _ _ q => False.elim q) ?_ (fun _ _ _ q => q)
          refine wa_iload_n (n := 1) rfl ?_
          refine wa_ifeq (w_rg0 (by omega) (by omega)) ⟨_, rfl⟩ (fun c12 => ?_) (fun c12 => ?_)
          · skip
            refine wa_iconst ?_
            refine wa_zreturn rfl (Or.inl rfl) ?_
            show wJ _ _ _ _ _ _ _ _ _ _
            refine wa_ifeq (w_rg0 (by omega) (by omega)) ⟨_, rfl⟩ (fun c13 => ?_) (fun c13 => ?_)
            · skip
              refine wa_iconst ?_
              refine wa_fall ⟨_, rfl⟩ ?_
              refine wa_zreturn rfl (Or.inl rfl) ?_
              refine ⟨rfl, congrArg (fun z => Sum.inl (some (0, z))) ?_⟩
              unfold su_v
              first | (rw [if_neg (by omega)]) | (have hbb := bb_sh (v := S 267 (k - 9)) (o := wh - 9) (by omega); split at hbb <;> rename_i hbq <;> first | omega | (rw [if_neg (by first | omega | (refine ⟨by omega, by omega, Or.inr (Or.inr (Or.inr ⟨by omega, by omega, by omega, hbq⟩))⟩) | (rintro ⟨-, -, q | q | q | q⟩ <;> first | omega | exact hbq q.2.2.2))]))
            · skip
              exact absurd c13 (by omega)
          · skip
            refine wa_iload_n (n := 2) rfl ?_
            refine wa_ifne (w_rg0 (by omega) (by omega)) ⟨_, rfl⟩ (fun c14 => ?_) (fun c14 => ?_)
            · skip
              refine wa_iload_n (n := 1) rfl ?_
              refine wa_iload_n (n := 2) rfl ?_
              refine wa_icmpeq (w_rg0 (by omega) (by omega)) (w_rg0 (by omega) (by omega)) ⟨_, rfl⟩ (fun c15 => ?_) (fun c15 => ?_)
              · skip
                refine wa_iconst ?_
                refine wa_zreturn rfl (Or.inr rfl) ?_
                show wJ _ _ _ _ _ _ _ _ _ _
                refine wa_ifeq (w_rg0 (by omega) (by omega)) ⟨_, rfl⟩ (fun c16 => ?_) (fun c16 => ?_)
                · skip
                  exact absurd c16 (by omega)
                · skip
                  refine wa_iconst ?_
                  refine wa_goto ⟨_, rfl⟩ ?_
                  refine wa_zreturn rfl (Or.inr rfl) ?_
                  refine ⟨rfl, congrArg (fun z => Sum.inl (some (0, z))) ?_⟩
                  unfold su_v
                  first | (rw [if_pos (by omega)]) | (have hbb := bb_sh (v := S 267 (k - 9)) (o := wh - 9) (by omega); split at hbb <;> rename_i hbq <;> first | omega | (rw [if_pos (by first | omega | (refine ⟨by omega, by omega, Or.inr (Or.inr (Or.inr ⟨by omega, by omega, by omega, hbq⟩))⟩) | (rintro ⟨-, -, q | q | q | q⟩ <;> first | omega | exact hbq q.2.2.2))]))
              · skip
                refine wa_iload_n (n := 1) rfl ?_
                refine wa_iconst ?_
                refine wa_icmpne (w_rg0 (by omega) (by omega)) (w_rg0 (by omega) (by omega)) ⟨_, rfl⟩ (fun c17 => ?_) (fun c17 => ?_)
                · skip
                  refine wa_iload_n (n := 2) rfl ?_
                  refine wa_bipush (w_rg2 (by omega) (by omega)) ?_
                  refine wa_icmpne (w_rg0 (by omega) (by omega)) (w_rg0 (by omega) (by omega)) ⟨_, rfl⟩ (fun c18 => ?_) (fun c18 => ?_)
                  · skip
                    refine wa_iload_n (n := 1) rfl ?_
                    refine wa_bipush (w_rg2 (by omega) (by omega)) ?_
                    refine wa_icmplt (w_rg0 (by omega) (by omega)) (w_rg0 (by omega) (by omega)) ⟨_, rfl⟩ (fun c19 => ?_) (fun c19 => ?_)
                    · skip
                      refine wa_iconst ?_
                      refine wa_fall ⟨_, rfl⟩ ?_
                      refine wa_zreturn rfl (Or.inl rfl) ?_
                      show wJ _ _ _ _ _ _ _ _ _ _
                      refine wa_ifeq (w_rg0 (by omega) (by omega)) ⟨_, rfl⟩ (fun c20 => ?_) (fun c20 => ?_)
                      · skip
                        refine wa_iconst ?_
                        refine wa_fall ⟨_, rfl⟩ ?_
                        refine wa_zreturn rfl (Or.inl rfl) ?_
                        refine ⟨rfl, congrArg (fun z => Sum.inl (some (0, z))) ?_⟩
                        unfold su_v
                        first | (rw [if_neg (by omega)]) | (have hbb := bb_sh (v := S 267 (k - 9)) (o := wh - 9) (by omega); split at hbb <;> rename_i hbq <;> first | omega | (rw [if_neg (by first | omega | (refine ⟨by omega, by omega, Or.inr (Or.inr (Or.inr ⟨by omega, by omega, by omega, hbq⟩))⟩) | (rintro ⟨-, -, q | q | q | q⟩ <;> first | omega | exact hbq q.2.2.2))]))
                      · skip
                        exact absurd c20 (by omega)
                    · skip
                      refine wa_iload_n (n := 2) rfl ?_
                      refine wa_bipush (w_rg2 (by omega) (by omega)) ?_
                      refine wa_icmplt (w_rg0 (by omega) (by omega)) (w_rg0 (by omega) (by omega)) ⟨_, rfl⟩ (fun c21 => ?_) (fun c21 => ?_)
                      · skip
                        refine wa_iconst ?_
                        refine wa_fall ⟨_, rfl⟩ ?_
                        refine wa_zreturn rfl (Or.inl rfl) ?_
                        show wJ _ _ _ _ _ _ _ _ _ _
                        refine wa_ifeq (w_rg0 (by omega) (by omega)) ⟨_, rfl⟩ (fun c22 => ?_) (fun c22 => ?_)
                        · skip
                          refine wa_iconst ?_
                          refine wa_fall ⟨_, rfl⟩ ?_
                          refine wa_zreturn rfl (Or.inl rfl) ?_
                          refine ⟨rfl, congrArg (fun z => Sum.inl (some (0, z))) ?_⟩
                          unfold su_v
                          first | (rw [if_neg (by omega)]) | (have hbb := bb_sh (v := S 267 (k - 9)) (o := wh - 9) (by omega); split at hbb <;> rename_i hbq <;> first | omega | (rw [if_neg (by first | omega | (refine ⟨by omega, by omega, Or.inr (Or.inr (Or.inr ⟨by omega, by omega, by omega, hbq⟩))⟩) | (rintro ⟨-, -, q | q | q | q⟩ <;> first | omega | exact hbq q.2.2.2))]))
                        · skip
                          exact absurd c22 (by omega)
                      · skip
                        refine wa_aload_n (n := 0) rfl ?_
                        refine wb_gf4 261 rfl (wy_pr rfl) wt_261 wf_12_6 (v := 267) wl_261_6 ?_
                        refine wa_iload_n (n := 1) rfl ?_
                        refine wa_bipush (w_rg2 (by omega) (by omega)) ?_
                        refine wa_isub ?_
                        refine wb_lald 267 rfl (wy_pr rfl) wt_267 (n := 60) ((w_up_slot (by decide)).trans ((ml_267 hM))) (by omega) (by omega) (v := (S 267 (k - 9))) (w_up_slot (by decide)) (fun r23 => ?_)
                        refine wa_iload_n (n := 2) rfl ?_
                        refine wa_bipush (w_rg2 (by omega) (by omega)) ?_
                        refine wa_isub ?_
                        refine wa_lushr ?_
                        refine wb_lconst (m := 1) rfl ?_
                        refine wa_land ?_
                        refine wb_lconst (m := 1) rfl ?_
                        have hbx : 0 ≤ wb_land (wb_lushr (S 267 (k - 9)) (wh - 9)) 1 ∧ wb_land (wb_lushr (S 267 (k - 9)) (wh - 9)) 1 ≤ 1 := by rw [bb_sh (by omega)]; split <;> omega
                        refine wa_lcmp (w_rg1 (by omega) (by omega)) (w_rg1 (by omega) (by omega)) ?_
                        refine wa_ifne (by have := @wb_lcmp_cases; exact w_lcmp_rg) ⟨_, rfl⟩ (fun c24 => ?_) (fun c24 => ?_)
                        · skip
                          have c24x := @wb_lcmp_cases (wb_land (wb_lushr (S 267 (k - 9)) (wh - 9)) 1) 1
                          refine wa_iconst ?_
                          refine wa_fall ⟨_, rfl⟩ ?_
                          refine wa_zreturn rfl (Or.inl rfl) ?_
                          show wJ _ _ _ _ _ _ _ _ _ _
                          refine wa_ifeq (w_rg0 (by omega) (by omega)) ⟨_, rfl⟩ (fun c25 => ?_) (fun c25 => ?_)
                          · skip
                            refine wa_iconst ?_
                            refine wa_fall ⟨_, rfl⟩ ?_
                            refine wa_zreturn rfl (Or.inl rfl) ?_
                            refine ⟨rfl, congrArg (fun z => Sum.inl (some (0, z))) ?_⟩
                            unfold su_v
                            first | (rw [if_neg (by omega)]) | (have hbb := bb_sh (v := S 267 (k - 9)) (o := wh - 9) (by omega); split at hbb <;> rename_i hbq <;> first | omega | (rw [if_neg (by first | omega | (refine ⟨by omega, by omega, Or.inr (Or.inr (Or.inr ⟨by omega, by omega, by omega, hbq⟩))⟩) | (rintro ⟨-, -, q | q | q | q⟩ <;> first | omega | exact hbq q.2.2.2))]))
                          · skip
                            exact absurd c25 (by omega)
                        · skip
                          have c24x := @wb_lcmp_cases (wb_land (wb_lushr (S 267 (k - 9)) (wh - 9)) 1) 1
                          refine wa_iconst ?_
                          refine wa_goto ⟨_, rfl⟩ ?_
                          refine wa_zreturn rfl (Or.inr rfl) ?_
                          show wJ _ _ _ _ _ _ _ _ _ _
                          refine wa_ifeq (w_rg0 (by omega) (by omega)) ⟨_, rfl⟩ (fun c26 => ?_) (fun c26 => ?_)
                          · skip
                            exact absurd c26 (by omega)
                          · skip
                            refine wa_iconst ?_
                            refine wa_goto ⟨_, rfl⟩ ?_
                            refine wa_zreturn rfl (Or.inr rfl) ?_
                            refine ⟨rfl, congrArg (fun z => Sum.inl (some (0, z))) ?_⟩
                            unfold su_v
                            first | (rw [if_pos (by omega)]) | (have hbb := bb_sh (v := S 267 (k - 9)) (o := wh - 9) (by omega); split at hbb <;> rename_i hbq <;> first | omega | (rw [if_pos (by first | omega | (refine ⟨by omega, by omega, Or.inr (Or.inr (Or.inr ⟨by omega, by omega, by omega, hbq⟩))⟩) | (rintro ⟨-, -, q | q | q | q⟩ <;> first | omega | exact hbq q.2.2.2))]))
                  · skip
                    refine wa_iload_n (n := 1) rfl ?_
                    refine wa_iconst ?_
                    refine wa_icmple (w_rg0 (by omega) (by omega)) (w_rg0 (by omega) (by omega)) ⟨_, rfl⟩ (fun c27 => ?_) (fun c27 => ?_)
                    · skip
                      refine wa_iconst ?_
                      refine wa_fall ⟨_, rfl⟩ ?_
                      refine wa_zreturn rfl (Or.inl rfl) ?_
                      show wJ _ _ _ _ _ _ _ _ _ _
                      refine wa_ifeq (w_rg0 (by omega) (by omega)) ⟨_, rfl⟩ (fun c28 => ?_) (fun c28 => ?_)
                      · skip
                        refine wa_iconst ?_
                        refine wa_fall ⟨_, rfl⟩ ?_
                        refine wa_zreturn rfl (Or.inl rfl) ?_
                        refine ⟨rfl, congrArg (fun z => Sum.inl (some (0, z))) ?_⟩
                        unfold su_v
                        first | (rw [if_neg (by omega)]) | (have hbb := bb_sh (v := S 267 (k - 9)) (o := wh - 9) (by omega); split at hbb <;> rename_i hbq <;> first | omega | (rw [if_neg (by first | omega | (refine ⟨by omega, by omega, Or.inr (Or.inr (Or.inr ⟨by omega, by omega, by omega, hbq⟩))⟩) | (rintro ⟨-, -, q | q | q | q⟩ <;> first | omega | exact hbq q.2.2.2))]))
                      · skip
                        exact absurd c28 (by omega)
                    · skip
                      refine wa_iconst ?_
                      refine wa_goto ⟨_, rfl⟩ ?_
                      refine wa_zreturn rfl (Or.inr rfl) ?_
                      show wJ _ _ _ _ _ _ _ _ _ _
                      refine wa_ifeq (w_rg0 (by omega) (by omega)) ⟨_, rfl⟩ (fun c29 => ?_) (fun c29 => ?_)
                      · skip
                        exact absurd c29 (by omega)
                      · skip
                        refine wa_iconst ?_
                        refine wa_goto ⟨_, rfl⟩ ?_
                        refine wa_zreturn rfl (Or.inr rfl) ?_
                        refine ⟨rfl, congrArg (fun z => Sum.inl (some (0, z))) ?_⟩
                        unfold su_v
                        first | (rw [if_pos (by omega)]) | (have hbb := bb_sh (v := S 267 (k - 9)) (o := wh - 9) (by omega); split at hbb <;> rename_i hbq <;> first | omega | (rw [if_pos (by first | omega | (refine ⟨by omega, by omega, Or.inr (Or.inr (Or.inr ⟨by omega, by omega, by omega, hbq⟩))⟩) | (rintro ⟨-, -, q | q | q | q⟩ <;> first | omega | exact hbq q.2.2.2))]))
                · skip
                  refine wa_iload_n (n := 2) rfl ?_
                  refine wa_iconst ?_
                  refine wa_icmpne (w_rg0 (by omega) (by omega)) (w_rg0 (by omega) (by omega)) ⟨_, rfl⟩ (fun c30 => ?_) (fun c30 => ?_)
                  · skip
                    refine wa_iload_n (n := 2) rfl ?_
                    refine wa_bipush (w_rg2 (by omega) (by omega)) ?_
                    refine wa_icmpne (w_rg0 (by omega) (by omega)) (w_rg0 (by omega) (by omega)) ⟨_, rfl⟩ (fun c31 => ?_) (fun c31 => ?_)
                    · skip
                      refine wa_iload_n (n := 1) rfl ?_
                      refine wa_bipush (w_rg2 (by omega) (by omega)) ?_
                      refine wa_icmplt (w_rg0 (by omega) (by omega)) (w_rg0 (by omega) (by omega)) ⟨_, rfl⟩ (fun c32 => ?_) (fun c32 => ?_)
                      · skip
                        refine wa_iconst ?_
                        refine wa_fall ⟨_, rfl⟩ ?_
                        refine wa_zreturn rfl (Or.inl rfl) ?_
                        show wJ _ _ _ _ _ _ _ _ _ _
                        refine wa_ifeq (w_rg0 (by omega) (by omega)) ⟨_, rfl⟩ (fun c33 => ?_) (fun c33 => ?_)
                        · skip
                          refine wa_iconst ?_
                          refine wa_fall ⟨_, rfl⟩ ?_
                          refine wa_zreturn rfl (Or.inl rfl) ?_
                          refine ⟨rfl, congrArg (fun z => Sum.inl (some (0, z))) ?_⟩
                          unfold su_v
                          first | (rw [if_neg (by omega)]) | (have hbb := bb_sh (v := S 267 (k - 9)) (o := wh - 9) (by omega); split at hbb <;> rename_i hbq <;> first | omega | (rw [if_neg (by first | omega | (refine ⟨by omega, by omega, Or.inr (Or.inr (Or.inr ⟨by omega, by omega, by omega, hbq⟩))⟩) | (rintro ⟨-, -, q | q | q | q⟩ <;> first | omega | exact hbq q.2.2.2))]))
                        · skip
                          exact absurd c33 (by omega)
                      · skip
                        exact absurd c32 (by omega)
                    · skip
                      refine wa_iload_n (n := 1) rfl ?_
                      refine wa_iconst ?_
                      refine wa_icmple (w_rg0 (by omega) (by omega)) (w_rg0 (by omega) (by omega)) ⟨_, rfl⟩ (fun c34 => ?_) (fun c34 => ?_)
                      · skip
                        refine wa_iconst ?_
                        refine wa_fall ⟨_, rfl⟩ ?_
                        refine wa_zreturn rfl (Or.inl rfl) ?_
                        show wJ _ _ _ _ _ _ _ _ _ _
                        refine wa_ifeq (w_rg0 (by omega) (by omega)) ⟨_, rfl⟩ (fun c35 => ?_) (fun c35 => ?_)
                        · skip
                          refine wa_iconst ?_
                          refine wa_fall ⟨_, rfl⟩ ?_
                          refine wa_zreturn rfl (Or.inl rfl) ?_
                          refine ⟨rfl, congrArg (fun z => Sum.inl (some (0, z))) ?_⟩
                          unfold su_v
                          first | (rw [if_neg (by omega)]) | (have hbb := bb_sh (v := S 267 (k - 9)) (o := wh - 9) (by omega); split at hbb <;> rename_i hbq <;> first | omega | (rw [if_neg (by first | omega | (refine ⟨by omega, by omega, Or.inr (Or.inr (Or.inr ⟨by omega, by omega, by omega, hbq⟩))⟩) | (rintro ⟨-, -, q | q | q | q⟩ <;> first | omega | exact hbq q.2.2.2))]))
                        · skip
                          exact absurd c35 (by omega)
                      · skip
                        exact absurd c34 (by omega)
                  · skip
                    refine wa_fall ⟨_, rfl⟩ ?_
                    refine wa_iconst ?_
                    refine wa_zreturn rfl (Or.inr rfl) ?_
                    show wJ _ _ _ _ _ _ _ _ _ _
                    refine wa_ifeq (w_rg0 (by omega) (by omega)) ⟨_, rfl⟩ (fun c36 => ?_) (fun c36 => ?_)
                    · skip
                      exact absurd c36 (by omega)
                    · skip
                      refine wa_iconst ?_
                      refine wa_goto ⟨_, rfl⟩ ?_
                      refine wa_zreturn rfl (Or.inr rfl) ?_
                      refine ⟨rfl, congrArg (fun z => Sum.inl (some (0, z))) ?_⟩
                      unfold su_v
                      first | (rw [if_pos (by omega)]) | (have hbb := bb_sh (v := S 267 (k - 9)) (o := wh - 9) (by omega); split at hbb <;> rename_i hbq <;> first | omega | (rw [if_pos (by first | omega | (refine ⟨by omega, by omega, Or.inr (Or.inr (Or.inr ⟨by omega, by omega, by omega, hbq⟩))⟩) | (rintro ⟨-, -, q | q | q | q⟩ <;> first | omega | exact hbq q.2.2.2))]))
            · skip
              refine wa_fall ⟨_, rfl⟩ ?_
              refine wa_iconst ?_
              refine wa_zreturn rfl (Or.inl rfl) ?_
              show wJ _ _ _ _ _ _ _ _ _ _
              refine wa_ifeq (w_rg0 (by omega) (by omega)) ⟨_, rfl⟩ (fun c37 => ?_) (fun c37 => ?_)
              · skip
                refine wa_iconst ?_
                refine wa_fall ⟨_, rfl⟩ ?_
                refine wa_zreturn rfl (Or.inl rfl) ?_
                refine ⟨rfl, congrArg (fun z => Sum.inl (some (0, z))) ?_⟩
                unfold su_v
                first | (rw [if_neg (by omega)]) | (have hbb := bb_sh (v := S 267 (k - 9)) (o := wh - 9) (by omega); split at hbb <;> rename_i hbq <;> first | omega | (rw [if_neg (by first | omega | (refine ⟨by omega, by omega, Or.inr (Or.inr (Or.inr ⟨by omega, by omega, by omega, hbq⟩))⟩) | (rintro ⟨-, -, q | q | q | q⟩ <;> first | omega | exact hbq q.2.2.2))]))
              · skip
                exact absurd c37 (by omega)
      · skip
        show wJ _ _ _ _ _ _ _ _ _ _
        refine wa_ifeq (w_rg0 (by omega) (by omega)) ⟨_, rfl⟩ (fun c38 => ?_) (fun c38 => ?_)
        · skip
          refine wa_iconst ?_
          refine wa_fall ⟨_, rfl⟩ ?_
          refine wa_zreturn rfl (Or.inl rfl) ?_
          refine ⟨rfl, congrArg (fun z => Sum.inl (some (0, z))) ?_⟩
          unfold su_v
          first | (rw [if_neg (by omega)]) | (have hbb := bb_sh (v := S 267 (k - 9)) (o := wh - 9) (by omega); split at hbb <;> rename_i hbq <;> first | omega | (rw [if_neg (by first | omega | (refine ⟨by omega, by omega, Or.inr (Or.inr (Or.inr ⟨by omega, by omega, by omega, hbq⟩))⟩) | (rintro ⟨-, -, q | q | q | q⟩ <;> first | omega | exact hbq q.2.2.2))]))
        · skip
          exact absurd c38 (by omega)
  · skip
    show wJ _ _ _ _ _ _ _ _ _ _
    refine wa_ifeq (w_rg0 (by omega) (by omega)) ⟨_, rfl⟩ (fun c39 => ?_) (fun c39 => ?_)
    · skip
      refine wa_iconst ?_
      refine wa_fall ⟨_, rfl⟩ ?_
      refine wa_zreturn rfl (Or.inl rfl) ?_
      refine ⟨rfl, congrArg (fun z => Sum.inl (some (0, z))) ?_⟩
      unfold su_v
      first | (rw [if_neg (by omega)]) | (have hbb := bb_sh (v := S 267 (k - 9)) (o := wh - 9) (by omega); split at hbb <;> rename_i hbq <;> first | omega | (rw [if_neg (by first | omega | (refine ⟨by omega, by omega, Or.inr (Or.inr (Or.inr ⟨by omega, by omega, by omega, hbq⟩))⟩) | (rintro ⟨-, -, q | q | q | q⟩ <;> first | omega | exact hbq q.2.2.2))]))
    · skip
      exact absurd c39 (by omega)
end Wak
