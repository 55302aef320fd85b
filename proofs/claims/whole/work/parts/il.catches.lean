/-! PART il: the law's methods that catch what the class throws. -/
section Wil
variable {xs : List (Nat × List Int32)} {M M2 : Nat → Prop} {d : Nat} {S : wS} {Q Q2 : wO → wS → Prop} {o : Nat} {t n k i wh : Int}
theorem ll_steps (ho : w_pr wY0 S o) (hot : wY0.ty o = 1) (hc : wJ (pe_GA xs) wY0 M2 d t_X_steps ((pe_at t_X_steps.bl 0).getD (0, [])).2 [(0, (2, 0)), (1, (0, t)), (2, (0, n))] [] S Q2) (hMM : ∀ j, w_pr wY0 S j → M2 j → M j) (hMo : ¬ M2 o) (hM0 : ¬ M2 0) (hQ : ∀ o1 Z, Q2 o1 Z → (∃ v : Int, o1 = .inl (some (0, v)) ∧ (-2147483648 ≤ v ∧ v ≤ 2147483647) ∧ Z o (-1) = 1 ∧ Q (.inl (some (0, 0))) (w_up Z o 0 v)) ∨ (∃ v : Nat, o1 = .inr v ∧ wY0.ty v = 116 ∧ w_pr wY0 Z v ∧ Q (.inl (some (0, 1))) Z) ∨ (∃ v : Nat, o1 = .inr v ∧ wY0.ty v = 117 ∧ w_pr wY0 Z v ∧ Q (.inl (some (0, 2))) Z)) : wJ (pe_GA xs) wY0 M (d + 1) t_LL_steps ((pe_at t_LL_steps.bl 0).getD (0, [])).2 [(0, (2, 0)), (1, (0, t)), (2, (0, n)), (3, (2, (o : Int)))] [] S Q := by
  refine wa_aload_n (n := 3) rfl ?_
  refine wa_iconst ?_
  refine wa_aload_n (n := 0) rfl ?_
  refine wa_iload_n (n := 1) rfl ?_
  refine wa_iload_n (n := 2) rfl ?_
  refine wa_cx (M2 := M2) 0 rfl (wy_pr rfl) wt_0 rfl at_X_steps ⟨_, rfl⟩ rfl rfl ⟨Or.inr ⟨wy_pr rfl, hM0⟩, trivial, trivial, Or.inr ⟨ho, hMo⟩, trivial⟩ ⟨trivial, Or.inr ⟨ho, hMo⟩, trivial⟩ hMM hc (fun o1 Z hp1 hq1 => ?_)
  rcases hQ o1 Z hq1 with ⟨v, rfl, hv, hl, hz⟩ | ⟨v, rfl, ht, hpv, hz⟩ | ⟨v, rfl, ht, hpv, hz⟩
  · show wJ _ _ _ _ _ _ _ _ _ _
    refine wa_i2l (w_rg0 hv.1 hv.2) ?_
    refine wb_last o rfl (hp1 o ho) hot hl (by decide) (by decide) ⟨by omega, by omega⟩ ?_
    refine wa_goto ⟨_, rfl⟩ ?_
    refine wa_iconst ?_
    refine wa_ireturn rfl ?_
    exact hz
  · refine ⟨16, _, _, hpv, ht, rfl, ⟨_, rfl⟩, ?_⟩
    refine wa_astore (n := 4) rfl ?_
    refine wa_iconst ?_
    refine wa_ireturn rfl ?_
    exact hz
  · refine ⟨17, _, _, hpv, ht, rfl, ⟨_, rfl⟩, ?_⟩
    refine wa_astore (n := 4) rfl ?_
    refine wa_iconst ?_
    refine wa_ireturn rfl ?_
    exact hz
theorem ll_result (ho : w_pr wY0 S o) (hot : wY0.ty o = 1) (hc : wJ (pe_GA xs) wY0 M2 d t_X_result ((pe_at t_X_result.bl 0).getD (0, [])).2 [(0, (2, 0)), (1, (0, t)), (2, (0, wh))] [] S Q2) (hMM : ∀ j, w_pr wY0 S j → M2 j → M j) (hMo : ¬ M2 o) (hM0 : ¬ M2 0) (hQ : ∀ o1 Z, Q2 o1 Z → (∃ v : Int, o1 = .inl (some (1, v)) ∧ (-9223372036854775808 ≤ v ∧ v ≤ 9223372036854775807) ∧ Z o (-1) = 1 ∧ Q (.inl (some (0, 0))) (w_up Z o 0 v)) ∨ (∃ v : Nat, o1 = .inr v ∧ wY0.ty v = 118 ∧ w_pr wY0 Z v ∧ Q (.inl (some (0, 1))) Z) ∨ (∃ v : Nat, o1 = .inr v ∧ wY0.ty v = 117 ∧ w_pr wY0 Z v ∧ Q (.inl (some (0, 2))) Z)) : wJ (pe_GA xs) wY0 M (d + 1) t_LL_result ((pe_at t_LL_result.bl 0).getD (0, [])).2 [(0, (2, 0)), (1, (0, t)), (2, (0, wh)), (3, (2, (o : Int)))] [] S Q := by
  refine wa_aload_n (n := 3) rfl ?_
  refine wa_iconst ?_
  refine wa_aload_n (n := 0) rfl ?_
  refine wa_iload_n (n := 1) rfl ?_
  refine wa_iload_n (n := 2) rfl ?_
  refine wa_cx (M2 := M2) 0 rfl (wy_pr rfl) wt_0 rfl at_X_result ⟨_, rfl⟩ rfl rfl ⟨Or.inr ⟨wy_pr rfl, hM0⟩, trivial, trivial, Or.inr ⟨ho, hMo⟩, trivial⟩ ⟨trivial, Or.inr ⟨ho, hMo⟩, trivial⟩ hMM hc (fun o1 Z hp1 hq1 => ?_)
  rcases hQ o1 Z hq1 with ⟨v, rfl, hv, hl, hz⟩ | ⟨v, rfl, ht, hpv, hz⟩ | ⟨v, rfl, ht, hpv, hz⟩
  · show wJ _ _ _ _ _ _ _ _ _ _
    refine wb_last o rfl (hp1 o ho) hot hl (by decide) (by decide) hv ?_
    refine wa_goto ⟨_, rfl⟩ ?_
    refine wa_iconst ?_
    refine wa_ireturn rfl ?_
    exact hz
  · refine ⟨18, _, _, hpv, ht, rfl, ⟨_, rfl⟩, ?_⟩
    refine wa_astore (n := 4) rfl ?_
    refine wa_iconst ?_
    refine wa_ireturn rfl ?_
    exact hz
  · refine ⟨17, _, _, hpv, ht, rfl, ⟨_, rfl⟩, ?_⟩
    refine wa_astore (n := 4) rfl ?_
    refine wa_iconst ?_
    refine wa_ireturn rfl ?_
    exact hz
theorem ll_global (ho : w_pr wY0 S o) (hot : wY0.ty o = 1) (hc : wJ (pe_GA xs) wY0 M2 d t_X_global ((pe_at t_X_global.bl 0).getD (0, [])).2 [(0, (2, 0)), (1, (0, wh))] [] S Q2) (hMM : ∀ j, w_pr wY0 S j → M2 j → M j) (hMo : ¬ M2 o) (hM0 : ¬ M2 0) (hQ : ∀ o1 Z, Q2 o1 Z → (∃ v : Int, o1 = .inl (some (1, v)) ∧ (-9223372036854775808 ≤ v ∧ v ≤ 9223372036854775807) ∧ Z o (-1) = 1 ∧ Q (.inl (some (0, 0))) (w_up Z o 0 v)) ∨ (∃ v : Nat, o1 = .inr v ∧ wY0.ty v = 118 ∧ w_pr wY0 Z v ∧ Q (.inl (some (0, 1))) Z) ∨ (∃ v : Nat, o1 = .inr v ∧ wY0.ty v = 119 ∧ w_pr wY0 Z v ∧ Q (.inl (some (0, 2))) Z)) : wJ (pe_GA xs) wY0 M (d + 1) t_LL_global ((pe_at t_LL_global.bl 0).getD (0, [])).2 [(0, (2, 0)), (1, (0, wh)), (2, (2, (o : Int)))] [] S Q := by
  refine wa_aload_n (n := 2) rfl ?_
  refine wa_iconst ?_
  refine wa_aload_n (n := 0) rfl ?_
  refine wa_iload_n (n := 1) rfl ?_
  refine wa_cx (M2 := M2) 0 rfl (wy_pr rfl) wt_0 rfl at_X_global ⟨_, rfl⟩ rfl rfl ⟨Or.inr ⟨wy_pr rfl, hM0⟩, trivial, Or.inr ⟨ho, hMo⟩, trivial⟩ ⟨trivial, Or.inr ⟨ho, hMo⟩, trivial⟩ hMM hc (fun o1 Z hp1 hq1 => ?_)
  rcases hQ o1 Z hq1 with ⟨v, rfl, hv, hl, hz⟩ | ⟨v, rfl, ht, hpv, hz⟩ | ⟨v, rfl, ht, hpv, hz⟩
  · show wJ _ _ _ _ _ _ _ _ _ _
    refine wb_last o rfl (hp1 o ho) hot hl (by decide) (by decide) hv ?_
    refine wa_goto ⟨_, rfl⟩ ?_
    refine wa_iconst ?_
    refine wa_ireturn rfl ?_
    exact hz
  · refine ⟨18, _, _, hpv, ht, rfl, ⟨_, rfl⟩, ?_⟩
    refine wa_astore_n (n := 3) rfl ?_
    refine wa_iconst ?_
    refine wa_ireturn rfl ?_
    exact hz
  · refine ⟨19, _, _, hpv, ht, rfl, ⟨_, rfl⟩, ?_⟩
    refine wa_astore_n (n := 3) rfl ?_
    refine wa_iconst ?_
    refine wa_ireturn rfl ?_
    exact hz
theorem ll_property (ho : w_pr wY0 S o) (hot : wY0.ty o = 1) (hc : wJ (pe_GA xs) wY0 M2 d t_X_property ((pe_at t_X_property.bl 0).getD (0, [])).2 [(0, (2, 0)), (1, (0, k)), (2, (0, i)), (3, (0, wh))] [] S Q2) (hMM : ∀ j, w_pr wY0 S j → M2 j → M j) (hMo : ¬ M2 o) (hM0 : ¬ M2 0) (hQ : ∀ o1 Z, Q2 o1 Z → (∃ v : Int, o1 = .inl (some (1, v)) ∧ (-9223372036854775808 ≤ v ∧ v ≤ 9223372036854775807) ∧ Z o (-1) = 1 ∧ Q (.inl (some (0, 0))) (w_up Z o 0 v)) ∨ (∃ v : Nat, o1 = .inr v ∧ wY0.ty v = 118 ∧ w_pr wY0 Z v ∧ Q (.inl (some (0, 1))) Z)) : wJ (pe_GA xs) wY0 M (d + 1) t_LL_property ((pe_at t_LL_property.bl 0).getD (0, [])).2 [(0, (2, 0)), (1, (0, k)), (2, (0, i)), (3, (0, wh)), (4, (2, (o : Int)))] [] S Q := by
  refine wa_aload (n := 4) rfl ?_
  refine wa_iconst ?_
  refine wa_aload_n (n := 0) rfl ?_
  refine wa_iload_n (n := 1) rfl ?_
  refine wa_iload_n (n := 2) rfl ?_
  refine wa_iload_n (n := 3) rfl ?_
  refine wa_cx (M2 := M2) 0 rfl (wy_pr rfl) wt_0 rfl at_X_property ⟨_, rfl⟩ rfl rfl ⟨Or.inr ⟨wy_pr rfl, hM0⟩, trivial, trivial, trivial, Or.inr ⟨ho, hMo⟩, trivial⟩ ⟨trivial, Or.inr ⟨ho, hMo⟩, trivial⟩ hMM hc (fun o1 Z hp1 hq1 => ?_)
  rcases hQ o1 Z hq1 with ⟨v, rfl, hv, hl, hz⟩ | ⟨v, rfl, ht, hpv, hz⟩
  · show wJ _ _ _ _ _ _ _ _ _ _
    refine wb_last o rfl (hp1 o ho) hot hl (by decide) (by decide) hv ?_
    refine wa_goto ⟨_, rfl⟩ ?_
    refine wa_iconst ?_
    refine wa_ireturn rfl ?_
    exact hz
  · refine ⟨18, _, _, hpv, ht, rfl, ⟨_, rfl⟩, ?_⟩
    refine wa_astore (n := 5) rfl ?_
    refine wa_iconst ?_
    refine wa_ireturn rfl ?_
    exact hz
end Wil
