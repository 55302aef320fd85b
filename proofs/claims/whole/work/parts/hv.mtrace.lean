/-! PART hv: the reference: traces, isSuch. -/
section Whv
variable {xs : List (Nat × List Int32)} {M : Nat → Prop} {d : Nat} {S Z A : wS} {T : Int → Int} {n : Int} {cs : List hCR} {ms : List hMR} {os : Int → List Int} {Q : wO → wS → Prop}
/-- the reference: a value that is not null is of a class, or of any -/
def suB (cs : List hCR) (S : wS) (k b ty : Int) : Bool := if ty = 8 then decide (k ≠ 0) else decide (k = 7) && sbB cs (9 + S 321 b) ty
theorem suc_1 {k b ty : Int} (h : ty = 8) (h2 : k ≠ 0) : bI (suB cs S k b ty) = 1 := bI_t (by unfold suB; rw [if_pos h, decide_eq_true h2])
theorem suc_2 {k b ty : Int} (h : ty = 8) (h2 : k = 0) : bI (suB cs S k b ty) = 0 := bI_f (by unfold suB; rw [if_pos h, decide_eq_false (by omega)])
theorem suc_3 {k b ty : Int} (h : ty ≠ 8) (h1 : k = 7) (h2 : bI (sbB cs (9 + S 321 b) ty) ≠ 0) : bI (suB cs S k b ty) = 1 := bI_t (by unfold suB; rw [if_neg h, decide_eq_true h1, bI_1 h2]; rfl)
theorem suc_4 {k b ty : Int} (h : ty ≠ 8) (h2 : k ≠ 7 ∨ bI (sbB cs (9 + S 321 b) ty) = 0) : bI (suB cs S k b ty) = 0 := bI_f (by
  unfold suB
  rw [if_neg h]
  rcases h2 with z | z
  · rw [decide_eq_false z, Bool.false_and]
  · rw [bI_0 z, Bool.and_false])
theorem rtc {m tn en : Int} (hM : w_ML S) (h6 : S 237 106 = tn) (h7 : S 237 176 = en) (ht : 0 ≤ tn ∧ tn + 2 ≤ 100000) (hm : -2147483648 ≤ m ∧ m ≤ 2147483647) (he : -2147483648 ≤ en ∧ en ≤ 2147483647) : wJ (pe_GA xs) wY0 M d t_M_traces ((pe_at t_M_traces.bl 0).getD (0, [])).2 [(0, (2, 237)), (1, (0, m))] [] S (fun o Z => o = .inl none ∧ w_up (w_up (w_up S 343 tn m) 343 (tn + 1) en) 237 106 (tn + 2) = Z) := by
  refine wa_aload_n (n := 0) rfl ?_
  refine wb_gf4 237 rfl (wy_pr rfl) wt_237 wf_15_107 (v := 343) wl_237_107 ?_
  refine wa_aload_n (n := 0) rfl ?_
  refine wb_gfi 237 rfl (wy_pr rfl) wt_237 wf_15_106 (v := tn) (h6) (fun r1 => ?_)
  refine wa_iload_n (n := 1) rfl ?_
  refine wb_iast 343 rfl (wy_pr rfl) wt_343 (n := 100000) ((ml_343 hM)) (by omega) (by omega) ⟨(by omega), (by omega)⟩ ?_
  refine wa_aload_n (n := 0) rfl ?_
  refine wb_gf4 237 rfl (wy_pr rfl) wt_237 wf_15_107 (v := 343) wl_237_107 ?_
  refine wa_aload_n (n := 0) rfl ?_
  refine wb_gfi 237 rfl (wy_pr rfl) wt_237 wf_15_106 (v := tn) ((w_up_slot (by decide)).trans (h6)) (fun r2 => ?_)
  refine wa_iconst ?_
  refine wa_iadd ?_
  refine wa_aload_n (n := 0) rfl ?_
  refine wb_gfi 237 rfl (wy_pr rfl) wt_237 wf_15_176 (v := en) ((w_up_slot (by decide)).trans (h7)) (fun r3 => ?_)
  refine wb_iast 343 rfl (wy_pr rfl) wt_343 (n := 100000) ((w_up_at (by omega)).trans ((ml_343 hM))) (by omega) (by omega) ⟨(by omega), (by omega)⟩ ?_
  refine wa_aload_n (n := 0) rfl ?_
  refine wa_dup (by decide) ?_
  refine wb_gfi 237 rfl (wy_pr rfl) wt_237 wf_15_106 (v := tn) ((w_up_slot (by decide)).trans ((w_up_slot (by decide)).trans (h6))) (fun r4 => ?_)
  refine wa_iconst ?_
  refine wa_iadd ?_
  refine wb_pfi 237 rfl (wy_pr rfl) wt_237 wf_15_106 (n := 106) rfl ⟨(by omega), (by omega)⟩ ?_
  refine wa_return rfl ?_
  exact ⟨rfl, rfl⟩
theorem rsu_241 {k v ty : Int} (hM : w_ML S) (hK : KR 241 T n cs ms S) (hw : wHo cs ms os) (hty : 8 ≤ ty ∧ ty < 9 + (cs.length : Int)) (hk : 0 ≤ k ∧ k ≤ 8) (h7 : k = 7 → 0 ≤ v ∧ v < 8000 ∧ 0 ≤ S 321 v ∧ S 321 v < (cs.length : Int)) (hv : -9223372036854775808 ≤ v ∧ v ≤ 9223372036854775807) : wJ (pe_GA xs) wY0 M (d + 1) t_M_isSuch ((pe_at t_M_isSuch.bl 0).getD (0, [])).2 [(0, (2, 237)), (1, (0, k)), (2, (1, v)), (4, (0, ty))] [] S (fun o Z => S = Z ∧ o = .inl (some (0, bI (suB cs S k v ty)))) := by
  have hn60 : cs.length ≤ 60 := hK.2.1.2.2.1
  have h13 : S 237 13 = 241 := hK.1
  refine wa_iload (n := 4) rfl ?_
  refine wa_bipush (w_rg2 (by omega) (by omega)) ?_
  refine wa_icmpne (w_rg0 (by omega) (by omega)) (w_rg0 (by omega) (by omega)) ⟨_, rfl⟩ (fun c1 => ?_) (fun c1 => ?_)
  · skip
    refine wa_iload_n (n := 1) rfl ?_
    refine wa_bipush (w_rg2 (by omega) (by omega)) ?_
    refine wa_icmpne (w_rg0 (by omega) (by omega)) (w_rg0 (by omega) (by omega)) ⟨_, rfl⟩ (fun c2 => ?_) (fun c2 => ?_)
    · skip
      refine wa_iconst ?_
      refine wa_fall ⟨_, rfl⟩ ?_
      refine wa_zreturn rfl (Or.inl rfl) ?_
      refine ⟨rfl, congrArg (fun z => Sum.inl (some (0, z))) ?_⟩
      first | exact (suc_2 (by omega) (by omega)).symm | exact (suc_4 (by omega) (by omega)).symm
    · skip
      have q7 := h7 (by omega)
      refine wa_aload_n (n := 0) rfl ?_
      refine wb_gf5 237 rfl (wy_pr rfl) wt_237 wf_15_13 (v := 241) (h13) (fun r3 => ?_)
      refine wa_bipush (w_rg2 (by omega) (by omega)) ?_
      refine wa_aload_n (n := 0) rfl ?_
      refine wb_gf4 237 rfl (wy_pr rfl) wt_237 wf_15_77 (v := 321) wl_237_77 ?_
      refine wa_lload_n (n := 2) rfl ?_
      refine wb_l2i_r (y := v) (wb_l2i_id ⟨by omega, by omega⟩) ?_
      refine wb_iald 321 rfl (wy_pr rfl) wt_321 (n := 8000) ((ml_321 hM)) (by omega) (by omega) (v := (S 321 v)) rfl (fun r4 => ?_)
      refine wa_iadd ?_
      refine wa_iload (n := 4) rfl ?_
      refine wa_cv 241 rfl (wy_pr rfl) wt_241 (M2 := fun _ => False) rfl at_MO_isSub ⟨_, rfl⟩ rfl rfl ⟨(Or.inr ⟨wy_pr rfl, fun q => q⟩), trivial, trivial, trivial, trivial⟩ trivial (fun _ _ q => False.elim q) (rsb_241 (S := S) (a := (9 + (S 321 v))) (o := ty) hM hK hw ⟨by omega, by omega⟩ ⟨by omega, by omega⟩) (fun oq5 Sq5 hp6 q5 => ?_)
      rcases q5 with ⟨rfl, rfl⟩
      show wJ _ _ _ _ _ _ _ _ _ _
      have hbr4 := bI_rg (sbB cs (9 + (S 321 v)) ty)
      refine wa_ifeq (w_rg0 (by omega) (by omega)) ⟨_, rfl⟩ (fun c7 => ?_) (fun c7 => ?_)
      · skip
        refine wa_iconst ?_
        refine wa_fall ⟨_, rfl⟩ ?_
        refine wa_zreturn rfl (Or.inl rfl) ?_
        refine ⟨rfl, congrArg (fun z => Sum.inl (some (0, z))) ?_⟩
        first | exact (suc_2 (by omega) (by omega)).symm | exact (suc_4 (by omega) (by omega)).symm
      · skip
        refine wa_iconst ?_
        refine wa_goto ⟨_, rfl⟩ ?_
        refine wa_zreturn rfl (Or.inr rfl) ?_
        refine ⟨rfl, congrArg (fun z => Sum.inl (some (0, z))) ?_⟩
        first | exact (suc_1 (by omega) (by omega)).symm | exact (suc_3 (by omega) (by omega) (by omega)).symm
  · skip
    refine wa_iload_n (n := 1) rfl ?_
    refine wa_ifeq (w_rg0 (by omega) (by omega)) ⟨_, rfl⟩ (fun c8 => ?_) (fun c8 => ?_)
    · skip
      refine wa_iconst ?_
      refine wa_fall ⟨_, rfl⟩ ?_
      refine wa_zreturn rfl (Or.inl rfl) ?_
      refine ⟨rfl, congrArg (fun z => Sum.inl (some (0, z))) ?_⟩
      first | exact (suc_2 (by omega) (by omega)).symm | exact (suc_4 (by omega) (by omega)).symm
    · skip
      refine wa_iconst ?_
      refine wa_goto ⟨_, rfl⟩ ?_
      refine wa_zreturn rfl (Or.inr rfl) ?_
      refine ⟨rfl, congrArg (fun z => Sum.inl (some (0, z))) ?_⟩
      first | exact (suc_1 (by omega) (by omega)).symm | exact (suc_3 (by omega) (by omega) (by omega)).symm
theorem rsu_261 {k v ty : Int} (hM : w_ML S) (hK : KR 261 T n cs ms S) (hw : wHo cs ms os) (hty : 8 ≤ ty ∧ ty < 9 + (cs.length : Int)) (hk : 0 ≤ k ∧ k ≤ 8) (h7 : k = 7 → 0 ≤ v ∧ v < 8000 ∧ 0 ≤ S 321 v ∧ S 321 v < (cs.length : Int)) (hv : -9223372036854775808 ≤ v ∧ v ≤ 9223372036854775807) : wJ (pe_GA xs) wY0 M (d + 1) t_M_isSuch ((pe_at t_M_isSuch.bl 0).getD (0, [])).2 [(0, (2, 237)), (1, (0, k)), (2, (1, v)), (4, (0, ty))] [] S (fun o Z => S = Z ∧ o = .inl (some (0, bI (suB cs S k v ty)))) := by
  have hn60 : cs.length ≤ 60 := hK.2.1.2.2.1
  have h13 : S 237 13 = 261 := hK.1
  refine wa_iload (n := 4) rfl ?_
  refine wa_bipush (w_rg2 (by omega) (by omega)) ?_
  refine wa_icmpne (w_rg0 (by omega) (by omega)) (w_rg0 (by omega) (by omega)) ⟨_, rfl⟩ (fun c1 => ?_) (fun c1 => ?_)
  · skip
    refine wa_iload_n (n := 1) rfl ?_
    refine wa_bipush (w_rg2 (by omega) (by omega)) ?_
    refine wa_icmpne (w_rg0 (by omega) (by omega)) (w_rg0 (by omega) (by omega)) ⟨_, rfl⟩ (fun c2 => ?_) (fun c2 => ?_)
    · skip
      refine wa_iconst ?_
      refine wa_fall ⟨_, rfl⟩ ?_
      refine wa_zreturn rfl (Or.inl rfl) ?_
      refine ⟨rfl, congrArg (fun z => Sum.inl (some (0, z))) ?_⟩
      first | exact (suc_2 (by omega) (by omega)).symm | exact (suc_4 (by omega) (by omega)).symm
    · skip
      have q7 := h7 (by omega)
      refine wa_aload_n (n := 0) rfl ?_
      refine wb_gf5 237 rfl (wy_pr rfl) wt_237 wf_15_13 (v := 261) (h13) (fun r3 => ?_)
      refine wa_bipush (w_rg2 (by omega) (by omega)) ?_
      refine wa_aload_n (n := 0) rfl ?_
      refine wb_gf4 237 rfl (wy_pr rfl) wt_237 wf_15_77 (v := 321) wl_237_77 ?_
      refine wa_lload_n (n := 2) rfl ?_
      refine wb_l2i_r (y := v) (wb_l2i_id ⟨by omega, by omega⟩) ?_
      refine wb_iald 321 rfl (wy_pr rfl) wt_321 (n := 8000) ((ml_321 hM)) (by omega) (by omega) (v := (S 321 v)) rfl (fun r4 => ?_)
      refine wa_iadd ?_
      refine wa_iload (n := 4) rfl ?_
      refine wa_cv 261 rfl (wy_pr rfl) wt_261 (M2 := fun _ => False) rfl at_MO_isSub ⟨_, rfl⟩ rfl rfl ⟨(Or.inr ⟨wy_pr rfl, fun q => q⟩), trivial, trivial, trivial, trivial⟩ trivial (fun _ _ q => False.elim q) (rsb_261 (S := S) (a := (9 + (S 321 v))) (o := ty) hM hK hw ⟨by omega, by omega⟩ ⟨by omega, by omega⟩) (fun oq5 Sq5 hp6 q5 => ?_)
      rcases q5 with ⟨rfl, rfl⟩
      show wJ _ _ _ _ _ _ _ _ _ _
      have hbr4 := bI_rg (sbB cs (9 + (S 321 v)) ty)
      refine wa_ifeq (w_rg0 (by omega) (by omega)) ⟨_, rfl⟩ (fun c7 => ?_) (fun c7 => ?_)
      · skip
        refine wa_iconst ?_
        refine wa_fall ⟨_, rfl⟩ ?_
        refine wa_zreturn rfl (Or.inl rfl) ?_
        refine ⟨rfl, congrArg (fun z => Sum.inl (some (0, z))) ?_⟩
        first | exact (suc_2 (by omega) (by omega)).symm | exact (suc_4 (by omega) (by omega)).symm
      · skip
        refine wa_iconst ?_
        refine wa_goto ⟨_, rfl⟩ ?_
        refine wa_zreturn rfl (Or.inr rfl) ?_
        refine ⟨rfl, congrArg (fun z => Sum.inl (some (0, z))) ?_⟩
        first | exact (suc_1 (by omega) (by omega)).symm | exact (suc_3 (by omega) (by omega) (by omega)).symm
  · skip
    refine wa_iload_n (n := 1) rfl ?_
    refine wa_ifeq (w_rg0 (by omega) (by omega)) ⟨_, rfl⟩ (fun c8 => ?_) (fun c8 => ?_)
    · skip
      refine wa_iconst ?_
      refine wa_fall ⟨_, rfl⟩ ?_
      refine wa_zreturn rfl (Or.inl rfl) ?_
      refine ⟨rfl, congrArg (fun z => Sum.inl (some (0, z))) ?_⟩
      first | exact (suc_2 (by omega) (by omega)).symm | exact (suc_4 (by omega) (by omega)).symm
    · skip
      refine wa_iconst ?_
      refine wa_goto ⟨_, rfl⟩ ?_
      refine wa_zreturn rfl (Or.inr rfl) ?_
      refine ⟨rfl, congrArg (fun z => Sum.inl (some (0, z))) ?_⟩
      first | exact (suc_1 (by omega) (by omega)).symm | exact (suc_3 (by omega) (by omega) (by omega)).symm
end Whv
