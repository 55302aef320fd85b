/-! PART 75: the reference's sameOnTape, haveSameTypes. -/
section W75
variable {xs : List (Nat × List Int32)} {M : Nat → Prop} {d : Nat} {S : wS} {Q : wO → wS → Prop}
def pt_q (N P : Int → Int) (a b : Int) : Bool := decide (N a = N b ∧ ∀ i : Nat, i < (N a).toNat → P (8 * a + (i : Int)) = P (8 * b + (i : Int)))
theorem sameOnTape_241_l {x y : Int} (hM : w_ML S) (hb : S 237 15 = 241) (hx : 0 ≤ x ∧ x < 400) (hy : 0 ≤ y ∧ y < 400) (hx2 : 0 ≤ S 259 x ∧ S 259 x ≤ S 260 x ∧ S 260 x ≤ 65540) (hy2 : 0 ≤ S 259 y ∧ S 259 y ≤ S 260 y ∧ S 260 y ≤ 65540) : ∀ (f i : Nat) (q : Int), ((S 260 x) - (S 259 x)).toNat - i < f → i ≤ ((S 260 x) - (S 259 x)).toNat → ((q = 1 ∧ S 260 x - S 259 x = S 260 y - S 259 y ∧ ∀ z : Nat, z < i → S 239 (S 259 x + (z : Int)) = S 239 (S 259 y + (z : Int))) ∨ (q = 0 ∧ tp_q (S 239) (S 259 x) (S 260 x) (S 259 y) (S 260 y) = false)) → wJ (pe_GA xs) wY0 M d t_M_sameOnTape ((pe_at t_M_sameOnTape.bl 3).getD (0, [])).2 [(0, (2, 237)), (1, (0, x)), (2, (0, y)), (3, (0, ((S 260 x) - (S 259 x)))), (4, (0, q)), (5, (0, (i : Int)))] [] S (fun o S2 => S = S2 ∧ ((o = .inl (some (0, 1)) ∧ tp_q (S 239) (S 259 x) (S 260 x) (S 259 y) (S 260 y) = true) ∨ (o = .inl (some (0, 0)) ∧ tp_q (S 239) (S 259 x) (S 260 x) (S 259 y) (S 260 y) = false))) := by
  intro f
  induction f with
  | zero => intros; omega
  | succ f ih =>
    intro i q hf hi hq
    have hq01 : q = 0 ∨ q = 1 := by rcases hq with z | z <;> omega
    refine wa_iload (n := 5) rfl ?_
    refine wa_iload_n (n := 3) rfl ?_
    refine wa_icmpge (w_rg0 (by omega) (by omega)) (w_rg0 (by omega) (by omega)) ⟨_, rfl⟩ (fun c1 => ?_) (fun c1 => ?_)
    · skip
      refine wa_iload (n := 4) rfl ?_
      refine wa_zreturn rfl (by omega) ?_
      rcases hq with ⟨q1, q2, q3⟩ | ⟨q1, q2⟩
      · first | (exact absurd q1 (by omega)) | (subst q1; exact ⟨rfl, Or.inl ⟨rfl, decide_eq_true ⟨q2, fun z hz => q3 z (by omega)⟩⟩⟩)
      · subst q1; exact ⟨rfl, Or.inr ⟨rfl, q2⟩⟩
    · skip
      refine wa_iload (n := 4) rfl ?_
      refine wa_ifeq (w_rg0 (by omega) (by omega)) ⟨_, rfl⟩ (fun c2 => ?_) (fun c2 => ?_)
      · skip
        refine wa_iload (n := 4) rfl ?_
        refine wa_zreturn rfl (by omega) ?_
        rcases hq with ⟨q1, q2, q3⟩ | ⟨q1, q2⟩
        · first | (exact absurd q1 (by omega)) | (subst q1; exact ⟨rfl, Or.inl ⟨rfl, decide_eq_true ⟨q2, fun z hz => q3 z (by omega)⟩⟩⟩)
        · subst q1; exact ⟨rfl, Or.inr ⟨rfl, q2⟩⟩
      · skip
        have hq2 : S 260 x - S 259 x = S 260 y - S 259 y := by
          rcases hq with z | z
          · exact z.2.1
          · exact absurd z.1 (by omega)
        refine wa_aload_n (n := 0) rfl ?_
        refine wb_gf4 237 rfl (wy_pr rfl) wt_237 wf_15_2 (v := 239) wl_237_2 ?_
        refine wa_aload_n (n := 0) rfl ?_
        refine wb_gf5 237 rfl (wy_pr rfl) wt_237 wf_15_15 (v := 241) (hb) (fun r3 => ?_)
        refine wb_gf4 241 rfl (wy_pr rfl) wt_241 wf_12_19 (v := 259) wl_241_19 ?_
        refine wa_iload_n (n := 1) rfl ?_
        refine wb_iald 259 rfl (wy_pr rfl) wt_259 (n := 400) ((ml_259 hM)) (by omega) (by omega) (v := (S 259 x)) rfl (fun r4 => ?_)
        refine wa_iload (n := 5) rfl ?_
        refine wa_iadd ?_
        refine wb_bald 239 rfl (wy_pr rfl) wt_239 (n := 65552) ((ml_239 hM)) (by omega) (by omega) (v := (S 239 ((S 259 x) + (i : Int)))) rfl (fun r5 => ?_)
        refine wa_aload_n (n := 0) rfl ?_
        refine wb_gf4 237 rfl (wy_pr rfl) wt_237 wf_15_2 (v := 239) wl_237_2 ?_
        refine wa_aload_n (n := 0) rfl ?_
        refine wb_gf5 237 rfl (wy_pr rfl) wt_237 wf_15_15 (v := 241) (hb) (fun r6 => ?_)
        refine wb_gf4 241 rfl (wy_pr rfl) wt_241 wf_12_19 (v := 259) wl_241_19 ?_
        refine wa_iload_n (n := 2) rfl ?_
        refine wb_iald 259 rfl (wy_pr rfl) wt_259 (n := 400) ((ml_259 hM)) (by omega) (by omega) (v := (S 259 y)) rfl (fun r7 => ?_)
        refine wa_iload (n := 5) rfl ?_
        refine wa_iadd ?_
        refine wb_bald 239 rfl (wy_pr rfl) wt_239 (n := 65552) ((ml_239 hM)) (by omega) (by omega) (v := (S 239 ((S 259 y) + (i : Int)))) rfl (fun r8 => ?_)
        refine wa_icmpne (w_rg0 (by omega) (by omega)) (w_rg0 (by omega) (by omega)) ⟨_, rfl⟩ (fun c9 => ?_) (fun c9 => ?_)
        · skip
          refine wa_iconst ?_
          refine wa_fall ⟨_, rfl⟩ ?_
          refine wa_istore (n := 4) rfl ?_
          refine wa_iinc rfl rfl ?_
          refine wa_goto ⟨_, rfl⟩ ?_
          rcases hq with ⟨q1, q2, q3⟩ | ⟨q1, q2⟩
          · refine wJ_S (ih (i + 1) 0 (by omega) (by omega) (Or.inr ⟨rfl, decide_eq_false (fun h => ?_)⟩)) ⟨rfl, rfl, rfl, rfl, rfl, rfl, trivial⟩
            have := h.2 i (by omega); omega
          · omega
        · skip
          refine wa_iconst ?_
          refine wa_goto ⟨_, rfl⟩ ?_
          refine wa_istore (n := 4) rfl ?_
          refine wa_iinc rfl rfl ?_
          refine wa_goto ⟨_, rfl⟩ ?_
          rcases hq with ⟨q1, q2, q3⟩ | ⟨q1, q2⟩
          · refine wJ_S (ih (i + 1) 1 (by omega) (by omega) (Or.inl ⟨rfl, q2, fun z hz => ?_⟩)) ⟨rfl, rfl, rfl, rfl, rfl, rfl, trivial⟩
            by_cases hqi : z = i
            · subst hqi; omega
            · exact q3 z (by omega)
          · omega
theorem sameOnTape_241 {x y : Int} (hM : w_ML S) (hb : S 237 15 = 241) (hx : 0 ≤ x ∧ x < 400) (hy : 0 ≤ y ∧ y < 400) (hx2 : 0 ≤ S 259 x ∧ S 259 x ≤ S 260 x ∧ S 260 x ≤ 65540) (hy2 : 0 ≤ S 259 y ∧ S 259 y ≤ S 260 y ∧ S 260 y ≤ 65540) : wJ (pe_GA xs) wY0 M d t_M_sameOnTape ((pe_at t_M_sameOnTape.bl 0).getD (0, [])).2 [(0, (2, 237)), (1, (0, x)), (2, (0, y))] [] S (fun o S2 => S = S2 ∧ ((o = .inl (some (0, 1)) ∧ tp_q (S 239) (S 259 x) (S 260 x) (S 259 y) (S 260 y) = true) ∨ (o = .inl (some (0, 0)) ∧ tp_q (S 239) (S 259 x) (S 260 x) (S 259 y) (S 260 y) = false))) := by
  refine wa_aload_n (n := 0) rfl ?_
  refine wb_gf5 237 rfl (wy_pr rfl) wt_237 wf_15_15 (v := 241) (hb) (fun r1 => ?_)
  refine wb_gf4 241 rfl (wy_pr rfl) wt_241 wf_12_20 (v := 260) wl_241_20 ?_
  refine wa_iload_n (n := 1) rfl ?_
  refine wb_iald 260 rfl (wy_pr rfl) wt_260 (n := 400) ((ml_260 hM)) (by omega) (by omega) (v := (S 260 x)) rfl (fun r2 => ?_)
  refine wa_aload_n (n := 0) rfl ?_
  refine wb_gf5 237 rfl (wy_pr rfl) wt_237 wf_15_15 (v := 241) (hb) (fun r3 => ?_)
  refine wb_gf4 241 rfl (wy_pr rfl) wt_241 wf_12_19 (v := 259) wl_241_19 ?_
  refine wa_iload_n (n := 1) rfl ?_
  refine wb_iald 259 rfl (wy_pr rfl) wt_259 (n := 400) ((ml_259 hM)) (by omega) (by omega) (v := (S 259 x)) rfl (fun r4 => ?_)
  refine wa_isub ?_
  refine wa_istore_n (n := 3) rfl ?_
  refine wa_iload_n (n := 3) rfl ?_
  refine wa_aload_n (n := 0) rfl ?_
  refine wb_gf5 237 rfl (wy_pr rfl) wt_237 wf_15_15 (v := 241) (hb) (fun r5 => ?_)
  refine wb_gf4 241 rfl (wy_pr rfl) wt_241 wf_12_20 (v := 260) wl_241_20 ?_
  refine wa_iload_n (n := 2) rfl ?_
  refine wb_iald 260 rfl (wy_pr rfl) wt_260 (n := 400) ((ml_260 hM)) (by omega) (by omega) (v := (S 260 y)) rfl (fun r6 => ?_)
  refine wa_aload_n (n := 0) rfl ?_
  refine wb_gf5 237 rfl (wy_pr rfl) wt_237 wf_15_15 (v := 241) (hb) (fun r7 => ?_)
  refine wb_gf4 241 rfl (wy_pr rfl) wt_241 wf_12_19 (v := 259) wl_241_19 ?_
  refine wa_iload_n (n := 2) rfl ?_
  refine wb_iald 259 rfl (wy_pr rfl) wt_259 (n := 400) ((ml_259 hM)) (by omega) (by omega) (v := (S 259 y)) rfl (fun r8 => ?_)
  refine wa_isub ?_
  refine wa_icmpne (w_rg0 (by omega) (by omega)) (w_rg0 (by omega) (by omega)) ⟨_, rfl⟩ (fun c9 => ?_) (fun c9 => ?_)
  · skip
    refine wa_iconst ?_
    refine wa_fall ⟨_, rfl⟩ ?_
    refine wa_istore (n := 4) rfl ?_
    refine wa_iconst ?_
    refine wa_istore (n := 5) rfl ?_
    refine wa_fall ⟨_, rfl⟩ ?_
    exact wJ_S (sameOnTape_241_l hM hb hx hy hx2 hy2 (((S 260 x) - (S 259 x)).toNat + 1) 0 0 (by omega) (by omega) (Or.inr ⟨rfl, decide_eq_false (fun h => by have := h.1; omega)⟩)) ⟨rfl, rfl, rfl, rfl, rfl, rfl, trivial⟩
  · skip
    refine wa_iconst ?_
    refine wa_goto ⟨_, rfl⟩ ?_
    refine wa_istore (n := 4) rfl ?_
    refine wa_iconst ?_
    refine wa_istore (n := 5) rfl ?_
    refine wa_fall ⟨_, rfl⟩ ?_
    exact wJ_S (sameOnTape_241_l hM hb hx hy hx2 hy2 (((S 260 x) - (S 259 x)).toNat + 1) 0 1 (by omega) (by omega) (Or.inl ⟨rfl, by omega, fun z hz => absurd hz (Nat.not_lt_zero z)⟩)) ⟨rfl, rfl, rfl, rfl, rfl, rfl, trivial⟩
theorem haveSameTypes_241_l {x y : Int} (hM : w_ML S) (hx : 0 ≤ x ∧ x < 400) (hy : 0 ≤ y ∧ y < 400) (hx2 : 0 ≤ S 256 x ∧ S 256 x ≤ 8) (hy2 : 0 ≤ S 256 y ∧ S 256 y ≤ 8) : ∀ (f i : Nat) (q : Int), (S 256 x).toNat - i < f → i ≤ (S 256 x).toNat → ((q = 1 ∧ S 256 x = S 256 y ∧ ∀ z : Nat, z < i → S 258 (8 * x + (z : Int)) = S 258 (8 * y + (z : Int))) ∨ (q = 0 ∧ pt_q (S 256) (S 258) x y = false)) → wJ (pe_GA xs) wY0 M d t_MO_haveSameTypes ((pe_at t_MO_haveSameTypes.bl 3).getD (0, [])).2 [(0, (2, 241)), (1, (0, x)), (2, (0, y)), (3, (0, q)), (4, (0, (i : Int)))] [] S (fun o S2 => S = S2 ∧ ((o = .inl (some (0, 1)) ∧ pt_q (S 256) (S 258) x y = true) ∨ (o = .inl (some (0, 0)) ∧ pt_q (S 256) (S 258) x y = false))) := by
  intro f
  induction f with
  | zero => intros; omega
  | succ f ih =>
    intro i q hf hi hq
    have hq01 : q = 0 ∨ q = 1 := by rcases hq with z | z <;> omega
    refine wa_iload (n := 4) rfl ?_
    refine wa_aload_n (n := 0) rfl ?_
    refine wb_gf4 241 rfl (wy_pr rfl) wt_241 wf_12_16 (v := 256) wl_241_16 ?_
    refine wa_iload_n (n := 1) rfl ?_
    refine wb_iald 256 rfl (wy_pr rfl) wt_256 (n := 400) ((ml_256 hM)) (by omega) (by omega) (v := (S 256 x)) rfl (fun r1 => ?_)
    refine wa_icmpge (w_rg0 (by omega) (by omega)) (w_rg0 (by omega) (by omega)) ⟨_, rfl⟩ (fun c2 => ?_) (fun c2 => ?_)
    · skip
      refine wa_iload_n (n := 3) rfl ?_
      refine wa_zreturn rfl (by omega) ?_
      rcases hq with ⟨q1, q2, q3⟩ | ⟨q1, q2⟩
      · first | (exact absurd q1 (by omega)) | (subst q1; exact ⟨rfl, Or.inl ⟨rfl, decide_eq_true ⟨q2, fun z hz => q3 z (by omega)⟩⟩⟩)
      · subst q1; exact ⟨rfl, Or.inr ⟨rfl, q2⟩⟩
    · skip
      refine wa_iload_n (n := 3) rfl ?_
      refine wa_ifeq (w_rg0 (by omega) (by omega)) ⟨_, rfl⟩ (fun c3 => ?_) (fun c3 => ?_)
      · skip
        refine wa_iload_n (n := 3) rfl ?_
        refine wa_zreturn rfl (by omega) ?_
        rcases hq with ⟨q1, q2, q3⟩ | ⟨q1, q2⟩
        · first | (exact absurd q1 (by omega)) | (subst q1; exact ⟨rfl, Or.inl ⟨rfl, decide_eq_true ⟨q2, fun z hz => q3 z (by omega)⟩⟩⟩)
        · subst q1; exact ⟨rfl, Or.inr ⟨rfl, q2⟩⟩
      · skip
        have hq2 : S 256 x = S 256 y := by
          rcases hq with z | z
          · exact z.2.1
          · exact absurd z.1 (by omega)
        refine wa_aload_n (n := 0) rfl ?_
        refine wb_gf4 241 rfl (wy_pr rfl) wt_241 wf_12_18 (v := 258) wl_241_18 ?_
        refine wa_bipush (w_rg2 (by omega) (by omega)) ?_
        refine wa_iload_n (n := 1) rfl ?_
        refine wa_imul ?_
        refine wa_iload (n := 4) rfl ?_
        refine wa_iadd ?_
        refine wb_iald 258 rfl (wy_pr rfl) wt_258 (n := 3200) ((ml_258 hM)) (by omega) (by omega) (v := (S 258 ((8 * x) + (i : Int)))) rfl (fun r4 => ?_)
        refine wa_aload_n (n := 0) rfl ?_
        refine wb_gf4 241 rfl (wy_pr rfl) wt_241 wf_12_18 (v := 258) wl_241_18 ?_
        refine wa_bipush (w_rg2 (by omega) (by omega)) ?_
        refine wa_iload_n (n := 2) rfl ?_
        refine wa_imul ?_
        refine wa_iload (n := 4) rfl ?_
        refine wa_iadd ?_
        refine wb_iald 258 rfl (wy_pr rfl) wt_258 (n := 3200) ((ml_258 hM)) (by omega) (by omega) (v := (S 258 ((8 * y) + (i : Int)))) rfl (fun r5 => ?_)
        refine wa_icmpne (w_rg0 (by omega) (by omega)) (w_rg0 (by omega) (by omega)) ⟨_, rfl⟩ (fun c6 => ?_) (fun c6 => ?_)
        · skip
          refine wa_iconst ?_
          refine wa_fall ⟨_, rfl⟩ ?_
          refine wa_istore_n (n := 3) rfl ?_
          refine wa_iinc rfl rfl ?_
          refine wa_goto ⟨_, rfl⟩ ?_
          rcases hq with ⟨q1, q2, q3⟩ | ⟨q1, q2⟩
          · refine wJ_S (ih (i + 1) 0 (by omega) (by omega) (Or.inr ⟨rfl, decide_eq_false (fun h => ?_)⟩)) ⟨rfl, rfl, rfl, rfl, rfl, trivial⟩
            have := h.2 i (by omega); omega
          · omega
        · skip
          refine wa_iconst ?_
          refine wa_goto ⟨_, rfl⟩ ?_
          refine wa_istore_n (n := 3) rfl ?_
          refine wa_iinc rfl rfl ?_
          refine wa_goto ⟨_, rfl⟩ ?_
          rcases hq with ⟨q1, q2, q3⟩ | ⟨q1, q2⟩
          · refine wJ_S (ih (i + 1) 1 (by omega) (by omega) (Or.inl ⟨rfl, q2, fun z hz => ?_⟩)) ⟨rfl, rfl, rfl, rfl, rfl, trivial⟩
            by_cases hqi : z = i
            · subst hqi; omega
            · exact q3 z (by omega)
          · omega
theorem haveSameTypes_241 {x y : Int} (hM : w_ML S) (hx : 0 ≤ x ∧ x < 400) (hy : 0 ≤ y ∧ y < 400) (hx2 : 0 ≤ S 256 x ∧ S 256 x ≤ 8) (hy2 : 0 ≤ S 256 y ∧ S 256 y ≤ 8) : wJ (pe_GA xs) wY0 M d t_MO_haveSameTypes ((pe_at t_MO_haveSameTypes.bl 0).getD (0, [])).2 [(0, (2, 241)), (1, (0, x)), (2, (0, y))] [] S (fun o S2 => S = S2 ∧ ((o = .inl (some (0, 1)) ∧ pt_q (S 256) (S 258) x y = true) ∨ (o = .inl (some (0, 0)) ∧ pt_q (S 256) (S 258) x y = false))) := by
  refine wa_aload_n (n := 0) rfl ?_
  refine wb_gf4 241 rfl (wy_pr rfl) wt_241 wf_12_16 (v := 256) wl_241_16 ?_
  refine wa_iload_n (n := 1) rfl ?_
  refine wb_iald 256 rfl (wy_pr rfl) wt_256 (n := 400) ((ml_256 hM)) (by omega) (by omega) (v := (S 256 x)) rfl (fun r1 => ?_)
  refine wa_aload_n (n := 0) rfl ?_
  refine wb_gf4 241 rfl (wy_pr rfl) wt_241 wf_12_16 (v := 256) wl_241_16 ?_
  refine wa_iload_n (n := 2) rfl ?_
  refine wb_iald 256 rfl (wy_pr rfl) wt_256 (n := 400) ((ml_256 hM)) (by omega) (by omega) (v := (S 256 y)) rfl (fun r2 => ?_)
  refine wa_icmpne (w_rg0 (by omega) (by omega)) (w_rg0 (by omega) (by omega)) ⟨_, rfl⟩ (fun c3 => ?_) (fun c3 => ?_)
  · skip
    refine wa_iconst ?_
    refine wa_fall ⟨_, rfl⟩ ?_
    refine wa_istore_n (n := 3) rfl ?_
    refine wa_iconst ?_
    refine wa_istore (n := 4) rfl ?_
    refine wa_fall ⟨_, rfl⟩ ?_
    exact wJ_S (haveSameTypes_241_l hM hx hy hx2 hy2 ((S 256 x).toNat + 1) 0 0 (by omega) (by omega) (Or.inr ⟨rfl, decide_eq_false (fun h => by have := h.1; omega)⟩)) ⟨rfl, rfl, rfl, rfl, rfl, trivial⟩
  · skip
    refine wa_iconst ?_
    refine wa_goto ⟨_, rfl⟩ ?_
    refine wa_istore_n (n := 3) rfl ?_
    refine wa_iconst ?_
    refine wa_istore (n := 4) rfl ?_
    refine wa_fall ⟨_, rfl⟩ ?_
    exact wJ_S (haveSameTypes_241_l hM hx hy hx2 hy2 ((S 256 x).toNat + 1) 0 1 (by omega) (by omega) (Or.inl ⟨rfl, by omega, fun z hz => absurd hz (Nat.not_lt_zero z)⟩)) ⟨rfl, rfl, rfl, rfl, rfl, trivial⟩
theorem sameOnTape_261_l {x y : Int} (hM : w_ML S) (hb : S 237 15 = 261) (hx : 0 ≤ x ∧ x < 400) (hy : 0 ≤ y ∧ y < 400) (hx2 : 0 ≤ S 279 x ∧ S 279 x ≤ S 280 x ∧ S 280 x ≤ 65540) (hy2 : 0 ≤ S 279 y ∧ S 279 y ≤ S 280 y ∧ S 280 y ≤ 65540) : ∀ (f i : Nat) (q : Int), ((S 280 x) - (S 279 x)).toNat - i < f → i ≤ ((S 280 x) - (S 279 x)).toNat → ((q = 1 ∧ S 280 x - S 279 x = S 280 y - S 279 y ∧ ∀ z : Nat, z < i → S 239 (S 279 x + (z : Int)) = S 239 (S 279 y + (z : Int))) ∨ (q = 0 ∧ tp_q (S 239) (S 279 x) (S 280 x) (S 279 y) (S 280 y) = false)) → wJ (pe_GA xs) wY0 M d t_M_sameOnTape ((pe_at t_M_sameOnTape.bl 3).getD (0, [])).2 [(0, (2, 237)), (1, (0, x)), (2, (0, y)), (3, (0, ((S 280 x) - (S 279 x)))), (4, (0, q)), (5, (0, (i : Int)))] [] S (fun o S2 => S = S2 ∧ ((o = .inl (some (0, 1)) ∧ tp_q (S 239) (S 279 x) (S 280 x) (S 279 y) (S 280 y) = true) ∨ (o = .inl (some (0, 0)) ∧ tp_q (S 239) (S 279 x) (S 280 x) (S 279 y) (S 280 y) = false))) := by
  intro f
  induction f with
  | zero => intros; omega
  | succ f ih =>
    intro i q hf hi hq
    have hq01 : q = 0 ∨ q = 1 := by rcases hq with z | z <;> omega
    refine wa_iload (n := 5) rfl ?_
    refine wa_iload_n (n := 3) rfl ?_
    refine wa_icmpge (w_rg0 (by omega) (by omega)) (w_rg0 (by omega) (by omega)) ⟨_, rfl⟩ (fun c1 => ?_) (fun c1 => ?_)
    · skip
      refine wa_iload (n := 4) rfl ?_
      refine wa_zreturn rfl (by omega) ?_
      rcases hq with ⟨q1, q2, q3⟩ | ⟨q1, q2⟩
      · first | (exact absurd q1 (by omega)) | (subst q1; exact ⟨rfl, Or.inl ⟨rfl, decide_eq_true ⟨q2, fun z hz => q3 z (by omega)⟩⟩⟩)
      · subst q1; exact ⟨rfl, Or.inr ⟨rfl, q2⟩⟩
    · skip
      refine wa_iload (n := 4) rfl ?_
      refine wa_ifeq (w_rg0 (by omega) (by omega)) ⟨_, rfl⟩ (fun c2 => ?_) (fun c2 => ?_)
      · skip
        refine wa_iload (n := 4) rfl ?_
        refine wa_zreturn rfl (by omega) ?_
        rcases hq with ⟨q1, q2, q3⟩ | ⟨q1, q2⟩
        · first | (exact absurd q1 (by omega)) | (subst q1; exact ⟨rfl, Or.inl ⟨rfl, decide_eq_true ⟨q2, fun z hz => q3 z (by omega)⟩⟩⟩)
        · subst q1; exact ⟨rfl, Or.inr ⟨rfl, q2⟩⟩
      · skip
        have hq2 : S 280 x - S 279 x = S 280 y - S 279 y := by
          rcases hq with z | z
          · exact z.2.1
          · exact absurd z.1 (by omega)
        refine wa_aload_n (n := 0) rfl ?_
        refine wb_gf4 237 rfl (wy_pr rfl) wt_237 wf_15_2 (v := 239) wl_237_2 ?_
        refine wa_aload_n (n := 0) rfl ?_
        refine wb_gf5 237 rfl (wy_pr rfl) wt_237 wf_15_15 (v := 261) (hb) (fun r3 => ?_)
        refine wb_gf4 261 rfl (wy_pr rfl) wt_261 wf_12_19 (v := 279) wl_261_19 ?_
        refine wa_iload_n (n := 1) rfl ?_
        refine wb_iald 279 rfl (wy_pr rfl) wt_279 (n := 400) ((ml_279 hM)) (by omega) (by omega) (v := (S 279 x)) rfl (fun r4 => ?_)
        refine wa_iload (n := 5) rfl ?_
        refine wa_iadd ?_
        refine wb_bald 239 rfl (wy_pr rfl) wt_239 (n := 65552) ((ml_239 hM)) (by omega) (by omega) (v := (S 239 ((S 279 x) + (i : Int)))) rfl (fun r5 => ?_)
        refine wa_aload_n (n := 0) rfl ?_
        refine wb_gf4 237 rfl (wy_pr rfl) wt_237 wf_15_2 (v := 239) wl_237_2 ?_
        refine wa_aload_n (n := 0) rfl ?_
        refine wb_gf5 237 rfl (wy_pr rfl) wt_237 wf_15_15 (v := 261) (hb) (fun r6 => ?_)
        refine wb_gf4 261 rfl (wy_pr rfl) wt_261 wf_12_19 (v := 279) wl_261_19 ?_
        refine wa_iload_n (n := 2) rfl ?_
        refine wb_iald 279 rfl (wy_pr rfl) wt_279 (n := 400) ((ml_279 hM)) (by omega) (by omega) (v := (S 279 y)) rfl (fun r7 => ?_)
        refine wa_iload (n := 5) rfl ?_
        refine wa_iadd ?_
        refine wb_bald 239 rfl (wy_pr rfl) wt_239 (n := 65552) ((ml_239 hM)) (by omega) (by omega) (v := (S 239 ((S 279 y) + (i : Int)))) rfl (fun r8 => ?_)
        refine wa_icmpne (w_rg0 (by omega) (by omega)) (w_rg0 (by omega) (by omega)) ⟨_, rfl⟩ (fun c9 => ?_) (fun c9 => ?_)
        · skip
          refine wa_iconst ?_
          refine wa_fall ⟨_, rfl⟩ ?_
          refine wa_istore (n := 4) rfl ?_
          refine wa_iinc rfl rfl ?_
          refine wa_goto ⟨_, rfl⟩ ?_
          rcases hq with ⟨q1, q2, q3⟩ | ⟨q1, q2⟩
          · refine wJ_S (ih (i + 1) 0 (by omega) (by omega) (Or.inr ⟨rfl, decide_eq_false (fun h => ?_)⟩)) ⟨rfl, rfl, rfl, rfl, rfl, rfl, trivial⟩
            have := h.2 i (by omega); omega
          · omega
        · skip
          refine wa_iconst ?_
          refine wa_goto ⟨_, rfl⟩ ?_
          refine wa_istore (n := 4) rfl ?_
          refine wa_iinc rfl rfl ?_
          refine wa_goto ⟨_, rfl⟩ ?_
          rcases hq with ⟨q1, q2, q3⟩ | ⟨q1, q2⟩
          · refine wJ_S (ih (i + 1) 1 (by omega) (by omega) (Or.inl ⟨rfl, q2, fun z hz => ?_⟩)) ⟨rfl, rfl, rfl, rfl, rfl, rfl, trivial⟩
            by_cases hqi : z = i
            · subst hqi; omega
            · exact q3 z (by omega)
          · omega
theorem sameOnTape_261 {x y : Int} (hM : w_ML S) (hb : S 237 15 = 261) (hx : 0 ≤ x ∧ x < 400) (hy : 0 ≤ y ∧ y < 400) (hx2 : 0 ≤ S 279 x ∧ S 279 x ≤ S 280 x ∧ S 280 x ≤ 65540) (hy2 : 0 ≤ S 279 y ∧ S 279 y ≤ S 280 y ∧ S 280 y ≤ 65540) : wJ (pe_GA xs) wY0 M d t_M_sameOnTape ((pe_at t_M_sameOnTape.bl 0).getD (0, [])).2 [(0, (2, 237)), (1, (0, x)), (2, (0, y))] [] S (fun o S2 => S = S2 ∧ ((o = .inl (some (0, 1)) ∧ tp_q (S 239) (S 279 x) (S 280 x) (S 279 y) (S 280 y) = true) ∨ (o = .inl (some (0, 0)) ∧ tp_q (S 239) (S 279 x) (S 280 x) (S 279 y) (S 280 y) = false))) := by
  refine wa_aload_n (n := 0) rfl ?_
  refine wb_gf5 237 rfl (wy_pr rfl) wt_237 wf_15_15 (v := 261) (hb) (fun r1 => ?_)
  refine wb_gf4 261 rfl (wy_pr rfl) wt_261 wf_12_20 (v := 280) wl_261_20 ?_
  refine wa_iload_n (n := 1) rfl ?_
  refine wb_iald 280 rfl (wy_pr rfl) wt_280 (n := 400) ((ml_280 hM)) (by omega) (by omega) (v := (S 280 x)) rfl (fun r2 => ?_)
  refine wa_aload_n (n := 0) rfl ?_
  refine wb_gf5 237 rfl (wy_pr rfl) wt_237 wf_15_15 (v := 261) (hb) (fun r3 => ?_)
  refine wb_gf4 261 rfl (wy_pr rfl) wt_261 wf_12_19 (v := 279) wl_261_19 ?_
  refine wa_iload_n (n := 1) rfl ?_
  refine wb_iald 279 rfl (wy_pr rfl) wt_279 (n := 400) ((ml_279 hM)) (by omega) (by omega) (v := (S 279 x)) rfl (fun r4 => ?_)
  refine wa_isub ?_
  refine wa_istore_n (n := 3) rfl ?_
  refine wa_iload_n (n := 3) rfl ?_
  refine wa_aload_n (n := 0) rfl ?_
  refine wb_gf5 237 rfl (wy_pr rfl) wt_237 wf_15_15 (v := 261) (hb) (fun r5 => ?_)
  refine wb_gf4 261 rfl (wy_pr rfl) wt_261 wf_12_20 (v := 280) wl_261_20 ?_
  refine wa_iload_n (n := 2) rfl ?_
  refine wb_iald 280 rfl (wy_pr rfl) wt_280 (n := 400) ((ml_280 hM)) (by omega) (by omega) (v := (S 280 y)) rfl (fun r6 => ?_)
  refine wa_aload_n (n := 0) rfl ?_
  refine wb_gf5 237 rfl (wy_pr rfl) wt_237 wf_15_15 (v := 261) (hb) (fun r7 => ?_)
  refine wb_gf4 261 rfl (wy_pr rfl) wt_261 wf_12_19 (v := 279) wl_261_19 ?_
  refine wa_iload_n (n := 2) rfl ?_
  refine wb_iald 279 rfl (wy_pr rfl) wt_279 (n := 400) ((ml_279 hM)) (by omega) (by omega) (v := (S 279 y)) rfl (fun r8 => ?_)
  refine wa_isub ?_
  refine wa_icmpne (w_rg0 (by omega) (by omega)) (w_rg0 (by omega) (by omega)) ⟨_, rfl⟩ (fun c9 => ?_) (fun c9 => ?_)
  · skip
    refine wa_iconst ?_
    refine wa_fall ⟨_, rfl⟩ ?_
    refine wa_istore (n := 4) rfl ?_
    refine wa_iconst ?_
    refine wa_istore (n := 5) rfl ?_
    refine wa_fall ⟨_, rfl⟩ ?_
    exact wJ_S (sameOnTape_261_l hM hb hx hy hx2 hy2 (((S 280 x) - (S 279 x)).toNat + 1) 0 0 (by omega) (by omega) (Or.inr ⟨rfl, decide_eq_false (fun h => by have := h.1; omega)⟩)) ⟨rfl, rfl, rfl, rfl, rfl, rfl, trivial⟩
  · skip
    refine wa_iconst ?_
    refine wa_goto ⟨_, rfl⟩ ?_
    refine wa_istore (n := 4) rfl ?_
    refine wa_iconst ?_
    refine wa_istore (n := 5) rfl ?_
    refine wa_fall ⟨_, rfl⟩ ?_
    exact wJ_S (sameOnTape_261_l hM hb hx hy hx2 hy2 (((S 280 x) - (S 279 x)).toNat + 1) 0 1 (by omega) (by omega) (Or.inl ⟨rfl, by omega, fun z hz => absurd hz (Nat.not_lt_zero z)⟩)) ⟨rfl, rfl, rfl, rfl, rfl, rfl, trivial⟩
theorem haveSameTypes_261_l {x y : Int} (hM : w_ML S) (hx : 0 ≤ x ∧ x < 400) (hy : 0 ≤ y ∧ y < 400) (hx2 : 0 ≤ S 276 x ∧ S 276 x ≤ 8) (hy2 : 0 ≤ S 276 y ∧ S 276 y ≤ 8) : ∀ (f i : Nat) (q : Int), (S 276 x).toNat - i < f → i ≤ (S 276 x).toNat → ((q = 1 ∧ S 276 x = S 276 y ∧ ∀ z : Nat, z < i → S 278 (8 * x + (z : Int)) = S 278 (8 * y + (z : Int))) ∨ (q = 0 ∧ pt_q (S 276) (S 278) x y = false)) → wJ (pe_GA xs) wY0 M d t_MO_haveSameTypes ((pe_at t_MO_haveSameTypes.bl 3).getD (0, [])).2 [(0, (2, 261)), (1, (0, x)), (2, (0, y)), (3, (0, q)), (4, (0, (i : Int)))] [] S (fun o S2 => S = S2 ∧ ((o = .inl (some (0, 1)) ∧ pt_q (S 276) (S 278) x y = true) ∨ (o = .inl (some (0, 0)) ∧ pt_q (S 276) (S 278) x y = false))) := by
  intro f
  induction f with
  | zero => intros; omega
  | succ f ih =>
    intro i q hf hi hq
    have hq01 : q = 0 ∨ q = 1 := by rcases hq with z | z <;> omega
    refine wa_iload (n := 4) rfl ?_
    refine wa_aload_n (n := 0) rfl ?_
    refine wb_gf4 261 rfl (wy_pr rfl) wt_261 wf_12_16 (v := 276) wl_261_16 ?_
    refine wa_iload_n (n := 1) rfl ?_
    refine wb_iald 276 rfl (wy_pr rfl) wt_276 (n := 400) ((ml_276 hM)) (by omega) (by omega) (v := (S 276 x)) rfl (fun r1 => ?_)
    refine wa_icmpge (w_rg0 (by omega) (by omega)) (w_rg0 (by omega) (by omega)) ⟨_, rfl⟩ (fun c2 => ?_) (fun c2 => ?_)
    · skip
      refine wa_iload_n (n := 3) rfl ?_
      refine wa_zreturn rfl (by omega) ?_
      rcases hq with ⟨q1, q2, q3⟩ | ⟨q1, q2⟩
      · first | (exact absurd q1 (by omega)) | (subst q1; exact ⟨rfl, Or.inl ⟨rfl, decide_eq_true ⟨q2, fun z hz => q3 z (by omega)⟩⟩⟩)
      · subst q1; exact ⟨rfl, Or.inr ⟨rfl, q2⟩⟩
    · skip
      refine wa_iload_n (n := 3) rfl ?_
      refine wa_ifeq (w_rg0 (by omega) (by omega)) ⟨_, rfl⟩ (fun c3 => ?_) (fun c3 => ?_)
      · skip
        refine wa_iload_n (n := 3) rfl ?_
        refine wa_zreturn rfl (by omega) ?_
        rcases hq with ⟨q1, q2, q3⟩ | ⟨q1, q2⟩
        · first | (exact absurd q1 (by omega)) | (subst q1; exact ⟨rfl, Or.inl ⟨rfl, decide_eq_true ⟨q2, fun z hz => q3 z (by omega)⟩⟩⟩)
        · subst q1; exact ⟨rfl, Or.inr ⟨rfl, q2⟩⟩
      · skip
        have hq2 : S 276 x = S 276 y := by
          rcases hq with z | z
          · exact z.2.1
          · exact absurd z.1 (by omega)
        refine wa_aload_n (n := 0) rfl ?_
        refine wb_gf4 261 rfl (wy_pr rfl) wt_261 wf_12_18 (v := 278) wl_261_18 ?_
        refine wa_bipush (w_rg2 (by omega) (by omega)) ?_
        refine wa_iload_n (n := 1) rfl ?_
        refine wa_imul ?_
        refine wa_iload (n := 4) rfl ?_
        refine wa_iadd ?_
        refine wb_iald 278 rfl (wy_pr rfl) wt_278 (n := 3200) ((ml_278 hM)) (by omega) (by omega) (v := (S 278 ((8 * x) + (i : Int)))) rfl (fun r4 => ?_)
        refine wa_aload_n (n := 0) rfl ?_
        refine wb_gf4 261 rfl (wy_pr rfl) wt_261 wf_12_18 (v := 278) wl_261_18 ?_
        refine wa_bipush (w_rg2 (by omega) (by omega)) ?_
        refine wa_iload_n (n := 2) rfl ?_
        refine wa_imul ?_
        refine wa_iload (n := 4) rfl ?_
        refine wa_iadd ?_
        refine wb_iald 278 rfl (wy_pr rfl) wt_278 (n := 3200) ((ml_278 hM)) (by omega) (by omega) (v := (S 278 ((8 * y) + (i : Int)))) rfl (fun r5 => ?_)
        refine wa_icmpne (w_rg0 (by omega) (by omega)) (w_rg0 (by omega) (by omega)) ⟨_, rfl⟩ (fun c6 => ?_) (fun c6 => ?_)
        · skip
          refine wa_iconst ?_
          refine wa_fall ⟨_, rfl⟩ ?_
          refine wa_istore_n (n := 3) rfl ?_
          refine wa_iinc rfl rfl ?_
          refine wa_goto ⟨_, rfl⟩ ?_
          rcases hq with ⟨q1, q2, q3⟩ | ⟨q1, q2⟩
          · refine wJ_S (ih (i + 1) 0 (by omega) (by omega) (Or.inr ⟨rfl, decide_eq_false (fun h => ?_)⟩)) ⟨rfl, rfl, rfl, rfl, rfl, trivial⟩
            have := h.2 i (by omega); omega
          · omega
        · skip
          refine wa_iconst ?_
          refine wa_goto ⟨_, rfl⟩ ?_
          refine wa_istore_n (n := 3) rfl ?_
          refine wa_iinc rfl rfl ?_
          refine wa_goto ⟨_, rfl⟩ ?_
          rcases hq with ⟨q1, q2, q3⟩ | ⟨q1, q2⟩
          · refine wJ_S (ih (i + 1) 1 (by omega) (by omega) (Or.inl ⟨rfl, q2, fun z hz => ?_⟩)) ⟨rfl, rfl, rfl, rfl, rfl, trivial⟩
            by_cases hqi : z = i
            · subst hqi; omega
            · exact q3 z (by omega)
          · omega
theorem haveSameTypes_261 {x y : Int} (hM : w_ML S) (hx : 0 ≤ x ∧ x < 400) (hy : 0 ≤ y ∧ y < 400) (hx2 : 0 ≤ S 276 x ∧ S 276 x ≤ 8) (hy2 : 0 ≤ S 276 y ∧ S 276 y ≤ 8) : wJ (pe_GA xs) wY0 M d t_MO_haveSameTypes ((pe_at t_MO_haveSameTypes.bl 0).getD (0, [])).2 [(0, (2, 261)), (1, (0, x)), (2, (0, y))] [] S (fun o S2 => S = S2 ∧ ((o = .inl (some (0, 1)) ∧ pt_q (S 276) (S 278) x y = true) ∨ (o = .inl (some (0, 0)) ∧ pt_q (S 276) (S 278) x y = false))) := by
  refine wa_aload_n (n := 0) rfl ?_
  refine wb_gf4 261 rfl (wy_pr rfl) wt_261 wf_12_16 (v := 276) wl_261_16 ?_
  refine wa_iload_n (n := 1) rfl ?_
  refine wb_iald 276 rfl (wy_pr rfl) wt_276 (n := 400) ((ml_276 hM)) (by omega) (by omega) (v := (S 276 x)) rfl (fun r1 => ?_)
  refine wa_aload_n (n := 0) rfl ?_
  refine wb_gf4 261 rfl (wy_pr rfl) wt_261 wf_12_16 (v := 276) wl_261_16 ?_
  refine wa_iload_n (n := 2) rfl ?_
  refine wb_iald 276 rfl (wy_pr rfl) wt_276 (n := 400) ((ml_276 hM)) (by omega) (by omega) (v := (S 276 y)) rfl (fun r2 => ?_)
  refine wa_icmpne (w_rg0 (by omega) (by omega)) (w_rg0 (by omega) (by omega)) ⟨_, rfl⟩ (fun c3 => ?_) (fun c3 => ?_)
  · skip
    refine wa_iconst ?_
    refine wa_fall ⟨_, rfl⟩ ?_
    refine wa_istore_n (n := 3) rfl ?_
    refine wa_iconst ?_
    refine wa_istore (n := 4) rfl ?_
    refine wa_fall ⟨_, rfl⟩ ?_
    exact wJ_S (haveSameTypes_261_l hM hx hy hx2 hy2 ((S 276 x).toNat + 1) 0 0 (by omega) (by omega) (Or.inr ⟨rfl, decide_eq_false (fun h => by have := h.1; omega)⟩)) ⟨rfl, rfl, rfl, rfl, rfl, trivial⟩
  · skip
    refine wa_iconst ?_
    refine wa_goto ⟨_, rfl⟩ ?_
    refine wa_istore_n (n := 3) rfl ?_
    refine wa_iconst ?_
    refine wa_istore (n := 4) rfl ?_
    refine wa_fall ⟨_, rfl⟩ ?_
    exact wJ_S (haveSameTypes_261_l hM hx hy hx2 hy2 ((S 276 x).toNat + 1) 0 1 (by omega) (by omega) (Or.inl ⟨rfl, by omega, fun z hz => absurd hz (Nat.not_lt_zero z)⟩)) ⟨rfl, rfl, rfl, rfl, rfl, trivial⟩
end W75
