/-! PART ig: told, result, sign: of the class. -/
section Wig
variable {xs : List (Nat × List Int32)} {M : Nat → Prop} {d : Nat} {S Z : wS} {K0 K1 : aK} {v : aV} {k b wh t i : Int}
/-- what is told of a value -/
def tdV (v : aV) (wh : Int) : Int := if wh = 0 then v.1 else if v.1 = 3 then (v.2.2.length : Int) else v.2.1
/-- an exception of the kind ci was thrown -/
def nxO (S : wS) (ci : Nat) (o : wO) (Z : wS) : Prop := ∃ v : Nat, o = .inr v ∧ (∀ (j : Nat) (x : Int), j < 4000000 → j ≠ wG → Z j x = S j x) ∧ gI Z ∧ (Z wG 0 = S wG 0 + 6 ∧ Z wG 1 = S wG 1 + 1) ∧ wY0.ty v = 100 + ci ∧ w_pr wY0 Z v
def tkq (K0 K1 : aK) (t : Int) : aK := if t = 0 then K0 else K1
/-- whether a task has ended with a value -/
def tkE (K : aK) : Prop := K.2.2.2.1 = 2 ∨ K.2.2.2.1 = 3
/-- a sign of a task's result -/
def sgW (K : aK) (i : Int) : Int := if (K.2.2.2.1 = 2 ∨ K.2.2.2.1 = 3) ∧ K.2.2.2.2.1 = 3 ∧ 0 ≤ i ∧ i < (K.2.2.2.2.2.2.length : Int) then K.2.2.2.2.2.2.getD i.toNat 0 else -1
theorem tdn (h3 : v.1 ≠ 3) (hk : k = v.1) (hb : b = v.2.1) (hwh : -2147483648 ≤ wh ∧ wh ≤ 2147483647) (hk : -2147483648 ≤ k ∧ k ≤ 2147483647) : wJ (pe_GA xs) wY0 M (d + 1) t_X_told ((pe_at t_X_told.bl 0).getD (0, [])).2 [(0, (0, k)), (1, (1, b)), (3, (0, wh))] [] S (fun o Z => S = Z ∧ o = .inl (some (1, tdV v wh))) := by
  refine wa_iload_n (n := 3) rfl ?_
  refine wa_ifne (w_rg0 (by omega) (by omega)) ⟨_, rfl⟩ (fun c1 => ?_) (fun c1 => ?_)
  · skip
    refine wa_iload_n (n := 0) rfl ?_
    refine wa_iconst ?_
    refine wa_icmpne (w_rg0 (by omega) (by omega)) (w_rg0 (by omega) (by omega)) ⟨_, rfl⟩ (fun c2 => ?_) (fun c2 => ?_)
    · skip
      refine wa_lload_n (n := 1) rfl ?_
      refine wa_fall ⟨_, rfl⟩ ?_
      refine wa_lreturn rfl ?_
      refine ⟨rfl, congrArg (fun z => Sum.inl (some (1, z))) ?_⟩
      unfold tdV
      repeat (first | rw [if_pos (by omega)] | rw [if_neg (by omega)])
      all_goals first | rfl | omega
    · skip
      exfalso; omega
  · skip
    refine wa_iload_n (n := 0) rfl ?_
    refine wa_i2l (w_rg0 (by omega) (by omega)) ?_
    refine wa_lreturn rfl ?_
    refine ⟨rfl, congrArg (fun z => Sum.inl (some (1, z))) ?_⟩
    unfold tdV
    repeat (first | rw [if_pos (by omega)] | rw [if_neg (by omega)])
    all_goals first | rfl | omega
theorem tdt (h3 : v.1 = 3) {s : Int} (hb : b = s * 4294967296 + (v.2.2.length : Int)) (hs : 0 ≤ s ∧ s + (v.2.2.length : Int) ≤ 10000000) (hwh : -2147483648 ≤ wh ∧ wh ≤ 2147483647)  : wJ (pe_GA xs) wY0 M (d + 1) t_X_told ((pe_at t_X_told.bl 0).getD (0, [])).2 [(0, (0, 3)), (1, (1, b)), (3, (0, wh))] [] S (fun o Z => S = Z ∧ o = .inl (some (1, tdV v wh))) := by
  refine wa_iload_n (n := 3) rfl ?_
  refine wa_ifne (w_rg0 (by omega) (by omega)) ⟨_, rfl⟩ (fun c1 => ?_) (fun c1 => ?_)
  · skip
    refine wa_iload_n (n := 0) rfl ?_
    refine wa_iconst ?_
    refine wa_icmpne (w_rg0 (by omega) (by omega)) (w_rg0 (by omega) (by omega)) ⟨_, rfl⟩ (fun c2 => ?_) (fun c2 => ?_)
    · skip
      exact absurd c2 (by omega)
    · skip
      refine wa_lload_n (n := 1) rfl ?_
      refine wa_cs (M2 := fun _ => False) rfl at_X_sliceSize ⟨_, rfl⟩ rfl rfl ⟨trivial, trivial, trivial, trivial⟩ trivial (fun _ _ q => False.elim q) ?_ (fun _ _ _ q => q)
      refine wa_lload_n (n := 0) rfl ?_
      refine wb_l2i_r (y := (v.2.2.length : Int)) (by rw [hb]; exact sl_z ⟨by omega, by omega⟩ ⟨by omega, by omega⟩) ?_
      refine wa_ireturn rfl ?_
      show wJ _ _ _ _ _ _ _ _ _ _
      refine wa_i2l (w_rg0 (by omega) (by omega)) ?_
      refine wa_goto ⟨_, rfl⟩ ?_
      refine wa_lreturn rfl ?_
      refine ⟨rfl, congrArg (fun z => Sum.inl (some (1, z))) ?_⟩
      unfold tdV
      repeat (first | rw [if_pos (by omega)] | rw [if_neg (by omega)])
      all_goals first | rfl | omega
  · skip
    refine wa_iload_n (n := 0) rfl ?_
    refine wa_i2l (w_rg0 (by omega) (by omega)) ?_
    refine wa_lreturn rfl ?_
    refine ⟨rfl, congrArg (fun z => Sum.inl (some (1, z))) ?_⟩
    unfold tdV
    repeat (first | rw [if_pos (by omega)] | rw [if_neg (by omega)])
    all_goals first | rfl | omega
theorem tdo (h : cVl S k b v) (h21 : S 2 1 ≤ 10000000) (hk : -2147483648 ≤ k ∧ k ≤ 2147483647) (hwh : -2147483648 ≤ wh ∧ wh ≤ 2147483647) : wJ (pe_GA xs) wY0 M (d + 1) t_X_told ((pe_at t_X_told.bl 0).getD (0, [])).2 [(0, (0, k)), (1, (1, b)), (3, (0, wh))] [] S (fun o Z => S = Z ∧ o = .inl (some (1, tdV v wh))) := by
  obtain ⟨h1, h2, h3⟩ := h
  by_cases c : v.1 = 3
  · obtain ⟨-, s, hb, s0, s1, -⟩ := h3 c
    have hk3 : k = 3 := h1.trans c
    rw [hk3]
    exact tdt c hb ⟨s0, by omega⟩ hwh
  · exact tdn c h1 (h2 c).1 hwh hk
theorem xre (hI : gI S) (hC : w_CL S) (h161 : S 161 (-1) = 2 ∧ S 161 0 = 215 ∧ S 161 1 = 226) (k0 : cTk 215 S K0) (k1 : cTk 226 S K1) (h21 : S 2 1 ≤ 10000000) (ht : -2147483648 ≤ t ∧ t ≤ 2147483647) (hwh : -2147483648 ≤ wh ∧ wh ≤ 2147483647) (hrk : ∀ w : Nat, (w = 215 ∨ w = 226) → -2147483648 ≤ S w 14 ∧ S w 14 ≤ 2147483647) : wJ (pe_GA xs) wY0 M (d + 7) t_X_result ((pe_at t_X_result.bl 0).getD (0, [])).2 [(0, (2, 0)), (1, (0, t)), (2, (0, wh))] [] S (fun o Z => (¬ (0 ≤ t ∧ t < 2 ∧ 0 ≤ wh ∧ wh ≤ 1) ∧ nxO S 18 o Z) ∨ ((0 ≤ t ∧ t < 2 ∧ 0 ≤ wh ∧ wh ≤ 1) ∧ ¬ tkE (tkq K0 K1 t) ∧ nxO S 17 o Z) ∨ ((0 ≤ t ∧ t < 2 ∧ 0 ≤ wh ∧ wh ≤ 1) ∧ tkE (tkq K0 K1 t) ∧ S = Z ∧ o = .inl (some (1, tdV (tkq K0 K1 t).2.2.2.2 wh)))) := wJ_E (fun ⟨ad, hp0, hE⟩ => by
  have hG : 0 ≤ S wG 1 := wE_G hE
  refine wa_iload_n (n := 1) rfl ?_
  refine wa_iflt (w_rg0 (by omega) (by omega)) ⟨_, rfl⟩ (fun c1 => ?_) (fun c1 => ?_)
  · skip
    have g0 : 0 ≤ S wG 1 := hG
    refine wa_nx (nN S 50) (nN_rg g0 (by decide)) (wt_nX ⟨by decide, by decide⟩) (by decide +kernel) ⟨(Or.inr ⟨wy_pr rfl, fun q => q⟩), trivial, trivial, trivial⟩ trivial (nx_d (by omega) (by decide)) ?_
    refine wa_th ?_
    refine Or.inl ⟨by omega, ⟨_, rfl, fun j x j0 j1 => w_nw_o j0 j1, gI_nx hI (by first | decide | omega) ⟨by decide, by decide⟩, w_nw_GX, wt_nX ⟨by decide, by decide⟩, w_pr_nx (by first | decide | omega)⟩⟩
  · skip
    refine wa_iload_n (n := 1) rfl ?_
    refine wa_iconst ?_
    refine wa_icmpge (w_rg0 (by omega) (by omega)) (w_rg0 (by omega) (by omega)) ⟨_, rfl⟩ (fun c2 => ?_) (fun c2 => ?_)
    · skip
      have g0 : 0 ≤ S wG 1 := hG
      refine wa_nx (nN S 50) (nN_rg g0 (by decide)) (wt_nX ⟨by decide, by decide⟩) (by decide +kernel) ⟨(Or.inr ⟨wy_pr rfl, fun q => q⟩), trivial, trivial, trivial⟩ trivial (nx_d (by omega) (by decide)) ?_
      refine wa_th ?_
      refine Or.inl ⟨by omega, ⟨_, rfl, fun j x j0 j1 => w_nw_o j0 j1, gI_nx hI (by first | decide | omega) ⟨by decide, by decide⟩, w_nw_GX, wt_nX ⟨by decide, by decide⟩, w_pr_nx (by first | decide | omega)⟩⟩
    · skip
      refine wa_iload_n (n := 2) rfl ?_
      refine wa_iflt (w_rg0 (by omega) (by omega)) ⟨_, rfl⟩ (fun c3 => ?_) (fun c3 => ?_)
      · skip
        have g0 : 0 ≤ S wG 1 := hG
        refine wa_nx (nN S 50) (nN_rg g0 (by decide)) (wt_nX ⟨by decide, by decide⟩) (by decide +kernel) ⟨(Or.inr ⟨wy_pr rfl, fun q => q⟩), trivial, trivial, trivial⟩ trivial (nx_d (by omega) (by decide)) ?_
        refine wa_th ?_
        refine Or.inl ⟨by omega, ⟨_, rfl, fun j x j0 j1 => w_nw_o j0 j1, gI_nx hI (by first | decide | omega) ⟨by decide, by decide⟩, w_nw_GX, wt_nX ⟨by decide, by decide⟩, w_pr_nx (by first | decide | omega)⟩⟩
      · skip
        refine wa_iload_n (n := 2) rfl ?_
        refine wa_iconst ?_
        refine wa_icmple (w_rg0 (by omega) (by omega)) (w_rg0 (by omega) (by omega)) ⟨_, rfl⟩ (fun c4 => ?_) (fun c4 => ?_)
        · skip
          rcases (show t = 0 ∨ t = 1 by omega) with e | e
          · subst e
            have hst : S 215 13 = K0.2.2.2.1 := k0.2.2.2.1
            have hrk1 := hrk 215 (by omega)
            refine wa_aload_n (n := 0) rfl ?_
            refine wb_gf4 0 rfl (wy_pr rfl) wt_0 wf_10_9 (v := 161) wl_0_9 ?_
            refine wa_iload_n (n := 1) rfl ?_
            refine wb_aald14 161 rfl (wy_pr rfl) wt_161 (by omega) (n := 2) (h161.1) (by omega) (v := 215) (h161.2.1) ?_
            refine wa_astore_n (n := 3) rfl ?_
            refine wa_aload_n (n := 3) rfl ?_
            refine wb_gfi 215 rfl (wy_pr rfl) wt_215 wf_8_13 (v := (S 215 13)) rfl (fun r5 => ?_)
            refine wa_iconst ?_
            refine wa_icmpeq (w_rg0 (by omega) (by omega)) (w_rg0 (by omega) (by omega)) ⟨_, rfl⟩ (fun c6 => ?_) (fun c6 => ?_)
            · skip
              refine wa_aload_n (n := 3) rfl ?_
              refine wb_gfi 215 rfl (wy_pr rfl) wt_215 wf_8_14 (v := (S 215 14)) rfl (fun r7 => ?_)
              refine wa_aload_n (n := 3) rfl ?_
              refine wb_gfl 215 rfl (wy_pr rfl) wt_215 wf_8_15 (v := (S 215 15)) rfl (fun r8 => ?_)
              refine wa_iload_n (n := 2) rfl ?_
              refine wa_cs (M2 := fun _ => False) rfl at_X_told ⟨_, rfl⟩ rfl rfl ⟨(Or.inr ⟨wy_pr rfl, fun q => q⟩), (Or.inr ⟨wy_pr rfl, fun q => q⟩), trivial, trivial, trivial⟩ trivial (fun _ _ q => False.elim q) (tdo (S := S) (k := S 215 14) (b := S 215 15) (v := K0.2.2.2.2) (wh := wh) (k0.2.2.2.2 (by omega)) h21 hrk1 (by omega)) (fun oq9 Sq9 hp10 q9 => ?_)
              rcases q9 with ⟨rfl, rfl⟩
              show wJ _ _ _ _ _ _ _ _ _ _
              refine wa_lreturn rfl ?_
              refine Or.inr (Or.inr ⟨⟨by omega, by omega, by omega, by omega⟩, ?_, rfl, ?_⟩)
              · unfold tkE; rw [show tkq K0 K1 0 = K0 from if_pos rfl]; omega
              · rw [show tkq K0 K1 0 = K0 from if_pos rfl]
            · skip
              refine wa_aload_n (n := 3) rfl ?_
              refine wb_gfi 215 rfl (wy_pr rfl) wt_215 wf_8_13 (v := (S 215 13)) rfl (fun r11 => ?_)
              refine wa_iconst ?_
              refine wa_icmpeq (w_rg0 (by omega) (by omega)) (w_rg0 (by omega) (by omega)) ⟨_, rfl⟩ (fun c12 => ?_) (fun c12 => ?_)
              · skip
                refine wa_aload_n (n := 3) rfl ?_
                refine wb_gfi 215 rfl (wy_pr rfl) wt_215 wf_8_14 (v := (S 215 14)) rfl (fun r13 => ?_)
                refine wa_aload_n (n := 3) rfl ?_
                refine wb_gfl 215 rfl (wy_pr rfl) wt_215 wf_8_15 (v := (S 215 15)) rfl (fun r14 => ?_)
                refine wa_iload_n (n := 2) rfl ?_
                refine wa_cs (M2 := fun _ => False) rfl at_X_told ⟨_, rfl⟩ rfl rfl ⟨(Or.inr ⟨wy_pr rfl, fun q => q⟩), (Or.inr ⟨wy_pr rfl, fun q => q⟩), trivial, trivial, trivial⟩ trivial (fun _ _ q => False.elim q) (tdo (S := S) (k := S 215 14) (b := S 215 15) (v := K0.2.2.2.2) (wh := wh) (k0.2.2.2.2 (by omega)) h21 hrk1 (by omega)) (fun oq15 Sq15 hp16 q15 => ?_)
                rcases q15 with ⟨rfl, rfl⟩
                show wJ _ _ _ _ _ _ _ _ _ _
                refine wa_lreturn rfl ?_
                refine Or.inr (Or.inr ⟨⟨by omega, by omega, by omega, by omega⟩, ?_, rfl, ?_⟩)
                · unfold tkE; rw [show tkq K0 K1 0 = K0 from if_pos rfl]; omega
                · rw [show tkq K0 K1 0 = K0 from if_pos rfl]
              · skip
                have g0 : 0 ≤ S wG 1 := hG
                refine wa_nx (nN S 49) (nN_rg g0 (by decide)) (wt_nX ⟨by decide, by decide⟩) (by decide +kernel) ⟨(Or.inr ⟨wy_pr rfl, fun q => q⟩), (Or.inr ⟨wy_pr rfl, fun q => q⟩), trivial, trivial, trivial⟩ trivial (nx_d (by omega) (by decide)) ?_
                refine wa_th ?_
                refine Or.inr (Or.inl ⟨⟨by omega, by omega, by omega, by omega⟩, fun z => ?_, ⟨_, rfl, fun j x j0 j1 => w_nw_o j0 j1, gI_nx hI (by first | decide | omega) ⟨by decide, by decide⟩, w_nw_GX, wt_nX ⟨by decide, by decide⟩, w_pr_nx (by first | decide | omega)⟩⟩)
                unfold tkE at z
                rw [show tkq K0 K1 0 = K0 from if_pos rfl] at z; omega
          · subst e
            have hst : S 226 13 = K1.2.2.2.1 := k1.2.2.2.1
            have hrk1 := hrk 226 (by omega)
            refine wa_aload_n (n := 0) rfl ?_
            refine wb_gf4 0 rfl (wy_pr rfl) wt_0 wf_10_9 (v := 161) wl_0_9 ?_
            refine wa_iload_n (n := 1) rfl ?_
            refine wb_aald14 161 rfl (wy_pr rfl) wt_161 (by omega) (n := 2) (h161.1) (by omega) (v := 226) (h161.2.2) ?_
            refine wa_astore_n (n := 3) rfl ?_
            refine wa_aload_n (n := 3) rfl ?_
            refine wb_gfi 226 rfl (wy_pr rfl) wt_226 wf_8_13 (v := (S 226 13)) rfl (fun r17 => ?_)
            refine wa_iconst ?_
            refine wa_icmpeq (w_rg0 (by omega) (by omega)) (w_rg0 (by omega) (by omega)) ⟨_, rfl⟩ (fun c18 => ?_) (fun c18 => ?_)
            · skip
              refine wa_aload_n (n := 3) rfl ?_
              refine wb_gfi 226 rfl (wy_pr rfl) wt_226 wf_8_14 (v := (S 226 14)) rfl (fun r19 => ?_)
              refine wa_aload_n (n := 3) rfl ?_
              refine wb_gfl 226 rfl (wy_pr rfl) wt_226 wf_8_15 (v := (S 226 15)) rfl (fun r20 => ?_)
              refine wa_iload_n (n := 2) rfl ?_
              refine wa_cs (M2 := fun _ => False) rfl at_X_told ⟨_, rfl⟩ rfl rfl ⟨(Or.inr ⟨wy_pr rfl, fun q => q⟩), (Or.inr ⟨wy_pr rfl, fun q => q⟩), trivial, trivial, trivial⟩ trivial (fun _ _ q => False.elim q) (tdo (S := S) (k := S 226 14) (b := S 226 15) (v := K1.2.2.2.2) (wh := wh) (k1.2.2.2.2 (by omega)) h21 hrk1 (by omega)) (fun oq21 Sq21 hp22 q21 => ?_)
              rcases q21 with ⟨rfl, rfl⟩
              show wJ _ _ _ _ _ _ _ _ _ _
              refine wa_lreturn rfl ?_
              refine Or.inr (Or.inr ⟨⟨by omega, by omega, by omega, by omega⟩, ?_, rfl, ?_⟩)
              · unfold tkE; rw [show tkq K0 K1 1 = K1 from if_neg (by first | decide | omega)]; omega
              · rw [show tkq K0 K1 1 = K1 from if_neg (by first | decide | omega)]
            · skip
              refine wa_aload_n (n := 3) rfl ?_
              refine wb_gfi 226 rfl (wy_pr rfl) wt_226 wf_8_13 (v := (S 226 13)) rfl (fun r23 => ?_)
              refine wa_iconst ?_
              refine wa_icmpeq (w_rg0 (by omega) (by omega)) (w_rg0 (by omega) (by omega)) ⟨_, rfl⟩ (fun c24 => ?_) (fun c24 => ?_)
              · skip
                refine wa_aload_n (n := 3) rfl ?_
                refine wb_gfi 226 rfl (wy_pr rfl) wt_226 wf_8_14 (v := (S 226 14)) rfl (fun r25 => ?_)
                refine wa_aload_n (n := 3) rfl ?_
                refine wb_gfl 226 rfl (wy_pr rfl) wt_226 wf_8_15 (v := (S 226 15)) rfl (fun r26 => ?_)
                refine wa_iload_n (n := 2) rfl ?_
                refine wa_cs (M2 := fun _ => False) rfl at_X_told ⟨_, rfl⟩ rfl rfl ⟨(Or.inr ⟨wy_pr rfl, fun q => q⟩), (Or.inr ⟨wy_pr rfl, fun q => q⟩), trivial, trivial, trivial⟩ trivial (fun _ _ q => False.elim q) (tdo (S := S) (k := S 226 14) (b := S 226 15) (v := K1.2.2.2.2) (wh := wh) (k1.2.2.2.2 (by omega)) h21 hrk1 (by omega)) (fun oq27 Sq27 hp28 q27 => ?_)
                rcases q27 with ⟨rfl, rfl⟩
                show wJ _ _ _ _ _ _ _ _ _ _
                refine wa_lreturn rfl ?_
                refine Or.inr (Or.inr ⟨⟨by omega, by omega, by omega, by omega⟩, ?_, rfl, ?_⟩)
                · unfold tkE; rw [show tkq K0 K1 1 = K1 from if_neg (by first | decide | omega)]; omega
                · rw [show tkq K0 K1 1 = K1 from if_neg (by first | decide | omega)]
              · skip
                have g0 : 0 ≤ S wG 1 := hG
                refine wa_nx (nN S 49) (nN_rg g0 (by decide)) (wt_nX ⟨by decide, by decide⟩) (by decide +kernel) ⟨(Or.inr ⟨wy_pr rfl, fun q => q⟩), (Or.inr ⟨wy_pr rfl, fun q => q⟩), trivial, trivial, trivial⟩ trivial (nx_d (by omega) (by decide)) ?_
                refine wa_th ?_
                refine Or.inr (Or.inl ⟨⟨by omega, by omega, by omega, by omega⟩, fun z => ?_, ⟨_, rfl, fun j x j0 j1 => w_nw_o j0 j1, gI_nx hI (by first | decide | omega) ⟨by decide, by decide⟩, w_nw_GX, wt_nX ⟨by decide, by decide⟩, w_pr_nx (by first | decide | omega)⟩⟩)
                unfold tkE at z
                rw [show tkq K0 K1 1 = K1 from if_neg (by first | decide | omega)] at z; omega
        · skip
          refine wa_fall ⟨_, rfl⟩ ?_
          have g0 : 0 ≤ S wG 1 := hG
          refine wa_nx (nN S 50) (nN_rg g0 (by decide)) (wt_nX ⟨by decide, by decide⟩) (by decide +kernel) ⟨(Or.inr ⟨wy_pr rfl, fun q => q⟩), trivial, trivial, trivial⟩ trivial (nx_d (by omega) (by decide)) ?_
          refine wa_th ?_
          refine Or.inl ⟨by omega, ⟨_, rfl, fun j x j0 j1 => w_nw_o j0 j1, gI_nx hI (by first | decide | omega) ⟨by decide, by decide⟩, w_nw_GX, wt_nX ⟨by decide, by decide⟩, w_pr_nx (by first | decide | omega)⟩⟩)
theorem xsg (hC : w_CL S) (h161 : S 161 (-1) = 2 ∧ S 161 0 = 215 ∧ S 161 1 = 226) (k0 : cTk 215 S K0) (k1 : cTk 226 S K1) (h21 : S 2 1 ≤ 10000000) (h3l : S 2 1 ≤ S 3 (-1) ∧ S 3 (-1) ≤ 2147483647) (ht : -2147483648 ≤ t ∧ t ≤ 2147483647) (hi : -2147483648 ≤ i ∧ i ≤ 2147483647) (hrk : ∀ w : Nat, (w = 215 ∨ w = 226) → -2147483648 ≤ S w 14 ∧ S w 14 ≤ 2147483647) : wJ (pe_GA xs) wY0 M (d + 1) t_X_sign ((pe_at t_X_sign.bl 0).getD (0, [])).2 [(0, (2, 0)), (1, (0, t)), (2, (0, i))] [] S (fun o Z => S = Z ∧ o = .inl (some (0, if 0 ≤ t ∧ t < 2 then sgW (tkq K0 K1 t) i else -1))) := by
  refine wa_iload_n (n := 1) rfl ?_
  refine wa_iflt (w_rg0 (by omega) (by omega)) ⟨_, rfl⟩ (fun c1 => ?_) (fun c1 => ?_)
  · skip
    refine wa_iconst ?_
    refine wa_ireturn rfl ?_
    refine ⟨rfl, congrArg (fun z => Sum.inl (some (0, z))) ?_⟩
    rw [if_neg (by omega)]
  · skip
    refine wa_iload_n (n := 1) rfl ?_
    refine wa_iconst ?_
    refine wa_icmplt (w_rg0 (by omega) (by omega)) (w_rg0 (by omega) (by omega)) ⟨_, rfl⟩ (fun c2 => ?_) (fun c2 => ?_)
    · skip
      rcases (show t = 0 ∨ t = 1 by omega) with e | e
      · subst e
        have hst : S 215 13 = K0.2.2.2.1 := k0.2.2.2.1
        have hrk1 := hrk 215 (by omega)
        have hval := k0.2.2.2.2
        refine wa_aload_n (n := 0) rfl ?_
        refine wb_gf4 0 rfl (wy_pr rfl) wt_0 wf_10_9 (v := 161) wl_0_9 ?_
        refine wa_iload_n (n := 1) rfl ?_
        refine wb_aald14 161 rfl (wy_pr rfl) wt_161 (by omega) (n := 2) (h161.1) (by omega) (v := 215) (h161.2.1) ?_
        refine wa_astore_n (n := 3) rfl ?_
        refine wa_aload_n (n := 3) rfl ?_
        refine wb_gfi 215 rfl (wy_pr rfl) wt_215 wf_8_13 (v := (S 215 13)) rfl (fun r3 => ?_)
        refine wa_iconst ?_
        refine wa_icmpeq (w_rg0 (by omega) (by omega)) (w_rg0 (by omega) (by omega)) ⟨_, rfl⟩ (fun c4 => ?_) (fun c4 => ?_)
        · skip
          refine wa_iconst ?_
          refine wa_goto ⟨_, rfl⟩ ?_
          refine wa_istore (n := 4) rfl ?_
          refine wa_iload (n := 4) rfl ?_
          refine wa_ifeq (w_rg0 (by omega) (by omega)) ⟨_, rfl⟩ (fun c5 => ?_) (fun c5 => ?_)
          · skip
            exact absurd c5 (by omega)
          · skip
            refine wa_aload_n (n := 3) rfl ?_
            refine wb_gfi 215 rfl (wy_pr rfl) wt_215 wf_8_14 (v := (S 215 14)) rfl (fun r6 => ?_)
            refine wa_iconst ?_
            refine wa_icmpne (w_rg0 (by omega) (by omega)) (w_rg0 (by omega) (by omega)) ⟨_, rfl⟩ (fun c7 => ?_) (fun c7 => ?_)
            · skip
              refine wa_iconst ?_
              refine wa_ireturn rfl ?_
              refine ⟨rfl, congrArg (fun z => Sum.inl (some (0, z))) ?_⟩
              rw [if_pos (by omega), show tkq K0 K1 0 = K0 from if_pos rfl]
              unfold sgW
              rw [if_neg (fun z => ?_)]
              first | omega | (have w1 := (hval z.1).1; omega)
            · skip
              obtain ⟨v1, v2, v3⟩ := hval (by omega)
              have v1n : K0.2.2.2.2.1 = 3 := by omega
              obtain ⟨-, s, hb, s0, s1, he⟩ := v3 v1n
              refine wa_iload_n (n := 2) rfl ?_
              refine wa_iflt (w_rg0 (by omega) (by omega)) ⟨_, rfl⟩ (fun c8 => ?_) (fun c8 => ?_)
              · skip
                refine wa_iconst ?_
                refine wa_ireturn rfl ?_
                refine ⟨rfl, congrArg (fun z => Sum.inl (some (0, z))) ?_⟩
                rw [if_pos (by omega), show tkq K0 K1 0 = K0 from if_pos rfl]
                unfold sgW
                rw [if_neg (fun z => ?_)]
                first | omega | (have w1 := (hval z.1).1; omega)
              · skip
                refine wa_iload_n (n := 2) rfl ?_
                refine wa_aload_n (n := 3) rfl ?_
                refine wb_gfl 215 rfl (wy_pr rfl) wt_215 wf_8_15 (v := (S 215 15)) rfl (fun r9 => ?_)
                refine wa_cs (M2 := fun _ => False) rfl at_X_sliceSize ⟨_, rfl⟩ rfl rfl ⟨trivial, (Or.inr ⟨wy_pr rfl, fun q => q⟩), (Or.inr ⟨wy_pr rfl, fun q => q⟩), trivial, trivial, trivial⟩ ⟨trivial, trivial⟩ (fun _ _ q => False.elim q) ?_ (fun _ _ _ q => q)
                refine wa_lload_n (n := 0) rfl ?_
                refine wb_l2i_r (y := (K0.2.2.2.2.2.2.length : Int)) (by rw [hb]; exact sl_z ⟨by omega, by omega⟩ ⟨by omega, by omega⟩) ?_
                refine wa_ireturn rfl ?_
                show wJ _ _ _ _ _ _ _ _ _ _
                refine wa_icmplt (w_rg0 (by omega) (by omega)) (w_rg0 (by omega) (by omega)) ⟨_, rfl⟩ (fun c10 => ?_) (fun c10 => ?_)
                · skip
                  refine wa_aload_n (n := 0) rfl ?_
                  refine wb_gf4 0 rfl (wy_pr rfl) wt_0 wf_10_2 (v := 2) wl_0_2 ?_
                  refine wb_gf4 2 rfl (wy_pr rfl) wt_2 wf_9_0 (v := 3) wl_2_0 ?_
                  refine wa_aload_n (n := 3) rfl ?_
                  refine wb_gfl 215 rfl (wy_pr rfl) wt_215 wf_8_15 (v := (S 215 15)) rfl (fun r11 => ?_)
                  refine wa_cs (M2 := fun _ => False) rfl at_X_sliceStart ⟨_, rfl⟩ rfl rfl ⟨trivial, (Or.inr ⟨wy_pr rfl, fun q => q⟩), (Or.inr ⟨wy_pr rfl, fun q => q⟩), trivial, trivial, trivial⟩ ⟨(Or.inr ⟨wy_pr rfl, fun q => q⟩), trivial⟩ (fun _ _ q => False.elim q) ?_ (fun _ _ _ q => q)
                  refine wa_lload_n (n := 0) rfl ?_
                  refine wa_bipush (w_rg2 (by omega) (by omega)) ?_
                  refine wa_lushr ?_
                  refine wb_l2i_r (y := s) (by rw [hb]; exact sl_s ⟨by omega, by omega⟩ ⟨by omega, by omega⟩) ?_
                  refine wa_ireturn rfl ?_
                  show wJ _ _ _ _ _ _ _ _ _ _
                  refine wa_iload_n (n := 2) rfl ?_
                  refine wa_iadd ?_
                  refine wb_bald 3 rfl (wy_pr rfl) wt_3 (n := (S 3 (-1))) (rfl) (by omega) (by omega) (v := (S 3 (s + i))) rfl (fun r12 => ?_)
                  refine wa_ireturn rfl ?_
                  refine ⟨rfl, congrArg (fun z => Sum.inl (some (0, z))) ?_⟩
                  rw [if_pos (by omega), show tkq K0 K1 0 = K0 from if_pos rfl]
                  unfold sgW
                  rw [if_pos ⟨by omega, v1n, by omega, by omega⟩]
                  have e1 := he i.toNat (by omega)
                  rw [show ((i.toNat : Nat) : Int) = i by omega] at e1
                  exact e1
                · skip
                  refine wa_fall ⟨_, rfl⟩ ?_
                  refine wa_iconst ?_
                  refine wa_ireturn rfl ?_
                  refine ⟨rfl, congrArg (fun z => Sum.inl (some (0, z))) ?_⟩
                  rw [if_pos (by omega), show tkq K0 K1 0 = K0 from if_pos rfl]
                  unfold sgW
                  rw [if_neg (fun z => ?_)]
                  first | omega | (have w1 := (hval z.1).1; omega)
        · skip
          refine wa_aload_n (n := 3) rfl ?_
          refine wb_gfi 215 rfl (wy_pr rfl) wt_215 wf_8_13 (v := (S 215 13)) rfl (fun r13 => ?_)
          refine wa_iconst ?_
          refine wa_icmpne (w_rg0 (by omega) (by omega)) (w_rg0 (by omega) (by omega)) ⟨_, rfl⟩ (fun c14 => ?_) (fun c14 => ?_)
          · skip
            refine wa_iconst ?_
            refine wa_fall ⟨_, rfl⟩ ?_
            refine wa_istore (n := 4) rfl ?_
            refine wa_iload (n := 4) rfl ?_
            refine wa_ifeq (w_rg0 (by omega) (by omega)) ⟨_, rfl⟩ (fun c15 => ?_) (fun c15 => ?_)
            · skip
              refine wa_iconst ?_
              refine wa_ireturn rfl ?_
              refine ⟨rfl, congrArg (fun z => Sum.inl (some (0, z))) ?_⟩
              rw [if_pos (by omega), show tkq K0 K1 0 = K0 from if_pos rfl]
              unfold sgW
              rw [if_neg (fun z => ?_)]
              first | omega | (have w1 := (hval z.1).1; omega)
            · skip
              exact absurd c15 (by omega)
          · skip
            refine wa_fall ⟨_, rfl⟩ ?_
            refine wa_iconst ?_
            refine wa_goto ⟨_, rfl⟩ ?_
            refine wa_istore (n := 4) rfl ?_
            refine wa_iload (n := 4) rfl ?_
            refine wa_ifeq (w_rg0 (by omega) (by omega)) ⟨_, rfl⟩ (fun c16 => ?_) (fun c16 => ?_)
            · skip
              exact absurd c16 (by omega)
            · skip
              refine wa_aload_n (n := 3) rfl ?_
              refine wb_gfi 215 rfl (wy_pr rfl) wt_215 wf_8_14 (v := (S 215 14)) rfl (fun r17 => ?_)
              refine wa_iconst ?_
              refine wa_icmpne (w_rg0 (by omega) (by omega)) (w_rg0 (by omega) (by omega)) ⟨_, rfl⟩ (fun c18 => ?_) (fun c18 => ?_)
              · skip
                refine wa_iconst ?_
                refine wa_ireturn rfl ?_
                refine ⟨rfl, congrArg (fun z => Sum.inl (some (0, z))) ?_⟩
                rw [if_pos (by omega), show tkq K0 K1 0 = K0 from if_pos rfl]
                unfold sgW
                rw [if_neg (fun z => ?_)]
                first | omega | (have w1 := (hval z.1).1; omega)
              · skip
                obtain ⟨v1, v2, v3⟩ := hval (by omega)
                have v1n : K0.2.2.2.2.1 = 3 := by omega
                obtain ⟨-, s, hb, s0, s1, he⟩ := v3 v1n
                refine wa_iload_n (n := 2) rfl ?_
                refine wa_iflt (w_rg0 (by omega) (by omega)) ⟨_, rfl⟩ (fun c19 => ?_) (fun c19 => ?_)
                · skip
                  refine wa_iconst ?_
                  refine wa_ireturn rfl ?_
                  refine ⟨rfl, congrArg (fun z => Sum.inl (some (0, z))) ?_⟩
                  rw [if_pos (by omega), show tkq K0 K1 0 = K0 from if_pos rfl]
                  unfold sgW
                  rw [if_neg (fun z => ?_)]
                  first | omega | (have w1 := (hval z.1).1; omega)
                · skip
                  refine wa_iload_n (n := 2) rfl ?_
                  refine wa_aload_n (n := 3) rfl ?_
                  refine wb_gfl 215 rfl (wy_pr rfl) wt_215 wf_8_15 (v := (S 215 15)) rfl (fun r20 => ?_)
                  refine wa_cs (M2 := fun _ => False) rfl at_X_sliceSize ⟨_, rfl⟩ rfl rfl ⟨trivial, (Or.inr ⟨wy_pr rfl, fun q => q⟩), (Or.inr ⟨wy_pr rfl, fun q => q⟩), trivial, trivial, trivial⟩ ⟨trivial, trivial⟩ (fun _ _ q => False.elim q) ?_ (fun _ _ _ q => q)
                  refine wa_lload_n (n := 0) rfl ?_
                  refine wb_l2i_r (y := (K0.2.2.2.2.2.2.length : Int)) (by rw [hb]; exact sl_z ⟨by omega, by omega⟩ ⟨by omega, by omega⟩) ?_
                  refine wa_ireturn rfl ?_
                  show wJ _ _ _ _ _ _ _ _ _ _
                  refine wa_icmplt (w_rg0 (by omega) (by omega)) (w_rg0 (by omega) (by omega)) ⟨_, rfl⟩ (fun c21 => ?_) (fun c21 => ?_)
                  · skip
                    refine wa_aload_n (n := 0) rfl ?_
                    refine wb_gf4 0 rfl (wy_pr rfl) wt_0 wf_10_2 (v := 2) wl_0_2 ?_
                    refine wb_gf4 2 rfl (wy_pr rfl) wt_2 wf_9_0 (v := 3) wl_2_0 ?_
                    refine wa_aload_n (n := 3) rfl ?_
                    refine wb_gfl 215 rfl (wy_pr rfl) wt_215 wf_8_15 (v := (S 215 15)) rfl (fun r22 => ?_)
                    refine wa_cs (M2 := fun _ => False) rfl at_X_sliceStart ⟨_, rfl⟩ rfl rfl ⟨trivial, (Or.inr ⟨wy_pr rfl, fun q => q⟩), (Or.inr ⟨wy_pr rfl, fun q => q⟩), trivial, trivial, trivial⟩ ⟨(Or.inr ⟨wy_pr rfl, fun q => q⟩), trivial⟩ (fun _ _ q => False.elim q) ?_ (fun _ _ _ q => q)
                    refine wa_lload_n (n := 0) rfl ?_
                    refine wa_bipush (w_rg2 (by omega) (by omega)) ?_
                    refine wa_lushr ?_
                    refine wb_l2i_r (y := s) (by rw [hb]; exact sl_s ⟨by omega, by omega⟩ ⟨by omega, by omega⟩) ?_
                    refine wa_ireturn rfl ?_
                    show wJ _ _ _ _ _ _ _ _ _ _
                    refine wa_iload_n (n := 2) rfl ?_
                    refine wa_iadd ?_
                    refine wb_bald 3 rfl (wy_pr rfl) wt_3 (n := (S 3 (-1))) (rfl) (by omega) (by omega) (v := (S 3 (s + i))) rfl (fun r23 => ?_)
                    refine wa_ireturn rfl ?_
                    refine ⟨rfl, congrArg (fun z => Sum.inl (some (0, z))) ?_⟩
                    rw [if_pos (by omega), show tkq K0 K1 0 = K0 from if_pos rfl]
                    unfold sgW
                    rw [if_pos ⟨by omega, v1n, by omega, by omega⟩]
                    have e1 := he i.toNat (by omega)
                    rw [show ((i.toNat : Nat) : Int) = i by omega] at e1
                    exact e1
                  · skip
                    refine wa_fall ⟨_, rfl⟩ ?_
                    refine wa_iconst ?_
                    refine wa_ireturn rfl ?_
                    refine ⟨rfl, congrArg (fun z => Sum.inl (some (0, z))) ?_⟩
                    rw [if_pos (by omega), show tkq K0 K1 0 = K0 from if_pos rfl]
                    unfold sgW
                    rw [if_neg (fun z => ?_)]
                    first | omega | (have w1 := (hval z.1).1; omega)
      · subst e
        have hst : S 226 13 = K1.2.2.2.1 := k1.2.2.2.1
        have hrk1 := hrk 226 (by omega)
        have hval := k1.2.2.2.2
        refine wa_aload_n (n := 0) rfl ?_
        refine wb_gf4 0 rfl (wy_pr rfl) wt_0 wf_10_9 (v := 161) wl_0_9 ?_
        refine wa_iload_n (n := 1) rfl ?_
        refine wb_aald14 161 rfl (wy_pr rfl) wt_161 (by omega) (n := 2) (h161.1) (by omega) (v := 226) (h161.2.2) ?_
        refine wa_astore_n (n := 3) rfl ?_
        refine wa_aload_n (n := 3) rfl ?_
        refine wb_gfi 226 rfl (wy_pr rfl) wt_226 wf_8_13 (v := (S 226 13)) rfl (fun r24 => ?_)
        refine wa_iconst ?_
        refine wa_icmpeq (w_rg0 (by omega) (by omega)) (w_rg0 (by omega) (by omega)) ⟨_, rfl⟩ (fun c25 => ?_) (fun c25 => ?_)
        · skip
          refine wa_iconst ?_
          refine wa_goto ⟨_, rfl⟩ ?_
          refine wa_istore (n := 4) rfl ?_
          refine wa_iload (n := 4) rfl ?_
          refine wa_ifeq (w_rg0 (by omega) (by omega)) ⟨_, rfl⟩ (fun c26 => ?_) (fun c26 => ?_)
          · skip
            exact absurd c26 (by omega)
          · skip
            refine wa_aload_n (n := 3) rfl ?_
            refine wb_gfi 226 rfl (wy_pr rfl) wt_226 wf_8_14 (v := (S 226 14)) rfl (fun r27 => ?_)
            refine wa_iconst ?_
            refine wa_icmpne (w_rg0 (by omega) (by omega)) (w_rg0 (by omega) (by omega)) ⟨_, rfl⟩ (fun c28 => ?_) (fun c28 => ?_)
            · skip
              refine wa_iconst ?_
              refine wa_ireturn rfl ?_
              refine ⟨rfl, congrArg (fun z => Sum.inl (some (0, z))) ?_⟩
              rw [if_pos (by omega), show tkq K0 K1 1 = K1 from if_neg (by first | decide | omega)]
              unfold sgW
              rw [if_neg (fun z => ?_)]
              first | omega | (have w1 := (hval z.1).1; omega)
            · skip
              obtain ⟨v1, v2, v3⟩ := hval (by omega)
              have v1n : K1.2.2.2.2.1 = 3 := by omega
              obtain ⟨-, s, hb, s0, s1, he⟩ := v3 v1n
              refine wa_iload_n (n := 2) rfl ?_
              refine wa_iflt (w_rg0 (by omega) (by omega)) ⟨_, rfl⟩ (fun c29 => ?_) (fun c29 => ?_)
              · skip
                refine wa_iconst ?_
                refine wa_ireturn rfl ?_
                refine ⟨rfl, congrArg (fun z => Sum.inl (some (0, z))) ?_⟩
                rw [if_pos (by omega), show tkq K0 K1 1 = K1 from if_neg (by first | decide | omega)]
                unfold sgW
                rw [if_neg (fun z => ?_)]
                first | omega | (have w1 := (hval z.1).1; omega)
              · skip
                refine wa_iload_n (n := 2) rfl ?_
                refine wa_aload_n (n := 3) rfl ?_
                refine wb_gfl 226 rfl (wy_pr rfl) wt_226 wf_8_15 (v := (S 226 15)) rfl (fun r30 => ?_)
                refine wa_cs (M2 := fun _ => False) rfl at_X_sliceSize ⟨_, rfl⟩ rfl rfl ⟨trivial, (Or.inr ⟨wy_pr rfl, fun q => q⟩), (Or.inr ⟨wy_pr rfl, fun q => q⟩), trivial, trivial, trivial⟩ ⟨trivial, trivial⟩ (fun _ _ q => False.elim q) ?_ (fun _ _ _ q => q)
                refine wa_lload_n (n := 0) rfl ?_
                refine wb_l2i_r (y := (K1.2.2.2.2.2.2.length : Int)) (by rw [hb]; exact sl_z ⟨by omega, by omega⟩ ⟨by omega, by omega⟩) ?_
                refine wa_ireturn rfl ?_
                show wJ _ _ _ _ _ _ _ _ _ _
                refine wa_icmplt (w_rg0 (by omega) (by omega)) (w_rg0 (by omega) (by omega)) ⟨_, rfl⟩ (fun c31 => ?_) (fun c31 => ?_)
                · skip
                  refine wa_aload_n (n := 0) rfl ?_
                  refine wb_gf4 0 rfl (wy_pr rfl) wt_0 wf_10_2 (v := 2) wl_0_2 ?_
                  refine wb_gf4 2 rfl (wy_pr rfl) wt_2 wf_9_0 (v := 3) wl_2_0 ?_
                  refine wa_aload_n (n := 3) rfl ?_
                  refine wb_gfl 226 rfl (wy_pr rfl) wt_226 wf_8_15 (v := (S 226 15)) rfl (fun r32 => ?_)
                  refine wa_cs (M2 := fun _ => False) rfl at_X_sliceStart ⟨_, rfl⟩ rfl rfl ⟨trivial, (Or.inr ⟨wy_pr rfl, fun q => q⟩), (Or.inr ⟨wy_pr rfl, fun q => q⟩), trivial, trivial, trivial⟩ ⟨(Or.inr ⟨wy_pr rfl, fun q => q⟩), trivial⟩ (fun _ _ q => False.elim q) ?_ (fun _ _ _ q => q)
                  refine wa_lload_n (n := 0) rfl ?_
                  refine wa_bipush (w_rg2 (by omega) (by omega)) ?_
                  refine wa_lushr ?_
                  refine wb_l2i_r (y := s) (by rw [hb]; exact sl_s ⟨by omega, by omega⟩ ⟨by omega, by omega⟩) ?_
                  refine wa_ireturn rfl ?_
                  show wJ _ _ _ _ _ _ _ _ _ _
                  refine wa_iload_n (n := 2) rfl ?_
                  refine wa_iadd ?_
                  refine wb_bald 3 rfl (wy_pr rfl) wt_3 (n := (S 3 (-1))) (rfl) (by omega) (by omega) (v := (S 3 (s + i))) rfl (fun r33 => ?_)
                  refine wa_ireturn rfl ?_
                  refine ⟨rfl, congrArg (fun z => Sum.inl (some (0, z))) ?_⟩
                  rw [if_pos (by omega), show tkq K0 K1 1 = K1 from if_neg (by first | decide | omega)]
                  unfold sgW
                  rw [if_pos ⟨by omega, v1n, by omega, by omega⟩]
                  have e1 := he i.toNat (by omega)
                  rw [show ((i.toNat : Nat) : Int) = i by omega] at e1
                  exact e1
                · skip
                  refine wa_fall ⟨_, rfl⟩ ?_
                  refine wa_iconst ?_
                  refine wa_ireturn rfl ?_
                  refine ⟨rfl, congrArg (fun z => Sum.inl (some (0, z))) ?_⟩
                  rw [if_pos (by omega), show tkq K0 K1 1 = K1 from if_neg (by first | decide | omega)]
                  unfold sgW
                  rw [if_neg (fun z => ?_)]
                  first | omega | (have w1 := (hval z.1).1; omega)
        · skip
          refine wa_aload_n (n := 3) rfl ?_
          refine wb_gfi 226 rfl (wy_pr rfl) wt_226 wf_8_13 (v := (S 226 13)) rfl (fun r34 => ?_)
          refine wa_iconst ?_
          refine wa_icmpne (w_rg0 (by omega) (by omega)) (w_rg0 (by omega) (by omega)) ⟨_, rfl⟩ (fun c35 => ?_) (fun c35 => ?_)
          · skip
            refine wa_iconst ?_
            refine wa_fall ⟨_, rfl⟩ ?_
            refine wa_istore (n := 4) rfl ?_
            refine wa_iload (n := 4) rfl ?_
            refine wa_ifeq (w_rg0 (by omega) (by omega)) ⟨_, rfl⟩ (fun c36 => ?_) (fun c36 => ?_)
            · skip
              refine wa_iconst ?_
              refine wa_ireturn rfl ?_
              refine ⟨rfl, congrArg (fun z => Sum.inl (some (0, z))) ?_⟩
              rw [if_pos (by omega), show tkq K0 K1 1 = K1 from if_neg (by first | decide | omega)]
              unfold sgW
              rw [if_neg (fun z => ?_)]
              first | omega | (have w1 := (hval z.1).1; omega)
            · skip
              exact absurd c36 (by omega)
          · skip
            refine wa_fall ⟨_, rfl⟩ ?_
            refine wa_iconst ?_
            refine wa_goto ⟨_, rfl⟩ ?_
            refine wa_istore (n := 4) rfl ?_
            refine wa_iload (n := 4) rfl ?_
            refine wa_ifeq (w_rg0 (by omega) (by omega)) ⟨_, rfl⟩ (fun c37 => ?_) (fun c37 => ?_)
            · skip
              exact absurd c37 (by omega)
            · skip
              refine wa_aload_n (n := 3) rfl ?_
              refine wb_gfi 226 rfl (wy_pr rfl) wt_226 wf_8_14 (v := (S 226 14)) rfl (fun r38 => ?_)
              refine wa_iconst ?_
              refine wa_icmpne (w_rg0 (by omega) (by omega)) (w_rg0 (by omega) (by omega)) ⟨_, rfl⟩ (fun c39 => ?_) (fun c39 => ?_)
              · skip
                refine wa_iconst ?_
                refine wa_ireturn rfl ?_
                refine ⟨rfl, congrArg (fun z => Sum.inl (some (0, z))) ?_⟩
                rw [if_pos (by omega), show tkq K0 K1 1 = K1 from if_neg (by first | decide | omega)]
                unfold sgW
                rw [if_neg (fun z => ?_)]
                first | omega | (have w1 := (hval z.1).1; omega)
              · skip
                obtain ⟨v1, v2, v3⟩ := hval (by omega)
                have v1n : K1.2.2.2.2.1 = 3 := by omega
                obtain ⟨-, s, hb, s0, s1, he⟩ := v3 v1n
                refine wa_iload_n (n := 2) rfl ?_
                refine wa_iflt (w_rg0 (by omega) (by omega)) ⟨_, rfl⟩ (fun c40 => ?_) (fun c40 => ?_)
                · skip
                  refine wa_iconst ?_
                  refine wa_ireturn rfl ?_
                  refine ⟨rfl, congrArg (fun z => Sum.inl (some (0, z))) ?_⟩
                  rw [if_pos (by omega), show tkq K0 K1 1 = K1 from if_neg (by first | decide | omega)]
                  unfold sgW
                  rw [if_neg (fun z => ?_)]
                  first | omega | (have w1 := (hval z.1).1; omega)
                · skip
                  refine wa_iload_n (n := 2) rfl ?_
                  refine wa_aload_n (n := 3) rfl ?_
                  refine wb_gfl 226 rfl (wy_pr rfl) wt_226 wf_8_15 (v := (S 226 15)) rfl (fun r41 => ?_)
                  refine wa_cs (M2 := fun _ => False) rfl at_X_sliceSize ⟨_, rfl⟩ rfl rfl ⟨trivial, (Or.inr ⟨wy_pr rfl, fun q => q⟩), (Or.inr ⟨wy_pr rfl, fun q => q⟩), trivial, trivial, trivial⟩ ⟨trivial, trivial⟩ (fun _ _ q => False.elim q) ?_ (fun _ _ _ q => q)
                  refine wa_lload_n (n := 0) rfl ?_
                  refine wb_l2i_r (y := (K1.2.2.2.2.2.2.length : Int)) (by rw [hb]; exact sl_z ⟨by omega, by omega⟩ ⟨by omega, by omega⟩) ?_
                  refine wa_ireturn rfl ?_
                  show wJ _ _ _ _ _ _ _ _ _ _
                  refine wa_icmplt (w_rg0 (by omega) (by omega)) (w_rg0 (by omega) (by omega)) ⟨_, rfl⟩ (fun c42 => ?_) (fun c42 => ?_)
                  · skip
                    refine wa_aload_n (n := 0) rfl ?_
                    refine wb_gf4 0 rfl (wy_pr rfl) wt_0 wf_10_2 (v := 2) wl_0_2 ?_
                    refine wb_gf4 2 rfl (wy_pr rfl) wt_2 wf_9_0 (v := 3) wl_2_0 ?_
                    refine wa_aload_n (n := 3) rfl ?_
                    refine wb_gfl 226 rfl (wy_pr rfl) wt_226 wf_8_15 (v := (S 226 15)) rfl (fun r43 => ?_)
                    refine wa_cs (M2 := fun _ => False) rfl at_X_sliceStart ⟨_, rfl⟩ rfl rfl ⟨trivial, (Or.inr ⟨wy_pr rfl, fun q => q⟩), (Or.inr ⟨wy_pr rfl, fun q => q⟩), trivial, trivial, trivial⟩ ⟨(Or.inr ⟨wy_pr rfl, fun q => q⟩), trivial⟩ (fun _ _ q => False.elim q) ?_ (fun _ _ _ q => q)
                    refine wa_lload_n (n := 0) rfl ?_
                    refine wa_bipush (w_rg2 (by omega) (by omega)) ?_
                    refine wa_lushr ?_
                    refine wb_l2i_r (y := s) (by rw [hb]; exact sl_s ⟨by omega, by omega⟩ ⟨by omega, by omega⟩) ?_
                    refine wa_ireturn rfl ?_
                    show wJ _ _ _ _ _ _ _ _ _ _
                    refine wa_iload_n (n := 2) rfl ?_
                    refine wa_iadd ?_
                    refine wb_bald 3 rfl (wy_pr rfl) wt_3 (n := (S 3 (-1))) (rfl) (by omega) (by omega) (v := (S 3 (s + i))) rfl (fun r44 => ?_)
                    refine wa_ireturn rfl ?_
                    refine ⟨rfl, congrArg (fun z => Sum.inl (some (0, z))) ?_⟩
                    rw [if_pos (by omega), show tkq K0 K1 1 = K1 from if_neg (by first | decide | omega)]
                    unfold sgW
                    rw [if_pos ⟨by omega, v1n, by omega, by omega⟩]
                    have e1 := he i.toNat (by omega)
                    rw [show ((i.toNat : Nat) : Int) = i by omega] at e1
                    exact e1
                  · skip
                    refine wa_fall ⟨_, rfl⟩ ?_
                    refine wa_iconst ?_
                    refine wa_ireturn rfl ?_
                    refine ⟨rfl, congrArg (fun z => Sum.inl (some (0, z))) ?_⟩
                    rw [if_pos (by omega), show tkq K0 K1 1 = K1 from if_neg (by first | decide | omega)]
                    unfold sgW
                    rw [if_neg (fun z => ?_)]
                    first | omega | (have w1 := (hval z.1).1; omega)
    · skip
      refine wa_fall ⟨_, rfl⟩ ?_
      refine wa_iconst ?_
      refine wa_ireturn rfl ?_
      refine ⟨rfl, congrArg (fun z => Sum.inl (some (0, z))) ?_⟩
      rw [if_neg (by omega)]
end Wig
