/-! PART o9: the law's loop. -/
section Wo9
variable {c : List Int32} {m9 : Nat} {S : wS} {i : Int} {Q : wO → wS → Prop}
theorem wa_icmpee {G : pe_G} {Y : wY} {M : Nat → Prop} {d : Nat} {mt : pe_Mt} {rest : List pe_I} {L : wL} {st : List wv} {x o : Int} {tb : Nat} {is : List pe_I} (hb : w_k mt tb is) (k1 : wJ G Y M d mt is L st S Q) : wJ G Y M d mt (.inr (.inr (.inl ((.if_icmp .eq o), tb))) :: rest) L ((0, x) :: (0, x) :: st) S Q := by
  refine wJ_s (is2 := is) (st2 := st) (fun ad Lc h f _ => ?_) k1
  show (bif pe_c2 .eq (Int32.ofInt x) (Int32.ofInt x) then pe_jmp mt tb _ else _) = _
  rw [show (pe_c2 .eq (Int32.ofInt x) (Int32.ofInt x)) = true from decide_eq_true rfl]
  exact w_jmp hb _
theorem wJ_ex {G : pe_G} {Y : wY} {M : Nat → Prop} {d : Nat} {mt : pe_Mt} {is : List pe_I} {av : List wv} {ad : Nat → Nat} {hp : pe_H} (h : wJ G Y M d mt is (w_args 0 av) [] S Q) (hE : w_E Y ad S hp) : ∃ o S2, Q o S2 := by
  obtain ⟨o, ad2, S2, h2, f0, -, -, -, q⟩ := h ad _ hp hE (w_LL_args ad av 0)
  exact ⟨o, S2, q⟩
theorem wJ_monoE {G : pe_G} {Y : wY} {M : Nat → Prop} {d : Nat} {mt : pe_Mt} {is : List pe_I} {L : wL} {st : List wv} {Q2 : wO → wS → Prop} (h : wJ G Y M d mt is L st S Q) (hq : ∀ o Z ad hp, w_E Y ad Z hp → Q o Z → Q2 o Z) : wJ G Y M d mt is L st S Q2 := by
  intro ad Lc hp hE hL
  obtain ⟨o, ad2, S2, h2, f0, a, b, e, q⟩ := h ad Lc hp hE hL
  exact ⟨o, ad2, S2, h2, f0, a, b, e, hq o S2 ad2 h2 b q⟩
section
variable {G : pe_G} {Y : wY} {M M2 : Nat → Prop} {d d2 : Nat} {mt mt2 : pe_Mt} {is is2 : List pe_I} {L : wL} {st av : List wv} {R : wS → Prop} {k : Nat}
/-- what the class answers is known before the reference is asked -/
theorem kc_s0 {P : Int → wO → wS → Prop} (h : wJ G Y M d mt is L st S (fun o1 Z => wJ G Y M2 d2 mt2 is2 (w_args 0 av) [] Z (fun o2 S2 => (∃ v : Int, o1 = .inl (some (0, v)) ∧ P v o2 S2) ∧ R S2))) : wJ G Y M d mt is L st S (fun o1 Z => ∃ v : Int, o1 = .inl (some (0, v)) ∧ wJ G Y M2 d2 mt2 is2 (w_args 0 av) [] Z (fun o2 S2 => P v o2 S2 ∧ R S2)) := by
  refine wJ_monoE h (fun o1 Z ad hp hE q => ?_)
  obtain ⟨o2, S2, ⟨v, rfl, -⟩, -⟩ := wJ_ex q hE
  refine ⟨v, rfl, wJ_mono q (fun o3 S3 z => ?_)⟩
  obtain ⟨⟨u, e1, e2⟩, r⟩ := z
  cases e1
  exact ⟨e2, r⟩
theorem kc_s {P : Int → wO → wS → Prop} (h : wJ G Y M d mt is L st S (fun o1 Z => ∀ (M2 : Nat → Prop) (d2 : Nat), wJ G Y M2 (d2 + k) mt2 is2 (w_args 0 av) [] Z (fun o2 S2 => (∃ v : Int, o1 = .inl (some (0, v)) ∧ P v o2 S2) ∧ R S2))) (d2 : Nat) : wJ G Y M d mt is L st S (fun o1 Z => ∃ v : Int, o1 = .inl (some (0, v)) ∧ wJ G Y (fun _ => False) (d2 + k) mt2 is2 (w_args 0 av) [] Z (fun o2 S2 => P v o2 S2 ∧ R S2)) := kc_s0 (wJ_mono h (fun o1 Z q => q (fun _ => False) d2))
theorem kc_s1 {P : Int → wO → wS → Prop} (h : wJ G Y M d mt is L st S (fun o1 Z => ∀ d2 : Nat, wJ G Y (fun _ => False) (d2 + k) mt2 is2 (w_args 0 av) [] Z (fun o2 S2 => (∃ v : Int, o1 = .inl (some (0, v)) ∧ P v o2 S2) ∧ R S2))) (d2 : Nat) : wJ G Y M d mt is L st S (fun o1 Z => ∃ v : Int, o1 = .inl (some (0, v)) ∧ wJ G Y (fun _ => False) (d2 + k) mt2 is2 (w_args 0 av) [] Z (fun o2 S2 => P v o2 S2 ∧ R S2)) := kc_s0 (wJ_mono h (fun o1 Z q => q d2))
end
theorem thr_ok {xs : List (Nat × List Int32)} {M : Nat → Prop} {d : Nat} : wJ (pe_GA xs) wY0 M d t_M_thrown ((pe_at t_M_thrown.bl 0).getD (0, [])).2 [(0, (2, 237))] [] S (fun o Z => o = .inl (some (0, S 237 0)) ∧ Z = S ∧ (-2147483648 ≤ S 237 0 ∧ S 237 0 ≤ 2147483647)) := by
  refine wa_aload_n (n := 0) rfl ?_
  refine wb_gfi 237 rfl (wy_pr rfl) wt_237 wf_15_0 (v := (S 237 0)) rfl (fun r1 => ?_)
  refine wa_ireturn rfl ?_
  exact ⟨rfl, rfl, by omega, by omega⟩
theorem RM_pr {xs : List (Nat × List Int32)} (h : RM xs m9 S) : w_pr wY0 S 1000001 := ⟨Or.inr (by rw [RM_o h]; decide), by unfold wG; decide⟩
theorem lc_0 (hl : c.length ≤ 2560) (h : RM (xsA c) m9 S) (hm : m9 < 512) (hi : 0 ≤ i ∧ i + 5 ≤ (c.length : Int)) (nx : ∀ S2, RM (xsA c) (m9 + 1) S2 → wJ (pe_GA (xsA c)) wY0 (fun _ => True) 1100 t_LL_law ((pe_at t_LL_law.bl 36).getD (0, [])).2 [(0, (2, -10 - ((6 : Nat) : Int))), (1, (2, 0)), (2, (2, 237)), (3, (2, ((1000001 : Nat) : Int))), (4, (0, i))] [] S2 Q) : wJ (pe_GA (xsA c)) wY0 (fun _ => True) 1100 t_LL_law ((pe_at t_LL_law.bl 3).getD (0, [])).2 [(0, (2, -10 - ((6 : Nat) : Int))), (1, (2, 0)), (2, (2, 237)), (3, (2, ((1000001 : Nat) : Int))), (4, (0, i))] [] S Q := by
  have hpo := RM_pr h
  have wtr : ∀ k : Int, -2147483648 ≤ w_tx c k ∧ w_tx c k ≤ 2147483647 := fun k => w_tx_rg c k
  refine wa_aload_n (n := 1) rfl ?_
  refine wa_aload_n (n := 0) rfl ?_
  refine wa_iload (n := 4) rfl ?_
  refine wa_iconst ?_
  refine wa_iadd ?_
  refine wa_xald 6 rfl (xsA_x6 c) (by omega) (by omega) (by omega) ?_
  refine wa_i2l (w_tx_rg c _) ?_
  refine wa_bipush (w_rg2 (by omega) (by omega)) ?_
  refine wa_lshl ?_
  refine wa_aload_n (n := 0) rfl ?_
  refine wa_iload (n := 4) rfl ?_
  refine wa_iconst ?_
  refine wa_iadd ?_
  refine wa_xald 6 rfl (xsA_x6 c) (by omega) (by omega) (by omega) ?_
  refine wa_i2l (w_tx_rg c _) ?_
  refine wa_kl ?_
  refine wa_land ?_
  refine wa_lor ?_
  refine wa_aload_n (n := 0) rfl ?_
  refine wa_iload (n := 4) rfl ?_
  refine wa_iconst ?_
  refine wa_iadd ?_
  refine wa_xald 6 rfl (xsA_x6 c) (by omega) (by omega) (by omega) ?_
  refine wa_i2l (w_tx_rg c _) ?_
  refine wa_bipush (w_rg2 (by omega) (by omega)) ?_
  refine wa_lshl ?_
  refine wa_aload_n (n := 0) rfl ?_
  refine wa_iload (n := 4) rfl ?_
  refine wa_iconst ?_
  refine wa_iadd ?_
  refine wa_xald 6 rfl (xsA_x6 c) (by omega) (by omega) (by omega) ?_
  refine wa_i2l (w_tx_rg c _) ?_
  refine wa_kl ?_
  refine wa_land ?_
  refine wa_lor ?_
  refine wa_cv 0 rfl (wy_pr rfl) wt_0 (M2 := mS [1]) rfl at_X_feed ⟨_, rfl⟩ rfl rfl ⟨Or.inl (by decide), Or.inr ⟨wy_pr rfl, mS_no rfl⟩, Or.inr ⟨wy_pr rfl, mS_no rfl⟩, Or.inr ⟨hpo, mS_no rfl⟩, trivial, trivial⟩ trivial (fun _ _ _ => trivial) (kc_s (av := [(2, 237), (1, (wb_lor (wb_lshl (w_tx c (i + 1)) 32) (wb_land (w_tx c (i + 2)) (4294967295 : Int64).toInt))), (1, (wb_lor (wb_lshl (w_tx c (i + 3)) 32) (wb_land (w_tx c (i + 4)) (4294967295 : Int64).toInt)))]) (k := 2) (P := fun v o2 _ => o2 = .inl (some (0, v))) (R := fun S2 => RM (xsA c) (m9 + 1) S2) (wJ_mono (kc0 (d := 1096) h hm) (fun o1 Z q M2 d2 => q M2 d2 (wb_lor_rg _ _) (wb_lor_rg _ _))) 1097) (fun o1 Z hp1 q1 => ?_)
  obtain ⟨v, rfl, k2⟩ := q1
  show wJ _ _ _ _ _ _ _ _ _ _
  have hpz := hp1 1000001 hpo
  refine wa_aload_n (n := 2) rfl ?_
  refine wa_aload_n (n := 0) rfl ?_
  refine wa_iload (n := 4) rfl ?_
  refine wa_iconst ?_
  refine wa_fall ⟨_, rfl⟩ ?_
  refine wa_iadd ?_
  refine wa_xald 6 rfl (xsA_x6 c) (by omega) (by omega) (by omega) ?_
  refine wa_i2l (w_tx_rg c _) ?_
  refine wa_bipush (w_rg2 (by omega) (by omega)) ?_
  refine wa_lshl ?_
  refine wa_aload_n (n := 0) rfl ?_
  refine wa_iload (n := 4) rfl ?_
  refine wa_iconst ?_
  refine wa_iadd ?_
  refine wa_xald 6 rfl (xsA_x6 c) (by omega) (by omega) (by omega) ?_
  refine wa_i2l (w_tx_rg c _) ?_
  refine wa_kl ?_
  refine wa_land ?_
  refine wa_lor ?_
  refine wa_aload_n (n := 0) rfl ?_
  refine wa_iload (n := 4) rfl ?_
  refine wa_iconst ?_
  refine wa_iadd ?_
  refine wa_xald 6 rfl (xsA_x6 c) (by omega) (by omega) (by omega) ?_
  refine wa_i2l (w_tx_rg c _) ?_
  refine wa_bipush (w_rg2 (by omega) (by omega)) ?_
  refine wa_lshl ?_
  refine wa_aload_n (n := 0) rfl ?_
  refine wa_iload (n := 4) rfl ?_
  refine wa_iconst ?_
  refine wa_iadd ?_
  refine wa_xald 6 rfl (xsA_x6 c) (by omega) (by omega) (by omega) ?_
  refine wa_i2l (w_tx_rg c _) ?_
  refine wa_kl ?_
  refine wa_land ?_
  refine wa_lor ?_
  refine wa_cv 237 rfl (wy_pr rfl) wt_237 (M2 := fun _ => False) rfl at_M_feed ⟨_, rfl⟩ rfl rfl ⟨Or.inl (by decide), Or.inr ⟨wy_pr rfl, fun q => q⟩, Or.inr ⟨wy_pr rfl, fun q => q⟩, Or.inr ⟨hpz, fun q => q⟩, trivial, trivial⟩ ⟨trivial, trivial⟩ (fun _ _ _ => trivial) k2 (fun o2 S2 hp2 q2 => ?_)
  obtain ⟨rfl, hR⟩ := q2
  show wJ _ _ _ _ _ _ _ _ _ _
  have hpy := hp2 1000001 hpz
  refine wa_icmpee ⟨_, rfl⟩ ?_
  exact nx S2 hR
theorem lc_1_73 (hl : c.length ≤ 2560) (h : RM (xsA c) m9 S) (hm : m9 < 512) (hi : 0 ≤ i ∧ i + 5 ≤ (c.length : Int)) (h72 : S 72 1 = 73) (nx : ∀ S2, RM (xsA c) (m9 + 1) S2 → wJ (pe_GA (xsA c)) wY0 (fun _ => True) 1100 t_LL_law ((pe_at t_LL_law.bl 36).getD (0, [])).2 [(0, (2, -10 - ((6 : Nat) : Int))), (1, (2, 0)), (2, (2, 237)), (3, (2, ((1000001 : Nat) : Int))), (4, (0, i))] [] S2 Q) : wJ (pe_GA (xsA c)) wY0 (fun _ => True) 1100 t_LL_law ((pe_at t_LL_law.bl 5).getD (0, [])).2 [(0, (2, -10 - ((6 : Nat) : Int))), (1, (2, 0)), (2, (2, 237)), (3, (2, ((1000001 : Nat) : Int))), (4, (0, i))] [] S Q := by
  have hpo := RM_pr h
  have wtr : ∀ k : Int, -2147483648 ≤ w_tx c k ∧ w_tx c k ≤ 2147483647 := fun k => w_tx_rg c k
  refine wa_aload_n (n := 1) rfl ?_
  refine wa_cv 0 rfl (wy_pr rfl) wt_0 (M2 := mS [15, 16, 17, 164, 165, 166, 167, 168, 169, 206, 207]) rfl at_X_host ⟨_, rfl⟩ rfl rfl ⟨Or.inl (by decide), Or.inr ⟨wy_pr rfl, mS_no rfl⟩, Or.inr ⟨wy_pr rfl, mS_no rfl⟩, Or.inr ⟨hpo, mS_no rfl⟩, trivial, trivial⟩ trivial (fun _ _ _ => trivial) (kc_s (av := [(2, 237)]) (k := 9) (P := fun v o2 _ => o2 = .inl (some (0, v))) (R := fun S2 => RM (xsA c) (m9 + 1) S2) (kc1_73 (d := 1085) h hm h72 (hwB_162_ok S)) 1090) (fun o1 Z hp1 q1 => ?_)
  obtain ⟨v, rfl, k2⟩ := q1
  show wJ _ _ _ _ _ _ _ _ _ _
  have hpz := hp1 1000001 hpo
  refine wa_aload_n (n := 2) rfl ?_
  refine wa_cv 237 rfl (wy_pr rfl) wt_237 (M2 := fun _ => False) rfl at_M_host ⟨_, rfl⟩ rfl rfl ⟨Or.inl (by decide), Or.inr ⟨wy_pr rfl, fun q => q⟩, Or.inr ⟨wy_pr rfl, fun q => q⟩, Or.inr ⟨hpz, fun q => q⟩, trivial, trivial⟩ ⟨trivial, trivial⟩ (fun _ _ _ => trivial) k2 (fun o2 S2 hp2 q2 => ?_)
  obtain ⟨rfl, hR⟩ := q2
  show wJ _ _ _ _ _ _ _ _ _ _
  have hpy := hp2 1000001 hpz
  refine wa_icmpee ⟨_, rfl⟩ ?_
  exact nx S2 hR
theorem lc_1_162 (hl : c.length ≤ 2560) (h : RM (xsA c) m9 S) (hm : m9 < 512) (hi : 0 ≤ i ∧ i + 5 ≤ (c.length : Int)) (h72 : S 72 1 = 162) (nx : ∀ S2, RM (xsA c) (m9 + 1) S2 → wJ (pe_GA (xsA c)) wY0 (fun _ => True) 1100 t_LL_law ((pe_at t_LL_law.bl 36).getD (0, [])).2 [(0, (2, -10 - ((6 : Nat) : Int))), (1, (2, 0)), (2, (2, 237)), (3, (2, ((1000001 : Nat) : Int))), (4, (0, i))] [] S2 Q) : wJ (pe_GA (xsA c)) wY0 (fun _ => True) 1100 t_LL_law ((pe_at t_LL_law.bl 5).getD (0, [])).2 [(0, (2, -10 - ((6 : Nat) : Int))), (1, (2, 0)), (2, (2, 237)), (3, (2, ((1000001 : Nat) : Int))), (4, (0, i))] [] S Q := by
  have hpo := RM_pr h
  have wtr : ∀ k : Int, -2147483648 ≤ w_tx c k ∧ w_tx c k ≤ 2147483647 := fun k => w_tx_rg c k
  refine wa_aload_n (n := 1) rfl ?_
  refine wa_cv 0 rfl (wy_pr rfl) wt_0 (M2 := mS [15, 16, 17, 75, 76, 77, 78, 79, 80, 117, 118]) rfl at_X_host ⟨_, rfl⟩ rfl rfl ⟨Or.inl (by decide), Or.inr ⟨wy_pr rfl, mS_no rfl⟩, Or.inr ⟨wy_pr rfl, mS_no rfl⟩, Or.inr ⟨hpo, mS_no rfl⟩, trivial, trivial⟩ trivial (fun _ _ _ => trivial) (kc_s (av := [(2, 237)]) (k := 9) (P := fun v o2 _ => o2 = .inl (some (0, v))) (R := fun S2 => RM (xsA c) (m9 + 1) S2) (kc1_162 (d := 1085) h hm h72 (hwB_73_ok S)) 1090) (fun o1 Z hp1 q1 => ?_)
  obtain ⟨v, rfl, k2⟩ := q1
  show wJ _ _ _ _ _ _ _ _ _ _
  have hpz := hp1 1000001 hpo
  refine wa_aload_n (n := 2) rfl ?_
  refine wa_cv 237 rfl (wy_pr rfl) wt_237 (M2 := fun _ => False) rfl at_M_host ⟨_, rfl⟩ rfl rfl ⟨Or.inl (by decide), Or.inr ⟨wy_pr rfl, fun q => q⟩, Or.inr ⟨wy_pr rfl, fun q => q⟩, Or.inr ⟨hpz, fun q => q⟩, trivial, trivial⟩ ⟨trivial, trivial⟩ (fun _ _ _ => trivial) k2 (fun o2 S2 hp2 q2 => ?_)
  obtain ⟨rfl, hR⟩ := q2
  show wJ _ _ _ _ _ _ _ _ _ _
  have hpy := hp2 1000001 hpz
  refine wa_icmpee ⟨_, rfl⟩ ?_
  exact nx S2 hR
theorem lc_2 (hl : c.length ≤ 2560) (h : RM (xsA c) m9 S) (hm : m9 < 512) (hi : 0 ≤ i ∧ i + 5 ≤ (c.length : Int)) (nx : ∀ S2, RM (xsA c) (m9 + 1) S2 → wJ (pe_GA (xsA c)) wY0 (fun _ => True) 1100 t_LL_law ((pe_at t_LL_law.bl 36).getD (0, [])).2 [(0, (2, -10 - ((6 : Nat) : Int))), (1, (2, 0)), (2, (2, 237)), (3, (2, ((1000001 : Nat) : Int))), (4, (0, i))] [] S2 Q) : wJ (pe_GA (xsA c)) wY0 (fun _ => True) 1100 t_LL_law ((pe_at t_LL_law.bl 6).getD (0, [])).2 [(0, (2, -10 - ((6 : Nat) : Int))), (1, (2, 0)), (2, (2, 237)), (3, (2, ((1000001 : Nat) : Int))), (4, (0, i))] [] S Q := by
  have hpo := RM_pr h
  have wtr : ∀ k : Int, -2147483648 ≤ w_tx c k ∧ w_tx c k ≤ 2147483647 := fun k => w_tx_rg c k
  refine wa_aload_n (n := 1) rfl ?_
  refine wa_aload_n (n := 0) rfl ?_
  refine wa_iload (n := 4) rfl ?_
  refine wa_iconst ?_
  refine wa_iadd ?_
  refine wa_xald 6 rfl (xsA_x6 c) (by omega) (by omega) (by omega) ?_
  refine wa_aload_n (n := 0) rfl ?_
  refine wa_iload (n := 4) rfl ?_
  refine wa_iconst ?_
  refine wa_iadd ?_
  refine wa_xald 6 rfl (xsA_x6 c) (by omega) (by omega) (by omega) ?_
  refine wa_cv 0 rfl (wy_pr rfl) wt_0 (M2 := fun _ => False) rfl at_X_type ⟨_, rfl⟩ rfl rfl ⟨Or.inl (by decide), Or.inr ⟨wy_pr rfl, fun q => q⟩, Or.inr ⟨wy_pr rfl, fun q => q⟩, Or.inr ⟨hpo, fun q => q⟩, trivial, trivial⟩ trivial (fun _ _ _ => trivial) (kc_s (av := [(2, 237), (0, (w_tx c (i + 1))), (0, (w_tx c (i + 2)))]) (k := 1) (P := fun v o2 _ => o2 = .inl (some (0, v))) (R := fun S2 => RM (xsA c) (m9 + 1) S2) (kc2 (d := 1098) (M := fun _ => False) h hm (wtr (i + 1)) (wtr (i + 2))) 1098) (fun o1 Z hp1 q1 => ?_)
  obtain ⟨v, rfl, k2⟩ := q1
  show wJ _ _ _ _ _ _ _ _ _ _
  have hpz := hp1 1000001 hpo
  refine wa_aload_n (n := 2) rfl ?_
  refine wa_aload_n (n := 0) rfl ?_
  refine wa_iload (n := 4) rfl ?_
  refine wa_iconst ?_
  refine wa_iadd ?_
  refine wa_xald 6 rfl (xsA_x6 c) (by omega) (by omega) (by omega) ?_
  refine wa_aload_n (n := 0) rfl ?_
  refine wa_iload (n := 4) rfl ?_
  refine wa_iconst ?_
  refine wa_iadd ?_
  refine wa_xald 6 rfl (xsA_x6 c) (by omega) (by omega) (by omega) ?_
  refine wa_cv 237 rfl (wy_pr rfl) wt_237 (M2 := fun _ => False) rfl at_M_type ⟨_, rfl⟩ rfl rfl ⟨Or.inl (by decide), Or.inr ⟨wy_pr rfl, fun q => q⟩, Or.inr ⟨wy_pr rfl, fun q => q⟩, Or.inr ⟨hpz, fun q => q⟩, trivial, trivial⟩ ⟨trivial, trivial⟩ (fun _ _ _ => trivial) k2 (fun o2 S2 hp2 q2 => ?_)
  obtain ⟨rfl, hR⟩ := q2
  show wJ _ _ _ _ _ _ _ _ _ _
  have hpy := hp2 1000001 hpz
  refine wa_icmpee ⟨_, rfl⟩ ?_
  exact nx S2 hR
theorem lc_3 (hl : c.length ≤ 2560) (h : RM (xsA c) m9 S) (hm : m9 < 512) (hi : 0 ≤ i ∧ i + 5 ≤ (c.length : Int)) (nx : ∀ S2, RM (xsA c) (m9 + 1) S2 → wJ (pe_GA (xsA c)) wY0 (fun _ => True) 1100 t_LL_law ((pe_at t_LL_law.bl 36).getD (0, [])).2 [(0, (2, -10 - ((6 : Nat) : Int))), (1, (2, 0)), (2, (2, 237)), (3, (2, ((1000001 : Nat) : Int))), (4, (0, i))] [] S2 Q) : wJ (pe_GA (xsA c)) wY0 (fun _ => True) 1100 t_LL_law ((pe_at t_LL_law.bl 7).getD (0, [])).2 [(0, (2, -10 - ((6 : Nat) : Int))), (1, (2, 0)), (2, (2, 237)), (3, (2, ((1000001 : Nat) : Int))), (4, (0, i))] [] S Q := by
  have hpo := RM_pr h
  have wtr : ∀ k : Int, -2147483648 ≤ w_tx c k ∧ w_tx c k ≤ 2147483647 := fun k => w_tx_rg c k
  refine wa_aload_n (n := 1) rfl ?_
  refine wa_aload_n (n := 0) rfl ?_
  refine wa_iload (n := 4) rfl ?_
  refine wa_iconst ?_
  refine wa_iadd ?_
  refine wa_xald 6 rfl (xsA_x6 c) (by omega) (by omega) (by omega) ?_
  refine wa_aload_n (n := 0) rfl ?_
  refine wa_iload (n := 4) rfl ?_
  refine wa_iconst ?_
  refine wa_iadd ?_
  refine wa_xald 6 rfl (xsA_x6 c) (by omega) (by omega) (by omega) ?_
  refine wa_cv 0 rfl (wy_pr rfl) wt_0 (M2 := fun _ => False) rfl at_X_member ⟨_, rfl⟩ rfl rfl ⟨Or.inl (by decide), Or.inr ⟨wy_pr rfl, fun q => q⟩, Or.inr ⟨wy_pr rfl, fun q => q⟩, Or.inr ⟨hpo, fun q => q⟩, trivial, trivial⟩ trivial (fun _ _ _ => trivial) (kc_s (av := [(2, 237), (0, (w_tx c (i + 1))), (0, (w_tx c (i + 2)))]) (k := 1) (P := fun v o2 _ => o2 = .inl (some (0, v))) (R := fun S2 => RM (xsA c) (m9 + 1) S2) (kc3 (d := 1098) (M := fun _ => False) h hm (wtr (i + 1)) (wtr (i + 2))) 1098) (fun o1 Z hp1 q1 => ?_)
  obtain ⟨v, rfl, k2⟩ := q1
  show wJ _ _ _ _ _ _ _ _ _ _
  have hpz := hp1 1000001 hpo
  refine wa_aload_n (n := 2) rfl ?_
  refine wa_aload_n (n := 0) rfl ?_
  refine wa_iload (n := 4) rfl ?_
  refine wa_iconst ?_
  refine wa_iadd ?_
  refine wa_xald 6 rfl (xsA_x6 c) (by omega) (by omega) (by omega) ?_
  refine wa_aload_n (n := 0) rfl ?_
  refine wa_iload (n := 4) rfl ?_
  refine wa_iconst ?_
  refine wa_iadd ?_
  refine wa_xald 6 rfl (xsA_x6 c) (by omega) (by omega) (by omega) ?_
  refine wa_cv 237 rfl (wy_pr rfl) wt_237 (M2 := fun _ => False) rfl at_M_member ⟨_, rfl⟩ rfl rfl ⟨Or.inl (by decide), Or.inr ⟨wy_pr rfl, fun q => q⟩, Or.inr ⟨wy_pr rfl, fun q => q⟩, Or.inr ⟨hpz, fun q => q⟩, trivial, trivial⟩ ⟨trivial, trivial⟩ (fun _ _ _ => trivial) k2 (fun o2 S2 hp2 q2 => ?_)
  obtain ⟨rfl, hR⟩ := q2
  show wJ _ _ _ _ _ _ _ _ _ _
  have hpy := hp2 1000001 hpz
  refine wa_icmpee ⟨_, rfl⟩ ?_
  exact nx S2 hR
theorem lc_4 (hl : c.length ≤ 2560) (h : RM (xsA c) m9 S) (hm : m9 < 512) (hi : 0 ≤ i ∧ i + 5 ≤ (c.length : Int)) (nx : ∀ S2, RM (xsA c) (m9 + 1) S2 → wJ (pe_GA (xsA c)) wY0 (fun _ => True) 1100 t_LL_law ((pe_at t_LL_law.bl 36).getD (0, [])).2 [(0, (2, -10 - ((6 : Nat) : Int))), (1, (2, 0)), (2, (2, 237)), (3, (2, ((1000001 : Nat) : Int))), (4, (0, i))] [] S2 Q) : wJ (pe_GA (xsA c)) wY0 (fun _ => True) 1100 t_LL_law ((pe_at t_LL_law.bl 8).getD (0, [])).2 [(0, (2, -10 - ((6 : Nat) : Int))), (1, (2, 0)), (2, (2, 237)), (3, (2, ((1000001 : Nat) : Int))), (4, (0, i))] [] S Q := by
  have hpo := RM_pr h
  have wtr : ∀ k : Int, -2147483648 ≤ w_tx c k ∧ w_tx c k ≤ 2147483647 := fun k => w_tx_rg c k
  refine wa_aload_n (n := 1) rfl ?_
  refine wa_aload_n (n := 0) rfl ?_
  refine wa_iload (n := 4) rfl ?_
  refine wa_iconst ?_
  refine wa_iadd ?_
  refine wa_xald 6 rfl (xsA_x6 c) (by omega) (by omega) (by omega) ?_
  refine wa_aload_n (n := 0) rfl ?_
  refine wa_iload (n := 4) rfl ?_
  refine wa_iconst ?_
  refine wa_iadd ?_
  refine wa_xald 6 rfl (xsA_x6 c) (by omega) (by omega) (by omega) ?_
  refine wa_cv 0 rfl (wy_pr rfl) wt_0 (M2 := fun _ => False) rfl at_X_subtype ⟨_, rfl⟩ rfl rfl ⟨Or.inl (by decide), Or.inr ⟨wy_pr rfl, fun q => q⟩, Or.inr ⟨wy_pr rfl, fun q => q⟩, Or.inr ⟨hpo, fun q => q⟩, trivial, trivial⟩ trivial (fun _ _ _ => trivial) (kc_s (av := [(2, 237), (0, (w_tx c (i + 1))), (0, (w_tx c (i + 2)))]) (k := 1) (P := fun v o2 _ => o2 = .inl (some (0, v))) (R := fun S2 => RM (xsA c) (m9 + 1) S2) (kc4 (d := 1098) (M := fun _ => False) h hm (wtr (i + 1)) (wtr (i + 2))) 1098) (fun o1 Z hp1 q1 => ?_)
  obtain ⟨v, rfl, k2⟩ := q1
  show wJ _ _ _ _ _ _ _ _ _ _
  have hpz := hp1 1000001 hpo
  refine wa_aload_n (n := 2) rfl ?_
  refine wa_aload_n (n := 0) rfl ?_
  refine wa_iload (n := 4) rfl ?_
  refine wa_iconst ?_
  refine wa_iadd ?_
  refine wa_xald 6 rfl (xsA_x6 c) (by omega) (by omega) (by omega) ?_
  refine wa_aload_n (n := 0) rfl ?_
  refine wa_iload (n := 4) rfl ?_
  refine wa_iconst ?_
  refine wa_iadd ?_
  refine wa_xald 6 rfl (xsA_x6 c) (by omega) (by omega) (by omega) ?_
  refine wa_cv 237 rfl (wy_pr rfl) wt_237 (M2 := fun _ => False) rfl at_M_subtype ⟨_, rfl⟩ rfl rfl ⟨Or.inl (by decide), Or.inr ⟨wy_pr rfl, fun q => q⟩, Or.inr ⟨wy_pr rfl, fun q => q⟩, Or.inr ⟨hpz, fun q => q⟩, trivial, trivial⟩ ⟨trivial, trivial⟩ (fun _ _ _ => trivial) k2 (fun o2 S2 hp2 q2 => ?_)
  obtain ⟨rfl, hR⟩ := q2
  show wJ _ _ _ _ _ _ _ _ _ _
  have hpy := hp2 1000001 hpz
  refine wa_icmpee ⟨_, rfl⟩ ?_
  exact nx S2 hR
theorem lc_5 (hl : c.length ≤ 2560) (h : RM (xsA c) m9 S) (hm : m9 < 512) (hi : 0 ≤ i ∧ i + 5 ≤ (c.length : Int)) (nx : ∀ S2, RM (xsA c) (m9 + 1) S2 → wJ (pe_GA (xsA c)) wY0 (fun _ => True) 1100 t_LL_law ((pe_at t_LL_law.bl 36).getD (0, [])).2 [(0, (2, -10 - ((6 : Nat) : Int))), (1, (2, 0)), (2, (2, 237)), (3, (2, ((1000001 : Nat) : Int))), (4, (0, i))] [] S2 Q) : wJ (pe_GA (xsA c)) wY0 (fun _ => True) 1100 t_LL_law ((pe_at t_LL_law.bl 9).getD (0, [])).2 [(0, (2, -10 - ((6 : Nat) : Int))), (1, (2, 0)), (2, (2, 237)), (3, (2, ((1000001 : Nat) : Int))), (4, (0, i))] [] S Q := by
  have hpo := RM_pr h
  have wtr : ∀ k : Int, -2147483648 ≤ w_tx c k ∧ w_tx c k ≤ 2147483647 := fun k => w_tx_rg c k
  refine wa_aload_n (n := 1) rfl ?_
  refine wa_cv 0 rfl (wy_pr rfl) wt_0 (M2 := mS [3, 4, 5, 6, 7, 8, 9, 10, 15, 16, 17, 64, 65, 66, 67, 69, 70, 31, 32, 33, 35, 36, 37, 38, 39, 40, 41, 42, 43, 44, 45, 46, 58, 59]) rfl at_X_compile ⟨_, rfl⟩ rfl rfl ⟨Or.inl (by decide), Or.inr ⟨wy_pr rfl, mS_no rfl⟩, Or.inr ⟨wy_pr rfl, mS_no rfl⟩, Or.inr ⟨hpo, mS_no rfl⟩, trivial, trivial⟩ trivial (fun _ _ _ => trivial) (kc_s1 (av := [(2, 237)]) (k := 1061) (P := fun v o2 _ => o2 = .inl (some (0, v))) (R := fun S2 => RM (xsA c) (m9 + 1) S2) (kc5 (d := 553) h hm (xsA_x101 c) (xsA_x107 c) ) 38) (fun o1 Z hp1 q1 => ?_)
  obtain ⟨v, rfl, k2⟩ := q1
  show wJ _ _ _ _ _ _ _ _ _ _
  have hpz := hp1 1000001 hpo
  refine wa_aload_n (n := 2) rfl ?_
  refine wa_cv 237 rfl (wy_pr rfl) wt_237 (M2 := fun _ => False) rfl at_M_compile ⟨_, rfl⟩ rfl rfl ⟨Or.inl (by decide), Or.inr ⟨wy_pr rfl, fun q => q⟩, Or.inr ⟨wy_pr rfl, fun q => q⟩, Or.inr ⟨hpz, fun q => q⟩, trivial, trivial⟩ ⟨trivial, trivial⟩ (fun _ _ _ => trivial) k2 (fun o2 S2 hp2 q2 => ?_)
  obtain ⟨rfl, hR⟩ := q2
  show wJ _ _ _ _ _ _ _ _ _ _
  have hpy := hp2 1000001 hpz
  refine wa_icmpee ⟨_, rfl⟩ ?_
  exact nx S2 hR
theorem lc_6 (hl : c.length ≤ 2560) (h : RM (xsA c) m9 S) (hm : m9 < 512) (hi : 0 ≤ i ∧ i + 5 ≤ (c.length : Int)) (nx : ∀ S2, RM (xsA c) (m9 + 1) S2 → wJ (pe_GA (xsA c)) wY0 (fun _ => True) 1100 t_LL_law ((pe_at t_LL_law.bl 36).getD (0, [])).2 [(0, (2, -10 - ((6 : Nat) : Int))), (1, (2, 0)), (2, (2, 237)), (3, (2, ((1000001 : Nat) : Int))), (4, (0, i))] [] S2 Q) : wJ (pe_GA (xsA c)) wY0 (fun _ => True) 1100 t_LL_law ((pe_at t_LL_law.bl 10).getD (0, [])).2 [(0, (2, -10 - ((6 : Nat) : Int))), (1, (2, 0)), (2, (2, 237)), (3, (2, ((1000001 : Nat) : Int))), (4, (0, i))] [] S Q := by
  have hpo := RM_pr h
  have wtr : ∀ k : Int, -2147483648 ≤ w_tx c k ∧ w_tx c k ≤ 2147483647 := fun k => w_tx_rg c k
  refine wa_aload_n (n := 1) rfl ?_
  refine wa_aload_n (n := 0) rfl ?_
  refine wa_iload (n := 4) rfl ?_
  refine wa_iconst ?_
  refine wa_iadd ?_
  refine wa_xald 6 rfl (xsA_x6 c) (by omega) (by omega) (by omega) ?_
  refine wa_aload_n (n := 0) rfl ?_
  refine wa_iload (n := 4) rfl ?_
  refine wa_iconst ?_
  refine wa_iadd ?_
  refine wa_xald 6 rfl (xsA_x6 c) (by omega) (by omega) (by omega) ?_
  refine wa_cv 0 rfl (wy_pr rfl) wt_0 (M2 := fun _ => False) rfl at_X_function ⟨_, rfl⟩ rfl rfl ⟨Or.inl (by decide), Or.inr ⟨wy_pr rfl, fun q => q⟩, Or.inr ⟨wy_pr rfl, fun q => q⟩, Or.inr ⟨hpo, fun q => q⟩, trivial, trivial⟩ trivial (fun _ _ _ => trivial) (kc_s (av := [(2, 237), (0, (w_tx c (i + 1))), (0, (w_tx c (i + 2)))]) (k := 1) (P := fun v o2 _ => o2 = .inl (some (0, v))) (R := fun S2 => RM (xsA c) (m9 + 1) S2) (kc6 (d := 1099) (M := fun _ => False) h hm (wtr (i + 1)) (wtr (i + 2))) 1098) (fun o1 Z hp1 q1 => ?_)
  obtain ⟨v, rfl, k2⟩ := q1
  show wJ _ _ _ _ _ _ _ _ _ _
  have hpz := hp1 1000001 hpo
  refine wa_aload_n (n := 2) rfl ?_
  refine wa_aload_n (n := 0) rfl ?_
  refine wa_iload (n := 4) rfl ?_
  refine wa_iconst ?_
  refine wa_iadd ?_
  refine wa_xald 6 rfl (xsA_x6 c) (by omega) (by omega) (by omega) ?_
  refine wa_aload_n (n := 0) rfl ?_
  refine wa_iload (n := 4) rfl ?_
  refine wa_iconst ?_
  refine wa_iadd ?_
  refine wa_xald 6 rfl (xsA_x6 c) (by omega) (by omega) (by omega) ?_
  refine wa_cv 237 rfl (wy_pr rfl) wt_237 (M2 := fun _ => False) rfl at_M_function ⟨_, rfl⟩ rfl rfl ⟨Or.inl (by decide), Or.inr ⟨wy_pr rfl, fun q => q⟩, Or.inr ⟨wy_pr rfl, fun q => q⟩, Or.inr ⟨hpz, fun q => q⟩, trivial, trivial⟩ ⟨trivial, trivial⟩ (fun _ _ _ => trivial) k2 (fun o2 S2 hp2 q2 => ?_)
  obtain ⟨rfl, hR⟩ := q2
  show wJ _ _ _ _ _ _ _ _ _ _
  have hpy := hp2 1000001 hpz
  refine wa_icmpee ⟨_, rfl⟩ ?_
  exact nx S2 hR
theorem lc_7 (hl : c.length ≤ 2560) (h : RM (xsA c) m9 S) (hm : m9 < 512) (hi : 0 ≤ i ∧ i + 5 ≤ (c.length : Int)) (nx : ∀ S2, RM (xsA c) (m9 + 1) S2 → wJ (pe_GA (xsA c)) wY0 (fun _ => True) 1100 t_LL_law ((pe_at t_LL_law.bl 36).getD (0, [])).2 [(0, (2, -10 - ((6 : Nat) : Int))), (1, (2, 0)), (2, (2, 237)), (3, (2, ((1000001 : Nat) : Int))), (4, (0, i))] [] S2 Q) : wJ (pe_GA (xsA c)) wY0 (fun _ => True) 1100 t_LL_law ((pe_at t_LL_law.bl 11).getD (0, [])).2 [(0, (2, -10 - ((6 : Nat) : Int))), (1, (2, 0)), (2, (2, 237)), (3, (2, ((1000001 : Nat) : Int))), (4, (0, i))] [] S Q := by
  have hpo := RM_pr h
  have wtr : ∀ k : Int, -2147483648 ≤ w_tx c k ∧ w_tx c k ≤ 2147483647 := fun k => w_tx_rg c k
  refine wa_aload_n (n := 1) rfl ?_
  refine wa_aload_n (n := 0) rfl ?_
  refine wa_iload (n := 4) rfl ?_
  refine wa_iconst ?_
  refine wa_iadd ?_
  refine wa_xald 6 rfl (xsA_x6 c) (by omega) (by omega) (by omega) ?_
  refine wa_aload_n (n := 0) rfl ?_
  refine wa_iload (n := 4) rfl ?_
  refine wa_iconst ?_
  refine wa_iadd ?_
  refine wa_xald 6 rfl (xsA_x6 c) (by omega) (by omega) (by omega) ?_
  refine wa_aload_n (n := 0) rfl ?_
  refine wa_iload (n := 4) rfl ?_
  refine wa_iconst ?_
  refine wa_iadd ?_
  refine wa_xald 6 rfl (xsA_x6 c) (by omega) (by omega) (by omega) ?_
  refine wa_cv 0 rfl (wy_pr rfl) wt_0 (M2 := fun _ => False) rfl at_X_code ⟨_, rfl⟩ rfl rfl ⟨Or.inl (by decide), Or.inr ⟨wy_pr rfl, fun q => q⟩, Or.inr ⟨wy_pr rfl, fun q => q⟩, Or.inr ⟨hpo, fun q => q⟩, trivial, trivial⟩ trivial (fun _ _ _ => trivial) (kc_s (av := [(2, 237), (0, (w_tx c (i + 1))), (0, (w_tx c (i + 2))), (0, (w_tx c (i + 3)))]) (k := 1) (P := fun v o2 _ => o2 = .inl (some (0, v))) (R := fun S2 => RM (xsA c) (m9 + 1) S2) (kc7 (d := 1099) (M := fun _ => False) h hm (wtr (i + 1)) (wtr (i + 2)) (wtr (i + 3))) 1098) (fun o1 Z hp1 q1 => ?_)
  obtain ⟨v, rfl, k2⟩ := q1
  show wJ _ _ _ _ _ _ _ _ _ _
  have hpz := hp1 1000001 hpo
  refine wa_aload_n (n := 2) rfl ?_
  refine wa_aload_n (n := 0) rfl ?_
  refine wa_iload (n := 4) rfl ?_
  refine wa_iconst ?_
  refine wa_iadd ?_
  refine wa_xald 6 rfl (xsA_x6 c) (by omega) (by omega) (by omega) ?_
  refine wa_aload_n (n := 0) rfl ?_
  refine wa_iload (n := 4) rfl ?_
  refine wa_iconst ?_
  refine wa_iadd ?_
  refine wa_xald 6 rfl (xsA_x6 c) (by omega) (by omega) (by omega) ?_
  refine wa_aload_n (n := 0) rfl ?_
  refine wa_iload (n := 4) rfl ?_
  refine wa_iconst ?_
  refine wa_iadd ?_
  refine wa_xald 6 rfl (xsA_x6 c) (by omega) (by omega) (by omega) ?_
  refine wa_cv 237 rfl (wy_pr rfl) wt_237 (M2 := fun _ => False) rfl at_M_code ⟨_, rfl⟩ rfl rfl ⟨Or.inl (by decide), Or.inr ⟨wy_pr rfl, fun q => q⟩, Or.inr ⟨wy_pr rfl, fun q => q⟩, Or.inr ⟨hpz, fun q => q⟩, trivial, trivial⟩ ⟨trivial, trivial⟩ (fun _ _ _ => trivial) k2 (fun o2 S2 hp2 q2 => ?_)
  obtain ⟨rfl, hR⟩ := q2
  show wJ _ _ _ _ _ _ _ _ _ _
  have hpy := hp2 1000001 hpz
  refine wa_icmpee ⟨_, rfl⟩ ?_
  exact nx S2 hR
theorem lc_8 (hl : c.length ≤ 2560) (h : RM (xsA c) m9 S) (hm : m9 < 512) (hi : 0 ≤ i ∧ i + 5 ≤ (c.length : Int)) (nx : ∀ S2, RM (xsA c) (m9 + 1) S2 → wJ (pe_GA (xsA c)) wY0 (fun _ => True) 1100 t_LL_law ((pe_at t_LL_law.bl 36).getD (0, [])).2 [(0, (2, -10 - ((6 : Nat) : Int))), (1, (2, 0)), (2, (2, 237)), (3, (2, ((1000001 : Nat) : Int))), (4, (0, i))] [] S2 Q) : wJ (pe_GA (xsA c)) wY0 (fun _ => True) 1100 t_LL_law ((pe_at t_LL_law.bl 12).getD (0, [])).2 [(0, (2, -10 - ((6 : Nat) : Int))), (1, (2, 0)), (2, (2, 237)), (3, (2, ((1000001 : Nat) : Int))), (4, (0, i))] [] S Q := by
  have hpo := RM_pr h
  have wtr : ∀ k : Int, -2147483648 ≤ w_tx c k ∧ w_tx c k ≤ 2147483647 := fun k => w_tx_rg c k
  refine wa_aload_n (n := 1) rfl ?_
  refine wa_aload_n (n := 0) rfl ?_
  refine wa_iload (n := 4) rfl ?_
  refine wa_iconst ?_
  refine wa_iadd ?_
  refine wa_xald 6 rfl (xsA_x6 c) (by omega) (by omega) (by omega) ?_
  refine wa_aload_n (n := 0) rfl ?_
  refine wa_iload (n := 4) rfl ?_
  refine wa_iconst ?_
  refine wa_iadd ?_
  refine wa_xald 6 rfl (xsA_x6 c) (by omega) (by omega) (by omega) ?_
  refine wa_cv 0 rfl (wy_pr rfl) wt_0 (M2 := fun _ => False) rfl at_X_site ⟨_, rfl⟩ rfl rfl ⟨Or.inl (by decide), Or.inr ⟨wy_pr rfl, fun q => q⟩, Or.inr ⟨wy_pr rfl, fun q => q⟩, Or.inr ⟨hpo, fun q => q⟩, trivial, trivial⟩ trivial (fun _ _ _ => trivial) (kc_s (av := [(2, 237), (0, (w_tx c (i + 1))), (0, (w_tx c (i + 2)))]) (k := 1) (P := fun v o2 _ => o2 = .inl (some (0, v))) (R := fun S2 => RM (xsA c) (m9 + 1) S2) (kc8 (d := 1099) (M := fun _ => False) h hm (wtr (i + 1)) (wtr (i + 2))) 1098) (fun o1 Z hp1 q1 => ?_)
  obtain ⟨v, rfl, k2⟩ := q1
  show wJ _ _ _ _ _ _ _ _ _ _
  have hpz := hp1 1000001 hpo
  refine wa_aload_n (n := 2) rfl ?_
  refine wa_aload_n (n := 0) rfl ?_
  refine wa_iload (n := 4) rfl ?_
  refine wa_iconst ?_
  refine wa_iadd ?_
  refine wa_xald 6 rfl (xsA_x6 c) (by omega) (by omega) (by omega) ?_
  refine wa_aload_n (n := 0) rfl ?_
  refine wa_iload (n := 4) rfl ?_
  refine wa_iconst ?_
  refine wa_iadd ?_
  refine wa_xald 6 rfl (xsA_x6 c) (by omega) (by omega) (by omega) ?_
  refine wa_cv 237 rfl (wy_pr rfl) wt_237 (M2 := fun _ => False) rfl at_M_site ⟨_, rfl⟩ rfl rfl ⟨Or.inl (by decide), Or.inr ⟨wy_pr rfl, fun q => q⟩, Or.inr ⟨wy_pr rfl, fun q => q⟩, Or.inr ⟨hpz, fun q => q⟩, trivial, trivial⟩ ⟨trivial, trivial⟩ (fun _ _ _ => trivial) k2 (fun o2 S2 hp2 q2 => ?_)
  obtain ⟨rfl, hR⟩ := q2
  show wJ _ _ _ _ _ _ _ _ _ _
  have hpy := hp2 1000001 hpz
  refine wa_icmpee ⟨_, rfl⟩ ?_
  exact nx S2 hR
theorem lc_9 (hl : c.length ≤ 2560) (h : RM (xsA c) m9 S) (hm : m9 < 512) (hi : 0 ≤ i ∧ i + 5 ≤ (c.length : Int)) (nx : ∀ S2, RM (xsA c) (m9 + 1) S2 → wJ (pe_GA (xsA c)) wY0 (fun _ => True) 1100 t_LL_law ((pe_at t_LL_law.bl 36).getD (0, [])).2 [(0, (2, -10 - ((6 : Nat) : Int))), (1, (2, 0)), (2, (2, 237)), (3, (2, ((1000001 : Nat) : Int))), (4, (0, i))] [] S2 Q) : wJ (pe_GA (xsA c)) wY0 (fun _ => True) 1100 t_LL_law ((pe_at t_LL_law.bl 13).getD (0, [])).2 [(0, (2, -10 - ((6 : Nat) : Int))), (1, (2, 0)), (2, (2, 237)), (3, (2, ((1000001 : Nat) : Int))), (4, (0, i))] [] S Q := by
  have hpo := RM_pr h
  have wtr : ∀ k : Int, -2147483648 ≤ w_tx c k ∧ w_tx c k ≤ 2147483647 := fun k => w_tx_rg c k
  refine wa_aload_n (n := 1) rfl ?_
  refine wa_aload_n (n := 0) rfl ?_
  refine wa_iload (n := 4) rfl ?_
  refine wa_iconst ?_
  refine wa_iadd ?_
  refine wa_xald 6 rfl (xsA_x6 c) (by omega) (by omega) (by omega) ?_
  refine wa_aload_n (n := 0) rfl ?_
  refine wa_iload (n := 4) rfl ?_
  refine wa_iconst ?_
  refine wa_iadd ?_
  refine wa_xald 6 rfl (xsA_x6 c) (by omega) (by omega) (by omega) ?_
  refine wa_aload_n (n := 0) rfl ?_
  refine wa_iload (n := 4) rfl ?_
  refine wa_iconst ?_
  refine wa_iadd ?_
  refine wa_xald 6 rfl (xsA_x6 c) (by omega) (by omega) (by omega) ?_
  refine wa_cv 0 rfl (wy_pr rfl) wt_0 (M2 := fun _ => False) rfl at_X_entry ⟨_, rfl⟩ rfl rfl ⟨Or.inl (by decide), Or.inr ⟨wy_pr rfl, fun q => q⟩, Or.inr ⟨wy_pr rfl, fun q => q⟩, Or.inr ⟨hpo, fun q => q⟩, trivial, trivial⟩ trivial (fun _ _ _ => trivial) (kc_s (av := [(2, 237), (0, (w_tx c (i + 1))), (0, (w_tx c (i + 2))), (0, (w_tx c (i + 3)))]) (k := 3) (P := fun v o2 _ => o2 = .inl (some (0, v))) (R := fun S2 => RM (xsA c) (m9 + 1) S2) (kc9 (d := 1097) (M := fun _ => False) h hm (wtr (i + 1)) (wtr (i + 2)) (wtr (i + 3))) 1096) (fun o1 Z hp1 q1 => ?_)
  obtain ⟨v, rfl, k2⟩ := q1
  show wJ _ _ _ _ _ _ _ _ _ _
  have hpz := hp1 1000001 hpo
  refine wa_aload_n (n := 2) rfl ?_
  refine wa_aload_n (n := 0) rfl ?_
  refine wa_iload (n := 4) rfl ?_
  refine wa_iconst ?_
  refine wa_iadd ?_
  refine wa_xald 6 rfl (xsA_x6 c) (by omega) (by omega) (by omega) ?_
  refine wa_aload_n (n := 0) rfl ?_
  refine wa_iload (n := 4) rfl ?_
  refine wa_iconst ?_
  refine wa_iadd ?_
  refine wa_xald 6 rfl (xsA_x6 c) (by omega) (by omega) (by omega) ?_
  refine wa_aload_n (n := 0) rfl ?_
  refine wa_iload (n := 4) rfl ?_
  refine wa_iconst ?_
  refine wa_iadd ?_
  refine wa_xald 6 rfl (xsA_x6 c) (by omega) (by omega) (by omega) ?_
  refine wa_cv 237 rfl (wy_pr rfl) wt_237 (M2 := fun _ => False) rfl at_M_entry ⟨_, rfl⟩ rfl rfl ⟨Or.inl (by decide), Or.inr ⟨wy_pr rfl, fun q => q⟩, Or.inr ⟨wy_pr rfl, fun q => q⟩, Or.inr ⟨hpz, fun q => q⟩, trivial, trivial⟩ ⟨trivial, trivial⟩ (fun _ _ _ => trivial) k2 (fun o2 S2 hp2 q2 => ?_)
  obtain ⟨rfl, hR⟩ := q2
  show wJ _ _ _ _ _ _ _ _ _ _
  have hpy := hp2 1000001 hpz
  refine wa_icmpee ⟨_, rfl⟩ ?_
  exact nx S2 hR
theorem lc_10 (hl : c.length ≤ 2560) (h : RM (xsA c) m9 S) (hm : m9 < 512) (hi : 0 ≤ i ∧ i + 5 ≤ (c.length : Int)) (nx : ∀ S2, RM (xsA c) (m9 + 1) S2 → wJ (pe_GA (xsA c)) wY0 (fun _ => True) 1100 t_LL_law ((pe_at t_LL_law.bl 36).getD (0, [])).2 [(0, (2, -10 - ((6 : Nat) : Int))), (1, (2, 0)), (2, (2, 237)), (3, (2, ((1000001 : Nat) : Int))), (4, (0, i))] [] S2 Q) : wJ (pe_GA (xsA c)) wY0 (fun _ => True) 1100 t_LL_law ((pe_at t_LL_law.bl 14).getD (0, [])).2 [(0, (2, -10 - ((6 : Nat) : Int))), (1, (2, 0)), (2, (2, 237)), (3, (2, ((1000001 : Nat) : Int))), (4, (0, i))] [] S Q := by
  have hpo := RM_pr h
  have wtr : ∀ k : Int, -2147483648 ≤ w_tx c k ∧ w_tx c k ≤ 2147483647 := fun k => w_tx_rg c k
  refine wa_aload_n (n := 1) rfl ?_
  refine wa_aload_n (n := 0) rfl ?_
  refine wa_iload (n := 4) rfl ?_
  refine wa_iconst ?_
  refine wa_iadd ?_
  refine wa_xald 6 rfl (xsA_x6 c) (by omega) (by omega) (by omega) ?_
  refine wa_aload_n (n := 0) rfl ?_
  refine wa_iload (n := 4) rfl ?_
  refine wa_iconst ?_
  refine wa_iadd ?_
  refine wa_xald 6 rfl (xsA_x6 c) (by omega) (by omega) (by omega) ?_
  refine wa_cv 0 rfl (wy_pr rfl) wt_0 (M2 := fun _ => False) rfl at_X_name ⟨_, rfl⟩ rfl rfl ⟨Or.inl (by decide), Or.inr ⟨wy_pr rfl, fun q => q⟩, Or.inr ⟨wy_pr rfl, fun q => q⟩, Or.inr ⟨hpo, fun q => q⟩, trivial, trivial⟩ trivial (fun _ _ _ => trivial) (kc_s (av := [(2, 237), (0, (w_tx c (i + 1))), (0, (w_tx c (i + 2)))]) (k := 1) (P := fun v o2 _ => o2 = .inl (some (0, v))) (R := fun S2 => RM (xsA c) (m9 + 1) S2) (kc10 (d := 1099) (M := fun _ => False) h hm (wtr (i + 1)) (wtr (i + 2))) 1098) (fun o1 Z hp1 q1 => ?_)
  obtain ⟨v, rfl, k2⟩ := q1
  show wJ _ _ _ _ _ _ _ _ _ _
  have hpz := hp1 1000001 hpo
  refine wa_aload_n (n := 2) rfl ?_
  refine wa_aload_n (n := 0) rfl ?_
  refine wa_iload (n := 4) rfl ?_
  refine wa_iconst ?_
  refine wa_iadd ?_
  refine wa_xald 6 rfl (xsA_x6 c) (by omega) (by omega) (by omega) ?_
  refine wa_aload_n (n := 0) rfl ?_
  refine wa_iload (n := 4) rfl ?_
  refine wa_iconst ?_
  refine wa_iadd ?_
  refine wa_xald 6 rfl (xsA_x6 c) (by omega) (by omega) (by omega) ?_
  refine wa_cv 237 rfl (wy_pr rfl) wt_237 (M2 := fun _ => False) rfl at_M_name ⟨_, rfl⟩ rfl rfl ⟨Or.inl (by decide), Or.inr ⟨wy_pr rfl, fun q => q⟩, Or.inr ⟨wy_pr rfl, fun q => q⟩, Or.inr ⟨hpz, fun q => q⟩, trivial, trivial⟩ ⟨trivial, trivial⟩ (fun _ _ _ => trivial) k2 (fun o2 S2 hp2 q2 => ?_)
  obtain ⟨rfl, hR⟩ := q2
  show wJ _ _ _ _ _ _ _ _ _ _
  have hpy := hp2 1000001 hpz
  refine wa_icmpee ⟨_, rfl⟩ ?_
  exact nx S2 hR
theorem lc_11 (hl : c.length ≤ 2560) (h : RM (xsA c) m9 S) (hm : m9 < 512) (hi : 0 ≤ i ∧ i + 5 ≤ (c.length : Int)) (nx : ∀ S2, RM (xsA c) (m9 + 1) S2 → wJ (pe_GA (xsA c)) wY0 (fun _ => True) 1100 t_LL_law ((pe_at t_LL_law.bl 36).getD (0, [])).2 [(0, (2, -10 - ((6 : Nat) : Int))), (1, (2, 0)), (2, (2, 237)), (3, (2, ((1000001 : Nat) : Int))), (4, (0, i))] [] S2 Q) : wJ (pe_GA (xsA c)) wY0 (fun _ => True) 1100 t_LL_law ((pe_at t_LL_law.bl 15).getD (0, [])).2 [(0, (2, -10 - ((6 : Nat) : Int))), (1, (2, 0)), (2, (2, 237)), (3, (2, ((1000001 : Nat) : Int))), (4, (0, i))] [] S Q := by
  have hpo := RM_pr h
  have wtr : ∀ k : Int, -2147483648 ≤ w_tx c k ∧ w_tx c k ≤ 2147483647 := fun k => w_tx_rg c k
  refine wa_aload_n (n := 1) rfl ?_
  refine wa_aload_n (n := 0) rfl ?_
  refine wa_iload (n := 4) rfl ?_
  refine wa_iconst ?_
  refine wa_iadd ?_
  refine wa_xald 6 rfl (xsA_x6 c) (by omega) (by omega) (by omega) ?_
  refine wa_aload_n (n := 0) rfl ?_
  refine wa_iload (n := 4) rfl ?_
  refine wa_iconst ?_
  refine wa_iadd ?_
  refine wa_xald 6 rfl (xsA_x6 c) (by omega) (by omega) (by omega) ?_
  refine wa_cv 0 rfl (wy_pr rfl) wt_0 (M2 := mS [138, 139, 141, 142]) rfl at_X_start ⟨_, rfl⟩ rfl rfl ⟨Or.inl (by decide), Or.inr ⟨wy_pr rfl, mS_no rfl⟩, Or.inr ⟨wy_pr rfl, mS_no rfl⟩, Or.inr ⟨hpo, mS_no rfl⟩, trivial, trivial⟩ trivial (fun _ _ _ => trivial) (kc_s1 (av := [(2, 237), (0, (w_tx c (i + 1))), (0, (w_tx c (i + 2)))]) (k := 3) (P := fun v o2 _ => o2 = .inl (some (0, v))) (R := fun S2 => RM (xsA c) (m9 + 1) S2) (kc11 (d := 1093) h hm (wtr (i + 1)) (wtr (i + 2))) 1096) (fun o1 Z hp1 q1 => ?_)
  obtain ⟨v, rfl, k2⟩ := q1
  show wJ _ _ _ _ _ _ _ _ _ _
  have hpz := hp1 1000001 hpo
  refine wa_aload_n (n := 2) rfl ?_
  refine wa_aload_n (n := 0) rfl ?_
  refine wa_iload (n := 4) rfl ?_
  refine wa_iconst ?_
  refine wa_iadd ?_
  refine wa_xald 6 rfl (xsA_x6 c) (by omega) (by omega) (by omega) ?_
  refine wa_aload_n (n := 0) rfl ?_
  refine wa_iload (n := 4) rfl ?_
  refine wa_iconst ?_
  refine wa_iadd ?_
  refine wa_xald 6 rfl (xsA_x6 c) (by omega) (by omega) (by omega) ?_
  refine wa_cv 237 rfl (wy_pr rfl) wt_237 (M2 := fun _ => False) rfl at_M_start ⟨_, rfl⟩ rfl rfl ⟨Or.inl (by decide), Or.inr ⟨wy_pr rfl, fun q => q⟩, Or.inr ⟨wy_pr rfl, fun q => q⟩, Or.inr ⟨hpz, fun q => q⟩, trivial, trivial⟩ ⟨trivial, trivial⟩ (fun _ _ _ => trivial) k2 (fun o2 S2 hp2 q2 => ?_)
  obtain ⟨rfl, hR⟩ := q2
  show wJ _ _ _ _ _ _ _ _ _ _
  have hpy := hp2 1000001 hpz
  refine wa_icmpee ⟨_, rfl⟩ ?_
  exact nx S2 hR
theorem lc_12 (hl : c.length ≤ 2560) (h : RM (xsA c) m9 S) (hm : m9 < 512) (hi : 0 ≤ i ∧ i + 5 ≤ (c.length : Int)) (nx : ∀ S2, RM (xsA c) (m9 + 1) S2 → wJ (pe_GA (xsA c)) wY0 (fun _ => True) 1100 t_LL_law ((pe_at t_LL_law.bl 36).getD (0, [])).2 [(0, (2, -10 - ((6 : Nat) : Int))), (1, (2, 0)), (2, (2, 237)), (3, (2, ((1000001 : Nat) : Int))), (4, (0, i))] [] S2 Q) : wJ (pe_GA (xsA c)) wY0 (fun _ => True) 1100 t_LL_law ((pe_at t_LL_law.bl 16).getD (0, [])).2 [(0, (2, -10 - ((6 : Nat) : Int))), (1, (2, 0)), (2, (2, 237)), (3, (2, ((1000001 : Nat) : Int))), (4, (0, i))] [] S Q := by
  have hpo := RM_pr h
  have wtr : ∀ k : Int, -2147483648 ≤ w_tx c k ∧ w_tx c k ≤ 2147483647 := fun k => w_tx_rg c k
  refine wa_aload_n (n := 1) rfl ?_
  refine wa_aload_n (n := 0) rfl ?_
  refine wa_iload (n := 4) rfl ?_
  refine wa_iconst ?_
  refine wa_iadd ?_
  refine wa_xald 6 rfl (xsA_x6 c) (by omega) (by omega) (by omega) ?_
  refine wa_aload_n (n := 0) rfl ?_
  refine wa_iload (n := 4) rfl ?_
  refine wa_iconst ?_
  refine wa_iadd ?_
  refine wa_xald 6 rfl (xsA_x6 c) (by omega) (by omega) (by omega) ?_
  refine wa_aload_n (n := 3) rfl ?_
  refine wa_cs (M2 := mS sML) rfl at_LL_steps ⟨_, rfl⟩ rfl rfl ⟨Or.inl (by decide), Or.inr ⟨wy_pr rfl, mS_no (by decide)⟩, Or.inr ⟨wy_pr rfl, mS_no (by decide)⟩, Or.inr ⟨hpo, mS_no (by decide)⟩, trivial, trivial⟩ trivial (fun _ _ _ => trivial) (kc_s0 (av := [(2, 237), (0, (w_tx c (i + 1))), (0, (w_tx c (i + 2)))]) (P := fun cc o2 S2 => ∃ u : Int, o2 = .inl (some (0, u)) ∧ S2 237 0 = cc ∧ (0 ≤ u ∧ u ≤ 1000) ∧ (cc = 0 → S2 1000001 0 = u)) (R := fun S2 => RM (xsA c) (m9 + 1) S2) (wJ_mono (kc12 (d := 1005) h hm (wtr (i + 1)) (wtr (i + 2))) (fun o1 Z q => wJ_mono q (fun o2 S2 z => by obtain ⟨⟨cc, u, e1, e2⟩, r⟩ := z; exact ⟨⟨cc, e1, u, e2⟩, r⟩)))) (fun o1 Z hp1 q1 => ?_)
  obtain ⟨v, rfl, k2⟩ := q1
  show wJ _ _ _ _ _ _ _ _ _ _
  have hpz := hp1 1000001 hpo
  refine wa_istore (n := 5) rfl ?_
  refine wa_aload_n (n := 2) rfl ?_
  refine wa_aload_n (n := 0) rfl ?_
  refine wa_iload (n := 4) rfl ?_
  refine wa_iconst ?_
  refine wa_iadd ?_
  refine wa_xald 6 rfl (xsA_x6 c) (by omega) (by omega) (by omega) ?_
  refine wa_aload_n (n := 0) rfl ?_
  refine wa_iload (n := 4) rfl ?_
  refine wa_iconst ?_
  refine wa_iadd ?_
  refine wa_xald 6 rfl (xsA_x6 c) (by omega) (by omega) (by omega) ?_
  refine wa_cv 237 rfl (wy_pr rfl) wt_237 (M2 := fun _ => False) rfl at_M_steps ⟨_, rfl⟩ rfl rfl ⟨trivial, Or.inl (by decide), Or.inr ⟨wy_pr rfl, fun q => q⟩, Or.inr ⟨wy_pr rfl, fun q => q⟩, Or.inr ⟨hpz, fun q => q⟩, trivial, trivial⟩ trivial (fun _ _ _ => trivial) k2 (fun o2 S2 hp2 q2 => ?_)
  obtain ⟨⟨u, rfl, e5, eu, e6⟩, hR⟩ := q2
  have fin : wJ (pe_GA (xsA c)) wY0 (fun _ => True) 1100 t_LL_law ((pe_at t_LL_law.bl 36).getD (0, [])).2 [(0, (2, -10 - ((6 : Nat) : Int))), (1, (2, 0)), (2, (2, 237)), (3, (2, ((1000001 : Nat) : Int))), (4, (0, i))] [] S2 Q := nx S2 hR
  show wJ _ _ _ _ _ _ _ _ _ _
  have hpy := hp2 1000001 hpz
  refine wa_istore (n := 6) rfl ?_
  refine wa_aload_n (n := 2) rfl ?_
  refine wa_cv 237 rfl (wy_pr rfl) wt_237 (M2 := fun _ => False) rfl at_M_thrown ⟨_, rfl⟩ rfl rfl ⟨trivial, trivial, Or.inl (by decide), Or.inr ⟨wy_pr rfl, fun q => q⟩, Or.inr ⟨wy_pr rfl, fun q => q⟩, Or.inr ⟨hpy, fun q => q⟩, trivial, trivial⟩ trivial (fun _ _ _ => trivial) thr_ok (fun o3 S3 hp3 q3 => ?_)
  obtain ⟨rfl, rfl, hr3⟩ := q3
  show wJ _ _ _ _ _ _ _ _ _ _
  rw [e5] at hr3 ⊢
  refine wa_iload (n := 5) rfl ?_
  refine wa_icmpee ⟨_, rfl⟩ ?_
  refine wa_iload (n := 5) rfl ?_
  refine wa_ifne (w_rg0 (by omega) (by omega)) ⟨_, rfl⟩ (fun c1 => ?_) (fun c1 => ?_)
  · exact wa_goto ⟨_, rfl⟩ (wJ_S fin ⟨rfl, rfl, rfl, rfl, rfl, trivial⟩)
  have e7 := e6 (by omega)
  refine wa_aload_n (n := 3) rfl ?_
  refine wa_iconst ?_
  refine wa_lald 1000001 rfl hpy rfl (by decide) (by rw [RM_o hR]; decide) (fun r9 => ?_)
  refine wa_iload (n := 6) rfl ?_
  refine wa_i2l (w_rg0 (by omega) (by omega)) ?_
  rw [e7] at r9 ⊢
  refine wa_lcmp (w_rg1 (by omega) (by omega)) (w_rg1 (by omega) (by omega)) ?_
  refine wa_ifeq (w_rg0 (by unfold wb_lcmp; rw [if_neg (by omega), if_pos rfl]; omega) (by unfold wb_lcmp; rw [if_neg (by omega), if_pos rfl]; omega)) ⟨_, rfl⟩ (fun c2 => ?_) (fun c2 => ?_)
  · exact wa_goto ⟨_, rfl⟩ (wJ_S fin ⟨rfl, rfl, rfl, rfl, rfl, trivial⟩)
  · exact absurd (by unfold wb_lcmp; rw [if_neg (by omega), if_pos rfl]) c2
theorem lc_13 (hl : c.length ≤ 2560) (h : RM (xsA c) m9 S) (hm : m9 < 512) (hi : 0 ≤ i ∧ i + 5 ≤ (c.length : Int)) (nx : ∀ S2, RM (xsA c) (m9 + 1) S2 → wJ (pe_GA (xsA c)) wY0 (fun _ => True) 1100 t_LL_law ((pe_at t_LL_law.bl 36).getD (0, [])).2 [(0, (2, -10 - ((6 : Nat) : Int))), (1, (2, 0)), (2, (2, 237)), (3, (2, ((1000001 : Nat) : Int))), (4, (0, i))] [] S2 Q) : wJ (pe_GA (xsA c)) wY0 (fun _ => True) 1100 t_LL_law ((pe_at t_LL_law.bl 19).getD (0, [])).2 [(0, (2, -10 - ((6 : Nat) : Int))), (1, (2, 0)), (2, (2, 237)), (3, (2, ((1000001 : Nat) : Int))), (4, (0, i))] [] S Q := by
  have hpo := RM_pr h
  have wtr : ∀ k : Int, -2147483648 ≤ w_tx c k ∧ w_tx c k ≤ 2147483647 := fun k => w_tx_rg c k
  refine wa_aload_n (n := 1) rfl ?_
  refine wa_aload_n (n := 0) rfl ?_
  refine wa_iload (n := 4) rfl ?_
  refine wa_iconst ?_
  refine wa_iadd ?_
  refine wa_xald 6 rfl (xsA_x6 c) (by omega) (by omega) (by omega) ?_
  refine wa_aload_n (n := 0) rfl ?_
  refine wa_iload (n := 4) rfl ?_
  refine wa_iconst ?_
  refine wa_iadd ?_
  refine wa_xald 6 rfl (xsA_x6 c) (by omega) (by omega) (by omega) ?_
  refine wa_cv 0 rfl (wy_pr rfl) wt_0 (M2 := fun _ => False) rfl at_X_task ⟨_, rfl⟩ rfl rfl ⟨Or.inl (by decide), Or.inr ⟨wy_pr rfl, fun q => q⟩, Or.inr ⟨wy_pr rfl, fun q => q⟩, Or.inr ⟨hpo, fun q => q⟩, trivial, trivial⟩ trivial (fun _ _ _ => trivial) (kc_s (av := [(2, 237), (0, (w_tx c (i + 1))), (0, (w_tx c (i + 2)))]) (k := 1) (P := fun v o2 _ => o2 = .inl (some (0, v))) (R := fun S2 => RM (xsA c) (m9 + 1) S2) (kc13 (d := 1099) (M := fun _ => False) h hm (wtr (i + 1)) (wtr (i + 2))) 1098) (fun o1 Z hp1 q1 => ?_)
  obtain ⟨v, rfl, k2⟩ := q1
  show wJ _ _ _ _ _ _ _ _ _ _
  have hpz := hp1 1000001 hpo
  refine wa_aload_n (n := 2) rfl ?_
  refine wa_aload_n (n := 0) rfl ?_
  refine wa_iload (n := 4) rfl ?_
  refine wa_iconst ?_
  refine wa_iadd ?_
  refine wa_xald 6 rfl (xsA_x6 c) (by omega) (by omega) (by omega) ?_
  refine wa_aload_n (n := 0) rfl ?_
  refine wa_iload (n := 4) rfl ?_
  refine wa_iconst ?_
  refine wa_iadd ?_
  refine wa_xald 6 rfl (xsA_x6 c) (by omega) (by omega) (by omega) ?_
  refine wa_cv 237 rfl (wy_pr rfl) wt_237 (M2 := fun _ => False) rfl at_M_task ⟨_, rfl⟩ rfl rfl ⟨Or.inl (by decide), Or.inr ⟨wy_pr rfl, fun q => q⟩, Or.inr ⟨wy_pr rfl, fun q => q⟩, Or.inr ⟨hpz, fun q => q⟩, trivial, trivial⟩ ⟨trivial, trivial⟩ (fun _ _ _ => trivial) k2 (fun o2 S2 hp2 q2 => ?_)
  obtain ⟨rfl, hR⟩ := q2
  show wJ _ _ _ _ _ _ _ _ _ _
  have hpy := hp2 1000001 hpz
  refine wa_icmpee ⟨_, rfl⟩ ?_
  exact nx S2 hR
theorem lc_14 (hl : c.length ≤ 2560) (h : RM (xsA c) m9 S) (hm : m9 < 512) (hi : 0 ≤ i ∧ i + 5 ≤ (c.length : Int)) (nx : ∀ S2, RM (xsA c) (m9 + 1) S2 → wJ (pe_GA (xsA c)) wY0 (fun _ => True) 1100 t_LL_law ((pe_at t_LL_law.bl 36).getD (0, [])).2 [(0, (2, -10 - ((6 : Nat) : Int))), (1, (2, 0)), (2, (2, 237)), (3, (2, ((1000001 : Nat) : Int))), (4, (0, i))] [] S2 Q) : wJ (pe_GA (xsA c)) wY0 (fun _ => True) 1100 t_LL_law ((pe_at t_LL_law.bl 20).getD (0, [])).2 [(0, (2, -10 - ((6 : Nat) : Int))), (1, (2, 0)), (2, (2, 237)), (3, (2, ((1000001 : Nat) : Int))), (4, (0, i))] [] S Q := by
  have hpo := RM_pr h
  have wtr : ∀ k : Int, -2147483648 ≤ w_tx c k ∧ w_tx c k ≤ 2147483647 := fun k => w_tx_rg c k
  refine wa_aload_n (n := 1) rfl ?_
  refine wa_aload_n (n := 0) rfl ?_
  refine wa_iload (n := 4) rfl ?_
  refine wa_iconst ?_
  refine wa_iadd ?_
  refine wa_xald 6 rfl (xsA_x6 c) (by omega) (by omega) (by omega) ?_
  refine wa_aload_n (n := 0) rfl ?_
  refine wa_iload (n := 4) rfl ?_
  refine wa_iconst ?_
  refine wa_iadd ?_
  refine wa_xald 6 rfl (xsA_x6 c) (by omega) (by omega) (by omega) ?_
  refine wa_aload_n (n := 3) rfl ?_
  refine wa_cs (M2 := fun _ => False) rfl at_LL_result ⟨_, rfl⟩ rfl rfl ⟨Or.inl (by decide), Or.inr ⟨wy_pr rfl, fun q => q⟩, Or.inr ⟨wy_pr rfl, fun q => q⟩, Or.inr ⟨hpo, fun q => q⟩, trivial, trivial⟩ trivial (fun _ _ _ => trivial) (kc_s (av := [(2, 237), (0, (w_tx c (i + 1))), (0, (w_tx c (i + 2)))]) (k := 1) (P := fun cc o2 S2 => ∃ u : Int, o2 = .inl (some (1, u)) ∧ S2 237 0 = cc ∧ (cc = 0 → S2 1000001 0 = u)) (R := fun S2 => RM (xsA c) (m9 + 1) S2) (wJ_mono (kc14 (d := 1091) (M := fun _ => False) h hm (wtr (i + 1)) (wtr (i + 2))) (fun o1 Z q M2 d2 => wJ_mono (q M2 d2) (fun o2 S2 z => by obtain ⟨⟨cc, u, e1, e2⟩, r⟩ := z; exact ⟨⟨cc, e1, u, e2⟩, r⟩))) 1098) (fun o1 Z hp1 q1 => ?_)
  obtain ⟨v, rfl, k2⟩ := q1
  show wJ _ _ _ _ _ _ _ _ _ _
  have hpz := hp1 1000001 hpo
  refine wa_istore (n := 5) rfl ?_
  refine wa_aload_n (n := 2) rfl ?_
  refine wa_aload_n (n := 0) rfl ?_
  refine wa_iload (n := 4) rfl ?_
  refine wa_iconst ?_
  refine wa_iadd ?_
  refine wa_xald 6 rfl (xsA_x6 c) (by omega) (by omega) (by omega) ?_
  refine wa_aload_n (n := 0) rfl ?_
  refine wa_iload (n := 4) rfl ?_
  refine wa_iconst ?_
  refine wa_iadd ?_
  refine wa_xald 6 rfl (xsA_x6 c) (by omega) (by omega) (by omega) ?_
  refine wa_cv 237 rfl (wy_pr rfl) wt_237 (M2 := fun _ => False) rfl at_M_result ⟨_, rfl⟩ rfl rfl ⟨trivial, Or.inl (by decide), Or.inr ⟨wy_pr rfl, fun q => q⟩, Or.inr ⟨wy_pr rfl, fun q => q⟩, Or.inr ⟨hpz, fun q => q⟩, trivial, trivial⟩ trivial (fun _ _ _ => trivial) k2 (fun o2 S2 hp2 q2 => ?_)
  obtain ⟨⟨u, rfl, e5, e6⟩, hR⟩ := q2
  have fin : wJ (pe_GA (xsA c)) wY0 (fun _ => True) 1100 t_LL_law ((pe_at t_LL_law.bl 36).getD (0, [])).2 [(0, (2, -10 - ((6 : Nat) : Int))), (1, (2, 0)), (2, (2, 237)), (3, (2, ((1000001 : Nat) : Int))), (4, (0, i))] [] S2 Q := nx S2 hR
  show wJ _ _ _ _ _ _ _ _ _ _
  have hpy := hp2 1000001 hpz
  refine wa_lstore (n := 6) rfl ?_
  refine wa_aload_n (n := 2) rfl ?_
  refine wa_cv 237 rfl (wy_pr rfl) wt_237 (M2 := fun _ => False) rfl at_M_thrown ⟨_, rfl⟩ rfl rfl ⟨trivial, trivial, Or.inl (by decide), Or.inr ⟨wy_pr rfl, fun q => q⟩, Or.inr ⟨wy_pr rfl, fun q => q⟩, Or.inr ⟨hpy, fun q => q⟩, trivial, trivial⟩ trivial (fun _ _ _ => trivial) thr_ok (fun o3 S3 hp3 q3 => ?_)
  obtain ⟨rfl, rfl, hr3⟩ := q3
  show wJ _ _ _ _ _ _ _ _ _ _
  rw [e5] at hr3 ⊢
  refine wa_iload (n := 5) rfl ?_
  refine wa_icmpee ⟨_, rfl⟩ ?_
  refine wa_iload (n := 5) rfl ?_
  refine wa_ifne (w_rg0 (by omega) (by omega)) ⟨_, rfl⟩ (fun c1 => ?_) (fun c1 => ?_)
  · exact wa_goto ⟨_, rfl⟩ (wJ_S fin ⟨rfl, rfl, rfl, rfl, rfl, trivial⟩)
  have e7 := e6 (by omega)
  refine wa_aload_n (n := 3) rfl ?_
  refine wa_iconst ?_
  refine wa_lald 1000001 rfl hpy rfl (by decide) (by rw [RM_o hR]; decide) (fun r9 => ?_)
  refine wa_lload (n := 6) rfl ?_
  rw [e7] at r9 ⊢
  refine wa_lcmp r9 r9 ?_
  refine wa_ifeq (w_rg0 (by unfold wb_lcmp; rw [if_neg (by omega), if_pos rfl]; omega) (by unfold wb_lcmp; rw [if_neg (by omega), if_pos rfl]; omega)) ⟨_, rfl⟩ (fun c2 => ?_) (fun c2 => ?_)
  · exact wa_goto ⟨_, rfl⟩ (wJ_S fin ⟨rfl, rfl, rfl, rfl, rfl, trivial⟩)
  · exact absurd (by unfold wb_lcmp; rw [if_neg (by omega), if_pos rfl]) c2
theorem lc_15 (hl : c.length ≤ 2560) (h : RM (xsA c) m9 S) (hm : m9 < 512) (hi : 0 ≤ i ∧ i + 5 ≤ (c.length : Int)) (nx : ∀ S2, RM (xsA c) (m9 + 1) S2 → wJ (pe_GA (xsA c)) wY0 (fun _ => True) 1100 t_LL_law ((pe_at t_LL_law.bl 36).getD (0, [])).2 [(0, (2, -10 - ((6 : Nat) : Int))), (1, (2, 0)), (2, (2, 237)), (3, (2, ((1000001 : Nat) : Int))), (4, (0, i))] [] S2 Q) : wJ (pe_GA (xsA c)) wY0 (fun _ => True) 1100 t_LL_law ((pe_at t_LL_law.bl 23).getD (0, [])).2 [(0, (2, -10 - ((6 : Nat) : Int))), (1, (2, 0)), (2, (2, 237)), (3, (2, ((1000001 : Nat) : Int))), (4, (0, i))] [] S Q := by
  have hpo := RM_pr h
  have wtr : ∀ k : Int, -2147483648 ≤ w_tx c k ∧ w_tx c k ≤ 2147483647 := fun k => w_tx_rg c k
  refine wa_aload_n (n := 1) rfl ?_
  refine wa_aload_n (n := 0) rfl ?_
  refine wa_iload (n := 4) rfl ?_
  refine wa_iconst ?_
  refine wa_iadd ?_
  refine wa_xald 6 rfl (xsA_x6 c) (by omega) (by omega) (by omega) ?_
  refine wa_aload_n (n := 0) rfl ?_
  refine wa_iload (n := 4) rfl ?_
  refine wa_iconst ?_
  refine wa_iadd ?_
  refine wa_xald 6 rfl (xsA_x6 c) (by omega) (by omega) (by omega) ?_
  refine wa_cv 0 rfl (wy_pr rfl) wt_0 (M2 := fun _ => False) rfl at_X_sign ⟨_, rfl⟩ rfl rfl ⟨Or.inl (by decide), Or.inr ⟨wy_pr rfl, fun q => q⟩, Or.inr ⟨wy_pr rfl, fun q => q⟩, Or.inr ⟨hpo, fun q => q⟩, trivial, trivial⟩ trivial (fun _ _ _ => trivial) (kc_s (av := [(2, 237), (0, (w_tx c (i + 1))), (0, (w_tx c (i + 2)))]) (k := 1) (P := fun v o2 _ => o2 = .inl (some (0, v))) (R := fun S2 => RM (xsA c) (m9 + 1) S2) (kc15 (d := 1098) (M := fun _ => False) h hm (wtr (i + 1)) (wtr (i + 2))) 1098) (fun o1 Z hp1 q1 => ?_)
  obtain ⟨v, rfl, k2⟩ := q1
  show wJ _ _ _ _ _ _ _ _ _ _
  have hpz := hp1 1000001 hpo
  refine wa_aload_n (n := 2) rfl ?_
  refine wa_aload_n (n := 0) rfl ?_
  refine wa_iload (n := 4) rfl ?_
  refine wa_iconst ?_
  refine wa_iadd ?_
  refine wa_xald 6 rfl (xsA_x6 c) (by omega) (by omega) (by omega) ?_
  refine wa_aload_n (n := 0) rfl ?_
  refine wa_iload (n := 4) rfl ?_
  refine wa_iconst ?_
  refine wa_iadd ?_
  refine wa_xald 6 rfl (xsA_x6 c) (by omega) (by omega) (by omega) ?_
  refine wa_cv 237 rfl (wy_pr rfl) wt_237 (M2 := fun _ => False) rfl at_M_sign ⟨_, rfl⟩ rfl rfl ⟨Or.inl (by decide), Or.inr ⟨wy_pr rfl, fun q => q⟩, Or.inr ⟨wy_pr rfl, fun q => q⟩, Or.inr ⟨hpz, fun q => q⟩, trivial, trivial⟩ ⟨trivial, trivial⟩ (fun _ _ _ => trivial) k2 (fun o2 S2 hp2 q2 => ?_)
  obtain ⟨rfl, hR⟩ := q2
  show wJ _ _ _ _ _ _ _ _ _ _
  have hpy := hp2 1000001 hpz
  refine wa_icmpee ⟨_, rfl⟩ ?_
  exact nx S2 hR
theorem lc_16 (hl : c.length ≤ 2560) (h : RM (xsA c) m9 S) (hm : m9 < 512) (hi : 0 ≤ i ∧ i + 5 ≤ (c.length : Int)) (nx : ∀ S2, RM (xsA c) (m9 + 1) S2 → wJ (pe_GA (xsA c)) wY0 (fun _ => True) 1100 t_LL_law ((pe_at t_LL_law.bl 36).getD (0, [])).2 [(0, (2, -10 - ((6 : Nat) : Int))), (1, (2, 0)), (2, (2, 237)), (3, (2, ((1000001 : Nat) : Int))), (4, (0, i))] [] S2 Q) : wJ (pe_GA (xsA c)) wY0 (fun _ => True) 1100 t_LL_law ((pe_at t_LL_law.bl 24).getD (0, [])).2 [(0, (2, -10 - ((6 : Nat) : Int))), (1, (2, 0)), (2, (2, 237)), (3, (2, ((1000001 : Nat) : Int))), (4, (0, i))] [] S Q := by
  have hpo := RM_pr h
  have wtr : ∀ k : Int, -2147483648 ≤ w_tx c k ∧ w_tx c k ≤ 2147483647 := fun k => w_tx_rg c k
  refine wa_aload_n (n := 1) rfl ?_
  refine wa_aload_n (n := 0) rfl ?_
  refine wa_iload (n := 4) rfl ?_
  refine wa_iconst ?_
  refine wa_iadd ?_
  refine wa_xald 6 rfl (xsA_x6 c) (by omega) (by omega) (by omega) ?_
  refine wa_aload_n (n := 3) rfl ?_
  refine wa_cs (M2 := fun _ => False) rfl at_LL_global ⟨_, rfl⟩ rfl rfl ⟨Or.inl (by decide), Or.inr ⟨wy_pr rfl, fun q => q⟩, Or.inr ⟨wy_pr rfl, fun q => q⟩, Or.inr ⟨hpo, fun q => q⟩, trivial, trivial⟩ trivial (fun _ _ _ => trivial) (kc_s (av := [(2, 237), (0, (w_tx c (i + 1)))]) (k := 1) (P := fun cc o2 S2 => ∃ u : Int, o2 = .inl (some (1, u)) ∧ S2 237 0 = cc ∧ (cc = 0 → S2 1000001 0 = u)) (R := fun S2 => RM (xsA c) (m9 + 1) S2) (wJ_mono (kc16 (d := 1091) (M := fun _ => False) h hm (wtr (i + 1))) (fun o1 Z q M2 d2 => wJ_mono (q M2 d2) (fun o2 S2 z => by obtain ⟨⟨cc, u, e1, e2⟩, r⟩ := z; exact ⟨⟨cc, e1, u, e2⟩, r⟩))) 1098) (fun o1 Z hp1 q1 => ?_)
  obtain ⟨v, rfl, k2⟩ := q1
  show wJ _ _ _ _ _ _ _ _ _ _
  have hpz := hp1 1000001 hpo
  refine wa_istore (n := 5) rfl ?_
  refine wa_aload_n (n := 2) rfl ?_
  refine wa_aload_n (n := 0) rfl ?_
  refine wa_iload (n := 4) rfl ?_
  refine wa_iconst ?_
  refine wa_iadd ?_
  refine wa_xald 6 rfl (xsA_x6 c) (by omega) (by omega) (by omega) ?_
  refine wa_cv 237 rfl (wy_pr rfl) wt_237 (M2 := fun _ => False) rfl at_M_global ⟨_, rfl⟩ rfl rfl ⟨trivial, Or.inl (by decide), Or.inr ⟨wy_pr rfl, fun q => q⟩, Or.inr ⟨wy_pr rfl, fun q => q⟩, Or.inr ⟨hpz, fun q => q⟩, trivial, trivial⟩ trivial (fun _ _ _ => trivial) k2 (fun o2 S2 hp2 q2 => ?_)
  obtain ⟨⟨u, rfl, e5, e6⟩, hR⟩ := q2
  have fin : wJ (pe_GA (xsA c)) wY0 (fun _ => True) 1100 t_LL_law ((pe_at t_LL_law.bl 36).getD (0, [])).2 [(0, (2, -10 - ((6 : Nat) : Int))), (1, (2, 0)), (2, (2, 237)), (3, (2, ((1000001 : Nat) : Int))), (4, (0, i))] [] S2 Q := nx S2 hR
  show wJ _ _ _ _ _ _ _ _ _ _
  have hpy := hp2 1000001 hpz
  refine wa_lstore (n := 6) rfl ?_
  refine wa_aload_n (n := 2) rfl ?_
  refine wa_cv 237 rfl (wy_pr rfl) wt_237 (M2 := fun _ => False) rfl at_M_thrown ⟨_, rfl⟩ rfl rfl ⟨trivial, trivial, Or.inl (by decide), Or.inr ⟨wy_pr rfl, fun q => q⟩, Or.inr ⟨wy_pr rfl, fun q => q⟩, Or.inr ⟨hpy, fun q => q⟩, trivial, trivial⟩ trivial (fun _ _ _ => trivial) thr_ok (fun o3 S3 hp3 q3 => ?_)
  obtain ⟨rfl, rfl, hr3⟩ := q3
  show wJ _ _ _ _ _ _ _ _ _ _
  rw [e5] at hr3 ⊢
  refine wa_iload (n := 5) rfl ?_
  refine wa_icmpee ⟨_, rfl⟩ ?_
  refine wa_iload (n := 5) rfl ?_
  refine wa_ifne (w_rg0 (by omega) (by omega)) ⟨_, rfl⟩ (fun c1 => ?_) (fun c1 => ?_)
  · exact wa_goto ⟨_, rfl⟩ (wJ_S fin ⟨rfl, rfl, rfl, rfl, rfl, trivial⟩)
  have e7 := e6 (by omega)
  refine wa_aload_n (n := 3) rfl ?_
  refine wa_iconst ?_
  refine wa_lald 1000001 rfl hpy rfl (by decide) (by rw [RM_o hR]; decide) (fun r9 => ?_)
  refine wa_lload (n := 6) rfl ?_
  rw [e7] at r9 ⊢
  refine wa_lcmp r9 r9 ?_
  refine wa_ifeq (w_rg0 (by unfold wb_lcmp; rw [if_neg (by omega), if_pos rfl]; omega) (by unfold wb_lcmp; rw [if_neg (by omega), if_pos rfl]; omega)) ⟨_, rfl⟩ (fun c2 => ?_) (fun c2 => ?_)
  · exact wa_goto ⟨_, rfl⟩ (wJ_S fin ⟨rfl, rfl, rfl, rfl, rfl, trivial⟩)
  · exact absurd (by unfold wb_lcmp; rw [if_neg (by omega), if_pos rfl]) c2
theorem lc_17 (hl : c.length ≤ 2560) (h : RM (xsA c) m9 S) (hm : m9 < 512) (hi : 0 ≤ i ∧ i + 5 ≤ (c.length : Int)) (nx : ∀ S2, RM (xsA c) (m9 + 1) S2 → wJ (pe_GA (xsA c)) wY0 (fun _ => True) 1100 t_LL_law ((pe_at t_LL_law.bl 36).getD (0, [])).2 [(0, (2, -10 - ((6 : Nat) : Int))), (1, (2, 0)), (2, (2, 237)), (3, (2, ((1000001 : Nat) : Int))), (4, (0, i))] [] S2 Q) : wJ (pe_GA (xsA c)) wY0 (fun _ => True) 1100 t_LL_law ((pe_at t_LL_law.bl 27).getD (0, [])).2 [(0, (2, -10 - ((6 : Nat) : Int))), (1, (2, 0)), (2, (2, 237)), (3, (2, ((1000001 : Nat) : Int))), (4, (0, i))] [] S Q := by
  have hpo := RM_pr h
  have wtr : ∀ k : Int, -2147483648 ≤ w_tx c k ∧ w_tx c k ≤ 2147483647 := fun k => w_tx_rg c k
  refine wa_aload_n (n := 1) rfl ?_
  refine wa_aload_n (n := 0) rfl ?_
  refine wa_iload (n := 4) rfl ?_
  refine wa_iconst ?_
  refine wa_iadd ?_
  refine wa_xald 6 rfl (xsA_x6 c) (by omega) (by omega) (by omega) ?_
  refine wa_aload_n (n := 0) rfl ?_
  refine wa_iload (n := 4) rfl ?_
  refine wa_iconst ?_
  refine wa_iadd ?_
  refine wa_xald 6 rfl (xsA_x6 c) (by omega) (by omega) (by omega) ?_
  refine wa_cv 0 rfl (wy_pr rfl) wt_0 (M2 := fun _ => False) rfl at_X_thing ⟨_, rfl⟩ rfl rfl ⟨Or.inl (by decide), Or.inr ⟨wy_pr rfl, fun q => q⟩, Or.inr ⟨wy_pr rfl, fun q => q⟩, Or.inr ⟨hpo, fun q => q⟩, trivial, trivial⟩ trivial (fun _ _ _ => trivial) (kc_s (av := [(2, 237), (0, (w_tx c (i + 1))), (0, (w_tx c (i + 2)))]) (k := 1) (P := fun v o2 _ => o2 = .inl (some (0, v))) (R := fun S2 => RM (xsA c) (m9 + 1) S2) (kc17 (d := 1099) (M := fun _ => False) h hm (wtr (i + 1)) (wtr (i + 2))) 1098) (fun o1 Z hp1 q1 => ?_)
  obtain ⟨v, rfl, k2⟩ := q1
  show wJ _ _ _ _ _ _ _ _ _ _
  have hpz := hp1 1000001 hpo
  refine wa_aload_n (n := 2) rfl ?_
  refine wa_aload_n (n := 0) rfl ?_
  refine wa_iload (n := 4) rfl ?_
  refine wa_iconst ?_
  refine wa_iadd ?_
  refine wa_xald 6 rfl (xsA_x6 c) (by omega) (by omega) (by omega) ?_
  refine wa_aload_n (n := 0) rfl ?_
  refine wa_iload (n := 4) rfl ?_
  refine wa_iconst ?_
  refine wa_iadd ?_
  refine wa_xald 6 rfl (xsA_x6 c) (by omega) (by omega) (by omega) ?_
  refine wa_cv 237 rfl (wy_pr rfl) wt_237 (M2 := fun _ => False) rfl at_M_thing ⟨_, rfl⟩ rfl rfl ⟨Or.inl (by decide), Or.inr ⟨wy_pr rfl, fun q => q⟩, Or.inr ⟨wy_pr rfl, fun q => q⟩, Or.inr ⟨hpz, fun q => q⟩, trivial, trivial⟩ ⟨trivial, trivial⟩ (fun _ _ _ => trivial) k2 (fun o2 S2 hp2 q2 => ?_)
  obtain ⟨rfl, hR⟩ := q2
  show wJ _ _ _ _ _ _ _ _ _ _
  have hpy := hp2 1000001 hpz
  refine wa_icmpee ⟨_, rfl⟩ ?_
  exact nx S2 hR
theorem lc_18 (hl : c.length ≤ 2560) (h : RM (xsA c) m9 S) (hm : m9 < 512) (hi : 0 ≤ i ∧ i + 5 ≤ (c.length : Int)) (nx : ∀ S2, RM (xsA c) (m9 + 1) S2 → wJ (pe_GA (xsA c)) wY0 (fun _ => True) 1100 t_LL_law ((pe_at t_LL_law.bl 36).getD (0, [])).2 [(0, (2, -10 - ((6 : Nat) : Int))), (1, (2, 0)), (2, (2, 237)), (3, (2, ((1000001 : Nat) : Int))), (4, (0, i))] [] S2 Q) : wJ (pe_GA (xsA c)) wY0 (fun _ => True) 1100 t_LL_law ((pe_at t_LL_law.bl 28).getD (0, [])).2 [(0, (2, -10 - ((6 : Nat) : Int))), (1, (2, 0)), (2, (2, 237)), (3, (2, ((1000001 : Nat) : Int))), (4, (0, i))] [] S Q := by
  have hpo := RM_pr h
  have wtr : ∀ k : Int, -2147483648 ≤ w_tx c k ∧ w_tx c k ≤ 2147483647 := fun k => w_tx_rg c k
  refine wa_aload_n (n := 1) rfl ?_
  refine wa_aload_n (n := 0) rfl ?_
  refine wa_iload (n := 4) rfl ?_
  refine wa_iconst ?_
  refine wa_iadd ?_
  refine wa_xald 6 rfl (xsA_x6 c) (by omega) (by omega) (by omega) ?_
  refine wa_aload_n (n := 0) rfl ?_
  refine wa_iload (n := 4) rfl ?_
  refine wa_iconst ?_
  refine wa_iadd ?_
  refine wa_xald 6 rfl (xsA_x6 c) (by omega) (by omega) (by omega) ?_
  refine wa_aload_n (n := 0) rfl ?_
  refine wa_iload (n := 4) rfl ?_
  refine wa_iconst ?_
  refine wa_iadd ?_
  refine wa_xald 6 rfl (xsA_x6 c) (by omega) (by omega) (by omega) ?_
  refine wa_aload_n (n := 3) rfl ?_
  refine wa_cs (M2 := fun _ => False) rfl at_LL_property ⟨_, rfl⟩ rfl rfl ⟨Or.inl (by decide), Or.inr ⟨wy_pr rfl, fun q => q⟩, Or.inr ⟨wy_pr rfl, fun q => q⟩, Or.inr ⟨hpo, fun q => q⟩, trivial, trivial⟩ trivial (fun _ _ _ => trivial) (kc_s (av := [(2, 237), (0, (w_tx c (i + 1))), (0, (w_tx c (i + 2))), (0, (w_tx c (i + 3)))]) (k := 1) (P := fun cc o2 S2 => ∃ u : Int, o2 = .inl (some (1, u)) ∧ S2 237 0 = cc ∧ (cc = 0 → S2 1000001 0 = u)) (R := fun S2 => RM (xsA c) (m9 + 1) S2) (wJ_mono (kc18 (d := 1091) (M := fun _ => False) h hm (wtr (i + 1)) (wtr (i + 2)) (wtr (i + 3))) (fun o1 Z q M2 d2 => wJ_mono (q M2 d2) (fun o2 S2 z => by obtain ⟨⟨cc, u, e1, e2⟩, r⟩ := z; exact ⟨⟨cc, e1, u, e2⟩, r⟩))) 1098) (fun o1 Z hp1 q1 => ?_)
  obtain ⟨v, rfl, k2⟩ := q1
  show wJ _ _ _ _ _ _ _ _ _ _
  have hpz := hp1 1000001 hpo
  refine wa_istore (n := 5) rfl ?_
  refine wa_aload_n (n := 2) rfl ?_
  refine wa_aload_n (n := 0) rfl ?_
  refine wa_iload (n := 4) rfl ?_
  refine wa_iconst ?_
  refine wa_iadd ?_
  refine wa_xald 6 rfl (xsA_x6 c) (by omega) (by omega) (by omega) ?_
  refine wa_aload_n (n := 0) rfl ?_
  refine wa_iload (n := 4) rfl ?_
  refine wa_iconst ?_
  refine wa_iadd ?_
  refine wa_xald 6 rfl (xsA_x6 c) (by omega) (by omega) (by omega) ?_
  refine wa_aload_n (n := 0) rfl ?_
  refine wa_iload (n := 4) rfl ?_
  refine wa_iconst ?_
  refine wa_iadd ?_
  refine wa_xald 6 rfl (xsA_x6 c) (by omega) (by omega) (by omega) ?_
  refine wa_cv 237 rfl (wy_pr rfl) wt_237 (M2 := fun _ => False) rfl at_M_property ⟨_, rfl⟩ rfl rfl ⟨trivial, Or.inl (by decide), Or.inr ⟨wy_pr rfl, fun q => q⟩, Or.inr ⟨wy_pr rfl, fun q => q⟩, Or.inr ⟨hpz, fun q => q⟩, trivial, trivial⟩ trivial (fun _ _ _ => trivial) k2 (fun o2 S2 hp2 q2 => ?_)
  obtain ⟨⟨u, rfl, e5, e6⟩, hR⟩ := q2
  have fin : wJ (pe_GA (xsA c)) wY0 (fun _ => True) 1100 t_LL_law ((pe_at t_LL_law.bl 36).getD (0, [])).2 [(0, (2, -10 - ((6 : Nat) : Int))), (1, (2, 0)), (2, (2, 237)), (3, (2, ((1000001 : Nat) : Int))), (4, (0, i))] [] S2 Q := nx S2 hR
  show wJ _ _ _ _ _ _ _ _ _ _
  have hpy := hp2 1000001 hpz
  refine wa_lstore (n := 6) rfl ?_
  refine wa_aload_n (n := 2) rfl ?_
  refine wa_cv 237 rfl (wy_pr rfl) wt_237 (M2 := fun _ => False) rfl at_M_thrown ⟨_, rfl⟩ rfl rfl ⟨trivial, trivial, Or.inl (by decide), Or.inr ⟨wy_pr rfl, fun q => q⟩, Or.inr ⟨wy_pr rfl, fun q => q⟩, Or.inr ⟨hpy, fun q => q⟩, trivial, trivial⟩ trivial (fun _ _ _ => trivial) thr_ok (fun o3 S3 hp3 q3 => ?_)
  obtain ⟨rfl, rfl, hr3⟩ := q3
  show wJ _ _ _ _ _ _ _ _ _ _
  rw [e5] at hr3 ⊢
  refine wa_iload (n := 5) rfl ?_
  refine wa_fall ⟨_, rfl⟩ ?_
  refine wa_icmpee ⟨_, rfl⟩ ?_
  refine wa_iload (n := 5) rfl ?_
  refine wa_ifne (w_rg0 (by omega) (by omega)) ⟨_, rfl⟩ (fun c1 => ?_) (fun c1 => ?_)
  · exact wa_goto ⟨_, rfl⟩ (wJ_S fin ⟨rfl, rfl, rfl, rfl, rfl, trivial⟩)
  have e7 := e6 (by omega)
  refine wa_aload_n (n := 3) rfl ?_
  refine wa_iconst ?_
  refine wa_lald 1000001 rfl hpy rfl (by decide) (by rw [RM_o hR]; decide) (fun r9 => ?_)
  refine wa_lload (n := 6) rfl ?_
  rw [e7] at r9 ⊢
  refine wa_lcmp r9 r9 ?_
  refine wa_ifeq (w_rg0 (by unfold wb_lcmp; rw [if_neg (by omega), if_pos rfl]; omega) (by unfold wb_lcmp; rw [if_neg (by omega), if_pos rfl]; omega)) ⟨_, rfl⟩ (fun c2 => ?_) (fun c2 => ?_)
  · exact wa_goto ⟨_, rfl⟩ (wJ_S fin ⟨rfl, rfl, rfl, rfl, rfl, trivial⟩)
  · exact absurd (by unfold wb_lcmp; rw [if_neg (by omega), if_pos rfl]) c2
theorem lc_19 (hl : c.length ≤ 2560) (h : RM (xsA c) m9 S) (hm : m9 < 512) (hi : 0 ≤ i ∧ i + 5 ≤ (c.length : Int)) (nx : ∀ S2, RM (xsA c) (m9 + 1) S2 → wJ (pe_GA (xsA c)) wY0 (fun _ => True) 1100 t_LL_law ((pe_at t_LL_law.bl 36).getD (0, [])).2 [(0, (2, -10 - ((6 : Nat) : Int))), (1, (2, 0)), (2, (2, 237)), (3, (2, ((1000001 : Nat) : Int))), (4, (0, i))] [] S2 Q) : wJ (pe_GA (xsA c)) wY0 (fun _ => True) 1100 t_LL_law ((pe_at t_LL_law.bl 32).getD (0, [])).2 [(0, (2, -10 - ((6 : Nat) : Int))), (1, (2, 0)), (2, (2, 237)), (3, (2, ((1000001 : Nat) : Int))), (4, (0, i))] [] S Q := by
  have hpo := RM_pr h
  have wtr : ∀ k : Int, -2147483648 ≤ w_tx c k ∧ w_tx c k ≤ 2147483647 := fun k => w_tx_rg c k
  refine wa_aload_n (n := 1) rfl ?_
  refine wa_aload_n (n := 0) rfl ?_
  refine wa_iload (n := 4) rfl ?_
  refine wa_iconst ?_
  refine wa_iadd ?_
  refine wa_xald 6 rfl (xsA_x6 c) (by omega) (by omega) (by omega) ?_
  refine wa_aload_n (n := 0) rfl ?_
  refine wa_iload (n := 4) rfl ?_
  refine wa_iconst ?_
  refine wa_iadd ?_
  refine wa_xald 6 rfl (xsA_x6 c) (by omega) (by omega) (by omega) ?_
  refine wa_cv 0 rfl (wy_pr rfl) wt_0 (M2 := fun _ => False) rfl at_X_shape ⟨_, rfl⟩ rfl rfl ⟨Or.inl (by decide), Or.inr ⟨wy_pr rfl, fun q => q⟩, Or.inr ⟨wy_pr rfl, fun q => q⟩, Or.inr ⟨hpo, fun q => q⟩, trivial, trivial⟩ trivial (fun _ _ _ => trivial) (kc_s (av := [(2, 237), (0, (w_tx c (i + 1))), (0, (w_tx c (i + 2)))]) (k := 1) (P := fun v o2 _ => o2 = .inl (some (0, v))) (R := fun S2 => RM (xsA c) (m9 + 1) S2) (kc19 (d := 1098) (M := fun _ => False) h hm (wtr (i + 1)) (wtr (i + 2))) 1098) (fun o1 Z hp1 q1 => ?_)
  obtain ⟨v, rfl, k2⟩ := q1
  show wJ _ _ _ _ _ _ _ _ _ _
  have hpz := hp1 1000001 hpo
  refine wa_aload_n (n := 2) rfl ?_
  refine wa_aload_n (n := 0) rfl ?_
  refine wa_iload (n := 4) rfl ?_
  refine wa_iconst ?_
  refine wa_iadd ?_
  refine wa_xald 6 rfl (xsA_x6 c) (by omega) (by omega) (by omega) ?_
  refine wa_aload_n (n := 0) rfl ?_
  refine wa_iload (n := 4) rfl ?_
  refine wa_iconst ?_
  refine wa_iadd ?_
  refine wa_xald 6 rfl (xsA_x6 c) (by omega) (by omega) (by omega) ?_
  refine wa_cv 237 rfl (wy_pr rfl) wt_237 (M2 := fun _ => False) rfl at_M_shape ⟨_, rfl⟩ rfl rfl ⟨Or.inl (by decide), Or.inr ⟨wy_pr rfl, fun q => q⟩, Or.inr ⟨wy_pr rfl, fun q => q⟩, Or.inr ⟨hpz, fun q => q⟩, trivial, trivial⟩ ⟨trivial, trivial⟩ (fun _ _ _ => trivial) k2 (fun o2 S2 hp2 q2 => ?_)
  obtain ⟨rfl, hR⟩ := q2
  show wJ _ _ _ _ _ _ _ _ _ _
  have hpy := hp2 1000001 hpz
  refine wa_icmpee ⟨_, rfl⟩ ?_
  exact nx S2 hR
theorem lc_20 (hl : c.length ≤ 2560) (h : RM (xsA c) m9 S) (hm : m9 < 512) (hi : 0 ≤ i ∧ i + 5 ≤ (c.length : Int)) (nx : ∀ S2, RM (xsA c) (m9 + 1) S2 → wJ (pe_GA (xsA c)) wY0 (fun _ => True) 1100 t_LL_law ((pe_at t_LL_law.bl 36).getD (0, [])).2 [(0, (2, -10 - ((6 : Nat) : Int))), (1, (2, 0)), (2, (2, 237)), (3, (2, ((1000001 : Nat) : Int))), (4, (0, i))] [] S2 Q) : wJ (pe_GA (xsA c)) wY0 (fun _ => True) 1100 t_LL_law ((pe_at t_LL_law.bl 33).getD (0, [])).2 [(0, (2, -10 - ((6 : Nat) : Int))), (1, (2, 0)), (2, (2, 237)), (3, (2, ((1000001 : Nat) : Int))), (4, (0, i))] [] S Q := by
  have hpo := RM_pr h
  have wtr : ∀ k : Int, -2147483648 ≤ w_tx c k ∧ w_tx c k ≤ 2147483647 := fun k => w_tx_rg c k
  refine wa_aload_n (n := 1) rfl ?_
  refine wa_aload_n (n := 0) rfl ?_
  refine wa_iload (n := 4) rfl ?_
  refine wa_iconst ?_
  refine wa_iadd ?_
  refine wa_xald 6 rfl (xsA_x6 c) (by omega) (by omega) (by omega) ?_
  refine wa_cv 0 rfl (wy_pr rfl) wt_0 (M2 := fun _ => False) rfl at_X_output ⟨_, rfl⟩ rfl rfl ⟨Or.inl (by decide), Or.inr ⟨wy_pr rfl, fun q => q⟩, Or.inr ⟨wy_pr rfl, fun q => q⟩, Or.inr ⟨hpo, fun q => q⟩, trivial, trivial⟩ trivial (fun _ _ _ => trivial) (kc_s (av := [(2, 237), (0, (w_tx c (i + 1)))]) (k := 1) (P := fun v o2 _ => o2 = .inl (some (0, v))) (R := fun S2 => RM (xsA c) (m9 + 1) S2) (kc20 (d := 1099) (M := fun _ => False) h hm (wtr (i + 1))) 1098) (fun o1 Z hp1 q1 => ?_)
  obtain ⟨v, rfl, k2⟩ := q1
  show wJ _ _ _ _ _ _ _ _ _ _
  have hpz := hp1 1000001 hpo
  refine wa_aload_n (n := 2) rfl ?_
  refine wa_aload_n (n := 0) rfl ?_
  refine wa_iload (n := 4) rfl ?_
  refine wa_iconst ?_
  refine wa_iadd ?_
  refine wa_xald 6 rfl (xsA_x6 c) (by omega) (by omega) (by omega) ?_
  refine wa_cv 237 rfl (wy_pr rfl) wt_237 (M2 := fun _ => False) rfl at_M_output ⟨_, rfl⟩ rfl rfl ⟨Or.inl (by decide), Or.inr ⟨wy_pr rfl, fun q => q⟩, Or.inr ⟨wy_pr rfl, fun q => q⟩, Or.inr ⟨hpz, fun q => q⟩, trivial, trivial⟩ ⟨trivial, trivial⟩ (fun _ _ _ => trivial) k2 (fun o2 S2 hp2 q2 => ?_)
  obtain ⟨rfl, hR⟩ := q2
  show wJ _ _ _ _ _ _ _ _ _ _
  have hpy := hp2 1000001 hpz
  refine wa_icmpee ⟨_, rfl⟩ ?_
  exact nx S2 hR
theorem lc_21 (hl : c.length ≤ 2560) (h : RM (xsA c) m9 S) (hm : m9 < 512) (hi : 0 ≤ i ∧ i + 5 ≤ (c.length : Int)) (nx : ∀ S2, RM (xsA c) (m9 + 1) S2 → wJ (pe_GA (xsA c)) wY0 (fun _ => True) 1100 t_LL_law ((pe_at t_LL_law.bl 36).getD (0, [])).2 [(0, (2, -10 - ((6 : Nat) : Int))), (1, (2, 0)), (2, (2, 237)), (3, (2, ((1000001 : Nat) : Int))), (4, (0, i))] [] S2 Q) : wJ (pe_GA (xsA c)) wY0 (fun _ => True) 1100 t_LL_law ((pe_at t_LL_law.bl 34).getD (0, [])).2 [(0, (2, -10 - ((6 : Nat) : Int))), (1, (2, 0)), (2, (2, 237)), (3, (2, ((1000001 : Nat) : Int))), (4, (0, i))] [] S Q := by
  have hpo := RM_pr h
  have wtr : ∀ k : Int, -2147483648 ≤ w_tx c k ∧ w_tx c k ≤ 2147483647 := fun k => w_tx_rg c k
  refine wa_aload_n (n := 1) rfl ?_
  refine wa_aload_n (n := 0) rfl ?_
  refine wa_iload (n := 4) rfl ?_
  refine wa_iconst ?_
  refine wa_iadd ?_
  refine wa_xald 6 rfl (xsA_x6 c) (by omega) (by omega) (by omega) ?_
  refine wa_cv 0 rfl (wy_pr rfl) wt_0 (M2 := fun _ => False) rfl at_X_trace ⟨_, rfl⟩ rfl rfl ⟨Or.inl (by decide), Or.inr ⟨wy_pr rfl, fun q => q⟩, Or.inr ⟨wy_pr rfl, fun q => q⟩, Or.inr ⟨hpo, fun q => q⟩, trivial, trivial⟩ trivial (fun _ _ _ => trivial) (kc_s (av := [(2, 237), (0, (w_tx c (i + 1)))]) (k := 1) (P := fun v o2 _ => o2 = .inl (some (0, v))) (R := fun S2 => RM (xsA c) (m9 + 1) S2) (kc21 (d := 1099) (M := fun _ => False) h hm (wtr (i + 1))) 1098) (fun o1 Z hp1 q1 => ?_)
  obtain ⟨v, rfl, k2⟩ := q1
  show wJ _ _ _ _ _ _ _ _ _ _
  have hpz := hp1 1000001 hpo
  refine wa_aload_n (n := 2) rfl ?_
  refine wa_aload_n (n := 0) rfl ?_
  refine wa_iload (n := 4) rfl ?_
  refine wa_iconst ?_
  refine wa_iadd ?_
  refine wa_xald 6 rfl (xsA_x6 c) (by omega) (by omega) (by omega) ?_
  refine wa_cv 237 rfl (wy_pr rfl) wt_237 (M2 := fun _ => False) rfl at_M_trace ⟨_, rfl⟩ rfl rfl ⟨Or.inl (by decide), Or.inr ⟨wy_pr rfl, fun q => q⟩, Or.inr ⟨wy_pr rfl, fun q => q⟩, Or.inr ⟨hpz, fun q => q⟩, trivial, trivial⟩ ⟨trivial, trivial⟩ (fun _ _ _ => trivial) k2 (fun o2 S2 hp2 q2 => ?_)
  obtain ⟨rfl, hR⟩ := q2
  show wJ _ _ _ _ _ _ _ _ _ _
  have hpy := hp2 1000001 hpz
  refine wa_icmpee ⟨_, rfl⟩ ?_
  exact nx S2 hR
theorem lc_22 (hl : c.length ≤ 2560) (h : RM (xsA c) m9 S) (hm : m9 < 512) (hi : 0 ≤ i ∧ i + 5 ≤ (c.length : Int)) (nx : ∀ S2, RM (xsA c) (m9 + 1) S2 → wJ (pe_GA (xsA c)) wY0 (fun _ => True) 1100 t_LL_law ((pe_at t_LL_law.bl 36).getD (0, [])).2 [(0, (2, -10 - ((6 : Nat) : Int))), (1, (2, 0)), (2, (2, 237)), (3, (2, ((1000001 : Nat) : Int))), (4, (0, i))] [] S2 Q) : wJ (pe_GA (xsA c)) wY0 (fun _ => True) 1100 t_LL_law ((pe_at t_LL_law.bl 35).getD (0, [])).2 [(0, (2, -10 - ((6 : Nat) : Int))), (1, (2, 0)), (2, (2, 237)), (3, (2, ((1000001 : Nat) : Int))), (4, (0, i))] [] S Q := by
  have hpo := RM_pr h
  have wtr : ∀ k : Int, -2147483648 ≤ w_tx c k ∧ w_tx c k ≤ 2147483647 := fun k => w_tx_rg c k
  refine wa_aload_n (n := 1) rfl ?_
  refine wa_aload_n (n := 0) rfl ?_
  refine wa_iload (n := 4) rfl ?_
  refine wa_iconst ?_
  refine wa_iadd ?_
  refine wa_xald 6 rfl (xsA_x6 c) (by omega) (by omega) (by omega) ?_
  refine wa_cv 0 rfl (wy_pr rfl) wt_0 (M2 := fun _ => False) rfl at_X_count ⟨_, rfl⟩ rfl rfl ⟨Or.inl (by decide), Or.inr ⟨wy_pr rfl, fun q => q⟩, Or.inr ⟨wy_pr rfl, fun q => q⟩, Or.inr ⟨hpo, fun q => q⟩, trivial, trivial⟩ trivial (fun _ _ _ => trivial) (kc_s (av := [(2, 237), (0, (w_tx c (i + 1)))]) (k := 1) (P := fun v o2 _ => o2 = .inl (some (0, v))) (R := fun S2 => RM (xsA c) (m9 + 1) S2) (kc22 (d := 1098) (M := fun _ => False) h hm (wtr (i + 1))) 1098) (fun o1 Z hp1 q1 => ?_)
  obtain ⟨v, rfl, k2⟩ := q1
  show wJ _ _ _ _ _ _ _ _ _ _
  have hpz := hp1 1000001 hpo
  refine wa_aload_n (n := 2) rfl ?_
  refine wa_aload_n (n := 0) rfl ?_
  refine wa_iload (n := 4) rfl ?_
  refine wa_iconst ?_
  refine wa_iadd ?_
  refine wa_xald 6 rfl (xsA_x6 c) (by omega) (by omega) (by omega) ?_
  refine wa_cv 237 rfl (wy_pr rfl) wt_237 (M2 := fun _ => False) rfl at_M_count ⟨_, rfl⟩ rfl rfl ⟨Or.inl (by decide), Or.inr ⟨wy_pr rfl, fun q => q⟩, Or.inr ⟨wy_pr rfl, fun q => q⟩, Or.inr ⟨hpz, fun q => q⟩, trivial, trivial⟩ ⟨trivial, trivial⟩ (fun _ _ _ => trivial) k2 (fun o2 S2 hp2 q2 => ?_)
  obtain ⟨rfl, hR⟩ := q2
  show wJ _ _ _ _ _ _ _ _ _ _
  have hpy := hp2 1000001 hpz
  refine wa_icmpee ⟨_, rfl⟩ ?_
  exact nx S2 hR
theorem RM_nx {xs : List (Nat × List Int32)} (h : RM xs m9 S) (hm : m9 < 512) : RM xs (m9 + 1) S := by
  obtain ⟨p, q, b, b2, pm, X, HT, nt, cs, ms, os, mo, fa, A, hp, hA, hK, hr, hw, hT, hX, hv, hV, hL, hz⟩ := id h
  exact RM_q h hm (fun j x _ _ _ => rfl) hA.2.2.1 hA.1.2.1 (rmR_rfl _)
theorem RM_h {xs : List (Nat × List Int32)} (h : RM xs m9 S) : S 72 1 = 73 ∨ S 72 1 = 162 := by
  obtain ⟨p, q, b, b2, pm, X, HT, nt, cs, ms, os, mo, fa, A, hp, hA, hK, hr, hw, hT, hX, hv, hV, hL, hz⟩ := id h
  have e := hA.2.1.1
  unfold RMp at hp
  omega
theorem iand31 (x : Int32) : ∃ k : Nat, k < 32 ∧ wb_iand x.toInt 31 = (k : Int) := by
  obtain ⟨k, k0, k1⟩ := wh_31 x
  refine ⟨k, k0, ?_⟩
  unfold wb_iand w_b
  rw [show (Int32.ofInt 31) = (31 : Int32) from rfl, Int32.ofInt_toInt]
  show (x &&& 31).toInt = _
  rw [k1]
  rcases (show k = 0 ∨ k = 1 ∨ k = 2 ∨ k = 3 ∨ k = 4 ∨ k = 5 ∨ k = 6 ∨ k = 7 ∨ k = 8 ∨ k = 9 ∨ k = 10 ∨ k = 11 ∨ k = 12 ∨ k = 13 ∨ k = 14 ∨ k = 15 ∨ k = 16 ∨ k = 17 ∨ k = 18 ∨ k = 19 ∨ k = 20 ∨ k = 21 ∨ k = 22 ∨ k = 23 ∨ k = 24 ∨ k = 25 ∨ k = 26 ∨ k = 27 ∨ k = 28 ∨ k = 29 ∨ k = 30 ∨ k = 31 by omega) with rfl | rfl | rfl | rfl | rfl | rfl | rfl | rfl | rfl | rfl | rfl | rfl | rfl | rfl | rfl | rfl | rfl | rfl | rfl | rfl | rfl | rfl | rfl | rfl | rfl | rfl | rfl | rfl | rfl | rfl | rfl | rfl <;> rfl
/-- the whole loop: the law answers true, and what is between two calls holds at its end -/
theorem lw_loop (hl : c.length ≤ 2560) : ∀ (f m9 : Nat) (S : wS), 512 - m9 < f → m9 ≤ 512 → 5 * m9 ≤ c.length → RM (xsA c) m9 S → wJ (pe_GA (xsA c)) wY0 (fun _ => True) 1100 t_LL_law ((pe_at t_LL_law.bl 2).getD (0, [])).2 [(0, (2, -10 - ((6 : Nat) : Int))), (1, (2, 0)), (2, (2, 237)), (3, (2, ((1000001 : Nat) : Int))), (4, (0, 5 * (m9 : Int)))] [] S (fun o Z => o = .inl (some (0, 1)) ∧ ∃ m : Nat, m ≤ 512 ∧ RM (xsA c) m Z) := by
  intro f
  induction f with
  | zero => intros; omega
  | succ f ih =>
    intro m9 S hf hm5 hlen h
    refine wa_iload (n := 4) rfl ?_
    refine wa_aload_n (n := 0) rfl ?_
    refine wa_xlen 6 rfl (xsA_x6 c) ?_
    refine wa_iconst ?_
    refine wa_isub ?_
    refine wa_icmpgt (w_rg0 (by omega) (by omega)) (w_rg0 (by omega) (by omega)) ⟨_, rfl⟩ (fun c1 => ?_) (fun c1 => ?_)
    · refine wa_iconst ?_
      exact wa_zreturn rfl (Or.inr rfl) ⟨rfl, m9, hm5, h⟩
    have hm : m9 < 512 := by omega
    have hi : (0 : Int) ≤ 5 * (m9 : Int) ∧ 5 * (m9 : Int) + 5 ≤ (c.length : Int) := by omega
    have nx : ∀ S2, RM (xsA c) (m9 + 1) S2 → wJ (pe_GA (xsA c)) wY0 (fun _ => True) 1100 t_LL_law ((pe_at t_LL_law.bl 36).getD (0, [])).2 [(0, (2, -10 - ((6 : Nat) : Int))), (1, (2, 0)), (2, (2, 237)), (3, (2, ((1000001 : Nat) : Int))), (4, (0, 5 * (m9 : Int)))] [] S2 (fun o Z => o = .inl (some (0, 1)) ∧ ∃ m : Nat, m ≤ 512 ∧ RM (xsA c) m Z) := fun S2 h2 => by
      refine wa_iinc (i := 4) rfl rfl ?_
      refine wa_goto ⟨_, rfl⟩ ?_
      have k := ih (m9 + 1) S2 (by omega) (by omega) (by omega) h2
      rw [show (5 : Int) * ((m9 + 1 : Nat) : Int) = 5 * (m9 : Int) + 5 by omega] at k
      exact wJ_S k ⟨rfl, rfl, rfl, rfl, rfl, trivial⟩
    refine wa_aload_n (n := 0) rfl ?_
    refine wa_iload (n := 4) rfl ?_
    refine wa_xald 6 rfl (xsA_x6 c) (by omega) (by omega) (by omega) ?_
    refine wa_bipush (w_rg2 (by omega) (by omega)) ?_
    refine wa_iand ?_
    obtain ⟨k, k0, k1⟩ := iand31 (c.getD (5 * (m9 : Int)).toNat 0)
    have k2 : wb_iand (w_tx c (5 * (m9 : Int))) 31 = (k : Int) := k1
    rw [k2]
    by_cases c2 : k = 0
    · exact wb_sw (w_rg0 (by omega) (by omega)) (tb := 3) (by rw [c2]; rfl) ⟨_, rfl⟩ (lc_0 hl h hm hi nx)
    by_cases c3 : k = 1
    · refine wb_sw (w_rg0 (by omega) (by omega)) (tb := 5) (by rw [c3]; rfl) ⟨_, rfl⟩ ?_
      rcases RM_h h with h72 | h72
      · exact lc_1_73 hl h hm hi h72 nx
      · exact lc_1_162 hl h hm hi h72 nx
    by_cases c4 : k = 2
    · exact wb_sw (w_rg0 (by omega) (by omega)) (tb := 6) (by rw [c4]; rfl) ⟨_, rfl⟩ (lc_2 hl h hm hi nx)
    by_cases c5 : k = 3
    · exact wb_sw (w_rg0 (by omega) (by omega)) (tb := 7) (by rw [c5]; rfl) ⟨_, rfl⟩ (lc_3 hl h hm hi nx)
    by_cases c6 : k = 4
    · exact wb_sw (w_rg0 (by omega) (by omega)) (tb := 8) (by rw [c6]; rfl) ⟨_, rfl⟩ (lc_4 hl h hm hi nx)
    by_cases c7 : k = 5
    · exact wb_sw (w_rg0 (by omega) (by omega)) (tb := 9) (by rw [c7]; rfl) ⟨_, rfl⟩ (lc_5 hl h hm hi nx)
    by_cases c8 : k = 6
    · exact wb_sw (w_rg0 (by omega) (by omega)) (tb := 10) (by rw [c8]; rfl) ⟨_, rfl⟩ (lc_6 hl h hm hi nx)
    by_cases c9 : k = 7
    · exact wb_sw (w_rg0 (by omega) (by omega)) (tb := 11) (by rw [c9]; rfl) ⟨_, rfl⟩ (lc_7 hl h hm hi nx)
    by_cases c10 : k = 8
    · exact wb_sw (w_rg0 (by omega) (by omega)) (tb := 12) (by rw [c10]; rfl) ⟨_, rfl⟩ (lc_8 hl h hm hi nx)
    by_cases c11 : k = 9
    · exact wb_sw (w_rg0 (by omega) (by omega)) (tb := 13) (by rw [c11]; rfl) ⟨_, rfl⟩ (lc_9 hl h hm hi nx)
    by_cases c12 : k = 10
    · exact wb_sw (w_rg0 (by omega) (by omega)) (tb := 14) (by rw [c12]; rfl) ⟨_, rfl⟩ (lc_10 hl h hm hi nx)
    by_cases c13 : k = 11
    · exact wb_sw (w_rg0 (by omega) (by omega)) (tb := 15) (by rw [c13]; rfl) ⟨_, rfl⟩ (lc_11 hl h hm hi nx)
    by_cases c14 : k = 12
    · exact wb_sw (w_rg0 (by omega) (by omega)) (tb := 16) (by rw [c14]; rfl) ⟨_, rfl⟩ (lc_12 hl h hm hi nx)
    by_cases c15 : k = 13
    · exact wb_sw (w_rg0 (by omega) (by omega)) (tb := 19) (by rw [c15]; rfl) ⟨_, rfl⟩ (lc_13 hl h hm hi nx)
    by_cases c16 : k = 14
    · exact wb_sw (w_rg0 (by omega) (by omega)) (tb := 20) (by rw [c16]; rfl) ⟨_, rfl⟩ (lc_14 hl h hm hi nx)
    by_cases c17 : k = 15
    · exact wb_sw (w_rg0 (by omega) (by omega)) (tb := 23) (by rw [c17]; rfl) ⟨_, rfl⟩ (lc_15 hl h hm hi nx)
    by_cases c18 : k = 16
    · exact wb_sw (w_rg0 (by omega) (by omega)) (tb := 24) (by rw [c18]; rfl) ⟨_, rfl⟩ (lc_16 hl h hm hi nx)
    by_cases c19 : k = 17
    · exact wb_sw (w_rg0 (by omega) (by omega)) (tb := 27) (by rw [c19]; rfl) ⟨_, rfl⟩ (lc_17 hl h hm hi nx)
    by_cases c20 : k = 18
    · exact wb_sw (w_rg0 (by omega) (by omega)) (tb := 28) (by rw [c20]; rfl) ⟨_, rfl⟩ (lc_18 hl h hm hi nx)
    by_cases c21 : k = 19
    · exact wb_sw (w_rg0 (by omega) (by omega)) (tb := 32) (by rw [c21]; rfl) ⟨_, rfl⟩ (lc_19 hl h hm hi nx)
    by_cases c22 : k = 20
    · exact wb_sw (w_rg0 (by omega) (by omega)) (tb := 33) (by rw [c22]; rfl) ⟨_, rfl⟩ (lc_20 hl h hm hi nx)
    by_cases c23 : k = 21
    · exact wb_sw (w_rg0 (by omega) (by omega)) (tb := 34) (by rw [c23]; rfl) ⟨_, rfl⟩ (lc_21 hl h hm hi nx)
    by_cases c24 : k = 22
    · exact wb_sw (w_rg0 (by omega) (by omega)) (tb := 35) (by rw [c24]; rfl) ⟨_, rfl⟩ (lc_22 hl h hm hi nx)
    have ht : w_tb 0 [3, 5, 6, 7, 8, 9, 10, 11, 12, 13, 14, 15, 16, 19, 20, 23, 24, 27, 28, 32, 33, 34, 35] 36 (k : Int) = 36 := by
      rcases (show k = 23 ∨ k = 24 ∨ k = 25 ∨ k = 26 ∨ k = 27 ∨ k = 28 ∨ k = 29 ∨ k = 30 ∨ k = 31 by omega) with rfl | rfl | rfl | rfl | rfl | rfl | rfl | rfl | rfl <;> rfl
    exact wb_sw (w_rg0 (by omega) (by omega)) (tb := 36) ht ⟨_, rfl⟩ (nx S (RM_nx h hm))
end Wo9
