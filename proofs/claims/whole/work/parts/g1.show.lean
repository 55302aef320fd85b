/-! PART g1: showText and show of the class, of what is no text and no host's. -/
section Wg1
variable {xs : List (Nat × List Int32)} {M : Nat → Prop} {d : Nat} {S S0 Z A B : wS} {Q : wO → wS → Prop} {e k v : Int} {l l2 : List Int} {tx : List Int32} {j : Nat}
/-- signs have come ahead of what is shown -/
def stI (e0 : Int) (tx : List Int32) (i : Nat) (S0 S : wS) : Prop := (∀ k : Nat, k < i → S 157 (e0 + (k : Int)) = w_tx tx (k : Int)) ∧ (∀ (j : Nat) (x : Int), (j ≠ 157 ∨ x < e0 ∨ e0 + (i : Int) ≤ x) → S j x = S0 j x) ∧ gI S ∧ rmR S0 S
theorem stI_s {e0 : Int} {i : Nat} (h : stI e0 tx i S0 S) (hn : 0 ≤ e0) : stI e0 tx (i + 1) S0 (w_up S 157 (e0 + (i : Int)) (w_tx tx (i : Int))) := by
  obtain ⟨h1, h2, h3, h4⟩ := h
  refine ⟨fun k hk => ?_, fun j x hx => (w_up_no (by omega)).trans (h2 j x (by omega)), gI_up h3 (by omega) (by first | decide | omega) (by first | decide | omega), rmR_up h4 (by omega) (by first | decide | omega)⟩
  by_cases c : k = i
  · rw [c]; exact w_up_same _ _ _ _
  · exact (w_up_at (by omega)).trans (h1 k (by omega))
/-- what a value prints that is no text and no host's -/
def vTx (k v : Int) : List Int32 := if k = 0 then tx_65 else if k = 1 then (if v = 0 then tx_87 else tx_89) else if k = 4 then tx_91 else if k = 5 then tx_35 else tx_93
def vL (k v : Int) : List Int := if k = 2 then shN v else (vTx k v).map (fun z => z.toInt)
theorem shN_len : (shN v).length ≤ 21 := by
  have h := dgF_len 20 v.natAbs
  unfold shN
  rw [List.length_append]
  by_cases c : v < 0
  · rw [if_pos c]; have : ([45] : List Int).length = 1 := rfl; omega
  · rw [if_neg c]; have : ([] : List Int).length = 0 := rfl; omega
theorem vTx_l : (vTx k v).length ≤ 6 := by
  unfold vTx
  repeat (first | (show List.length _ ≤ 6; decide) | split)
theorem vL_len : (vL k v).length ≤ 21 := by
  by_cases c : k = 2
  · have e : vL k v = shN v := if_pos c
    rw [e]; exact shN_len
  · have e : vL k v = (vTx k v).map (fun z => z.toInt) := if_neg c
    rw [e, List.length_map]
    have := vTx_l (k := k) (v := v)
    omega
theorem st_l (ht : pe_at (pe_GA xs).xs j = some (0, tx)) (htl : (tx.length : Int) ≤ 60) (hb : ∀ i : Nat, i < tx.length → 0 ≤ w_tx tx (i : Int) ∧ w_tx tx (i : Int) ≤ 127) (he : (tx.length : Int) ≤ e ∧ e ≤ 64) (h19 : S0 72 19 = (e - (tx.length : Int))) (h57 : S0 157 (-1) = 64) : ∀ (f i : Nat) (S : wS), i + f = tx.length → stI (e - (tx.length : Int)) tx i S0 S → wJ (pe_GA xs) wY0 M (d + 4) t_XH_showText ((pe_at t_XH_showText.bl 1).getD (0, [])).2 [(0, (2, 72)), (1, (2, -10 - (j : Int))), (2, (0, (i : Int)))] [] S (fun o Z => o = .inl none ∧ stI (e - (tx.length : Int)) tx tx.length S0 Z) := by
  intro f
  induction f with
  | zero =>
    intro i S hi hs
    have e19 : S 72 19 = (e - (tx.length : Int)) := (hs.2.1 72 19 (Or.inl (by first | decide | omega))).trans h19
    refine wa_iload_n (n := 2) rfl ?_
    refine wa_aload_n (n := 1) rfl ?_
    refine wa_sl j rfl ht rfl rfl ?_
    refine wa_icmpge (w_rg0 (by omega) (by omega)) (w_rg0 (by omega) (by omega)) ⟨_, rfl⟩ (fun c1 => ?_) (fun c1 => ?_)
    · skip
      refine wa_return rfl ?_
      have ei : i = tx.length := by omega
      subst ei
      exact ⟨rfl, hs⟩
    · skip
      exfalso; omega
  | succ f ih =>
    intro i S hi hs
    have e19 : S 72 19 = (e - (tx.length : Int)) := (hs.2.1 72 19 (Or.inl (by first | decide | omega))).trans h19
    have e57 : S 157 (-1) = 64 := (hs.2.1 157 (-1) (Or.inr (Or.inl (by omega)))).trans h57
    have hbi := hb i (by omega)
    have htl2 : tx.length ≤ 2147483647 := by omega
    refine wa_iload_n (n := 2) rfl ?_
    refine wa_aload_n (n := 1) rfl ?_
    refine wa_sl j rfl ht rfl rfl ?_
    refine wa_icmpge (w_rg0 (by omega) (by omega)) (w_rg0 (by omega) (by omega)) ⟨_, rfl⟩ (fun c51 => ?_) (fun c51 => ?_)
    · skip
      exfalso; omega
    · skip
      refine wa_aload_n (n := 0) rfl ?_
      refine wb_gf4 72 rfl (wy_pr rfl) wt_72 wf_2_18 (v := 157) wl_72_18 ?_
      refine wa_aload_n (n := 0) rfl ?_
      refine wb_gfi 72 rfl (wy_pr rfl) wt_72 wf_2_19 (v := (e - (tx.length : Int))) (e19) (fun r52 => ?_)
      refine wa_iload_n (n := 2) rfl ?_
      refine wa_iadd ?_
      refine wa_aload_n (n := 1) rfl ?_
      refine wa_iload_n (n := 2) rfl ?_
      refine wa_sc j rfl ht (by omega) rfl rfl (by omega) (by omega) ?_
      refine wb_i2b_r (wb_i2b_id ⟨(by omega), (by omega)⟩) ?_
      refine wb_bast 157 rfl (wy_pr rfl) wt_157 (n := 64) (e57) (by omega) (by omega) ⟨(by omega), (by omega)⟩ ?_
      refine wa_iinc rfl rfl ?_
      refine wa_goto ⟨_, rfl⟩ ?_
      exact wJ_S (ih (i + 1) _ (by omega) (stI_s hs (by omega))) ⟨rfl, rfl, rfl, trivial⟩
theorem st_ok (ht : pe_at (pe_GA xs).xs j = some (0, tx)) (htl : (tx.length : Int) ≤ 60) (hb : ∀ i : Nat, i < tx.length → 0 ≤ w_tx tx (i : Int) ∧ w_tx tx (i : Int) ≤ 127) (he : (tx.length : Int) ≤ e ∧ e ≤ 64) (h19 : S 72 19 = e) (h57 : S 157 (-1) = 64) (hI : gI S) : wJ (pe_GA xs) wY0 M (d + 4) t_XH_showText ((pe_at t_XH_showText.bl 0).getD (0, [])).2 [(0, (2, 72)), (1, (2, -10 - (j : Int)))] [] S (fun o Z => o = .inl none ∧ shA (tx.map (fun z => z.toInt)) e S Z) := by
  refine wa_aload_n (n := 0) rfl ?_
  refine wa_dup (by decide) ?_
  refine wb_gfi 72 rfl (wy_pr rfl) wt_72 wf_2_19 (v := e) (h19) (fun r1 => ?_)
  refine wa_aload_n (n := 1) rfl ?_
  refine wa_sl j rfl ht rfl rfl ?_
  refine wa_isub ?_
  refine wb_pfi 72 rfl (wy_pr rfl) wt_72 wf_2_19 (n := 19) rfl ⟨(by omega), (by omega)⟩ ?_
  refine wa_iconst ?_
  refine wa_istore_n (n := 2) rfl ?_
  refine wa_fall ⟨_, rfl⟩ ?_
  refine wJ_mono (wJ_S (st_l ht htl hb he (S0 := (w_up S 72 19 (e - (tx.length : Int)))) (w_up_same _ _ _ _) ((w_up_slot (by first | decide | omega)).trans h57) tx.length 0 (w_up S 72 19 (e - (tx.length : Int))) (by omega) ⟨fun k hk => absurd hk (Nat.not_lt_zero _), fun _ _ _ => rfl, gI_up hI (by first | decide | omega) (by first | decide | omega) (by first | decide | omega), rmR_rfl _⟩) ⟨rfl, rfl, rfl, trivial⟩) (fun o Z hz => ⟨hz.1, ?_⟩)
  obtain ⟨z1, z2, z3, z4⟩ := hz.2
  have lm : (tx.map (fun z => z.toInt)).length = tx.length := List.length_map _
  refine ⟨by rw [lm]; exact (z2 72 19 (Or.inl (by first | decide | omega))).trans (w_up_same _ _ _ _), fun k hk => ?_, fun j2 x j0 j1 => ?_, z3, rmR_tr (rmR_up (rmR_rfl S) (by first | decide | omega) (by first | decide | omega)) z4⟩
  · rw [lm] at hk ⊢
    rw [z1 k hk]
    unfold w_tx
    rw [show ((k : Int)).toNat = k by omega, List.getD_eq_getElem?_getD, List.getD_eq_getElem?_getD, List.getElem?_map, List.getElem?_eq_getElem hk]
    rfl
  · rw [lm] at j0
    exact (z2 j2 x (by omega)).trans (w_up_no (by omega))
set_option maxHeartbeats 4000000 in
theorem xshow (hX : w_X xs) (h57 : S 157 (-1) = 64) (hI : gI S) (hk : k = 0 ∨ k = 1 ∨ k = 2 ∨ k = 4 ∨ k = 5 ∨ k = 6) (hv : -9223372036854775808 ≤ v ∧ v ≤ 9223372036854775807) : wJ (pe_GA xs) wY0 M (d + 5) t_XH_show ((pe_at t_XH_show.bl 0).getD (0, [])).2 [(0, (2, 72)), (1, (0, k)), (2, (1, v))] [] S (fun o Z => o = .inl (some (1, (64 - ((vL k v).length : Int)) * 4294967296 + ((vL k v).length : Int))) ∧ shA (vL k v) 64 (w_up S 72 19 64) Z) := by
  rcases hk with rfl | rfl | rfl | rfl | rfl | rfl
  · skip
    refine wa_aload_n (n := 0) rfl ?_
    refine wa_aload_n (n := 0) rfl ?_
    refine wb_gf4 72 rfl (wy_pr rfl) wt_72 wf_2_18 (v := 157) wl_72_18 ?_
    refine wb_alen 157 rfl (wy_pr rfl) (by rw [wt_157]; rfl) (v := 64) (h57) (fun r1 => ?_)
    refine wb_pfi 72 rfl (wy_pr rfl) wt_72 wf_2_19 (n := 19) rfl ⟨(by omega), (by omega)⟩ ?_
    refine wa_iload_n (n := 1) rfl ?_
    refine wb_sw (w_rg0 (by omega) (by omega)) (tb := 1) rfl ⟨_, rfl⟩ ?_
    refine wa_aload_n (n := 0) rfl ?_
    refine wa_ks ?_
    refine wa_cv 72 rfl (wy_pr rfl) wt_72 (M2 := fun _ => False) rfl at_XH_showText ⟨_, rfl⟩ rfl rfl ⟨(Or.inr ⟨wy_pr rfl, fun q => q⟩), trivial, trivial, trivial⟩ trivial (fun _ _ q => False.elim q) (st_ok (j := 111) (tx := tx_65) (e := 64) (S := (w_up S 72 19 64)) (wx_111 hX) (by decide) (hb_l (by decide)) (by decide) (w_up_same _ _ _ _) ((w_up_slot (by decide)).trans h57) (gI_up hI (by decide) (by decide) (by decide))) (fun oq2 Sq2 hp3 q2 => ?_)
    rcases q2 with ⟨rfl, hsh⟩
    show wJ _ _ _ _ _ _ _ _ _ _
    have ev : vTx 0 v = tx_65 := if_pos rfl
    have el : (vL 0 v) = (tx_65.map (fun z => z.toInt)) := (if_neg (by first | decide | omega)).trans (congrArg (fun z => z.map (fun z : Int32 => z.toInt)) ev)
    rw [← el] at hsh
    have hlv := vL_len (k := 0) (v := v)
    have z19 := hsh.1
    have z57 : Sq2 157 (-1) = 64 := (hsh.2.2.1 157 (-1) (Or.inr (Or.inl (by omega))) (Or.inl (by first | decide | omega))).trans ((w_up_slot (by first | decide | omega)).trans h57)
    refine wa_goto ⟨_, rfl⟩ ?_
    refine wa_aload_n (n := 0) rfl ?_
    refine wb_gfi 72 rfl (wy_pr rfl) wt_72 wf_2_19 (v := (64 - ((vL 0 v).length : Int))) (z19) (fun r4 => ?_)
    refine wa_aload_n (n := 0) rfl ?_
    refine wb_gf4 72 rfl (wy_pr rfl) wt_72 wf_2_18 (v := 157) wl_72_18 ?_
    refine wb_alen 157 rfl (wy_pr rfl) (by rw [wt_157]; rfl) (v := 64) (z57) (fun r5 => ?_)
    refine wa_aload_n (n := 0) rfl ?_
    refine wb_gfi 72 rfl (wy_pr rfl) wt_72 wf_2_19 (v := (64 - ((vL 0 v).length : Int))) (z19) (fun r6 => ?_)
    refine wa_isub ?_
    refine wa_cs (M2 := fun _ => False) rfl at_X_slice ⟨_, rfl⟩ rfl rfl ⟨(Or.inr ⟨wy_pr rfl, fun q => q⟩), trivial, trivial, trivial⟩ trivial (fun _ _ q => False.elim q) ?_ (fun _ _ _ q => q)
    refine wa_iload_n (n := 0) rfl ?_
    refine wa_i2l (w_rg0 (by omega) (by omega)) ?_
    refine wa_bipush (w_rg2 (by omega) (by omega)) ?_
    refine wa_lshl ?_
    refine wa_iload_n (n := 1) rfl ?_
    refine wa_i2l (w_rg0 (by omega) (by omega)) ?_
    refine wa_lor ?_
    refine wa_lreturn rfl ?_
    show wJ _ _ _ _ _ _ _ _ _ _
    refine wa_lreturn rfl ?_
    rw [show 64 - (64 - ((vL 0 v).length : Int)) = ((vL 0 v).length : Int) by omega, sl_mk ⟨by omega, by omega⟩ ⟨by omega, by omega⟩]
    exact ⟨rfl, hsh⟩
  · skip
    refine wa_aload_n (n := 0) rfl ?_
    refine wa_aload_n (n := 0) rfl ?_
    refine wb_gf4 72 rfl (wy_pr rfl) wt_72 wf_2_18 (v := 157) wl_72_18 ?_
    refine wb_alen 157 rfl (wy_pr rfl) (by rw [wt_157]; rfl) (v := 64) (h57) (fun r101 => ?_)
    refine wb_pfi 72 rfl (wy_pr rfl) wt_72 wf_2_19 (n := 19) rfl ⟨(by omega), (by omega)⟩ ?_
    refine wa_iload_n (n := 1) rfl ?_
    refine wb_sw (w_rg0 (by omega) (by omega)) (tb := 2) rfl ⟨_, rfl⟩ ?_
    refine wa_aload_n (n := 0) rfl ?_
    refine wa_lload_n (n := 2) rfl ?_
    refine wb_lconst (m := 0) rfl ?_
    refine wa_lcmp (w_rg1 (by omega) (by omega)) (w_rg1 (by omega) (by omega)) ?_
    refine wa_ifne (by have := @wb_lcmp_cases; exact w_lcmp_rg) ⟨_, rfl⟩ (fun c102 => ?_) (fun c102 => ?_)
    · skip
      have c102x := @wb_lcmp_cases v 0
      refine wa_ks ?_
      refine wa_fall ⟨_, rfl⟩ ?_
      refine wa_cv 72 rfl (wy_pr rfl) wt_72 (M2 := fun _ => False) rfl at_XH_showText ⟨_, rfl⟩ rfl rfl ⟨(Or.inr ⟨wy_pr rfl, fun q => q⟩), trivial, trivial, trivial⟩ trivial (fun _ _ q => False.elim q) (st_ok (j := 115) (tx := tx_89) (e := 64) (S := (w_up S 72 19 64)) (wx_115 hX) (by decide) (hb_l (by decide)) (by decide) (w_up_same _ _ _ _) ((w_up_slot (by decide)).trans h57) (gI_up hI (by decide) (by decide) (by decide))) (fun oq103 Sq103 hp104 q103 => ?_)
      rcases q103 with ⟨rfl, hsh⟩
      show wJ _ _ _ _ _ _ _ _ _ _
      have ev : vTx 1 v = tx_89 := (if_neg (by first | decide | omega)).trans ((if_pos rfl).trans (if_neg (by omega)))
      have el : (vL 1 v) = (tx_89.map (fun z => z.toInt)) := (if_neg (by first | decide | omega)).trans (congrArg (fun z => z.map (fun z : Int32 => z.toInt)) ev)
      rw [← el] at hsh
      have hlv := vL_len (k := 1) (v := v)
      have z19 := hsh.1
      have z57 : Sq103 157 (-1) = 64 := (hsh.2.2.1 157 (-1) (Or.inr (Or.inl (by omega))) (Or.inl (by first | decide | omega))).trans ((w_up_slot (by first | decide | omega)).trans h57)
      refine wa_goto ⟨_, rfl⟩ ?_
      refine wa_aload_n (n := 0) rfl ?_
      refine wb_gfi 72 rfl (wy_pr rfl) wt_72 wf_2_19 (v := (64 - ((vL 1 v).length : Int))) (z19) (fun r105 => ?_)
      refine wa_aload_n (n := 0) rfl ?_
      refine wb_gf4 72 rfl (wy_pr rfl) wt_72 wf_2_18 (v := 157) wl_72_18 ?_
      refine wb_alen 157 rfl (wy_pr rfl) (by rw [wt_157]; rfl) (v := 64) (z57) (fun r106 => ?_)
      refine wa_aload_n (n := 0) rfl ?_
      refine wb_gfi 72 rfl (wy_pr rfl) wt_72 wf_2_19 (v := (64 - ((vL 1 v).length : Int))) (z19) (fun r107 => ?_)
      refine wa_isub ?_
      refine wa_cs (M2 := fun _ => False) rfl at_X_slice ⟨_, rfl⟩ rfl rfl ⟨(Or.inr ⟨wy_pr rfl, fun q => q⟩), trivial, trivial, trivial⟩ trivial (fun _ _ q => False.elim q) ?_ (fun _ _ _ q => q)
      refine wa_iload_n (n := 0) rfl ?_
      refine wa_i2l (w_rg0 (by omega) (by omega)) ?_
      refine wa_bipush (w_rg2 (by omega) (by omega)) ?_
      refine wa_lshl ?_
      refine wa_iload_n (n := 1) rfl ?_
      refine wa_i2l (w_rg0 (by omega) (by omega)) ?_
      refine wa_lor ?_
      refine wa_lreturn rfl ?_
      show wJ _ _ _ _ _ _ _ _ _ _
      refine wa_lreturn rfl ?_
      rw [show 64 - (64 - ((vL 1 v).length : Int)) = ((vL 1 v).length : Int) by omega, sl_mk ⟨by omega, by omega⟩ ⟨by omega, by omega⟩]
      exact ⟨rfl, hsh⟩
    · skip
      have c102x := @wb_lcmp_cases v 0
      refine wa_ks ?_
      refine wa_goto ⟨_, rfl⟩ ?_
      refine wa_cv 72 rfl (wy_pr rfl) wt_72 (M2 := fun _ => False) rfl at_XH_showText ⟨_, rfl⟩ rfl rfl ⟨(Or.inr ⟨wy_pr rfl, fun q => q⟩), trivial, trivial, trivial⟩ trivial (fun _ _ q => False.elim q) (st_ok (j := 113) (tx := tx_87) (e := 64) (S := (w_up S 72 19 64)) (wx_113 hX) (by decide) (hb_l (by decide)) (by decide) (w_up_same _ _ _ _) ((w_up_slot (by decide)).trans h57) (gI_up hI (by decide) (by decide) (by decide))) (fun oq108 Sq108 hp109 q108 => ?_)
      rcases q108 with ⟨rfl, hsh⟩
      show wJ _ _ _ _ _ _ _ _ _ _
      have ev : vTx 1 v = tx_87 := (if_neg (by first | decide | omega)).trans ((if_pos rfl).trans (if_pos (by omega)))
      have el : (vL 1 v) = (tx_87.map (fun z => z.toInt)) := (if_neg (by first | decide | omega)).trans (congrArg (fun z => z.map (fun z : Int32 => z.toInt)) ev)
      rw [← el] at hsh
      have hlv := vL_len (k := 1) (v := v)
      have z19 := hsh.1
      have z57 : Sq108 157 (-1) = 64 := (hsh.2.2.1 157 (-1) (Or.inr (Or.inl (by omega))) (Or.inl (by first | decide | omega))).trans ((w_up_slot (by first | decide | omega)).trans h57)
      refine wa_goto ⟨_, rfl⟩ ?_
      refine wa_aload_n (n := 0) rfl ?_
      refine wb_gfi 72 rfl (wy_pr rfl) wt_72 wf_2_19 (v := (64 - ((vL 1 v).length : Int))) (z19) (fun r110 => ?_)
      refine wa_aload_n (n := 0) rfl ?_
      refine wb_gf4 72 rfl (wy_pr rfl) wt_72 wf_2_18 (v := 157) wl_72_18 ?_
      refine wb_alen 157 rfl (wy_pr rfl) (by rw [wt_157]; rfl) (v := 64) (z57) (fun r111 => ?_)
      refine wa_aload_n (n := 0) rfl ?_
      refine wb_gfi 72 rfl (wy_pr rfl) wt_72 wf_2_19 (v := (64 - ((vL 1 v).length : Int))) (z19) (fun r112 => ?_)
      refine wa_isub ?_
      refine wa_cs (M2 := fun _ => False) rfl at_X_slice ⟨_, rfl⟩ rfl rfl ⟨(Or.inr ⟨wy_pr rfl, fun q => q⟩), trivial, trivial, trivial⟩ trivial (fun _ _ q => False.elim q) ?_ (fun _ _ _ q => q)
      refine wa_iload_n (n := 0) rfl ?_
      refine wa_i2l (w_rg0 (by omega) (by omega)) ?_
      refine wa_bipush (w_rg2 (by omega) (by omega)) ?_
      refine wa_lshl ?_
      refine wa_iload_n (n := 1) rfl ?_
      refine wa_i2l (w_rg0 (by omega) (by omega)) ?_
      refine wa_lor ?_
      refine wa_lreturn rfl ?_
      show wJ _ _ _ _ _ _ _ _ _ _
      refine wa_lreturn rfl ?_
      rw [show 64 - (64 - ((vL 1 v).length : Int)) = ((vL 1 v).length : Int) by omega, sl_mk ⟨by omega, by omega⟩ ⟨by omega, by omega⟩]
      exact ⟨rfl, hsh⟩
  · skip
    refine wa_aload_n (n := 0) rfl ?_
    refine wa_aload_n (n := 0) rfl ?_
    refine wb_gf4 72 rfl (wy_pr rfl) wt_72 wf_2_18 (v := 157) wl_72_18 ?_
    refine wb_alen 157 rfl (wy_pr rfl) (by rw [wt_157]; rfl) (v := 64) (h57) (fun r201 => ?_)
    refine wb_pfi 72 rfl (wy_pr rfl) wt_72 wf_2_19 (n := 19) rfl ⟨(by omega), (by omega)⟩ ?_
    refine wa_iload_n (n := 1) rfl ?_
    refine wb_sw (w_rg0 (by omega) (by omega)) (tb := 5) rfl ⟨_, rfl⟩ ?_
    refine wa_aload_n (n := 0) rfl ?_
    refine wa_lload_n (n := 2) rfl ?_
    refine wa_cv 72 rfl (wy_pr rfl) wt_72 (M2 := fun _ => False) rfl at_XH_showNumber ⟨_, rfl⟩ rfl rfl ⟨(Or.inr ⟨wy_pr rfl, fun q => q⟩), trivial, trivial, trivial⟩ trivial (fun _ _ q => False.elim q) (sn_ok (v := v) (e := 64) (S := (w_up S 72 19 64)) hv (w_up_same _ _ _ _) (by decide) ((w_up_slot (by decide)).trans h57) (gI_up hI (by decide) (by decide) (by decide))) (fun oq202 Sq202 hp203 q202 => ?_)
    rcases q202 with ⟨rfl, hsh⟩
    show wJ _ _ _ _ _ _ _ _ _ _
    have el : (vL 2 v) = shN v := if_pos rfl
    rw [← el] at hsh
    have hlv := vL_len (k := 2) (v := v)
    have z19 := hsh.1
    have z57 : Sq202 157 (-1) = 64 := (hsh.2.2.1 157 (-1) (Or.inr (Or.inl (by omega))) (Or.inl (by first | decide | omega))).trans ((w_up_slot (by first | decide | omega)).trans h57)
    refine wa_goto ⟨_, rfl⟩ ?_
    refine wa_aload_n (n := 0) rfl ?_
    refine wb_gfi 72 rfl (wy_pr rfl) wt_72 wf_2_19 (v := (64 - ((vL 2 v).length : Int))) (z19) (fun r204 => ?_)
    refine wa_aload_n (n := 0) rfl ?_
    refine wb_gf4 72 rfl (wy_pr rfl) wt_72 wf_2_18 (v := 157) wl_72_18 ?_
    refine wb_alen 157 rfl (wy_pr rfl) (by rw [wt_157]; rfl) (v := 64) (z57) (fun r205 => ?_)
    refine wa_aload_n (n := 0) rfl ?_
    refine wb_gfi 72 rfl (wy_pr rfl) wt_72 wf_2_19 (v := (64 - ((vL 2 v).length : Int))) (z19) (fun r206 => ?_)
    refine wa_isub ?_
    refine wa_cs (M2 := fun _ => False) rfl at_X_slice ⟨_, rfl⟩ rfl rfl ⟨(Or.inr ⟨wy_pr rfl, fun q => q⟩), trivial, trivial, trivial⟩ trivial (fun _ _ q => False.elim q) ?_ (fun _ _ _ q => q)
    refine wa_iload_n (n := 0) rfl ?_
    refine wa_i2l (w_rg0 (by omega) (by omega)) ?_
    refine wa_bipush (w_rg2 (by omega) (by omega)) ?_
    refine wa_lshl ?_
    refine wa_iload_n (n := 1) rfl ?_
    refine wa_i2l (w_rg0 (by omega) (by omega)) ?_
    refine wa_lor ?_
    refine wa_lreturn rfl ?_
    show wJ _ _ _ _ _ _ _ _ _ _
    refine wa_lreturn rfl ?_
    rw [show 64 - (64 - ((vL 2 v).length : Int)) = ((vL 2 v).length : Int) by omega, sl_mk ⟨by omega, by omega⟩ ⟨by omega, by omega⟩]
    exact ⟨rfl, hsh⟩
  · skip
    refine wa_aload_n (n := 0) rfl ?_
    refine wa_aload_n (n := 0) rfl ?_
    refine wb_gf4 72 rfl (wy_pr rfl) wt_72 wf_2_18 (v := 157) wl_72_18 ?_
    refine wb_alen 157 rfl (wy_pr rfl) (by rw [wt_157]; rfl) (v := 64) (h57) (fun r301 => ?_)
    refine wb_pfi 72 rfl (wy_pr rfl) wt_72 wf_2_19 (n := 19) rfl ⟨(by omega), (by omega)⟩ ?_
    refine wa_iload_n (n := 1) rfl ?_
    refine wb_sw (w_rg0 (by omega) (by omega)) (tb := 7) rfl ⟨_, rfl⟩ ?_
    refine wa_aload_n (n := 0) rfl ?_
    refine wa_ks ?_
    refine wa_cv 72 rfl (wy_pr rfl) wt_72 (M2 := fun _ => False) rfl at_XH_showText ⟨_, rfl⟩ rfl rfl ⟨(Or.inr ⟨wy_pr rfl, fun q => q⟩), trivial, trivial, trivial⟩ trivial (fun _ _ q => False.elim q) (st_ok (j := 117) (tx := tx_91) (e := 64) (S := (w_up S 72 19 64)) (wx_117 hX) (by decide) (hb_l (by decide)) (by decide) (w_up_same _ _ _ _) ((w_up_slot (by decide)).trans h57) (gI_up hI (by decide) (by decide) (by decide))) (fun oq302 Sq302 hp303 q302 => ?_)
    rcases q302 with ⟨rfl, hsh⟩
    show wJ _ _ _ _ _ _ _ _ _ _
    have ev : vTx 4 v = tx_91 := (if_neg (by first | decide | omega)).trans ((if_neg (by first | decide | omega)).trans (if_pos rfl))
    have el : (vL 4 v) = (tx_91.map (fun z => z.toInt)) := (if_neg (by first | decide | omega)).trans (congrArg (fun z => z.map (fun z : Int32 => z.toInt)) ev)
    rw [← el] at hsh
    have hlv := vL_len (k := 4) (v := v)
    have z19 := hsh.1
    have z57 : Sq302 157 (-1) = 64 := (hsh.2.2.1 157 (-1) (Or.inr (Or.inl (by omega))) (Or.inl (by first | decide | omega))).trans ((w_up_slot (by first | decide | omega)).trans h57)
    refine wa_goto ⟨_, rfl⟩ ?_
    refine wa_aload_n (n := 0) rfl ?_
    refine wb_gfi 72 rfl (wy_pr rfl) wt_72 wf_2_19 (v := (64 - ((vL 4 v).length : Int))) (z19) (fun r304 => ?_)
    refine wa_aload_n (n := 0) rfl ?_
    refine wb_gf4 72 rfl (wy_pr rfl) wt_72 wf_2_18 (v := 157) wl_72_18 ?_
    refine wb_alen 157 rfl (wy_pr rfl) (by rw [wt_157]; rfl) (v := 64) (z57) (fun r305 => ?_)
    refine wa_aload_n (n := 0) rfl ?_
    refine wb_gfi 72 rfl (wy_pr rfl) wt_72 wf_2_19 (v := (64 - ((vL 4 v).length : Int))) (z19) (fun r306 => ?_)
    refine wa_isub ?_
    refine wa_cs (M2 := fun _ => False) rfl at_X_slice ⟨_, rfl⟩ rfl rfl ⟨(Or.inr ⟨wy_pr rfl, fun q => q⟩), trivial, trivial, trivial⟩ trivial (fun _ _ q => False.elim q) ?_ (fun _ _ _ q => q)
    refine wa_iload_n (n := 0) rfl ?_
    refine wa_i2l (w_rg0 (by omega) (by omega)) ?_
    refine wa_bipush (w_rg2 (by omega) (by omega)) ?_
    refine wa_lshl ?_
    refine wa_iload_n (n := 1) rfl ?_
    refine wa_i2l (w_rg0 (by omega) (by omega)) ?_
    refine wa_lor ?_
    refine wa_lreturn rfl ?_
    show wJ _ _ _ _ _ _ _ _ _ _
    refine wa_lreturn rfl ?_
    rw [show 64 - (64 - ((vL 4 v).length : Int)) = ((vL 4 v).length : Int) by omega, sl_mk ⟨by omega, by omega⟩ ⟨by omega, by omega⟩]
    exact ⟨rfl, hsh⟩
  · skip
    refine wa_aload_n (n := 0) rfl ?_
    refine wa_aload_n (n := 0) rfl ?_
    refine wb_gf4 72 rfl (wy_pr rfl) wt_72 wf_2_18 (v := 157) wl_72_18 ?_
    refine wb_alen 157 rfl (wy_pr rfl) (by rw [wt_157]; rfl) (v := 64) (h57) (fun r401 => ?_)
    refine wb_pfi 72 rfl (wy_pr rfl) wt_72 wf_2_19 (n := 19) rfl ⟨(by omega), (by omega)⟩ ?_
    refine wa_iload_n (n := 1) rfl ?_
    refine wb_sw (w_rg0 (by omega) (by omega)) (tb := 8) rfl ⟨_, rfl⟩ ?_
    refine wa_aload_n (n := 0) rfl ?_
    refine wa_ks ?_
    refine wa_cv 72 rfl (wy_pr rfl) wt_72 (M2 := fun _ => False) rfl at_XH_showText ⟨_, rfl⟩ rfl rfl ⟨(Or.inr ⟨wy_pr rfl, fun q => q⟩), trivial, trivial, trivial⟩ trivial (fun _ _ q => False.elim q) (st_ok (j := 109) (tx := tx_35) (e := 64) (S := (w_up S 72 19 64)) (wx_109 hX) (by decide) (hb_l (by decide)) (by decide) (w_up_same _ _ _ _) ((w_up_slot (by decide)).trans h57) (gI_up hI (by decide) (by decide) (by decide))) (fun oq402 Sq402 hp403 q402 => ?_)
    rcases q402 with ⟨rfl, hsh⟩
    show wJ _ _ _ _ _ _ _ _ _ _
    have ev : vTx 5 v = tx_35 := (if_neg (by first | decide | omega)).trans ((if_neg (by first | decide | omega)).trans ((if_neg (by first | decide | omega)).trans (if_pos rfl)))
    have el : (vL 5 v) = (tx_35.map (fun z => z.toInt)) := (if_neg (by first | decide | omega)).trans (congrArg (fun z => z.map (fun z : Int32 => z.toInt)) ev)
    rw [← el] at hsh
    have hlv := vL_len (k := 5) (v := v)
    have z19 := hsh.1
    have z57 : Sq402 157 (-1) = 64 := (hsh.2.2.1 157 (-1) (Or.inr (Or.inl (by omega))) (Or.inl (by first | decide | omega))).trans ((w_up_slot (by first | decide | omega)).trans h57)
    refine wa_goto ⟨_, rfl⟩ ?_
    refine wa_aload_n (n := 0) rfl ?_
    refine wb_gfi 72 rfl (wy_pr rfl) wt_72 wf_2_19 (v := (64 - ((vL 5 v).length : Int))) (z19) (fun r404 => ?_)
    refine wa_aload_n (n := 0) rfl ?_
    refine wb_gf4 72 rfl (wy_pr rfl) wt_72 wf_2_18 (v := 157) wl_72_18 ?_
    refine wb_alen 157 rfl (wy_pr rfl) (by rw [wt_157]; rfl) (v := 64) (z57) (fun r405 => ?_)
    refine wa_aload_n (n := 0) rfl ?_
    refine wb_gfi 72 rfl (wy_pr rfl) wt_72 wf_2_19 (v := (64 - ((vL 5 v).length : Int))) (z19) (fun r406 => ?_)
    refine wa_isub ?_
    refine wa_cs (M2 := fun _ => False) rfl at_X_slice ⟨_, rfl⟩ rfl rfl ⟨(Or.inr ⟨wy_pr rfl, fun q => q⟩), trivial, trivial, trivial⟩ trivial (fun _ _ q => False.elim q) ?_ (fun _ _ _ q => q)
    refine wa_iload_n (n := 0) rfl ?_
    refine wa_i2l (w_rg0 (by omega) (by omega)) ?_
    refine wa_bipush (w_rg2 (by omega) (by omega)) ?_
    refine wa_lshl ?_
    refine wa_iload_n (n := 1) rfl ?_
    refine wa_i2l (w_rg0 (by omega) (by omega)) ?_
    refine wa_lor ?_
    refine wa_lreturn rfl ?_
    show wJ _ _ _ _ _ _ _ _ _ _
    refine wa_lreturn rfl ?_
    rw [show 64 - (64 - ((vL 5 v).length : Int)) = ((vL 5 v).length : Int) by omega, sl_mk ⟨by omega, by omega⟩ ⟨by omega, by omega⟩]
    exact ⟨rfl, hsh⟩
  · skip
    refine wa_aload_n (n := 0) rfl ?_
    refine wa_aload_n (n := 0) rfl ?_
    refine wb_gf4 72 rfl (wy_pr rfl) wt_72 wf_2_18 (v := 157) wl_72_18 ?_
    refine wb_alen 157 rfl (wy_pr rfl) (by rw [wt_157]; rfl) (v := 64) (h57) (fun r501 => ?_)
    refine wb_pfi 72 rfl (wy_pr rfl) wt_72 wf_2_19 (n := 19) rfl ⟨(by omega), (by omega)⟩ ?_
    refine wa_iload_n (n := 1) rfl ?_
    refine wb_sw (w_rg0 (by omega) (by omega)) (tb := 9) rfl ⟨_, rfl⟩ ?_
    refine wa_aload_n (n := 0) rfl ?_
    refine wa_ks ?_
    refine wa_cv 72 rfl (wy_pr rfl) wt_72 (M2 := fun _ => False) rfl at_XH_showText ⟨_, rfl⟩ rfl rfl ⟨(Or.inr ⟨wy_pr rfl, fun q => q⟩), trivial, trivial, trivial⟩ trivial (fun _ _ q => False.elim q) (st_ok (j := 119) (tx := tx_93) (e := 64) (S := (w_up S 72 19 64)) (wx_119 hX) (by decide) (hb_l (by decide)) (by decide) (w_up_same _ _ _ _) ((w_up_slot (by decide)).trans h57) (gI_up hI (by decide) (by decide) (by decide))) (fun oq502 Sq502 hp503 q502 => ?_)
    rcases q502 with ⟨rfl, hsh⟩
    show wJ _ _ _ _ _ _ _ _ _ _
    have ev : vTx 6 v = tx_93 := (if_neg (by first | decide | omega)).trans ((if_neg (by first | decide | omega)).trans ((if_neg (by first | decide | omega)).trans (if_neg (by first | decide | omega))))
    have el : (vL 6 v) = (tx_93.map (fun z => z.toInt)) := (if_neg (by first | decide | omega)).trans (congrArg (fun z => z.map (fun z : Int32 => z.toInt)) ev)
    rw [← el] at hsh
    have hlv := vL_len (k := 6) (v := v)
    have z19 := hsh.1
    have z57 : Sq502 157 (-1) = 64 := (hsh.2.2.1 157 (-1) (Or.inr (Or.inl (by omega))) (Or.inl (by first | decide | omega))).trans ((w_up_slot (by first | decide | omega)).trans h57)
    refine wa_goto ⟨_, rfl⟩ ?_
    refine wa_aload_n (n := 0) rfl ?_
    refine wb_gfi 72 rfl (wy_pr rfl) wt_72 wf_2_19 (v := (64 - ((vL 6 v).length : Int))) (z19) (fun r504 => ?_)
    refine wa_aload_n (n := 0) rfl ?_
    refine wb_gf4 72 rfl (wy_pr rfl) wt_72 wf_2_18 (v := 157) wl_72_18 ?_
    refine wb_alen 157 rfl (wy_pr rfl) (by rw [wt_157]; rfl) (v := 64) (z57) (fun r505 => ?_)
    refine wa_aload_n (n := 0) rfl ?_
    refine wb_gfi 72 rfl (wy_pr rfl) wt_72 wf_2_19 (v := (64 - ((vL 6 v).length : Int))) (z19) (fun r506 => ?_)
    refine wa_isub ?_
    refine wa_cs (M2 := fun _ => False) rfl at_X_slice ⟨_, rfl⟩ rfl rfl ⟨(Or.inr ⟨wy_pr rfl, fun q => q⟩), trivial, trivial, trivial⟩ trivial (fun _ _ q => False.elim q) ?_ (fun _ _ _ q => q)
    refine wa_iload_n (n := 0) rfl ?_
    refine wa_i2l (w_rg0 (by omega) (by omega)) ?_
    refine wa_bipush (w_rg2 (by omega) (by omega)) ?_
    refine wa_lshl ?_
    refine wa_iload_n (n := 1) rfl ?_
    refine wa_i2l (w_rg0 (by omega) (by omega)) ?_
    refine wa_lor ?_
    refine wa_lreturn rfl ?_
    show wJ _ _ _ _ _ _ _ _ _ _
    refine wa_lreturn rfl ?_
    rw [show 64 - (64 - ((vL 6 v).length : Int)) = ((vL 6 v).length : Int) by omega, sl_mk ⟨by omega, by omega⟩ ⟨by omega, by omega⟩]
    exact ⟨rfl, hsh⟩
end Wg1
