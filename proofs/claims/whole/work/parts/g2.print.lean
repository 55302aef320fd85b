/-! PART g2: what a value prints, spelled by the reference. -/
section Wg2
variable {xs : List (Nat × List Int32)} {M : Nat → Prop} {d : Nat} {S Z : wS} {k v : Int}
set_option maxHeartbeats 4000000 in
theorem mprn (hX : w_X xs) (hM : w_ML S) (h13 : S 237 113 = 0) (hk : k = 0 ∨ k = 1 ∨ k = 2 ∨ k = 4 ∨ k = 5 ∨ k = 6) (hv : -9223372036854775808 ≤ v ∧ v ≤ 9223372036854775807) : wJ (pe_GA xs) wY0 M (d + 6) t_M_print ((pe_at t_M_print.bl 0).getD (0, [])).2 [(0, (2, 237)), (1, (0, k)), (2, (1, v))] [] S (fun o Z => o = .inl none ∧ spL 0 (vL k v) S Z) := by
  rcases hk with rfl | rfl | rfl | rfl | rfl | rfl
  · skip
    refine wa_iload_n (n := 1) rfl ?_
    refine wb_sw (w_rg0 (by omega) (by omega)) (tb := 1) rfl ⟨_, rfl⟩ ?_
    refine wa_aload_n (n := 0) rfl ?_
    refine wa_ks ?_
    refine wa_cv 237 rfl (wy_pr rfl) wt_237 (M2 := fun _ => False) rfl at_M_spell ⟨_, rfl⟩ rfl rfl ⟨(Or.inr ⟨wy_pr rfl, fun q => q⟩), trivial, trivial, trivial⟩ trivial (fun _ _ q => False.elim q) (sp_ok (j := 65) (tx := tx_65) (n0 := 0) (wx_65 hX) (by decide) (hb_l (by decide)) (by decide) hM h13) (fun oq1 Sq1 hp2 q1 => ?_)
    rcases q1 with ⟨rfl, hsp⟩
    show wJ _ _ _ _ _ _ _ _ _ _
    have ev : vTx 0 v = tx_65 := if_pos rfl
    have el : (vL 0 v) = (tx_65.map (fun z => z.toInt)) := (if_neg (by first | decide | omega)).trans (congrArg (fun z => z.map (fun z : Int32 => z.toInt)) ev)
    have hsl := spA_L hsp
    rw [← el] at hsl
    refine wa_goto ⟨_, rfl⟩ ?_
    refine wa_return rfl ?_
    exact ⟨rfl, hsl⟩
  · skip
    refine wa_iload_n (n := 1) rfl ?_
    refine wb_sw (w_rg0 (by omega) (by omega)) (tb := 2) rfl ⟨_, rfl⟩ ?_
    refine wa_aload_n (n := 0) rfl ?_
    refine wa_lload_n (n := 2) rfl ?_
    refine wb_lconst (m := 0) rfl ?_
    refine wa_lcmp (w_rg1 (by omega) (by omega)) (w_rg1 (by omega) (by omega)) ?_
    refine wa_ifne (by have := @wb_lcmp_cases; exact w_lcmp_rg) ⟨_, rfl⟩ (fun c101 => ?_) (fun c101 => ?_)
    · skip
      have c101x := @wb_lcmp_cases v 0
      refine wa_ks ?_
      refine wa_fall ⟨_, rfl⟩ ?_
      refine wa_cv 237 rfl (wy_pr rfl) wt_237 (M2 := fun _ => False) rfl at_M_spell ⟨_, rfl⟩ rfl rfl ⟨(Or.inr ⟨wy_pr rfl, fun q => q⟩), trivial, trivial, trivial⟩ trivial (fun _ _ q => False.elim q) (sp_ok (j := 89) (tx := tx_89) (n0 := 0) (wx_89 hX) (by decide) (hb_l (by decide)) (by decide) hM h13) (fun oq102 Sq102 hp103 q102 => ?_)
      rcases q102 with ⟨rfl, hsp⟩
      show wJ _ _ _ _ _ _ _ _ _ _
      have ev : vTx 1 v = tx_89 := (if_neg (by first | decide | omega)).trans ((if_pos rfl).trans (if_neg (by omega)))
      have el : (vL 1 v) = (tx_89.map (fun z => z.toInt)) := (if_neg (by first | decide | omega)).trans (congrArg (fun z => z.map (fun z : Int32 => z.toInt)) ev)
      have hsl := spA_L hsp
      rw [← el] at hsl
      refine wa_goto ⟨_, rfl⟩ ?_
      refine wa_return rfl ?_
      exact ⟨rfl, hsl⟩
    · skip
      have c101x := @wb_lcmp_cases v 0
      refine wa_ks ?_
      refine wa_goto ⟨_, rfl⟩ ?_
      refine wa_cv 237 rfl (wy_pr rfl) wt_237 (M2 := fun _ => False) rfl at_M_spell ⟨_, rfl⟩ rfl rfl ⟨(Or.inr ⟨wy_pr rfl, fun q => q⟩), trivial, trivial, trivial⟩ trivial (fun _ _ q => False.elim q) (sp_ok (j := 87) (tx := tx_87) (n0 := 0) (wx_87 hX) (by decide) (hb_l (by decide)) (by decide) hM h13) (fun oq104 Sq104 hp105 q104 => ?_)
      rcases q104 with ⟨rfl, hsp⟩
      show wJ _ _ _ _ _ _ _ _ _ _
      have ev : vTx 1 v = tx_87 := (if_neg (by first | decide | omega)).trans ((if_pos rfl).trans (if_pos (by omega)))
      have el : (vL 1 v) = (tx_87.map (fun z => z.toInt)) := (if_neg (by first | decide | omega)).trans (congrArg (fun z => z.map (fun z : Int32 => z.toInt)) ev)
      have hsl := spA_L hsp
      rw [← el] at hsl
      refine wa_goto ⟨_, rfl⟩ ?_
      refine wa_return rfl ?_
      exact ⟨rfl, hsl⟩
  · skip
    refine wa_iload_n (n := 1) rfl ?_
    refine wb_sw (w_rg0 (by omega) (by omega)) (tb := 5) rfl ⟨_, rfl⟩ ?_
    refine wa_aload_n (n := 0) rfl ?_
    refine wa_lload_n (n := 2) rfl ?_
    refine wa_cv 237 rfl (wy_pr rfl) wt_237 (M2 := fun _ => False) rfl at_M_spellNumber ⟨_, rfl⟩ rfl rfl ⟨(Or.inr ⟨wy_pr rfl, fun q => q⟩), trivial, trivial, trivial⟩ trivial (fun _ _ q => False.elim q) (spn_ok (v := v) (c := 0) hX hM hv h13 (by decide)) (fun oq201 Sq201 hp202 q201 => ?_)
    rcases q201 with ⟨rfl, hsl⟩
    show wJ _ _ _ _ _ _ _ _ _ _
    have el : (vL 2 v) = shN v := if_pos rfl
    rw [← el] at hsl
    refine wa_goto ⟨_, rfl⟩ ?_
    refine wa_return rfl ?_
    exact ⟨rfl, hsl⟩
  · skip
    refine wa_iload_n (n := 1) rfl ?_
    refine wb_sw (w_rg0 (by omega) (by omega)) (tb := 6) rfl ⟨_, rfl⟩ ?_
    refine wa_aload_n (n := 0) rfl ?_
    refine wa_ks ?_
    refine wa_cv 237 rfl (wy_pr rfl) wt_237 (M2 := fun _ => False) rfl at_M_spell ⟨_, rfl⟩ rfl rfl ⟨(Or.inr ⟨wy_pr rfl, fun q => q⟩), trivial, trivial, trivial⟩ trivial (fun _ _ q => False.elim q) (sp_ok (j := 91) (tx := tx_91) (n0 := 0) (wx_91 hX) (by decide) (hb_l (by decide)) (by decide) hM h13) (fun oq301 Sq301 hp302 q301 => ?_)
    rcases q301 with ⟨rfl, hsp⟩
    show wJ _ _ _ _ _ _ _ _ _ _
    have ev : vTx 4 v = tx_91 := (if_neg (by first | decide | omega)).trans ((if_neg (by first | decide | omega)).trans (if_pos rfl))
    have el : (vL 4 v) = (tx_91.map (fun z => z.toInt)) := (if_neg (by first | decide | omega)).trans (congrArg (fun z => z.map (fun z : Int32 => z.toInt)) ev)
    have hsl := spA_L hsp
    rw [← el] at hsl
    refine wa_goto ⟨_, rfl⟩ ?_
    refine wa_return rfl ?_
    exact ⟨rfl, hsl⟩
  · skip
    refine wa_iload_n (n := 1) rfl ?_
    refine wb_sw (w_rg0 (by omega) (by omega)) (tb := 7) rfl ⟨_, rfl⟩ ?_
    refine wa_aload_n (n := 0) rfl ?_
    refine wa_ks ?_
    refine wa_cv 237 rfl (wy_pr rfl) wt_237 (M2 := fun _ => False) rfl at_M_spell ⟨_, rfl⟩ rfl rfl ⟨(Or.inr ⟨wy_pr rfl, fun q => q⟩), trivial, trivial, trivial⟩ trivial (fun _ _ q => False.elim q) (sp_ok (j := 35) (tx := tx_35) (n0 := 0) (wx_35 hX) (by decide) (hb_l (by decide)) (by decide) hM h13) (fun oq401 Sq401 hp402 q401 => ?_)
    rcases q401 with ⟨rfl, hsp⟩
    show wJ _ _ _ _ _ _ _ _ _ _
    have ev : vTx 5 v = tx_35 := (if_neg (by first | decide | omega)).trans ((if_neg (by first | decide | omega)).trans ((if_neg (by first | decide | omega)).trans (if_pos rfl)))
    have el : (vL 5 v) = (tx_35.map (fun z => z.toInt)) := (if_neg (by first | decide | omega)).trans (congrArg (fun z => z.map (fun z : Int32 => z.toInt)) ev)
    have hsl := spA_L hsp
    rw [← el] at hsl
    refine wa_goto ⟨_, rfl⟩ ?_
    refine wa_return rfl ?_
    exact ⟨rfl, hsl⟩
  · skip
    refine wa_iload_n (n := 1) rfl ?_
    refine wb_sw (w_rg0 (by omega) (by omega)) (tb := 8) rfl ⟨_, rfl⟩ ?_
    refine wa_aload_n (n := 0) rfl ?_
    refine wa_ks ?_
    refine wa_cv 237 rfl (wy_pr rfl) wt_237 (M2 := fun _ => False) rfl at_M_spell ⟨_, rfl⟩ rfl rfl ⟨(Or.inr ⟨wy_pr rfl, fun q => q⟩), trivial, trivial, trivial⟩ trivial (fun _ _ q => False.elim q) (sp_ok (j := 93) (tx := tx_93) (n0 := 0) (wx_93 hX) (by decide) (hb_l (by decide)) (by decide) hM h13) (fun oq501 Sq501 hp502 q501 => ?_)
    rcases q501 with ⟨rfl, hsp⟩
    show wJ _ _ _ _ _ _ _ _ _ _
    have ev : vTx 6 v = tx_93 := (if_neg (by first | decide | omega)).trans ((if_neg (by first | decide | omega)).trans ((if_neg (by first | decide | omega)).trans (if_neg (by first | decide | omega))))
    have el : (vL 6 v) = (tx_93.map (fun z => z.toInt)) := (if_neg (by first | decide | omega)).trans (congrArg (fun z => z.map (fun z : Int32 => z.toInt)) ev)
    have hsl := spA_L hsp
    rw [← el] at hsl
    refine wa_goto ⟨_, rfl⟩ ?_
    refine wa_return rfl ?_
    exact ⟨rfl, hsl⟩
end Wg2
