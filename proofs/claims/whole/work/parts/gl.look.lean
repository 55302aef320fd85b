/-! PART gl: lookAtRow and look of the class's linker. -/
section Wgl
variable {xs : List (Nat × List Int32)} {M : Nat → Prop} {d : Nat} {S Z A : wS} {H : List aH} {T : List aO} {L : List aC} {G : Int → aV} {s kd nms gk gb nm es fo n ec wd : Int} {Q : wO → wS → Prop} {R : wS → Prop} {ml : List Nat}
/-- what a list or a text answers to a site: 0, or an ERROR; wd: the word of the name -/
def rwP (wd gk kd ec : Int) : Int := if kd = 0 then (if wd = 22 then 0 else 4) else if kd = 5 then (if (gk = 6 ∧ ((wd = 23 ∧ ec = 1) ∨ (wd = 24 ∧ ec = 0))) ∨ (gk ≠ 6 ∧ wd = 25 ∧ ec = 2) then 0 else 4) else if kd = 2 ∨ (kd = 3 ∧ gk = 6) then 0 else 5
def rwZ (w : Nat) (fo g p : Int) (S : wS) : wS := if p = 0 then w_up S 49 fo g else w_up (w_up S 49 fo g) w 16 p
/-- the columns of the entry that is found into are blank -/
def bkZ (fo l : Int) (S : wS) : wS := w_up (w_up (w_up (w_up (w_up (w_up (w_up (w_up (w_up (w_up (w_up S 48 fo (-1)) 49 fo (-1)) 50 fo (-1)) 51 fo (-1)) 52 fo (-1)) 53 fo (-1)) 54 fo (-1)) 55 fo (-1)) 56 fo (-1)) 57 fo (-1)) 48 fo l
theorem bkZ_e {l : Int} (j : Nat) (x : Int) (h : (j < 48 ∨ 57 < j) ∨ x ≠ fo) : bkZ fo l S j x = S j x := by
  unfold bkZ
  exact (w_up_no (by omega)).trans ((w_up_no (by omega)).trans ((w_up_no (by omega)).trans ((w_up_no (by omega)).trans ((w_up_no (by omega)).trans ((w_up_no (by omega)).trans ((w_up_no (by omega)).trans ((w_up_no (by omega)).trans ((w_up_no (by omega)).trans ((w_up_no (by omega)).trans (w_up_no (by omega)))))))))))
theorem bkZ_b {l : Int} : blE l fo (bkZ fo l S) := ⟨⟨(w_up_same _ _ _ _), ((w_up_slot (by first | decide | omega)).trans ((w_up_slot (by first | decide | omega)).trans ((w_up_slot (by first | decide | omega)).trans ((w_up_slot (by first | decide | omega)).trans ((w_up_slot (by first | decide | omega)).trans ((w_up_slot (by first | decide | omega)).trans ((w_up_slot (by first | decide | omega)).trans ((w_up_slot (by first | decide | omega)).trans ((w_up_slot (by first | decide | omega)).trans (w_up_same _ _ _ _)))))))))), ((w_up_slot (by first | decide | omega)).trans ((w_up_slot (by first | decide | omega)).trans ((w_up_slot (by first | decide | omega)).trans ((w_up_slot (by first | decide | omega)).trans ((w_up_slot (by first | decide | omega)).trans ((w_up_slot (by first | decide | omega)).trans ((w_up_slot (by first | decide | omega)).trans ((w_up_slot (by first | decide | omega)).trans (w_up_same _ _ _ _))))))))), ((w_up_slot (by first | decide | omega)).trans ((w_up_slot (by first | decide | omega)).trans ((w_up_slot (by first | decide | omega)).trans ((w_up_slot (by first | decide | omega)).trans ((w_up_slot (by first | decide | omega)).trans ((w_up_slot (by first | decide | omega)).trans ((w_up_slot (by first | decide | omega)).trans (w_up_same _ _ _ _)))))))), ((w_up_slot (by first | decide | omega)).trans ((w_up_slot (by first | decide | omega)).trans ((w_up_slot (by first | decide | omega)).trans ((w_up_slot (by first | decide | omega)).trans ((w_up_slot (by first | decide | omega)).trans ((w_up_slot (by first | decide | omega)).trans (w_up_same _ _ _ _)))))))⟩, ((w_up_slot (by first | decide | omega)).trans ((w_up_slot (by first | decide | omega)).trans ((w_up_slot (by first | decide | omega)).trans ((w_up_slot (by first | decide | omega)).trans ((w_up_slot (by first | decide | omega)).trans (w_up_same _ _ _ _)))))), ((w_up_slot (by first | decide | omega)).trans ((w_up_slot (by first | decide | omega)).trans ((w_up_slot (by first | decide | omega)).trans ((w_up_slot (by first | decide | omega)).trans (w_up_same _ _ _ _))))), ((w_up_slot (by first | decide | omega)).trans ((w_up_slot (by first | decide | omega)).trans ((w_up_slot (by first | decide | omega)).trans (w_up_same _ _ _ _)))), ((w_up_slot (by first | decide | omega)).trans ((w_up_slot (by first | decide | omega)).trans (w_up_same _ _ _ _)))⟩
theorem bkZ_c {l : Int} (h : w_CL S) (hf : 0 ≤ fo) : w_CL (bkZ fo l S) := fun q hq => (bkZ_e q.1 (-1) (Or.inr (by omega))).trans (h q hq)
theorem bkZ_g {l : Int} (h : gI S) (hf : 0 ≤ fo) : gI (bkZ fo l S) ∧ rmR S (bkZ fo l S) := by
  have hg : wG = 1000000 := rfl
  exact ⟨gI_ag2 h (fun j hj => bkZ_e j (-1) (Or.inr (by omega))) (fun x _ => bkZ_e 238 _ (Or.inl (by first | decide | omega))) (bkZ_e 14 5 (Or.inl (by first | decide | omega))), rmR_ag (rmR_rfl S) (fun k _ => bkZ_e k (-1) (Or.inr (by omega))) (bkZ_e wG 0 (Or.inl (by first | decide | omega))) (bkZ_e wG 1 (Or.inl (by first | decide | omega)))⟩
theorem lar_215 (hC : w_CL S) (hl : cSl S) (l4 : S 158 4 = 215) (l7 : S 158 7 = kd) (l9 : S 158 9 = gk) (l10 : S 158 10 = gb) (l11 : S 158 11 = nm) (l13 : S 158 13 = es) (l12 : S 158 12 = ec) (l14 : S 158 14 = fo) (hfo : 0 ≤ fo ∧ fo < S 48 (-1)) (hgk : gk = 3 ∨ gk = 6) (hkd : 0 ≤ kd ∧ kd ≤ 6) (hnm : nm = -1 ∨ (0 ≤ nm ∧ nm < S 9 (-1))) (hwd : wd = if nm = -1 then -1 else S 9 nm) : wJ (pe_GA xs) wY0 M d t_XL_lookAtRow ((pe_at t_XL_lookAtRow.bl 0).getD (0, [])).2 [(0, (2, 158))] [] S (fun o Z => o = .inl none ∧ rwZ 215 fo (if gk = 6 then 0 else 1) (rwP wd gk kd ec) S = Z) := by
  have h35 := hl.2.1
  have h48 := hl.2.2.2
  have hwr : -2147483648 ≤ wd ∧ wd ≤ 2147483647 ∨ 0 ≤ nm := by
    by_cases c : nm = -1
    · rw [if_pos c] at hwd; omega
    · omega
  refine wa_aload_n (n := 0) rfl ?_
  refine wb_gfi 158 rfl (wy_pr rfl) wt_158 wf_5_9 (v := gk) (l9) (fun r1 => ?_)
  refine wa_bipush (w_rg2 (by omega) (by omega)) ?_
  refine wa_icmpne (w_rg0 (by omega) (by omega)) (w_rg0 (by omega) (by omega)) ⟨_, rfl⟩ (fun c2 => ?_) (fun c2 => ?_)
  · skip
    refine wa_iconst ?_
    refine wa_fall ⟨_, rfl⟩ ?_
    refine wa_istore_n (n := 1) rfl ?_
    refine wa_aload_n (n := 0) rfl ?_
    refine wb_gfi 158 rfl (wy_pr rfl) wt_158 wf_5_11 (v := nm) (l11) (fun r3 => ?_)
    refine wa_iconst ?_
    refine wa_icmpne (w_rg0 (by omega) (by omega)) (w_rg0 (by omega) (by omega)) ⟨_, rfl⟩ (fun c4 => ?_) (fun c4 => ?_)
    · skip
      refine wa_aload_n (n := 0) rfl ?_
      refine wb_gf4 158 rfl (wy_pr rfl) wt_158 wf_5_0 (v := 72) wl_158_0 ?_
      refine wb_gf4 72 rfl (wy_pr rfl) wt_72 wf_2_0 (v := 2) wl_72_0 ?_
      refine wb_gf4 2 rfl (wy_pr rfl) wt_2 wf_9_9 (v := 9) wl_2_9 ?_
      refine wa_aload_n (n := 0) rfl ?_
      refine wb_gfi 158 rfl (wy_pr rfl) wt_158 wf_5_11 (v := nm) (l11) (fun r5 => ?_)
      refine wb_iald 9 rfl (wy_pr rfl) wt_9 (n := (S 9 (-1))) (rfl) (by omega) (by omega) (v := (S 9 nm)) rfl (fun r6 => ?_)
      refine wa_fall ⟨_, rfl⟩ ?_
      have ewd : (S 9 nm) = wd := by rw [hwd]; first | exact (if_pos (by omega)).symm | exact (if_neg (by omega)).symm
      rw [ewd]
      have hwb : -2147483648 ≤ wd ∧ wd ≤ 2147483647 := by omega
      refine wa_istore_n (n := 2) rfl ?_
      refine wa_aload_n (n := 0) rfl ?_
      refine wb_gf4 158 rfl (wy_pr rfl) wt_158 wf_5_3 (v := 47) wl_158_3 ?_
      refine wa_iconst ?_
      refine wb_aald5 47 1 rfl rfl (wy_pr rfl) wt_47 (by rw [show _ = _ from ((cl_47 hC))]; omega) wl_47_1 ?_
      refine wa_aload_n (n := 0) rfl ?_
      refine wb_gfi 158 rfl (wy_pr rfl) wt_158 wf_5_14 (v := fo) (l14) (fun r7 => ?_)
      refine wa_iload_n (n := 1) rfl ?_
      refine wa_ifeq (w_rg0 (by omega) (by omega)) ⟨_, rfl⟩ (fun c8 => ?_) (fun c8 => ?_)
      · skip
        refine wa_iconst ?_
        refine wa_fall ⟨_, rfl⟩ ?_
        refine wb_iast 49 rfl (wy_pr rfl) wt_49 (n := (S 48 (-1))) ((hl.2.2.1 1 (by decide))) (by omega) (by omega) ⟨(by omega), (by omega)⟩ ?_
        refine wa_aload_n (n := 0) rfl ?_
        refine wb_gfi 158 rfl (wy_pr rfl) wt_158 wf_5_7 (v := kd) ((w_up_slot (by decide)).trans (l7)) (fun r9 => ?_)
        by_cases c10 : kd = 0
        · refine wa_lw (tb := 0) (w_rg0 (by omega) (by omega)) (q := (25, 7)) (by rw [c10]; first | rfl | decide) ⟨_, rfl⟩ ?_
          refine wa_iload_n (n := 2) rfl ?_
          refine wa_bipush (w_rg2 (by omega) (by omega)) ?_
          refine wa_icmpne (w_rg0 (by omega) (by omega)) (w_rg0 (by omega) (by omega)) ⟨_, rfl⟩ (fun c11 => ?_) (fun c11 => ?_)
          · skip
            refine wa_iconst ?_
            refine wa_fall ⟨_, rfl⟩ ?_
            refine wa_istore_n (n := 3) rfl ?_
            refine wa_goto ⟨_, rfl⟩ ?_
            refine wa_iload_n (n := 3) rfl ?_
            refine wa_ifne (w_rg0 (by omega) (by omega)) ⟨_, rfl⟩ (fun c12 => ?_) (fun c12 => ?_)
            · skip
              exact absurd c12 (by omega)
            · skip
              refine wa_aload_n (n := 0) rfl ?_
              refine wb_gf5 158 rfl (wy_pr rfl) wt_158 wf_5_4 (v := 215) ((w_up_slot (by decide)).trans (l4)) (fun r13 => ?_)
              refine wa_iconst ?_
              refine wb_pfi 215 rfl (wy_pr rfl) wt_215 wf_8_16 (n := 16) rfl ⟨(by omega), (by omega)⟩ ?_
              refine wa_fall ⟨_, rfl⟩ ?_
              refine wa_return rfl ?_
              have eg : (if gk = 6 then 0 else 1 : Int) = 1 := by first | exact if_pos (by omega) | exact if_neg (by omega)
              have ep : rwP wd gk kd ec = 4 := by unfold rwP; (repeat (first | rw [if_pos (by omega)] | rw [if_neg (by omega)])); all_goals omega
              rw [eg, ep]
              exact ⟨rfl, if_neg (by first | decide | omega)⟩
          · skip
            refine wa_iconst ?_
            refine wa_goto ⟨_, rfl⟩ ?_
            refine wa_istore_n (n := 3) rfl ?_
            refine wa_goto ⟨_, rfl⟩ ?_
            refine wa_iload_n (n := 3) rfl ?_
            refine wa_ifne (w_rg0 (by omega) (by omega)) ⟨_, rfl⟩ (fun c14 => ?_) (fun c14 => ?_)
            · skip
              refine wa_return rfl ?_
              have eg : (if gk = 6 then 0 else 1 : Int) = 1 := by first | exact if_pos (by omega) | exact if_neg (by omega)
              have ep : rwP wd gk kd ec = 0 := by unfold rwP; (repeat (first | rw [if_pos (by omega)] | rw [if_neg (by omega)])); all_goals omega
              rw [eg, ep]
              exact ⟨rfl, if_pos rfl⟩
            · skip
              exact absurd c14 (by omega)
        by_cases c15 : kd = 5
        · refine wa_lw (tb := 0) (w_rg0 (by omega) (by omega)) (q := (40, 10)) (by rw [c15]; first | rfl | decide) ⟨_, rfl⟩ ?_
          refine wa_iload_n (n := 1) rfl ?_
          refine wa_ifeq (w_rg0 (by omega) (by omega)) ⟨_, rfl⟩ (fun c16 => ?_) (fun c16 => ?_)
          · skip
            refine wa_iload_n (n := 2) rfl ?_
            refine wa_bipush (w_rg2 (by omega) (by omega)) ?_
            refine wa_icmpne (w_rg0 (by omega) (by omega)) (w_rg0 (by omega) (by omega)) ⟨_, rfl⟩ (fun c17 => ?_) (fun c17 => ?_)
            · skip
              refine wa_iconst ?_
              refine wa_fall ⟨_, rfl⟩ ?_
              refine wa_istore_n (n := 3) rfl ?_
              refine wa_goto ⟨_, rfl⟩ ?_
              refine wa_iload_n (n := 3) rfl ?_
              refine wa_ifne (w_rg0 (by omega) (by omega)) ⟨_, rfl⟩ (fun c18 => ?_) (fun c18 => ?_)
              · skip
                exact absurd c18 (by omega)
              · skip
                refine wa_aload_n (n := 0) rfl ?_
                refine wb_gf5 158 rfl (wy_pr rfl) wt_158 wf_5_4 (v := 215) ((w_up_slot (by decide)).trans (l4)) (fun r19 => ?_)
                refine wa_iconst ?_
                refine wb_pfi 215 rfl (wy_pr rfl) wt_215 wf_8_16 (n := 16) rfl ⟨(by omega), (by omega)⟩ ?_
                refine wa_fall ⟨_, rfl⟩ ?_
                refine wa_return rfl ?_
                have eg : (if gk = 6 then 0 else 1 : Int) = 1 := by first | exact if_pos (by omega) | exact if_neg (by omega)
                have ep : rwP wd gk kd ec = 4 := by unfold rwP; (repeat (first | rw [if_pos (by omega)] | rw [if_neg (by omega)])); all_goals omega
                rw [eg, ep]
                exact ⟨rfl, if_neg (by first | decide | omega)⟩
            · skip
              refine wa_aload_n (n := 0) rfl ?_
              refine wb_gfi 158 rfl (wy_pr rfl) wt_158 wf_5_12 (v := ec) ((w_up_slot (by decide)).trans (l12)) (fun r20 => ?_)
              refine wa_iconst ?_
              refine wa_icmpne (w_rg0 (by omega) (by omega)) (w_rg0 (by omega) (by omega)) ⟨_, rfl⟩ (fun c21 => ?_) (fun c21 => ?_)
              · skip
                refine wa_iconst ?_
                refine wa_fall ⟨_, rfl⟩ ?_
                refine wa_istore_n (n := 3) rfl ?_
                refine wa_goto ⟨_, rfl⟩ ?_
                refine wa_iload_n (n := 3) rfl ?_
                refine wa_ifne (w_rg0 (by omega) (by omega)) ⟨_, rfl⟩ (fun c22 => ?_) (fun c22 => ?_)
                · skip
                  exact absurd c22 (by omega)
                · skip
                  refine wa_aload_n (n := 0) rfl ?_
                  refine wb_gf5 158 rfl (wy_pr rfl) wt_158 wf_5_4 (v := 215) ((w_up_slot (by decide)).trans (l4)) (fun r23 => ?_)
                  refine wa_iconst ?_
                  refine wb_pfi 215 rfl (wy_pr rfl) wt_215 wf_8_16 (n := 16) rfl ⟨(by omega), (by omega)⟩ ?_
                  refine wa_fall ⟨_, rfl⟩ ?_
                  refine wa_return rfl ?_
                  have eg : (if gk = 6 then 0 else 1 : Int) = 1 := by first | exact if_pos (by omega) | exact if_neg (by omega)
                  have ep : rwP wd gk kd ec = 4 := by unfold rwP; (repeat (first | rw [if_pos (by omega)] | rw [if_neg (by omega)])); all_goals omega
                  rw [eg, ep]
                  exact ⟨rfl, if_neg (by first | decide | omega)⟩
              · skip
                refine wa_iconst ?_
                refine wa_goto ⟨_, rfl⟩ ?_
                refine wa_istore_n (n := 3) rfl ?_
                refine wa_goto ⟨_, rfl⟩ ?_
                refine wa_iload_n (n := 3) rfl ?_
                refine wa_ifne (w_rg0 (by omega) (by omega)) ⟨_, rfl⟩ (fun c24 => ?_) (fun c24 => ?_)
                · skip
                  refine wa_return rfl ?_
                  have eg : (if gk = 6 then 0 else 1 : Int) = 1 := by first | exact if_pos (by omega) | exact if_neg (by omega)
                  have ep : rwP wd gk kd ec = 0 := by unfold rwP; (repeat (first | rw [if_pos (by omega)] | rw [if_neg (by omega)])); all_goals omega
                  rw [eg, ep]
                  exact ⟨rfl, if_pos rfl⟩
                · skip
                  exact absurd c24 (by omega)
          · skip
            exact absurd c16 (by omega)
        refine wa_lw (tb := 0) (w_rg0 (by omega) (by omega)) (q := (102, 17)) (lw_df [0, 5] rfl (by simp only [List.mem_cons, List.not_mem_nil, or_false, not_or]; omega) (by first | rfl | decide)) ⟨_, rfl⟩ ?_
        refine wa_aload_n (n := 0) rfl ?_
        refine wb_gfi 158 rfl (wy_pr rfl) wt_158 wf_5_7 (v := kd) ((w_up_slot (by decide)).trans (l7)) (fun r25 => ?_)
        refine wa_iconst ?_
        refine wa_icmpeq (w_rg0 (by omega) (by omega)) (w_rg0 (by omega) (by omega)) ⟨_, rfl⟩ (fun c26 => ?_) (fun c26 => ?_)
        · skip
          refine wa_return rfl ?_
          have eg : (if gk = 6 then 0 else 1 : Int) = 1 := by first | exact if_pos (by omega) | exact if_neg (by omega)
          have ep : rwP wd gk kd ec = 0 := by unfold rwP; (repeat (first | rw [if_pos (by omega)] | rw [if_neg (by omega)])); all_goals omega
          rw [eg, ep]
          exact ⟨rfl, if_pos rfl⟩
        · skip
          refine wa_aload_n (n := 0) rfl ?_
          refine wb_gfi 158 rfl (wy_pr rfl) wt_158 wf_5_7 (v := kd) ((w_up_slot (by decide)).trans (l7)) (fun r27 => ?_)
          refine wa_iconst ?_
          refine wa_icmpne (w_rg0 (by omega) (by omega)) (w_rg0 (by omega) (by omega)) ⟨_, rfl⟩ (fun c28 => ?_) (fun c28 => ?_)
          · skip
            refine wa_aload_n (n := 0) rfl ?_
            refine wb_gf5 158 rfl (wy_pr rfl) wt_158 wf_5_4 (v := 215) ((w_up_slot (by decide)).trans (l4)) (fun r29 => ?_)
            refine wa_iconst ?_
            refine wb_pfi 215 rfl (wy_pr rfl) wt_215 wf_8_16 (n := 16) rfl ⟨(by omega), (by omega)⟩ ?_
            refine wa_fall ⟨_, rfl⟩ ?_
            refine wa_return rfl ?_
            have eg : (if gk = 6 then 0 else 1 : Int) = 1 := by first | exact if_pos (by omega) | exact if_neg (by omega)
            have ep : rwP wd gk kd ec = 5 := by unfold rwP; (repeat (first | rw [if_pos (by omega)] | rw [if_neg (by omega)])); all_goals omega
            rw [eg, ep]
            exact ⟨rfl, if_neg (by first | decide | omega)⟩
          · skip
            refine wa_iload_n (n := 1) rfl ?_
            refine wa_ifne (w_rg0 (by omega) (by omega)) ⟨_, rfl⟩ (fun c30 => ?_) (fun c30 => ?_)
            · skip
              exact absurd c30 (by omega)
            · skip
              refine wa_fall ⟨_, rfl⟩ ?_
              refine wa_aload_n (n := 0) rfl ?_
              refine wb_gf5 158 rfl (wy_pr rfl) wt_158 wf_5_4 (v := 215) ((w_up_slot (by decide)).trans (l4)) (fun r31 => ?_)
              refine wa_iconst ?_
              refine wb_pfi 215 rfl (wy_pr rfl) wt_215 wf_8_16 (n := 16) rfl ⟨(by omega), (by omega)⟩ ?_
              refine wa_fall ⟨_, rfl⟩ ?_
              refine wa_return rfl ?_
              have eg : (if gk = 6 then 0 else 1 : Int) = 1 := by first | exact if_pos (by omega) | exact if_neg (by omega)
              have ep : rwP wd gk kd ec = 5 := by unfold rwP; (repeat (first | rw [if_pos (by omega)] | rw [if_neg (by omega)])); all_goals omega
              rw [eg, ep]
              exact ⟨rfl, if_neg (by first | decide | omega)⟩
      · skip
        exact absurd c8 (by omega)
    · skip
      refine wa_iconst ?_
      refine wa_goto ⟨_, rfl⟩ ?_
      have ewd : (-1) = wd := by rw [hwd]; first | exact (if_pos (by omega)).symm | exact (if_neg (by omega)).symm
      rw [ewd]
      have hwb : -2147483648 ≤ wd ∧ wd ≤ 2147483647 := by omega
      refine wa_istore_n (n := 2) rfl ?_
      refine wa_aload_n (n := 0) rfl ?_
      refine wb_gf4 158 rfl (wy_pr rfl) wt_158 wf_5_3 (v := 47) wl_158_3 ?_
      refine wa_iconst ?_
      refine wb_aald5 47 1 rfl rfl (wy_pr rfl) wt_47 (by rw [show _ = _ from ((cl_47 hC))]; omega) wl_47_1 ?_
      refine wa_aload_n (n := 0) rfl ?_
      refine wb_gfi 158 rfl (wy_pr rfl) wt_158 wf_5_14 (v := fo) (l14) (fun r32 => ?_)
      refine wa_iload_n (n := 1) rfl ?_
      refine wa_ifeq (w_rg0 (by omega) (by omega)) ⟨_, rfl⟩ (fun c33 => ?_) (fun c33 => ?_)
      · skip
        refine wa_iconst ?_
        refine wa_fall ⟨_, rfl⟩ ?_
        refine wb_iast 49 rfl (wy_pr rfl) wt_49 (n := (S 48 (-1))) ((hl.2.2.1 1 (by decide))) (by omega) (by omega) ⟨(by omega), (by omega)⟩ ?_
        refine wa_aload_n (n := 0) rfl ?_
        refine wb_gfi 158 rfl (wy_pr rfl) wt_158 wf_5_7 (v := kd) ((w_up_slot (by decide)).trans (l7)) (fun r34 => ?_)
        by_cases c35 : kd = 0
        · refine wa_lw (tb := 0) (w_rg0 (by omega) (by omega)) (q := (25, 7)) (by rw [c35]; first | rfl | decide) ⟨_, rfl⟩ ?_
          refine wa_iload_n (n := 2) rfl ?_
          refine wa_bipush (w_rg2 (by omega) (by omega)) ?_
          refine wa_icmpne (w_rg0 (by omega) (by omega)) (w_rg0 (by omega) (by omega)) ⟨_, rfl⟩ (fun c36 => ?_) (fun c36 => ?_)
          · skip
            refine wa_iconst ?_
            refine wa_fall ⟨_, rfl⟩ ?_
            refine wa_istore_n (n := 3) rfl ?_
            refine wa_goto ⟨_, rfl⟩ ?_
            refine wa_iload_n (n := 3) rfl ?_
            refine wa_ifne (w_rg0 (by omega) (by omega)) ⟨_, rfl⟩ (fun c37 => ?_) (fun c37 => ?_)
            · skip
              exact absurd c37 (by omega)
            · skip
              refine wa_aload_n (n := 0) rfl ?_
              refine wb_gf5 158 rfl (wy_pr rfl) wt_158 wf_5_4 (v := 215) ((w_up_slot (by decide)).trans (l4)) (fun r38 => ?_)
              refine wa_iconst ?_
              refine wb_pfi 215 rfl (wy_pr rfl) wt_215 wf_8_16 (n := 16) rfl ⟨(by omega), (by omega)⟩ ?_
              refine wa_fall ⟨_, rfl⟩ ?_
              refine wa_return rfl ?_
              have eg : (if gk = 6 then 0 else 1 : Int) = 1 := by first | exact if_pos (by omega) | exact if_neg (by omega)
              have ep : rwP wd gk kd ec = 4 := by unfold rwP; (repeat (first | rw [if_pos (by omega)] | rw [if_neg (by omega)])); all_goals omega
              rw [eg, ep]
              exact ⟨rfl, if_neg (by first | decide | omega)⟩
          · skip
            refine wa_iconst ?_
            refine wa_goto ⟨_, rfl⟩ ?_
            refine wa_istore_n (n := 3) rfl ?_
            refine wa_goto ⟨_, rfl⟩ ?_
            refine wa_iload_n (n := 3) rfl ?_
            refine wa_ifne (w_rg0 (by omega) (by omega)) ⟨_, rfl⟩ (fun c39 => ?_) (fun c39 => ?_)
            · skip
              refine wa_return rfl ?_
              have eg : (if gk = 6 then 0 else 1 : Int) = 1 := by first | exact if_pos (by omega) | exact if_neg (by omega)
              have ep : rwP wd gk kd ec = 0 := by unfold rwP; (repeat (first | rw [if_pos (by omega)] | rw [if_neg (by omega)])); all_goals omega
              rw [eg, ep]
              exact ⟨rfl, if_pos rfl⟩
            · skip
              exact absurd c39 (by omega)
        by_cases c40 : kd = 5
        · refine wa_lw (tb := 0) (w_rg0 (by omega) (by omega)) (q := (40, 10)) (by rw [c40]; first | rfl | decide) ⟨_, rfl⟩ ?_
          refine wa_iload_n (n := 1) rfl ?_
          refine wa_ifeq (w_rg0 (by omega) (by omega)) ⟨_, rfl⟩ (fun c41 => ?_) (fun c41 => ?_)
          · skip
            refine wa_iload_n (n := 2) rfl ?_
            refine wa_bipush (w_rg2 (by omega) (by omega)) ?_
            refine wa_icmpne (w_rg0 (by omega) (by omega)) (w_rg0 (by omega) (by omega)) ⟨_, rfl⟩ (fun c42 => ?_) (fun c42 => ?_)
            · skip
              refine wa_iconst ?_
              refine wa_fall ⟨_, rfl⟩ ?_
              refine wa_istore_n (n := 3) rfl ?_
              refine wa_goto ⟨_, rfl⟩ ?_
              refine wa_iload_n (n := 3) rfl ?_
              refine wa_ifne (w_rg0 (by omega) (by omega)) ⟨_, rfl⟩ (fun c43 => ?_) (fun c43 => ?_)
              · skip
                exact absurd c43 (by omega)
              · skip
                refine wa_aload_n (n := 0) rfl ?_
                refine wb_gf5 158 rfl (wy_pr rfl) wt_158 wf_5_4 (v := 215) ((w_up_slot (by decide)).trans (l4)) (fun r44 => ?_)
                refine wa_iconst ?_
                refine wb_pfi 215 rfl (wy_pr rfl) wt_215 wf_8_16 (n := 16) rfl ⟨(by omega), (by omega)⟩ ?_
                refine wa_fall ⟨_, rfl⟩ ?_
                refine wa_return rfl ?_
                have eg : (if gk = 6 then 0 else 1 : Int) = 1 := by first | exact if_pos (by omega) | exact if_neg (by omega)
                have ep : rwP wd gk kd ec = 4 := by unfold rwP; (repeat (first | rw [if_pos (by omega)] | rw [if_neg (by omega)])); all_goals omega
                rw [eg, ep]
                exact ⟨rfl, if_neg (by first | decide | omega)⟩
            · skip
              refine wa_aload_n (n := 0) rfl ?_
              refine wb_gfi 158 rfl (wy_pr rfl) wt_158 wf_5_12 (v := ec) ((w_up_slot (by decide)).trans (l12)) (fun r45 => ?_)
              refine wa_iconst ?_
              refine wa_icmpne (w_rg0 (by omega) (by omega)) (w_rg0 (by omega) (by omega)) ⟨_, rfl⟩ (fun c46 => ?_) (fun c46 => ?_)
              · skip
                refine wa_iconst ?_
                refine wa_fall ⟨_, rfl⟩ ?_
                refine wa_istore_n (n := 3) rfl ?_
                refine wa_goto ⟨_, rfl⟩ ?_
                refine wa_iload_n (n := 3) rfl ?_
                refine wa_ifne (w_rg0 (by omega) (by omega)) ⟨_, rfl⟩ (fun c47 => ?_) (fun c47 => ?_)
                · skip
                  exact absurd c47 (by omega)
                · skip
                  refine wa_aload_n (n := 0) rfl ?_
                  refine wb_gf5 158 rfl (wy_pr rfl) wt_158 wf_5_4 (v := 215) ((w_up_slot (by decide)).trans (l4)) (fun r48 => ?_)
                  refine wa_iconst ?_
                  refine wb_pfi 215 rfl (wy_pr rfl) wt_215 wf_8_16 (n := 16) rfl ⟨(by omega), (by omega)⟩ ?_
                  refine wa_fall ⟨_, rfl⟩ ?_
                  refine wa_return rfl ?_
                  have eg : (if gk = 6 then 0 else 1 : Int) = 1 := by first | exact if_pos (by omega) | exact if_neg (by omega)
                  have ep : rwP wd gk kd ec = 4 := by unfold rwP; (repeat (first | rw [if_pos (by omega)] | rw [if_neg (by omega)])); all_goals omega
                  rw [eg, ep]
                  exact ⟨rfl, if_neg (by first | decide | omega)⟩
              · skip
                refine wa_iconst ?_
                refine wa_goto ⟨_, rfl⟩ ?_
                refine wa_istore_n (n := 3) rfl ?_
                refine wa_goto ⟨_, rfl⟩ ?_
                refine wa_iload_n (n := 3) rfl ?_
                refine wa_ifne (w_rg0 (by omega) (by omega)) ⟨_, rfl⟩ (fun c49 => ?_) (fun c49 => ?_)
                · skip
                  refine wa_return rfl ?_
                  have eg : (if gk = 6 then 0 else 1 : Int) = 1 := by first | exact if_pos (by omega) | exact if_neg (by omega)
                  have ep : rwP wd gk kd ec = 0 := by unfold rwP; (repeat (first | rw [if_pos (by omega)] | rw [if_neg (by omega)])); all_goals omega
                  rw [eg, ep]
                  exact ⟨rfl, if_pos rfl⟩
                · skip
                  exact absurd c49 (by omega)
          · skip
            exact absurd c41 (by omega)
        refine wa_lw (tb := 0) (w_rg0 (by omega) (by omega)) (q := (102, 17)) (lw_df [0, 5] rfl (by simp only [List.mem_cons, List.not_mem_nil, or_false, not_or]; omega) (by first | rfl | decide)) ⟨_, rfl⟩ ?_
        refine wa_aload_n (n := 0) rfl ?_
        refine wb_gfi 158 rfl (wy_pr rfl) wt_158 wf_5_7 (v := kd) ((w_up_slot (by decide)).trans (l7)) (fun r50 => ?_)
        refine wa_iconst ?_
        refine wa_icmpeq (w_rg0 (by omega) (by omega)) (w_rg0 (by omega) (by omega)) ⟨_, rfl⟩ (fun c51 => ?_) (fun c51 => ?_)
        · skip
          refine wa_return rfl ?_
          have eg : (if gk = 6 then 0 else 1 : Int) = 1 := by first | exact if_pos (by omega) | exact if_neg (by omega)
          have ep : rwP wd gk kd ec = 0 := by unfold rwP; (repeat (first | rw [if_pos (by omega)] | rw [if_neg (by omega)])); all_goals omega
          rw [eg, ep]
          exact ⟨rfl, if_pos rfl⟩
        · skip
          refine wa_aload_n (n := 0) rfl ?_
          refine wb_gfi 158 rfl (wy_pr rfl) wt_158 wf_5_7 (v := kd) ((w_up_slot (by decide)).trans (l7)) (fun r52 => ?_)
          refine wa_iconst ?_
          refine wa_icmpne (w_rg0 (by omega) (by omega)) (w_rg0 (by omega) (by omega)) ⟨_, rfl⟩ (fun c53 => ?_) (fun c53 => ?_)
          · skip
            refine wa_aload_n (n := 0) rfl ?_
            refine wb_gf5 158 rfl (wy_pr rfl) wt_158 wf_5_4 (v := 215) ((w_up_slot (by decide)).trans (l4)) (fun r54 => ?_)
            refine wa_iconst ?_
            refine wb_pfi 215 rfl (wy_pr rfl) wt_215 wf_8_16 (n := 16) rfl ⟨(by omega), (by omega)⟩ ?_
            refine wa_fall ⟨_, rfl⟩ ?_
            refine wa_return rfl ?_
            have eg : (if gk = 6 then 0 else 1 : Int) = 1 := by first | exact if_pos (by omega) | exact if_neg (by omega)
            have ep : rwP wd gk kd ec = 5 := by unfold rwP; (repeat (first | rw [if_pos (by omega)] | rw [if_neg (by omega)])); all_goals omega
            rw [eg, ep]
            exact ⟨rfl, if_neg (by first | decide | omega)⟩
          · skip
            refine wa_iload_n (n := 1) rfl ?_
            refine wa_ifne (w_rg0 (by omega) (by omega)) ⟨_, rfl⟩ (fun c55 => ?_) (fun c55 => ?_)
            · skip
              exact absurd c55 (by omega)
            · skip
              refine wa_fall ⟨_, rfl⟩ ?_
              refine wa_aload_n (n := 0) rfl ?_
              refine wb_gf5 158 rfl (wy_pr rfl) wt_158 wf_5_4 (v := 215) ((w_up_slot (by decide)).trans (l4)) (fun r56 => ?_)
              refine wa_iconst ?_
              refine wb_pfi 215 rfl (wy_pr rfl) wt_215 wf_8_16 (n := 16) rfl ⟨(by omega), (by omega)⟩ ?_
              refine wa_fall ⟨_, rfl⟩ ?_
              refine wa_return rfl ?_
              have eg : (if gk = 6 then 0 else 1 : Int) = 1 := by first | exact if_pos (by omega) | exact if_neg (by omega)
              have ep : rwP wd gk kd ec = 5 := by unfold rwP; (repeat (first | rw [if_pos (by omega)] | rw [if_neg (by omega)])); all_goals omega
              rw [eg, ep]
              exact ⟨rfl, if_neg (by first | decide | omega)⟩
      · skip
        exact absurd c33 (by omega)
  · skip
    refine wa_iconst ?_
    refine wa_goto ⟨_, rfl⟩ ?_
    refine wa_istore_n (n := 1) rfl ?_
    refine wa_aload_n (n := 0) rfl ?_
    refine wb_gfi 158 rfl (wy_pr rfl) wt_158 wf_5_11 (v := nm) (l11) (fun r57 => ?_)
    refine wa_iconst ?_
    refine wa_icmpne (w_rg0 (by omega) (by omega)) (w_rg0 (by omega) (by omega)) ⟨_, rfl⟩ (fun c58 => ?_) (fun c58 => ?_)
    · skip
      refine wa_aload_n (n := 0) rfl ?_
      refine wb_gf4 158 rfl (wy_pr rfl) wt_158 wf_5_0 (v := 72) wl_158_0 ?_
      refine wb_gf4 72 rfl (wy_pr rfl) wt_72 wf_2_0 (v := 2) wl_72_0 ?_
      refine wb_gf4 2 rfl (wy_pr rfl) wt_2 wf_9_9 (v := 9) wl_2_9 ?_
      refine wa_aload_n (n := 0) rfl ?_
      refine wb_gfi 158 rfl (wy_pr rfl) wt_158 wf_5_11 (v := nm) (l11) (fun r59 => ?_)
      refine wb_iald 9 rfl (wy_pr rfl) wt_9 (n := (S 9 (-1))) (rfl) (by omega) (by omega) (v := (S 9 nm)) rfl (fun r60 => ?_)
      refine wa_fall ⟨_, rfl⟩ ?_
      have ewd : (S 9 nm) = wd := by rw [hwd]; first | exact (if_pos (by omega)).symm | exact (if_neg (by omega)).symm
      rw [ewd]
      have hwb : -2147483648 ≤ wd ∧ wd ≤ 2147483647 := by omega
      refine wa_istore_n (n := 2) rfl ?_
      refine wa_aload_n (n := 0) rfl ?_
      refine wb_gf4 158 rfl (wy_pr rfl) wt_158 wf_5_3 (v := 47) wl_158_3 ?_
      refine wa_iconst ?_
      refine wb_aald5 47 1 rfl rfl (wy_pr rfl) wt_47 (by rw [show _ = _ from ((cl_47 hC))]; omega) wl_47_1 ?_
      refine wa_aload_n (n := 0) rfl ?_
      refine wb_gfi 158 rfl (wy_pr rfl) wt_158 wf_5_14 (v := fo) (l14) (fun r61 => ?_)
      refine wa_iload_n (n := 1) rfl ?_
      refine wa_ifeq (w_rg0 (by omega) (by omega)) ⟨_, rfl⟩ (fun c62 => ?_) (fun c62 => ?_)
      · skip
        exact absurd c62 (by omega)
      · skip
        refine wa_iconst ?_
        refine wa_goto ⟨_, rfl⟩ ?_
        refine wb_iast 49 rfl (wy_pr rfl) wt_49 (n := (S 48 (-1))) ((hl.2.2.1 1 (by decide))) (by omega) (by omega) ⟨(by omega), (by omega)⟩ ?_
        refine wa_aload_n (n := 0) rfl ?_
        refine wb_gfi 158 rfl (wy_pr rfl) wt_158 wf_5_7 (v := kd) ((w_up_slot (by decide)).trans (l7)) (fun r63 => ?_)
        by_cases c64 : kd = 0
        · refine wa_lw (tb := 0) (w_rg0 (by omega) (by omega)) (q := (25, 7)) (by rw [c64]; first | rfl | decide) ⟨_, rfl⟩ ?_
          refine wa_iload_n (n := 2) rfl ?_
          refine wa_bipush (w_rg2 (by omega) (by omega)) ?_
          refine wa_icmpne (w_rg0 (by omega) (by omega)) (w_rg0 (by omega) (by omega)) ⟨_, rfl⟩ (fun c65 => ?_) (fun c65 => ?_)
          · skip
            refine wa_iconst ?_
            refine wa_fall ⟨_, rfl⟩ ?_
            refine wa_istore_n (n := 3) rfl ?_
            refine wa_goto ⟨_, rfl⟩ ?_
            refine wa_iload_n (n := 3) rfl ?_
            refine wa_ifne (w_rg0 (by omega) (by omega)) ⟨_, rfl⟩ (fun c66 => ?_) (fun c66 => ?_)
            · skip
              exact absurd c66 (by omega)
            · skip
              refine wa_aload_n (n := 0) rfl ?_
              refine wb_gf5 158 rfl (wy_pr rfl) wt_158 wf_5_4 (v := 215) ((w_up_slot (by decide)).trans (l4)) (fun r67 => ?_)
              refine wa_iconst ?_
              refine wb_pfi 215 rfl (wy_pr rfl) wt_215 wf_8_16 (n := 16) rfl ⟨(by omega), (by omega)⟩ ?_
              refine wa_fall ⟨_, rfl⟩ ?_
              refine wa_return rfl ?_
              have eg : (if gk = 6 then 0 else 1 : Int) = 0 := by first | exact if_pos (by omega) | exact if_neg (by omega)
              have ep : rwP wd gk kd ec = 4 := by unfold rwP; (repeat (first | rw [if_pos (by omega)] | rw [if_neg (by omega)])); all_goals omega
              rw [eg, ep]
              exact ⟨rfl, if_neg (by first | decide | omega)⟩
          · skip
            refine wa_iconst ?_
            refine wa_goto ⟨_, rfl⟩ ?_
            refine wa_istore_n (n := 3) rfl ?_
            refine wa_goto ⟨_, rfl⟩ ?_
            refine wa_iload_n (n := 3) rfl ?_
            refine wa_ifne (w_rg0 (by omega) (by omega)) ⟨_, rfl⟩ (fun c68 => ?_) (fun c68 => ?_)
            · skip
              refine wa_return rfl ?_
              have eg : (if gk = 6 then 0 else 1 : Int) = 0 := by first | exact if_pos (by omega) | exact if_neg (by omega)
              have ep : rwP wd gk kd ec = 0 := by unfold rwP; (repeat (first | rw [if_pos (by omega)] | rw [if_neg (by omega)])); all_goals omega
              rw [eg, ep]
              exact ⟨rfl, if_pos rfl⟩
            · skip
              exact absurd c68 (by omega)
        by_cases c69 : kd = 5
        · refine wa_lw (tb := 0) (w_rg0 (by omega) (by omega)) (q := (40, 10)) (by rw [c69]; first | rfl | decide) ⟨_, rfl⟩ ?_
          refine wa_iload_n (n := 1) rfl ?_
          refine wa_ifeq (w_rg0 (by omega) (by omega)) ⟨_, rfl⟩ (fun c70 => ?_) (fun c70 => ?_)
          · skip
            exact absurd c70 (by omega)
          · skip
            refine wa_iload_n (n := 2) rfl ?_
            refine wa_bipush (w_rg2 (by omega) (by omega)) ?_
            refine wa_icmpne (w_rg0 (by omega) (by omega)) (w_rg0 (by omega) (by omega)) ⟨_, rfl⟩ (fun c71 => ?_) (fun c71 => ?_)
            · skip
              refine wa_iload_n (n := 2) rfl ?_
              refine wa_bipush (w_rg2 (by omega) (by omega)) ?_
              refine wa_icmpne (w_rg0 (by omega) (by omega)) (w_rg0 (by omega) (by omega)) ⟨_, rfl⟩ (fun c72 => ?_) (fun c72 => ?_)
              · skip
                refine wa_iconst ?_
                refine wa_goto ⟨_, rfl⟩ ?_
                refine wa_istore_n (n := 3) rfl ?_
                refine wa_goto ⟨_, rfl⟩ ?_
                refine wa_iload_n (n := 3) rfl ?_
                refine wa_ifne (w_rg0 (by omega) (by omega)) ⟨_, rfl⟩ (fun c73 => ?_) (fun c73 => ?_)
                · skip
                  exact absurd c73 (by omega)
                · skip
                  refine wa_aload_n (n := 0) rfl ?_
                  refine wb_gf5 158 rfl (wy_pr rfl) wt_158 wf_5_4 (v := 215) ((w_up_slot (by decide)).trans (l4)) (fun r74 => ?_)
                  refine wa_iconst ?_
                  refine wb_pfi 215 rfl (wy_pr rfl) wt_215 wf_8_16 (n := 16) rfl ⟨(by omega), (by omega)⟩ ?_
                  refine wa_fall ⟨_, rfl⟩ ?_
                  refine wa_return rfl ?_
                  have eg : (if gk = 6 then 0 else 1 : Int) = 0 := by first | exact if_pos (by omega) | exact if_neg (by omega)
                  have ep : rwP wd gk kd ec = 4 := by unfold rwP; (repeat (first | rw [if_pos (by omega)] | rw [if_neg (by omega)])); all_goals omega
                  rw [eg, ep]
                  exact ⟨rfl, if_neg (by first | decide | omega)⟩
              · skip
                refine wa_aload_n (n := 0) rfl ?_
                refine wb_gfi 158 rfl (wy_pr rfl) wt_158 wf_5_12 (v := ec) ((w_up_slot (by decide)).trans (l12)) (fun r75 => ?_)
                refine wa_ifne (w_rg0 (by omega) (by omega)) ⟨_, rfl⟩ (fun c76 => ?_) (fun c76 => ?_)
                · skip
                  refine wa_iconst ?_
                  refine wa_goto ⟨_, rfl⟩ ?_
                  refine wa_istore_n (n := 3) rfl ?_
                  refine wa_goto ⟨_, rfl⟩ ?_
                  refine wa_iload_n (n := 3) rfl ?_
                  refine wa_ifne (w_rg0 (by omega) (by omega)) ⟨_, rfl⟩ (fun c77 => ?_) (fun c77 => ?_)
                  · skip
                    exact absurd c77 (by omega)
                  · skip
                    refine wa_aload_n (n := 0) rfl ?_
                    refine wb_gf5 158 rfl (wy_pr rfl) wt_158 wf_5_4 (v := 215) ((w_up_slot (by decide)).trans (l4)) (fun r78 => ?_)
                    refine wa_iconst ?_
                    refine wb_pfi 215 rfl (wy_pr rfl) wt_215 wf_8_16 (n := 16) rfl ⟨(by omega), (by omega)⟩ ?_
                    refine wa_fall ⟨_, rfl⟩ ?_
                    refine wa_return rfl ?_
                    have eg : (if gk = 6 then 0 else 1 : Int) = 0 := by first | exact if_pos (by omega) | exact if_neg (by omega)
                    have ep : rwP wd gk kd ec = 4 := by unfold rwP; (repeat (first | rw [if_pos (by omega)] | rw [if_neg (by omega)])); all_goals omega
                    rw [eg, ep]
                    exact ⟨rfl, if_neg (by first | decide | omega)⟩
                · skip
                  refine wa_fall ⟨_, rfl⟩ ?_
                  refine wa_iconst ?_
                  refine wa_goto ⟨_, rfl⟩ ?_
                  refine wa_istore_n (n := 3) rfl ?_
                  refine wa_goto ⟨_, rfl⟩ ?_
                  refine wa_iload_n (n := 3) rfl ?_
                  refine wa_ifne (w_rg0 (by omega) (by omega)) ⟨_, rfl⟩ (fun c79 => ?_) (fun c79 => ?_)
                  · skip
                    refine wa_return rfl ?_
                    have eg : (if gk = 6 then 0 else 1 : Int) = 0 := by first | exact if_pos (by omega) | exact if_neg (by omega)
                    have ep : rwP wd gk kd ec = 0 := by unfold rwP; (repeat (first | rw [if_pos (by omega)] | rw [if_neg (by omega)])); all_goals omega
                    rw [eg, ep]
                    exact ⟨rfl, if_pos rfl⟩
                  · skip
                    exact absurd c79 (by omega)
            · skip
              refine wa_aload_n (n := 0) rfl ?_
              refine wb_gfi 158 rfl (wy_pr rfl) wt_158 wf_5_12 (v := ec) ((w_up_slot (by decide)).trans (l12)) (fun r80 => ?_)
              refine wa_iconst ?_
              refine wa_icmpeq (w_rg0 (by omega) (by omega)) (w_rg0 (by omega) (by omega)) ⟨_, rfl⟩ (fun c81 => ?_) (fun c81 => ?_)
              · skip
                refine wa_iconst ?_
                refine wa_goto ⟨_, rfl⟩ ?_
                refine wa_istore_n (n := 3) rfl ?_
                refine wa_goto ⟨_, rfl⟩ ?_
                refine wa_iload_n (n := 3) rfl ?_
                refine wa_ifne (w_rg0 (by omega) (by omega)) ⟨_, rfl⟩ (fun c82 => ?_) (fun c82 => ?_)
                · skip
                  refine wa_return rfl ?_
                  have eg : (if gk = 6 then 0 else 1 : Int) = 0 := by first | exact if_pos (by omega) | exact if_neg (by omega)
                  have ep : rwP wd gk kd ec = 0 := by unfold rwP; (repeat (first | rw [if_pos (by omega)] | rw [if_neg (by omega)])); all_goals omega
                  rw [eg, ep]
                  exact ⟨rfl, if_pos rfl⟩
                · skip
                  exact absurd c82 (by omega)
              · skip
                refine wa_fall ⟨_, rfl⟩ ?_
                refine wa_iload_n (n := 2) rfl ?_
                refine wa_bipush (w_rg2 (by omega) (by omega)) ?_
                refine wa_icmpne (w_rg0 (by omega) (by omega)) (w_rg0 (by omega) (by omega)) ⟨_, rfl⟩ (fun c83 => ?_) (fun c83 => ?_)
                · skip
                  refine wa_iconst ?_
                  refine wa_goto ⟨_, rfl⟩ ?_
                  refine wa_istore_n (n := 3) rfl ?_
                  refine wa_goto ⟨_, rfl⟩ ?_
                  refine wa_iload_n (n := 3) rfl ?_
                  refine wa_ifne (w_rg0 (by omega) (by omega)) ⟨_, rfl⟩ (fun c84 => ?_) (fun c84 => ?_)
                  · skip
                    exact absurd c84 (by omega)
                  · skip
                    refine wa_aload_n (n := 0) rfl ?_
                    refine wb_gf5 158 rfl (wy_pr rfl) wt_158 wf_5_4 (v := 215) ((w_up_slot (by decide)).trans (l4)) (fun r85 => ?_)
                    refine wa_iconst ?_
                    refine wb_pfi 215 rfl (wy_pr rfl) wt_215 wf_8_16 (n := 16) rfl ⟨(by omega), (by omega)⟩ ?_
                    refine wa_fall ⟨_, rfl⟩ ?_
                    refine wa_return rfl ?_
                    have eg : (if gk = 6 then 0 else 1 : Int) = 0 := by first | exact if_pos (by omega) | exact if_neg (by omega)
                    have ep : rwP wd gk kd ec = 4 := by unfold rwP; (repeat (first | rw [if_pos (by omega)] | rw [if_neg (by omega)])); all_goals omega
                    rw [eg, ep]
                    exact ⟨rfl, if_neg (by first | decide | omega)⟩
                · skip
                  exact absurd c83 (by omega)
        refine wa_lw (tb := 0) (w_rg0 (by omega) (by omega)) (q := (102, 17)) (lw_df [0, 5] rfl (by simp only [List.mem_cons, List.not_mem_nil, or_false, not_or]; omega) (by first | rfl | decide)) ⟨_, rfl⟩ ?_
        refine wa_aload_n (n := 0) rfl ?_
        refine wb_gfi 158 rfl (wy_pr rfl) wt_158 wf_5_7 (v := kd) ((w_up_slot (by decide)).trans (l7)) (fun r86 => ?_)
        refine wa_iconst ?_
        refine wa_icmpeq (w_rg0 (by omega) (by omega)) (w_rg0 (by omega) (by omega)) ⟨_, rfl⟩ (fun c87 => ?_) (fun c87 => ?_)
        · skip
          refine wa_return rfl ?_
          have eg : (if gk = 6 then 0 else 1 : Int) = 0 := by first | exact if_pos (by omega) | exact if_neg (by omega)
          have ep : rwP wd gk kd ec = 0 := by unfold rwP; (repeat (first | rw [if_pos (by omega)] | rw [if_neg (by omega)])); all_goals omega
          rw [eg, ep]
          exact ⟨rfl, if_pos rfl⟩
        · skip
          refine wa_aload_n (n := 0) rfl ?_
          refine wb_gfi 158 rfl (wy_pr rfl) wt_158 wf_5_7 (v := kd) ((w_up_slot (by decide)).trans (l7)) (fun r88 => ?_)
          refine wa_iconst ?_
          refine wa_icmpne (w_rg0 (by omega) (by omega)) (w_rg0 (by omega) (by omega)) ⟨_, rfl⟩ (fun c89 => ?_) (fun c89 => ?_)
          · skip
            refine wa_aload_n (n := 0) rfl ?_
            refine wb_gf5 158 rfl (wy_pr rfl) wt_158 wf_5_4 (v := 215) ((w_up_slot (by decide)).trans (l4)) (fun r90 => ?_)
            refine wa_iconst ?_
            refine wb_pfi 215 rfl (wy_pr rfl) wt_215 wf_8_16 (n := 16) rfl ⟨(by omega), (by omega)⟩ ?_
            refine wa_fall ⟨_, rfl⟩ ?_
            refine wa_return rfl ?_
            have eg : (if gk = 6 then 0 else 1 : Int) = 0 := by first | exact if_pos (by omega) | exact if_neg (by omega)
            have ep : rwP wd gk kd ec = 5 := by unfold rwP; (repeat (first | rw [if_pos (by omega)] | rw [if_neg (by omega)])); all_goals omega
            rw [eg, ep]
            exact ⟨rfl, if_neg (by first | decide | omega)⟩
          · skip
            refine wa_iload_n (n := 1) rfl ?_
            refine wa_ifne (w_rg0 (by omega) (by omega)) ⟨_, rfl⟩ (fun c91 => ?_) (fun c91 => ?_)
            · skip
              refine wa_return rfl ?_
              have eg : (if gk = 6 then 0 else 1 : Int) = 0 := by first | exact if_pos (by omega) | exact if_neg (by omega)
              have ep : rwP wd gk kd ec = 0 := by unfold rwP; (repeat (first | rw [if_pos (by omega)] | rw [if_neg (by omega)])); all_goals omega
              rw [eg, ep]
              exact ⟨rfl, if_pos rfl⟩
            · skip
              exact absurd c91 (by omega)
    · skip
      refine wa_iconst ?_
      refine wa_goto ⟨_, rfl⟩ ?_
      have ewd : (-1) = wd := by rw [hwd]; first | exact (if_pos (by omega)).symm | exact (if_neg (by omega)).symm
      rw [ewd]
      have hwb : -2147483648 ≤ wd ∧ wd ≤ 2147483647 := by omega
      refine wa_istore_n (n := 2) rfl ?_
      refine wa_aload_n (n := 0) rfl ?_
      refine wb_gf4 158 rfl (wy_pr rfl) wt_158 wf_5_3 (v := 47) wl_158_3 ?_
      refine wa_iconst ?_
      refine wb_aald5 47 1 rfl rfl (wy_pr rfl) wt_47 (by rw [show _ = _ from ((cl_47 hC))]; omega) wl_47_1 ?_
      refine wa_aload_n (n := 0) rfl ?_
      refine wb_gfi 158 rfl (wy_pr rfl) wt_158 wf_5_14 (v := fo) (l14) (fun r92 => ?_)
      refine wa_iload_n (n := 1) rfl ?_
      refine wa_ifeq (w_rg0 (by omega) (by omega)) ⟨_, rfl⟩ (fun c93 => ?_) (fun c93 => ?_)
      · skip
        exact absurd c93 (by omega)
      · skip
        refine wa_iconst ?_
        refine wa_goto ⟨_, rfl⟩ ?_
        refine wb_iast 49 rfl (wy_pr rfl) wt_49 (n := (S 48 (-1))) ((hl.2.2.1 1 (by decide))) (by omega) (by omega) ⟨(by omega), (by omega)⟩ ?_
        refine wa_aload_n (n := 0) rfl ?_
        refine wb_gfi 158 rfl (wy_pr rfl) wt_158 wf_5_7 (v := kd) ((w_up_slot (by decide)).trans (l7)) (fun r94 => ?_)
        by_cases c95 : kd = 0
        · refine wa_lw (tb := 0) (w_rg0 (by omega) (by omega)) (q := (25, 7)) (by rw [c95]; first | rfl | decide) ⟨_, rfl⟩ ?_
          refine wa_iload_n (n := 2) rfl ?_
          refine wa_bipush (w_rg2 (by omega) (by omega)) ?_
          refine wa_icmpne (w_rg0 (by omega) (by omega)) (w_rg0 (by omega) (by omega)) ⟨_, rfl⟩ (fun c96 => ?_) (fun c96 => ?_)
          · skip
            refine wa_iconst ?_
            refine wa_fall ⟨_, rfl⟩ ?_
            refine wa_istore_n (n := 3) rfl ?_
            refine wa_goto ⟨_, rfl⟩ ?_
            refine wa_iload_n (n := 3) rfl ?_
            refine wa_ifne (w_rg0 (by omega) (by omega)) ⟨_, rfl⟩ (fun c97 => ?_) (fun c97 => ?_)
            · skip
              exact absurd c97 (by omega)
            · skip
              refine wa_aload_n (n := 0) rfl ?_
              refine wb_gf5 158 rfl (wy_pr rfl) wt_158 wf_5_4 (v := 215) ((w_up_slot (by decide)).trans (l4)) (fun r98 => ?_)
              refine wa_iconst ?_
              refine wb_pfi 215 rfl (wy_pr rfl) wt_215 wf_8_16 (n := 16) rfl ⟨(by omega), (by omega)⟩ ?_
              refine wa_fall ⟨_, rfl⟩ ?_
              refine wa_return rfl ?_
              have eg : (if gk = 6 then 0 else 1 : Int) = 0 := by first | exact if_pos (by omega) | exact if_neg (by omega)
              have ep : rwP wd gk kd ec = 4 := by unfold rwP; (repeat (first | rw [if_pos (by omega)] | rw [if_neg (by omega)])); all_goals omega
              rw [eg, ep]
              exact ⟨rfl, if_neg (by first | decide | omega)⟩
          · skip
            refine wa_iconst ?_
            refine wa_goto ⟨_, rfl⟩ ?_
            refine wa_istore_n (n := 3) rfl ?_
            refine wa_goto ⟨_, rfl⟩ ?_
            refine wa_iload_n (n := 3) rfl ?_
            refine wa_ifne (w_rg0 (by omega) (by omega)) ⟨_, rfl⟩ (fun c99 => ?_) (fun c99 => ?_)
            · skip
              refine wa_return rfl ?_
              have eg : (if gk = 6 then 0 else 1 : Int) = 0 := by first | exact if_pos (by omega) | exact if_neg (by omega)
              have ep : rwP wd gk kd ec = 0 := by unfold rwP; (repeat (first | rw [if_pos (by omega)] | rw [if_neg (by omega)])); all_goals omega
              rw [eg, ep]
              exact ⟨rfl, if_pos rfl⟩
            · skip
              exact absurd c99 (by omega)
        by_cases c100 : kd = 5
        · refine wa_lw (tb := 0) (w_rg0 (by omega) (by omega)) (q := (40, 10)) (by rw [c100]; first | rfl | decide) ⟨_, rfl⟩ ?_
          refine wa_iload_n (n := 1) rfl ?_
          refine wa_ifeq (w_rg0 (by omega) (by omega)) ⟨_, rfl⟩ (fun c101 => ?_) (fun c101 => ?_)
          · skip
            exact absurd c101 (by omega)
          · skip
            refine wa_iload_n (n := 2) rfl ?_
            refine wa_bipush (w_rg2 (by omega) (by omega)) ?_
            refine wa_icmpne (w_rg0 (by omega) (by omega)) (w_rg0 (by omega) (by omega)) ⟨_, rfl⟩ (fun c102 => ?_) (fun c102 => ?_)
            · skip
              refine wa_iload_n (n := 2) rfl ?_
              refine wa_bipush (w_rg2 (by omega) (by omega)) ?_
              refine wa_icmpne (w_rg0 (by omega) (by omega)) (w_rg0 (by omega) (by omega)) ⟨_, rfl⟩ (fun c103 => ?_) (fun c103 => ?_)
              · skip
                refine wa_iconst ?_
                refine wa_goto ⟨_, rfl⟩ ?_
                refine wa_istore_n (n := 3) rfl ?_
                refine wa_goto ⟨_, rfl⟩ ?_
                refine wa_iload_n (n := 3) rfl ?_
                refine wa_ifne (w_rg0 (by omega) (by omega)) ⟨_, rfl⟩ (fun c104 => ?_) (fun c104 => ?_)
                · skip
                  exact absurd c104 (by omega)
                · skip
                  refine wa_aload_n (n := 0) rfl ?_
                  refine wb_gf5 158 rfl (wy_pr rfl) wt_158 wf_5_4 (v := 215) ((w_up_slot (by decide)).trans (l4)) (fun r105 => ?_)
                  refine wa_iconst ?_
                  refine wb_pfi 215 rfl (wy_pr rfl) wt_215 wf_8_16 (n := 16) rfl ⟨(by omega), (by omega)⟩ ?_
                  refine wa_fall ⟨_, rfl⟩ ?_
                  refine wa_return rfl ?_
                  have eg : (if gk = 6 then 0 else 1 : Int) = 0 := by first | exact if_pos (by omega) | exact if_neg (by omega)
                  have ep : rwP wd gk kd ec = 4 := by unfold rwP; (repeat (first | rw [if_pos (by omega)] | rw [if_neg (by omega)])); all_goals omega
                  rw [eg, ep]
                  exact ⟨rfl, if_neg (by first | decide | omega)⟩
              · skip
                refine wa_aload_n (n := 0) rfl ?_
                refine wb_gfi 158 rfl (wy_pr rfl) wt_158 wf_5_12 (v := ec) ((w_up_slot (by decide)).trans (l12)) (fun r106 => ?_)
                refine wa_ifne (w_rg0 (by omega) (by omega)) ⟨_, rfl⟩ (fun c107 => ?_) (fun c107 => ?_)
                · skip
                  refine wa_iconst ?_
                  refine wa_goto ⟨_, rfl⟩ ?_
                  refine wa_istore_n (n := 3) rfl ?_
                  refine wa_goto ⟨_, rfl⟩ ?_
                  refine wa_iload_n (n := 3) rfl ?_
                  refine wa_ifne (w_rg0 (by omega) (by omega)) ⟨_, rfl⟩ (fun c108 => ?_) (fun c108 => ?_)
                  · skip
                    exact absurd c108 (by omega)
                  · skip
                    refine wa_aload_n (n := 0) rfl ?_
                    refine wb_gf5 158 rfl (wy_pr rfl) wt_158 wf_5_4 (v := 215) ((w_up_slot (by decide)).trans (l4)) (fun r109 => ?_)
                    refine wa_iconst ?_
                    refine wb_pfi 215 rfl (wy_pr rfl) wt_215 wf_8_16 (n := 16) rfl ⟨(by omega), (by omega)⟩ ?_
                    refine wa_fall ⟨_, rfl⟩ ?_
                    refine wa_return rfl ?_
                    have eg : (if gk = 6 then 0 else 1 : Int) = 0 := by first | exact if_pos (by omega) | exact if_neg (by omega)
                    have ep : rwP wd gk kd ec = 4 := by unfold rwP; (repeat (first | rw [if_pos (by omega)] | rw [if_neg (by omega)])); all_goals omega
                    rw [eg, ep]
                    exact ⟨rfl, if_neg (by first | decide | omega)⟩
                · skip
                  refine wa_fall ⟨_, rfl⟩ ?_
                  refine wa_iconst ?_
                  refine wa_goto ⟨_, rfl⟩ ?_
                  refine wa_istore_n (n := 3) rfl ?_
                  refine wa_goto ⟨_, rfl⟩ ?_
                  refine wa_iload_n (n := 3) rfl ?_
                  refine wa_ifne (w_rg0 (by omega) (by omega)) ⟨_, rfl⟩ (fun c110 => ?_) (fun c110 => ?_)
                  · skip
                    refine wa_return rfl ?_
                    have eg : (if gk = 6 then 0 else 1 : Int) = 0 := by first | exact if_pos (by omega) | exact if_neg (by omega)
                    have ep : rwP wd gk kd ec = 0 := by unfold rwP; (repeat (first | rw [if_pos (by omega)] | rw [if_neg (by omega)])); all_goals omega
                    rw [eg, ep]
                    exact ⟨rfl, if_pos rfl⟩
                  · skip
                    exact absurd c110 (by omega)
            · skip
              refine wa_aload_n (n := 0) rfl ?_
              refine wb_gfi 158 rfl (wy_pr rfl) wt_158 wf_5_12 (v := ec) ((w_up_slot (by decide)).trans (l12)) (fun r111 => ?_)
              refine wa_iconst ?_
              refine wa_icmpeq (w_rg0 (by omega) (by omega)) (w_rg0 (by omega) (by omega)) ⟨_, rfl⟩ (fun c112 => ?_) (fun c112 => ?_)
              · skip
                refine wa_iconst ?_
                refine wa_goto ⟨_, rfl⟩ ?_
                refine wa_istore_n (n := 3) rfl ?_
                refine wa_goto ⟨_, rfl⟩ ?_
                refine wa_iload_n (n := 3) rfl ?_
                refine wa_ifne (w_rg0 (by omega) (by omega)) ⟨_, rfl⟩ (fun c113 => ?_) (fun c113 => ?_)
                · skip
                  refine wa_return rfl ?_
                  have eg : (if gk = 6 then 0 else 1 : Int) = 0 := by first | exact if_pos (by omega) | exact if_neg (by omega)
                  have ep : rwP wd gk kd ec = 0 := by unfold rwP; (repeat (first | rw [if_pos (by omega)] | rw [if_neg (by omega)])); all_goals omega
                  rw [eg, ep]
                  exact ⟨rfl, if_pos rfl⟩
                · skip
                  exact absurd c113 (by omega)
              · skip
                refine wa_fall ⟨_, rfl⟩ ?_
                refine wa_iload_n (n := 2) rfl ?_
                refine wa_bipush (w_rg2 (by omega) (by omega)) ?_
                refine wa_icmpne (w_rg0 (by omega) (by omega)) (w_rg0 (by omega) (by omega)) ⟨_, rfl⟩ (fun c114 => ?_) (fun c114 => ?_)
                · skip
                  refine wa_iconst ?_
                  refine wa_goto ⟨_, rfl⟩ ?_
                  refine wa_istore_n (n := 3) rfl ?_
                  refine wa_goto ⟨_, rfl⟩ ?_
                  refine wa_iload_n (n := 3) rfl ?_
                  refine wa_ifne (w_rg0 (by omega) (by omega)) ⟨_, rfl⟩ (fun c115 => ?_) (fun c115 => ?_)
                  · skip
                    exact absurd c115 (by omega)
                  · skip
                    refine wa_aload_n (n := 0) rfl ?_
                    refine wb_gf5 158 rfl (wy_pr rfl) wt_158 wf_5_4 (v := 215) ((w_up_slot (by decide)).trans (l4)) (fun r116 => ?_)
                    refine wa_iconst ?_
                    refine wb_pfi 215 rfl (wy_pr rfl) wt_215 wf_8_16 (n := 16) rfl ⟨(by omega), (by omega)⟩ ?_
                    refine wa_fall ⟨_, rfl⟩ ?_
                    refine wa_return rfl ?_
                    have eg : (if gk = 6 then 0 else 1 : Int) = 0 := by first | exact if_pos (by omega) | exact if_neg (by omega)
                    have ep : rwP wd gk kd ec = 4 := by unfold rwP; (repeat (first | rw [if_pos (by omega)] | rw [if_neg (by omega)])); all_goals omega
                    rw [eg, ep]
                    exact ⟨rfl, if_neg (by first | decide | omega)⟩
                · skip
                  exact absurd c114 (by omega)
        refine wa_lw (tb := 0) (w_rg0 (by omega) (by omega)) (q := (102, 17)) (lw_df [0, 5] rfl (by simp only [List.mem_cons, List.not_mem_nil, or_false, not_or]; omega) (by first | rfl | decide)) ⟨_, rfl⟩ ?_
        refine wa_aload_n (n := 0) rfl ?_
        refine wb_gfi 158 rfl (wy_pr rfl) wt_158 wf_5_7 (v := kd) ((w_up_slot (by decide)).trans (l7)) (fun r117 => ?_)
        refine wa_iconst ?_
        refine wa_icmpeq (w_rg0 (by omega) (by omega)) (w_rg0 (by omega) (by omega)) ⟨_, rfl⟩ (fun c118 => ?_) (fun c118 => ?_)
        · skip
          refine wa_return rfl ?_
          have eg : (if gk = 6 then 0 else 1 : Int) = 0 := by first | exact if_pos (by omega) | exact if_neg (by omega)
          have ep : rwP wd gk kd ec = 0 := by unfold rwP; (repeat (first | rw [if_pos (by omega)] | rw [if_neg (by omega)])); all_goals omega
          rw [eg, ep]
          exact ⟨rfl, if_pos rfl⟩
        · skip
          refine wa_aload_n (n := 0) rfl ?_
          refine wb_gfi 158 rfl (wy_pr rfl) wt_158 wf_5_7 (v := kd) ((w_up_slot (by decide)).trans (l7)) (fun r119 => ?_)
          refine wa_iconst ?_
          refine wa_icmpne (w_rg0 (by omega) (by omega)) (w_rg0 (by omega) (by omega)) ⟨_, rfl⟩ (fun c120 => ?_) (fun c120 => ?_)
          · skip
            refine wa_aload_n (n := 0) rfl ?_
            refine wb_gf5 158 rfl (wy_pr rfl) wt_158 wf_5_4 (v := 215) ((w_up_slot (by decide)).trans (l4)) (fun r121 => ?_)
            refine wa_iconst ?_
            refine wb_pfi 215 rfl (wy_pr rfl) wt_215 wf_8_16 (n := 16) rfl ⟨(by omega), (by omega)⟩ ?_
            refine wa_fall ⟨_, rfl⟩ ?_
            refine wa_return rfl ?_
            have eg : (if gk = 6 then 0 else 1 : Int) = 0 := by first | exact if_pos (by omega) | exact if_neg (by omega)
            have ep : rwP wd gk kd ec = 5 := by unfold rwP; (repeat (first | rw [if_pos (by omega)] | rw [if_neg (by omega)])); all_goals omega
            rw [eg, ep]
            exact ⟨rfl, if_neg (by first | decide | omega)⟩
          · skip
            refine wa_iload_n (n := 1) rfl ?_
            refine wa_ifne (w_rg0 (by omega) (by omega)) ⟨_, rfl⟩ (fun c122 => ?_) (fun c122 => ?_)
            · skip
              refine wa_return rfl ?_
              have eg : (if gk = 6 then 0 else 1 : Int) = 0 := by first | exact if_pos (by omega) | exact if_neg (by omega)
              have ep : rwP wd gk kd ec = 0 := by unfold rwP; (repeat (first | rw [if_pos (by omega)] | rw [if_neg (by omega)])); all_goals omega
              rw [eg, ep]
              exact ⟨rfl, if_pos rfl⟩
            · skip
              exact absurd c122 (by omega)
set_option maxHeartbeats 4000000 in
theorem lob0_215 {ty : Int} (hC : w_CL S) (hl : cSl S) (l4 : S 158 4 = 215) (l6 : S 158 6 = s) (l7 : S 158 7 = kd) (l9 : S 158 9 = gk) (l10 : S 158 10 = gb) (l11 : S 158 11 = nm) (l13 : S 158 13 = es) (l14 : S 158 14 = fo) (hfo : 0 ≤ fo ∧ fo < S 48 (-1)) (hgk : gk = 4 ∨ gk = 5) (hgb : 0 ≤ gb ∧ gb < 8000) (hak : 0 ≤ S 160 0 ∧ S 160 0 ≤ 1000000) (hcal : wJ (pe_GA xs) wY0 (mS ml) (d + 5) t_XL_lookAtThing ((pe_at t_XL_lookAtThing.bl 0).getD (0, [])).2 [(0, (2, 158)), (1, (0, gb))] [] (bkZ fo 0 (w_up S 160 0 (S 160 0 + 1))) (fun o Z => o = .inl none ∧ R Z)) (hR : ∀ Z : wS, R Z → ((Z 158 4 = 215 ∧ Z 158 6 = s ∧ Z 158 14 = fo) ∧ (Z 34 (-1) = 12 ∧ 0 ≤ s ∧ s < Z 45 (-1)) ∧ (Z 45 s = 0 ∨ Z 45 s = 1)) ∧ (Z 215 16 ≠ 0 ∨ Z 45 s = 1 → Q (.inl (some (0, fo))) Z) ∧ (Z 215 16 = 0 → Z 45 s = 0 → wJ (pe_GA xs) wY0 (mS ml) (d + 5) t_XL_link ((pe_at t_XL_link.bl 0).getD (0, [])).2 [(0, (2, 158))] [] Z (fun o Z2 => ∃ v : Int, o = .inl (some (0, v)) ∧ Q (.inl (some (0, v))) Z2))) (hmn : ¬ mS ml 158) (l160 : S 160 (-1) = 4) : wJ (pe_GA xs) wY0 (mS ml) (d + 6) t_XL_look ((pe_at t_XL_look.bl 6).getD (0, [])).2 [(0, (2, 158)), (1, (0, 0))] [] S Q := by
  have h35 := hl.2.1
  have h48 := hl.2.2.2
  refine wa_aload_n (n := 0) rfl ?_
  refine wb_gf4 158 rfl (wy_pr rfl) wt_158 wf_5_18 (v := 160) wl_158_18 ?_
  refine wa_iload_n (n := 1) rfl ?_
  refine wa_dup2 (by decide) (by decide) ?_
  refine wb_iald 160 rfl (wy_pr rfl) wt_160 (n := 4) (l160) (by omega) (by omega) (v := (S 160 0)) rfl (fun r101 => ?_)
  refine wa_iconst ?_
  refine wa_iadd ?_
  refine wb_iast 160 rfl (wy_pr rfl) wt_160 (n := 4) (l160) (by omega) (by omega) ⟨(by omega), (by omega)⟩ ?_
  refine wa_iconst ?_
  refine wa_istore_n (n := 2) rfl ?_
  refine wa_fall ⟨_, rfl⟩ ?_
  refine wJ_S (L2 := [(0, (2, 158)), (1, (0, 0)), (2, (0, 0))]) ?_ ⟨rfl, rfl, rfl, trivial⟩
  refine wa_iload_n (n := 2) rfl ?_
  refine wa_bipush (w_rg2 (by omega) (by omega)) ?_
  refine wa_icmpge (w_rg0 (by omega) (by omega)) (w_rg0 (by omega) (by omega)) ⟨_, rfl⟩ (fun c102 => ?_) (fun c102 => ?_)
  · skip
    exact absurd c102 (by omega)
  · skip
    refine wa_aload_n (n := 0) rfl ?_
    refine wb_gf4 158 rfl (wy_pr rfl) wt_158 wf_5_3 (v := 47) wl_158_3 ?_
    refine wa_iload_n (n := 2) rfl ?_
    refine wb_aald5 47 0 rfl rfl (wy_pr rfl) wt_47 (by rw [show _ = _ from ((w_up_slot (by decide)).trans ((cl_47 hC)))]; omega) wl_47_0 ?_
    refine wa_aload_n (n := 0) rfl ?_
    refine wb_gfi 158 rfl (wy_pr rfl) wt_158 wf_5_14 (v := fo) ((w_up_slot (by decide)).trans (l14)) (fun r103 => ?_)
    refine wa_iconst ?_
    refine wb_iast 48 rfl (wy_pr rfl) wt_48 (n := (S 48 (-1))) ((w_up_slot (by decide)).trans (rfl)) (by omega) (by omega) ⟨(by omega), (by omega)⟩ ?_
    refine wa_iinc rfl rfl ?_
    refine wa_goto ⟨_, rfl⟩ ?_
    refine wJ_S (L2 := [(0, (2, 158)), (1, (0, 0)), (2, (0, 1))]) ?_ ⟨rfl, rfl, rfl, trivial⟩
    refine wa_iload_n (n := 2) rfl ?_
    refine wa_bipush (w_rg2 (by omega) (by omega)) ?_
    refine wa_icmpge (w_rg0 (by omega) (by omega)) (w_rg0 (by omega) (by omega)) ⟨_, rfl⟩ (fun c104 => ?_) (fun c104 => ?_)
    · skip
      exact absurd c104 (by omega)
    · skip
      refine wa_aload_n (n := 0) rfl ?_
      refine wb_gf4 158 rfl (wy_pr rfl) wt_158 wf_5_3 (v := 47) wl_158_3 ?_
      refine wa_iload_n (n := 2) rfl ?_
      refine wb_aald5 47 1 rfl rfl (wy_pr rfl) wt_47 (by rw [show _ = _ from ((w_up_slot (by decide)).trans ((w_up_slot (by decide)).trans ((cl_47 hC))))]; omega) wl_47_1 ?_
      refine wa_aload_n (n := 0) rfl ?_
      refine wb_gfi 158 rfl (wy_pr rfl) wt_158 wf_5_14 (v := fo) ((w_up_slot (by decide)).trans ((w_up_slot (by decide)).trans (l14))) (fun r105 => ?_)
      refine wa_iconst ?_
      refine wb_iast 49 rfl (wy_pr rfl) wt_49 (n := (S 48 (-1))) ((w_up_slot (by decide)).trans ((w_up_slot (by decide)).trans ((hl.2.2.1 1 (by decide))))) (by omega) (by omega) ⟨(by omega), (by omega)⟩ ?_
      refine wa_iinc rfl rfl ?_
      refine wa_goto ⟨_, rfl⟩ ?_
      refine wJ_S (L2 := [(0, (2, 158)), (1, (0, 0)), (2, (0, 2))]) ?_ ⟨rfl, rfl, rfl, trivial⟩
      refine wa_iload_n (n := 2) rfl ?_
      refine wa_bipush (w_rg2 (by omega) (by omega)) ?_
      refine wa_icmpge (w_rg0 (by omega) (by omega)) (w_rg0 (by omega) (by omega)) ⟨_, rfl⟩ (fun c106 => ?_) (fun c106 => ?_)
      · skip
        exact absurd c106 (by omega)
      · skip
        refine wa_aload_n (n := 0) rfl ?_
        refine wb_gf4 158 rfl (wy_pr rfl) wt_158 wf_5_3 (v := 47) wl_158_3 ?_
        refine wa_iload_n (n := 2) rfl ?_
        refine wb_aald5 47 2 rfl rfl (wy_pr rfl) wt_47 (by rw [show _ = _ from ((w_up_slot (by decide)).trans ((w_up_slot (by decide)).trans ((w_up_slot (by decide)).trans ((cl_47 hC)))))]; omega) wl_47_2 ?_
        refine wa_aload_n (n := 0) rfl ?_
        refine wb_gfi 158 rfl (wy_pr rfl) wt_158 wf_5_14 (v := fo) ((w_up_slot (by decide)).trans ((w_up_slot (by decide)).trans ((w_up_slot (by decide)).trans (l14)))) (fun r107 => ?_)
        refine wa_iconst ?_
        refine wb_iast 50 rfl (wy_pr rfl) wt_50 (n := (S 48 (-1))) ((w_up_slot (by decide)).trans ((w_up_slot (by decide)).trans ((w_up_slot (by decide)).trans ((hl.2.2.1 2 (by decide)))))) (by omega) (by omega) ⟨(by omega), (by omega)⟩ ?_
        refine wa_iinc rfl rfl ?_
        refine wa_goto ⟨_, rfl⟩ ?_
        refine wJ_S (L2 := [(0, (2, 158)), (1, (0, 0)), (2, (0, 3))]) ?_ ⟨rfl, rfl, rfl, trivial⟩
        refine wa_iload_n (n := 2) rfl ?_
        refine wa_bipush (w_rg2 (by omega) (by omega)) ?_
        refine wa_icmpge (w_rg0 (by omega) (by omega)) (w_rg0 (by omega) (by omega)) ⟨_, rfl⟩ (fun c108 => ?_) (fun c108 => ?_)
        · skip
          exact absurd c108 (by omega)
        · skip
          refine wa_aload_n (n := 0) rfl ?_
          refine wb_gf4 158 rfl (wy_pr rfl) wt_158 wf_5_3 (v := 47) wl_158_3 ?_
          refine wa_iload_n (n := 2) rfl ?_
          refine wb_aald5 47 3 rfl rfl (wy_pr rfl) wt_47 (by rw [show _ = _ from ((w_up_slot (by decide)).trans ((w_up_slot (by decide)).trans ((w_up_slot (by decide)).trans ((w_up_slot (by decide)).trans ((cl_47 hC))))))]; omega) wl_47_3 ?_
          refine wa_aload_n (n := 0) rfl ?_
          refine wb_gfi 158 rfl (wy_pr rfl) wt_158 wf_5_14 (v := fo) ((w_up_slot (by decide)).trans ((w_up_slot (by decide)).trans ((w_up_slot (by decide)).trans ((w_up_slot (by decide)).trans (l14))))) (fun r109 => ?_)
          refine wa_iconst ?_
          refine wb_iast 51 rfl (wy_pr rfl) wt_51 (n := (S 48 (-1))) ((w_up_slot (by decide)).trans ((w_up_slot (by decide)).trans ((w_up_slot (by decide)).trans ((w_up_slot (by decide)).trans ((hl.2.2.1 3 (by decide))))))) (by omega) (by omega) ⟨(by omega), (by omega)⟩ ?_
          refine wa_iinc rfl rfl ?_
          refine wa_goto ⟨_, rfl⟩ ?_
          refine wJ_S (L2 := [(0, (2, 158)), (1, (0, 0)), (2, (0, 4))]) ?_ ⟨rfl, rfl, rfl, trivial⟩
          refine wa_iload_n (n := 2) rfl ?_
          refine wa_bipush (w_rg2 (by omega) (by omega)) ?_
          refine wa_icmpge (w_rg0 (by omega) (by omega)) (w_rg0 (by omega) (by omega)) ⟨_, rfl⟩ (fun c110 => ?_) (fun c110 => ?_)
          · skip
            exact absurd c110 (by omega)
          · skip
            refine wa_aload_n (n := 0) rfl ?_
            refine wb_gf4 158 rfl (wy_pr rfl) wt_158 wf_5_3 (v := 47) wl_158_3 ?_
            refine wa_iload_n (n := 2) rfl ?_
            refine wb_aald5 47 4 rfl rfl (wy_pr rfl) wt_47 (by rw [show _ = _ from ((w_up_slot (by decide)).trans ((w_up_slot (by decide)).trans ((w_up_slot (by decide)).trans ((w_up_slot (by decide)).trans ((w_up_slot (by decide)).trans ((cl_47 hC)))))))]; omega) wl_47_4 ?_
            refine wa_aload_n (n := 0) rfl ?_
            refine wb_gfi 158 rfl (wy_pr rfl) wt_158 wf_5_14 (v := fo) ((w_up_slot (by decide)).trans ((w_up_slot (by decide)).trans ((w_up_slot (by decide)).trans ((w_up_slot (by decide)).trans ((w_up_slot (by decide)).trans (l14)))))) (fun r111 => ?_)
            refine wa_iconst ?_
            refine wb_iast 52 rfl (wy_pr rfl) wt_52 (n := (S 48 (-1))) ((w_up_slot (by decide)).trans ((w_up_slot (by decide)).trans ((w_up_slot (by decide)).trans ((w_up_slot (by decide)).trans ((w_up_slot (by decide)).trans ((hl.2.2.1 4 (by decide)))))))) (by omega) (by omega) ⟨(by omega), (by omega)⟩ ?_
            refine wa_iinc rfl rfl ?_
            refine wa_goto ⟨_, rfl⟩ ?_
            refine wJ_S (L2 := [(0, (2, 158)), (1, (0, 0)), (2, (0, 5))]) ?_ ⟨rfl, rfl, rfl, trivial⟩
            refine wa_iload_n (n := 2) rfl ?_
            refine wa_bipush (w_rg2 (by omega) (by omega)) ?_
            refine wa_icmpge (w_rg0 (by omega) (by omega)) (w_rg0 (by omega) (by omega)) ⟨_, rfl⟩ (fun c112 => ?_) (fun c112 => ?_)
            · skip
              exact absurd c112 (by omega)
            · skip
              refine wa_aload_n (n := 0) rfl ?_
              refine wb_gf4 158 rfl (wy_pr rfl) wt_158 wf_5_3 (v := 47) wl_158_3 ?_
              refine wa_iload_n (n := 2) rfl ?_
              refine wb_aald5 47 5 rfl rfl (wy_pr rfl) wt_47 (by rw [show _ = _ from ((w_up_slot (by decide)).trans ((w_up_slot (by decide)).trans ((w_up_slot (by decide)).trans ((w_up_slot (by decide)).trans ((w_up_slot (by decide)).trans ((w_up_slot (by decide)).trans ((cl_47 hC))))))))]; omega) wl_47_5 ?_
              refine wa_aload_n (n := 0) rfl ?_
              refine wb_gfi 158 rfl (wy_pr rfl) wt_158 wf_5_14 (v := fo) ((w_up_slot (by decide)).trans ((w_up_slot (by decide)).trans ((w_up_slot (by decide)).trans ((w_up_slot (by decide)).trans ((w_up_slot (by decide)).trans ((w_up_slot (by decide)).trans (l14))))))) (fun r113 => ?_)
              refine wa_iconst ?_
              refine wb_iast 53 rfl (wy_pr rfl) wt_53 (n := (S 48 (-1))) ((w_up_slot (by decide)).trans ((w_up_slot (by decide)).trans ((w_up_slot (by decide)).trans ((w_up_slot (by decide)).trans ((w_up_slot (by decide)).trans ((w_up_slot (by decide)).trans ((hl.2.2.1 5 (by decide))))))))) (by omega) (by omega) ⟨(by omega), (by omega)⟩ ?_
              refine wa_iinc rfl rfl ?_
              refine wa_goto ⟨_, rfl⟩ ?_
              refine wJ_S (L2 := [(0, (2, 158)), (1, (0, 0)), (2, (0, 6))]) ?_ ⟨rfl, rfl, rfl, trivial⟩
              refine wa_iload_n (n := 2) rfl ?_
              refine wa_bipush (w_rg2 (by omega) (by omega)) ?_
              refine wa_icmpge (w_rg0 (by omega) (by omega)) (w_rg0 (by omega) (by omega)) ⟨_, rfl⟩ (fun c114 => ?_) (fun c114 => ?_)
              · skip
                exact absurd c114 (by omega)
              · skip
                refine wa_aload_n (n := 0) rfl ?_
                refine wb_gf4 158 rfl (wy_pr rfl) wt_158 wf_5_3 (v := 47) wl_158_3 ?_
                refine wa_iload_n (n := 2) rfl ?_
                refine wb_aald5 47 6 rfl rfl (wy_pr rfl) wt_47 (by rw [show _ = _ from ((w_up_slot (by decide)).trans ((w_up_slot (by decide)).trans ((w_up_slot (by decide)).trans ((w_up_slot (by decide)).trans ((w_up_slot (by decide)).trans ((w_up_slot (by decide)).trans ((w_up_slot (by decide)).trans ((cl_47 hC)))))))))]; omega) wl_47_6 ?_
                refine wa_aload_n (n := 0) rfl ?_
                refine wb_gfi 158 rfl (wy_pr rfl) wt_158 wf_5_14 (v := fo) ((w_up_slot (by decide)).trans ((w_up_slot (by decide)).trans ((w_up_slot (by decide)).trans ((w_up_slot (by decide)).trans ((w_up_slot (by decide)).trans ((w_up_slot (by decide)).trans ((w_up_slot (by decide)).trans (l14)))))))) (fun r115 => ?_)
                refine wa_iconst ?_
                refine wb_iast 54 rfl (wy_pr rfl) wt_54 (n := (S 48 (-1))) ((w_up_slot (by decide)).trans ((w_up_slot (by decide)).trans ((w_up_slot (by decide)).trans ((w_up_slot (by decide)).trans ((w_up_slot (by decide)).trans ((w_up_slot (by decide)).trans ((w_up_slot (by decide)).trans ((hl.2.2.1 6 (by decide)))))))))) (by omega) (by omega) ⟨(by omega), (by omega)⟩ ?_
                refine wa_iinc rfl rfl ?_
                refine wa_goto ⟨_, rfl⟩ ?_
                refine wJ_S (L2 := [(0, (2, 158)), (1, (0, 0)), (2, (0, 7))]) ?_ ⟨rfl, rfl, rfl, trivial⟩
                refine wa_iload_n (n := 2) rfl ?_
                refine wa_bipush (w_rg2 (by omega) (by omega)) ?_
                refine wa_icmpge (w_rg0 (by omega) (by omega)) (w_rg0 (by omega) (by omega)) ⟨_, rfl⟩ (fun c116 => ?_) (fun c116 => ?_)
                · skip
                  exact absurd c116 (by omega)
                · skip
                  refine wa_aload_n (n := 0) rfl ?_
                  refine wb_gf4 158 rfl (wy_pr rfl) wt_158 wf_5_3 (v := 47) wl_158_3 ?_
                  refine wa_iload_n (n := 2) rfl ?_
                  refine wb_aald5 47 7 rfl rfl (wy_pr rfl) wt_47 (by rw [show _ = _ from ((w_up_slot (by decide)).trans ((w_up_slot (by decide)).trans ((w_up_slot (by decide)).trans ((w_up_slot (by decide)).trans ((w_up_slot (by decide)).trans ((w_up_slot (by decide)).trans ((w_up_slot (by decide)).trans ((w_up_slot (by decide)).trans ((cl_47 hC))))))))))]; omega) wl_47_7 ?_
                  refine wa_aload_n (n := 0) rfl ?_
                  refine wb_gfi 158 rfl (wy_pr rfl) wt_158 wf_5_14 (v := fo) ((w_up_slot (by decide)).trans ((w_up_slot (by decide)).trans ((w_up_slot (by decide)).trans ((w_up_slot (by decide)).trans ((w_up_slot (by decide)).trans ((w_up_slot (by decide)).trans ((w_up_slot (by decide)).trans ((w_up_slot (by decide)).trans (l14))))))))) (fun r117 => ?_)
                  refine wa_iconst ?_
                  refine wb_iast 55 rfl (wy_pr rfl) wt_55 (n := (S 48 (-1))) ((w_up_slot (by decide)).trans ((w_up_slot (by decide)).trans ((w_up_slot (by decide)).trans ((w_up_slot (by decide)).trans ((w_up_slot (by decide)).trans ((w_up_slot (by decide)).trans ((w_up_slot (by decide)).trans ((w_up_slot (by decide)).trans ((hl.2.2.1 7 (by decide))))))))))) (by omega) (by omega) ⟨(by omega), (by omega)⟩ ?_
                  refine wa_iinc rfl rfl ?_
                  refine wa_goto ⟨_, rfl⟩ ?_
                  refine wJ_S (L2 := [(0, (2, 158)), (1, (0, 0)), (2, (0, 8))]) ?_ ⟨rfl, rfl, rfl, trivial⟩
                  refine wa_iload_n (n := 2) rfl ?_
                  refine wa_bipush (w_rg2 (by omega) (by omega)) ?_
                  refine wa_icmpge (w_rg0 (by omega) (by omega)) (w_rg0 (by omega) (by omega)) ⟨_, rfl⟩ (fun c118 => ?_) (fun c118 => ?_)
                  · skip
                    exact absurd c118 (by omega)
                  · skip
                    refine wa_aload_n (n := 0) rfl ?_
                    refine wb_gf4 158 rfl (wy_pr rfl) wt_158 wf_5_3 (v := 47) wl_158_3 ?_
                    refine wa_iload_n (n := 2) rfl ?_
                    refine wb_aald5 47 8 rfl rfl (wy_pr rfl) wt_47 (by rw [show _ = _ from ((w_up_slot (by decide)).trans ((w_up_slot (by decide)).trans ((w_up_slot (by decide)).trans ((w_up_slot (by decide)).trans ((w_up_slot (by decide)).trans ((w_up_slot (by decide)).trans ((w_up_slot (by decide)).trans ((w_up_slot (by decide)).trans ((w_up_slot (by decide)).trans ((cl_47 hC)))))))))))]; omega) wl_47_8 ?_
                    refine wa_aload_n (n := 0) rfl ?_
                    refine wb_gfi 158 rfl (wy_pr rfl) wt_158 wf_5_14 (v := fo) ((w_up_slot (by decide)).trans ((w_up_slot (by decide)).trans ((w_up_slot (by decide)).trans ((w_up_slot (by decide)).trans ((w_up_slot (by decide)).trans ((w_up_slot (by decide)).trans ((w_up_slot (by decide)).trans ((w_up_slot (by decide)).trans ((w_up_slot (by decide)).trans (l14)))))))))) (fun r119 => ?_)
                    refine wa_iconst ?_
                    refine wb_iast 56 rfl (wy_pr rfl) wt_56 (n := (S 48 (-1))) ((w_up_slot (by decide)).trans ((w_up_slot (by decide)).trans ((w_up_slot (by decide)).trans ((w_up_slot (by decide)).trans ((w_up_slot (by decide)).trans ((w_up_slot (by decide)).trans ((w_up_slot (by decide)).trans ((w_up_slot (by decide)).trans ((w_up_slot (by decide)).trans ((hl.2.2.1 8 (by decide)))))))))))) (by omega) (by omega) ⟨(by omega), (by omega)⟩ ?_
                    refine wa_iinc rfl rfl ?_
                    refine wa_goto ⟨_, rfl⟩ ?_
                    refine wJ_S (L2 := [(0, (2, 158)), (1, (0, 0)), (2, (0, 9))]) ?_ ⟨rfl, rfl, rfl, trivial⟩
                    refine wa_iload_n (n := 2) rfl ?_
                    refine wa_bipush (w_rg2 (by omega) (by omega)) ?_
                    refine wa_icmpge (w_rg0 (by omega) (by omega)) (w_rg0 (by omega) (by omega)) ⟨_, rfl⟩ (fun c120 => ?_) (fun c120 => ?_)
                    · skip
                      exact absurd c120 (by omega)
                    · skip
                      refine wa_aload_n (n := 0) rfl ?_
                      refine wb_gf4 158 rfl (wy_pr rfl) wt_158 wf_5_3 (v := 47) wl_158_3 ?_
                      refine wa_iload_n (n := 2) rfl ?_
                      refine wb_aald5 47 9 rfl rfl (wy_pr rfl) wt_47 (by rw [show _ = _ from ((w_up_slot (by decide)).trans ((w_up_slot (by decide)).trans ((w_up_slot (by decide)).trans ((w_up_slot (by decide)).trans ((w_up_slot (by decide)).trans ((w_up_slot (by decide)).trans ((w_up_slot (by decide)).trans ((w_up_slot (by decide)).trans ((w_up_slot (by decide)).trans ((w_up_slot (by decide)).trans ((cl_47 hC))))))))))))]; omega) wl_47_9 ?_
                      refine wa_aload_n (n := 0) rfl ?_
                      refine wb_gfi 158 rfl (wy_pr rfl) wt_158 wf_5_14 (v := fo) ((w_up_slot (by decide)).trans ((w_up_slot (by decide)).trans ((w_up_slot (by decide)).trans ((w_up_slot (by decide)).trans ((w_up_slot (by decide)).trans ((w_up_slot (by decide)).trans ((w_up_slot (by decide)).trans ((w_up_slot (by decide)).trans ((w_up_slot (by decide)).trans ((w_up_slot (by decide)).trans (l14))))))))))) (fun r121 => ?_)
                      refine wa_iconst ?_
                      refine wb_iast 57 rfl (wy_pr rfl) wt_57 (n := (S 48 (-1))) ((w_up_slot (by decide)).trans ((w_up_slot (by decide)).trans ((w_up_slot (by decide)).trans ((w_up_slot (by decide)).trans ((w_up_slot (by decide)).trans ((w_up_slot (by decide)).trans ((w_up_slot (by decide)).trans ((w_up_slot (by decide)).trans ((w_up_slot (by decide)).trans ((w_up_slot (by decide)).trans ((hl.2.2.1 9 (by decide))))))))))))) (by omega) (by omega) ⟨(by omega), (by omega)⟩ ?_
                      refine wa_iinc rfl rfl ?_
                      refine wa_goto ⟨_, rfl⟩ ?_
                      refine wJ_S (L2 := [(0, (2, 158)), (1, (0, 0)), (2, (0, 10))]) ?_ ⟨rfl, rfl, rfl, trivial⟩
                      refine wa_iload_n (n := 2) rfl ?_
                      refine wa_bipush (w_rg2 (by omega) (by omega)) ?_
                      refine wa_icmpge (w_rg0 (by omega) (by omega)) (w_rg0 (by omega) (by omega)) ⟨_, rfl⟩ (fun c122 => ?_) (fun c122 => ?_)
                      · skip
                        refine wa_aload_n (n := 0) rfl ?_
                        refine wb_gf4 158 rfl (wy_pr rfl) wt_158 wf_5_3 (v := 47) wl_158_3 ?_
                        refine wa_iconst ?_
                        refine wb_aald5 47 0 rfl rfl (wy_pr rfl) wt_47 (by rw [show _ = _ from ((w_up_slot (by decide)).trans ((w_up_slot (by decide)).trans ((w_up_slot (by decide)).trans ((w_up_slot (by decide)).trans ((w_up_slot (by decide)).trans ((w_up_slot (by decide)).trans ((w_up_slot (by decide)).trans ((w_up_slot (by decide)).trans ((w_up_slot (by decide)).trans ((w_up_slot (by decide)).trans ((w_up_slot (by decide)).trans ((cl_47 hC)))))))))))))]; omega) wl_47_0 ?_
                        refine wa_aload_n (n := 0) rfl ?_
                        refine wb_gfi 158 rfl (wy_pr rfl) wt_158 wf_5_14 (v := fo) ((w_up_slot (by decide)).trans ((w_up_slot (by decide)).trans ((w_up_slot (by decide)).trans ((w_up_slot (by decide)).trans ((w_up_slot (by decide)).trans ((w_up_slot (by decide)).trans ((w_up_slot (by decide)).trans ((w_up_slot (by decide)).trans ((w_up_slot (by decide)).trans ((w_up_slot (by decide)).trans ((w_up_slot (by decide)).trans (l14)))))))))))) (fun r123 => ?_)
                        refine wa_iload_n (n := 1) rfl ?_
                        refine wb_iast 48 rfl (wy_pr rfl) wt_48 (n := (S 48 (-1))) ((w_up_slot (by decide)).trans ((w_up_slot (by decide)).trans ((w_up_slot (by decide)).trans ((w_up_slot (by decide)).trans ((w_up_slot (by decide)).trans ((w_up_slot (by decide)).trans ((w_up_slot (by decide)).trans ((w_up_slot (by decide)).trans ((w_up_slot (by decide)).trans ((w_up_at (by omega)).trans ((w_up_slot (by decide)).trans (rfl)))))))))))) (by omega) (by omega) ⟨(by omega), (by omega)⟩ ?_
                        refine wa_iload_n (n := 1) rfl ?_
                        refine wa_ifne (w_rg0 (by omega) (by omega)) ⟨_, rfl⟩ (fun c124 => ?_) (fun c124 => ?_)
                        · skip
                          exact absurd c124 (by omega)
                        · skip
                          refine wa_aload_n (n := 0) rfl ?_
                          refine wa_aload_n (n := 0) rfl ?_
                          refine wb_gfl 158 rfl (wy_pr rfl) wt_158 wf_5_10 (v := gb) ((w_up_slot (by decide)).trans ((w_up_slot (by decide)).trans ((w_up_slot (by decide)).trans ((w_up_slot (by decide)).trans ((w_up_slot (by decide)).trans ((w_up_slot (by decide)).trans ((w_up_slot (by decide)).trans ((w_up_slot (by decide)).trans ((w_up_slot (by decide)).trans ((w_up_slot (by decide)).trans ((w_up_slot (by decide)).trans ((w_up_slot (by decide)).trans (l10))))))))))))) (fun r125 => ?_)
                          refine wb_l2i_r (wb_l2i_id ⟨(by omega), (by omega)⟩) ?_
                          have eb : (w_up (w_up (w_up (w_up (w_up (w_up (w_up (w_up (w_up (w_up (w_up (w_up S 160 0 ((S 160 0) + 1)) 48 fo (-1)) 49 fo (-1)) 50 fo (-1)) 51 fo (-1)) 52 fo (-1)) 53 fo (-1)) 54 fo (-1)) 55 fo (-1)) 56 fo (-1)) 57 fo (-1)) 48 fo 0) = bkZ fo 0 (w_up S 160 0 (S 160 0 + 1)) := rfl
                          rw [eb]
                          refine wa_cv 158 rfl (wy_pr rfl) wt_158 (M2 := mS ml) rfl at_XL_lookAtThing ⟨_, rfl⟩ rfl rfl ⟨(Or.inr ⟨wy_pr rfl, hmn⟩), trivial, trivial, trivial⟩ trivial (fun _ _ q => q) (hcal) (fun oq126 Sq126 hp127 q126 => ?_)
                          rcases q126 with ⟨rfl, hz⟩
                          show wJ _ _ _ _ _ _ _ _ _ _
                          obtain ⟨⟨hz4, hz34, hz45⟩, hzq, hzk⟩ := hR _ hz
                          have hz34b := hz34.2
                          refine wa_goto ⟨_, rfl⟩ ?_
                          refine wa_aload_n (n := 0) rfl ?_
                          refine wb_gf5 158 rfl (wy_pr rfl) wt_158 wf_5_4 (v := 215) (hz4.1) (fun r128 => ?_)
                          refine wb_gfi 215 rfl (wy_pr rfl) wt_215 wf_8_16 (v := (Sq126 215 16)) rfl (fun r129 => ?_)
                          refine wa_ifne (w_rg0 (by omega) (by omega)) ⟨_, rfl⟩ (fun c130 => ?_) (fun c130 => ?_)
                          · skip
                            refine wa_aload_n (n := 0) rfl ?_
                            refine wb_gfi 158 rfl (wy_pr rfl) wt_158 wf_5_14 (v := fo) (hz4.2.2) (fun r131 => ?_)
                            refine wa_fall ⟨_, rfl⟩ ?_
                            refine wa_ireturn rfl ?_
                            exact hzq (by omega)
                          · skip
                            refine wa_aload_n (n := 0) rfl ?_
                            refine wb_gf4 158 rfl (wy_pr rfl) wt_158 wf_5_2 (v := 34) wl_158_2 ?_
                            refine wa_bipush (w_rg2 (by omega) (by omega)) ?_
                            refine wb_aald5 34 10 rfl rfl (wy_pr rfl) wt_34 (by rw [show _ = _ from (hz34.1)]; omega) wl_34_10 ?_
                            refine wa_aload_n (n := 0) rfl ?_
                            refine wb_gfi 158 rfl (wy_pr rfl) wt_158 wf_5_6 (v := s) (hz4.2.1) (fun r132 => ?_)
                            refine wb_iald 45 rfl (wy_pr rfl) wt_45 (n := (Sq126 45 (-1))) (rfl) (by omega) (by omega) (v := (Sq126 45 s)) rfl (fun r133 => ?_)
                            refine wa_ifne (w_rg0 (by omega) (by omega)) ⟨_, rfl⟩ (fun c134 => ?_) (fun c134 => ?_)
                            · skip
                              refine wa_aload_n (n := 0) rfl ?_
                              refine wb_gfi 158 rfl (wy_pr rfl) wt_158 wf_5_14 (v := fo) (hz4.2.2) (fun r135 => ?_)
                              refine wa_fall ⟨_, rfl⟩ ?_
                              refine wa_ireturn rfl ?_
                              exact hzq (by omega)
                            · skip
                              refine wa_aload_n (n := 0) rfl ?_
                              refine wa_cv 158 rfl (wy_pr rfl) wt_158 (M2 := mS ml) rfl at_XL_link ⟨_, rfl⟩ rfl rfl ⟨(Or.inr ⟨wy_pr rfl, hmn⟩), trivial, trivial, trivial⟩ trivial (fun _ _ q => q) (hzk (by omega) (by omega)) (fun oq136 Sq136 hp137 q136 => ?_)
                              rcases q136 with ⟨lv, rfl, hqv⟩
                              show wJ _ _ _ _ _ _ _ _ _ _
                              refine wa_goto ⟨_, rfl⟩ ?_
                              refine wa_ireturn rfl ?_
                              exact hqv
                      · skip
                        exact absurd c122 (by omega)
theorem lok0_215 {ty : Int} (hC : w_CL S) (hl : cSl S) (l4 : S 158 4 = 215) (l6 : S 158 6 = s) (l7 : S 158 7 = kd) (l9 : S 158 9 = gk) (l10 : S 158 10 = gb) (l11 : S 158 11 = nm) (l13 : S 158 13 = es) (l14 : S 158 14 = fo) (hfo : 0 ≤ fo ∧ fo < S 48 (-1)) (hgk : gk = 4 ∨ gk = 5) (hgb : 0 ≤ gb ∧ gb < 8000) (hak : 0 ≤ S 160 0 ∧ S 160 0 ≤ 1000000) (hcal : wJ (pe_GA xs) wY0 (mS ml) (d + 5) t_XL_lookAtThing ((pe_at t_XL_lookAtThing.bl 0).getD (0, [])).2 [(0, (2, 158)), (1, (0, gb))] [] (bkZ fo 0 (w_up S 160 0 (S 160 0 + 1))) (fun o Z => o = .inl none ∧ R Z)) (hR : ∀ Z : wS, R Z → ((Z 158 4 = 215 ∧ Z 158 6 = s ∧ Z 158 14 = fo) ∧ (Z 34 (-1) = 12 ∧ 0 ≤ s ∧ s < Z 45 (-1)) ∧ (Z 45 s = 0 ∨ Z 45 s = 1)) ∧ (Z 215 16 ≠ 0 ∨ Z 45 s = 1 → Q (.inl (some (0, fo))) Z) ∧ (Z 215 16 = 0 → Z 45 s = 0 → wJ (pe_GA xs) wY0 (mS ml) (d + 5) t_XL_link ((pe_at t_XL_link.bl 0).getD (0, [])).2 [(0, (2, 158))] [] Z (fun o Z2 => ∃ v : Int, o = .inl (some (0, v)) ∧ Q (.inl (some (0, v))) Z2))) (hmn : ¬ mS ml 158) (l160 : S 160 (-1) = 4) : wJ (pe_GA xs) wY0 (mS ml) (d + 6) t_XL_look ((pe_at t_XL_look.bl 0).getD (0, [])).2 [(0, (2, 158))] [] S Q := by
  have h35 := hl.2.1
  have h48 := hl.2.2.2
  refine wa_aload_n (n := 0) rfl ?_
  refine wb_gfi 158 rfl (wy_pr rfl) wt_158 wf_5_9 (v := gk) (l9) (fun r901 => ?_)
  by_cases c902 : gk = 3
  · exact absurd c902 (by omega)
  by_cases c903 : gk = 4
  · refine wb_sw (w_rg0 (by omega) (by omega)) (tb := 1) (by rw [c903]; rfl) ⟨_, rfl⟩ ?_
    refine wa_iconst ?_
    refine wa_istore_n (n := 1) rfl ?_
    refine wa_goto ⟨_, rfl⟩ ?_
    exact wJ_S (lob0_215 (ty := 0) hC hl l4 l6 l7 l9 l10 l11 l13 l14 hfo hgk hgb hak hcal hR hmn l160) ⟨rfl, rfl, trivial⟩
  by_cases c904 : gk = 5
  · refine wb_sw (w_rg0 (by omega) (by omega)) (tb := 1) (by rw [c904]; rfl) ⟨_, rfl⟩ ?_
    refine wa_iconst ?_
    refine wa_istore_n (n := 1) rfl ?_
    refine wa_goto ⟨_, rfl⟩ ?_
    exact wJ_S (lob0_215 (ty := 0) hC hl l4 l6 l7 l9 l10 l11 l13 l14 hfo hgk hgb hak hcal hR hmn l160) ⟨rfl, rfl, trivial⟩
  exfalso; omega
set_option maxHeartbeats 4000000 in
theorem lob3_215 {ty : Int} (hC : w_CL S) (hl : cSl S) (l4 : S 158 4 = 215) (l6 : S 158 6 = s) (l7 : S 158 7 = kd) (l9 : S 158 9 = gk) (l10 : S 158 10 = gb) (l11 : S 158 11 = nm) (l13 : S 158 13 = es) (l14 : S 158 14 = fo) (hfo : 0 ≤ fo ∧ fo < S 48 (-1)) (hgk : gk = 3 ∨ gk = 6) (hak : 0 ≤ S 160 3 ∧ S 160 3 ≤ 1000000) (hcal : wJ (pe_GA xs) wY0 (mS ml) (d + 5) t_XL_lookAtRow ((pe_at t_XL_lookAtRow.bl 0).getD (0, [])).2 [(0, (2, 158))] [] (bkZ fo 3 (w_up S 160 3 (S 160 3 + 1))) (fun o Z => o = .inl none ∧ R Z)) (hR : ∀ Z : wS, R Z → ((Z 158 4 = 215 ∧ Z 158 6 = s ∧ Z 158 14 = fo) ∧ (Z 34 (-1) = 12 ∧ 0 ≤ s ∧ s < Z 45 (-1)) ∧ (Z 45 s = 0 ∨ Z 45 s = 1)) ∧ (Z 215 16 ≠ 0 ∨ Z 45 s = 1 → Q (.inl (some (0, fo))) Z) ∧ (Z 215 16 = 0 → Z 45 s = 0 → wJ (pe_GA xs) wY0 (mS ml) (d + 5) t_XL_link ((pe_at t_XL_link.bl 0).getD (0, [])).2 [(0, (2, 158))] [] Z (fun o Z2 => ∃ v : Int, o = .inl (some (0, v)) ∧ Q (.inl (some (0, v))) Z2))) (hmn : ¬ mS ml 158) (l160 : S 160 (-1) = 4) : wJ (pe_GA xs) wY0 (mS ml) (d + 6) t_XL_look ((pe_at t_XL_look.bl 6).getD (0, [])).2 [(0, (2, 158)), (1, (0, 3))] [] S Q := by
  have h35 := hl.2.1
  have h48 := hl.2.2.2
  refine wa_aload_n (n := 0) rfl ?_
  refine wb_gf4 158 rfl (wy_pr rfl) wt_158 wf_5_18 (v := 160) wl_158_18 ?_
  refine wa_iload_n (n := 1) rfl ?_
  refine wa_dup2 (by decide) (by decide) ?_
  refine wb_iald 160 rfl (wy_pr rfl) wt_160 (n := 4) (l160) (by omega) (by omega) (v := (S 160 3)) rfl (fun r101 => ?_)
  refine wa_iconst ?_
  refine wa_iadd ?_
  refine wb_iast 160 rfl (wy_pr rfl) wt_160 (n := 4) (l160) (by omega) (by omega) ⟨(by omega), (by omega)⟩ ?_
  refine wa_iconst ?_
  refine wa_istore_n (n := 2) rfl ?_
  refine wa_fall ⟨_, rfl⟩ ?_
  refine wJ_S (L2 := [(0, (2, 158)), (1, (0, 3)), (2, (0, 0))]) ?_ ⟨rfl, rfl, rfl, trivial⟩
  refine wa_iload_n (n := 2) rfl ?_
  refine wa_bipush (w_rg2 (by omega) (by omega)) ?_
  refine wa_icmpge (w_rg0 (by omega) (by omega)) (w_rg0 (by omega) (by omega)) ⟨_, rfl⟩ (fun c102 => ?_) (fun c102 => ?_)
  · skip
    exact absurd c102 (by omega)
  · skip
    refine wa_aload_n (n := 0) rfl ?_
    refine wb_gf4 158 rfl (wy_pr rfl) wt_158 wf_5_3 (v := 47) wl_158_3 ?_
    refine wa_iload_n (n := 2) rfl ?_
    refine wb_aald5 47 0 rfl rfl (wy_pr rfl) wt_47 (by rw [show _ = _ from ((w_up_slot (by decide)).trans ((cl_47 hC)))]; omega) wl_47_0 ?_
    refine wa_aload_n (n := 0) rfl ?_
    refine wb_gfi 158 rfl (wy_pr rfl) wt_158 wf_5_14 (v := fo) ((w_up_slot (by decide)).trans (l14)) (fun r103 => ?_)
    refine wa_iconst ?_
    refine wb_iast 48 rfl (wy_pr rfl) wt_48 (n := (S 48 (-1))) ((w_up_slot (by decide)).trans (rfl)) (by omega) (by omega) ⟨(by omega), (by omega)⟩ ?_
    refine wa_iinc rfl rfl ?_
    refine wa_goto ⟨_, rfl⟩ ?_
    refine wJ_S (L2 := [(0, (2, 158)), (1, (0, 3)), (2, (0, 1))]) ?_ ⟨rfl, rfl, rfl, trivial⟩
    refine wa_iload_n (n := 2) rfl ?_
    refine wa_bipush (w_rg2 (by omega) (by omega)) ?_
    refine wa_icmpge (w_rg0 (by omega) (by omega)) (w_rg0 (by omega) (by omega)) ⟨_, rfl⟩ (fun c104 => ?_) (fun c104 => ?_)
    · skip
      exact absurd c104 (by omega)
    · skip
      refine wa_aload_n (n := 0) rfl ?_
      refine wb_gf4 158 rfl (wy_pr rfl) wt_158 wf_5_3 (v := 47) wl_158_3 ?_
      refine wa_iload_n (n := 2) rfl ?_
      refine wb_aald5 47 1 rfl rfl (wy_pr rfl) wt_47 (by rw [show _ = _ from ((w_up_slot (by decide)).trans ((w_up_slot (by decide)).trans ((cl_47 hC))))]; omega) wl_47_1 ?_
      refine wa_aload_n (n := 0) rfl ?_
      refine wb_gfi 158 rfl (wy_pr rfl) wt_158 wf_5_14 (v := fo) ((w_up_slot (by decide)).trans ((w_up_slot (by decide)).trans (l14))) (fun r105 => ?_)
      refine wa_iconst ?_
      refine wb_iast 49 rfl (wy_pr rfl) wt_49 (n := (S 48 (-1))) ((w_up_slot (by decide)).trans ((w_up_slot (by decide)).trans ((hl.2.2.1 1 (by decide))))) (by omega) (by omega) ⟨(by omega), (by omega)⟩ ?_
      refine wa_iinc rfl rfl ?_
      refine wa_goto ⟨_, rfl⟩ ?_
      refine wJ_S (L2 := [(0, (2, 158)), (1, (0, 3)), (2, (0, 2))]) ?_ ⟨rfl, rfl, rfl, trivial⟩
      refine wa_iload_n (n := 2) rfl ?_
      refine wa_bipush (w_rg2 (by omega) (by omega)) ?_
      refine wa_icmpge (w_rg0 (by omega) (by omega)) (w_rg0 (by omega) (by omega)) ⟨_, rfl⟩ (fun c106 => ?_) (fun c106 => ?_)
      · skip
        exact absurd c106 (by omega)
      · skip
        refine wa_aload_n (n := 0) rfl ?_
        refine wb_gf4 158 rfl (wy_pr rfl) wt_158 wf_5_3 (v := 47) wl_158_3 ?_
        refine wa_iload_n (n := 2) rfl ?_
        refine wb_aald5 47 2 rfl rfl (wy_pr rfl) wt_47 (by rw [show _ = _ from ((w_up_slot (by decide)).trans ((w_up_slot (by decide)).trans ((w_up_slot (by decide)).trans ((cl_47 hC)))))]; omega) wl_47_2 ?_
        refine wa_aload_n (n := 0) rfl ?_
        refine wb_gfi 158 rfl (wy_pr rfl) wt_158 wf_5_14 (v := fo) ((w_up_slot (by decide)).trans ((w_up_slot (by decide)).trans ((w_up_slot (by decide)).trans (l14)))) (fun r107 => ?_)
        refine wa_iconst ?_
        refine wb_iast 50 rfl (wy_pr rfl) wt_50 (n := (S 48 (-1))) ((w_up_slot (by decide)).trans ((w_up_slot (by decide)).trans ((w_up_slot (by decide)).trans ((hl.2.2.1 2 (by decide)))))) (by omega) (by omega) ⟨(by omega), (by omega)⟩ ?_
        refine wa_iinc rfl rfl ?_
        refine wa_goto ⟨_, rfl⟩ ?_
        refine wJ_S (L2 := [(0, (2, 158)), (1, (0, 3)), (2, (0, 3))]) ?_ ⟨rfl, rfl, rfl, trivial⟩
        refine wa_iload_n (n := 2) rfl ?_
        refine wa_bipush (w_rg2 (by omega) (by omega)) ?_
        refine wa_icmpge (w_rg0 (by omega) (by omega)) (w_rg0 (by omega) (by omega)) ⟨_, rfl⟩ (fun c108 => ?_) (fun c108 => ?_)
        · skip
          exact absurd c108 (by omega)
        · skip
          refine wa_aload_n (n := 0) rfl ?_
          refine wb_gf4 158 rfl (wy_pr rfl) wt_158 wf_5_3 (v := 47) wl_158_3 ?_
          refine wa_iload_n (n := 2) rfl ?_
          refine wb_aald5 47 3 rfl rfl (wy_pr rfl) wt_47 (by rw [show _ = _ from ((w_up_slot (by decide)).trans ((w_up_slot (by decide)).trans ((w_up_slot (by decide)).trans ((w_up_slot (by decide)).trans ((cl_47 hC))))))]; omega) wl_47_3 ?_
          refine wa_aload_n (n := 0) rfl ?_
          refine wb_gfi 158 rfl (wy_pr rfl) wt_158 wf_5_14 (v := fo) ((w_up_slot (by decide)).trans ((w_up_slot (by decide)).trans ((w_up_slot (by decide)).trans ((w_up_slot (by decide)).trans (l14))))) (fun r109 => ?_)
          refine wa_iconst ?_
          refine wb_iast 51 rfl (wy_pr rfl) wt_51 (n := (S 48 (-1))) ((w_up_slot (by decide)).trans ((w_up_slot (by decide)).trans ((w_up_slot (by decide)).trans ((w_up_slot (by decide)).trans ((hl.2.2.1 3 (by decide))))))) (by omega) (by omega) ⟨(by omega), (by omega)⟩ ?_
          refine wa_iinc rfl rfl ?_
          refine wa_goto ⟨_, rfl⟩ ?_
          refine wJ_S (L2 := [(0, (2, 158)), (1, (0, 3)), (2, (0, 4))]) ?_ ⟨rfl, rfl, rfl, trivial⟩
          refine wa_iload_n (n := 2) rfl ?_
          refine wa_bipush (w_rg2 (by omega) (by omega)) ?_
          refine wa_icmpge (w_rg0 (by omega) (by omega)) (w_rg0 (by omega) (by omega)) ⟨_, rfl⟩ (fun c110 => ?_) (fun c110 => ?_)
          · skip
            exact absurd c110 (by omega)
          · skip
            refine wa_aload_n (n := 0) rfl ?_
            refine wb_gf4 158 rfl (wy_pr rfl) wt_158 wf_5_3 (v := 47) wl_158_3 ?_
            refine wa_iload_n (n := 2) rfl ?_
            refine wb_aald5 47 4 rfl rfl (wy_pr rfl) wt_47 (by rw [show _ = _ from ((w_up_slot (by decide)).trans ((w_up_slot (by decide)).trans ((w_up_slot (by decide)).trans ((w_up_slot (by decide)).trans ((w_up_slot (by decide)).trans ((cl_47 hC)))))))]; omega) wl_47_4 ?_
            refine wa_aload_n (n := 0) rfl ?_
            refine wb_gfi 158 rfl (wy_pr rfl) wt_158 wf_5_14 (v := fo) ((w_up_slot (by decide)).trans ((w_up_slot (by decide)).trans ((w_up_slot (by decide)).trans ((w_up_slot (by decide)).trans ((w_up_slot (by decide)).trans (l14)))))) (fun r111 => ?_)
            refine wa_iconst ?_
            refine wb_iast 52 rfl (wy_pr rfl) wt_52 (n := (S 48 (-1))) ((w_up_slot (by decide)).trans ((w_up_slot (by decide)).trans ((w_up_slot (by decide)).trans ((w_up_slot (by decide)).trans ((w_up_slot (by decide)).trans ((hl.2.2.1 4 (by decide)))))))) (by omega) (by omega) ⟨(by omega), (by omega)⟩ ?_
            refine wa_iinc rfl rfl ?_
            refine wa_goto ⟨_, rfl⟩ ?_
            refine wJ_S (L2 := [(0, (2, 158)), (1, (0, 3)), (2, (0, 5))]) ?_ ⟨rfl, rfl, rfl, trivial⟩
            refine wa_iload_n (n := 2) rfl ?_
            refine wa_bipush (w_rg2 (by omega) (by omega)) ?_
            refine wa_icmpge (w_rg0 (by omega) (by omega)) (w_rg0 (by omega) (by omega)) ⟨_, rfl⟩ (fun c112 => ?_) (fun c112 => ?_)
            · skip
              exact absurd c112 (by omega)
            · skip
              refine wa_aload_n (n := 0) rfl ?_
              refine wb_gf4 158 rfl (wy_pr rfl) wt_158 wf_5_3 (v := 47) wl_158_3 ?_
              refine wa_iload_n (n := 2) rfl ?_
              refine wb_aald5 47 5 rfl rfl (wy_pr rfl) wt_47 (by rw [show _ = _ from ((w_up_slot (by decide)).trans ((w_up_slot (by decide)).trans ((w_up_slot (by decide)).trans ((w_up_slot (by decide)).trans ((w_up_slot (by decide)).trans ((w_up_slot (by decide)).trans ((cl_47 hC))))))))]; omega) wl_47_5 ?_
              refine wa_aload_n (n := 0) rfl ?_
              refine wb_gfi 158 rfl (wy_pr rfl) wt_158 wf_5_14 (v := fo) ((w_up_slot (by decide)).trans ((w_up_slot (by decide)).trans ((w_up_slot (by decide)).trans ((w_up_slot (by decide)).trans ((w_up_slot (by decide)).trans ((w_up_slot (by decide)).trans (l14))))))) (fun r113 => ?_)
              refine wa_iconst ?_
              refine wb_iast 53 rfl (wy_pr rfl) wt_53 (n := (S 48 (-1))) ((w_up_slot (by decide)).trans ((w_up_slot (by decide)).trans ((w_up_slot (by decide)).trans ((w_up_slot (by decide)).trans ((w_up_slot (by decide)).trans ((w_up_slot (by decide)).trans ((hl.2.2.1 5 (by decide))))))))) (by omega) (by omega) ⟨(by omega), (by omega)⟩ ?_
              refine wa_iinc rfl rfl ?_
              refine wa_goto ⟨_, rfl⟩ ?_
              refine wJ_S (L2 := [(0, (2, 158)), (1, (0, 3)), (2, (0, 6))]) ?_ ⟨rfl, rfl, rfl, trivial⟩
              refine wa_iload_n (n := 2) rfl ?_
              refine wa_bipush (w_rg2 (by omega) (by omega)) ?_
              refine wa_icmpge (w_rg0 (by omega) (by omega)) (w_rg0 (by omega) (by omega)) ⟨_, rfl⟩ (fun c114 => ?_) (fun c114 => ?_)
              · skip
                exact absurd c114 (by omega)
              · skip
                refine wa_aload_n (n := 0) rfl ?_
                refine wb_gf4 158 rfl (wy_pr rfl) wt_158 wf_5_3 (v := 47) wl_158_3 ?_
                refine wa_iload_n (n := 2) rfl ?_
                refine wb_aald5 47 6 rfl rfl (wy_pr rfl) wt_47 (by rw [show _ = _ from ((w_up_slot (by decide)).trans ((w_up_slot (by decide)).trans ((w_up_slot (by decide)).trans ((w_up_slot (by decide)).trans ((w_up_slot (by decide)).trans ((w_up_slot (by decide)).trans ((w_up_slot (by decide)).trans ((cl_47 hC)))))))))]; omega) wl_47_6 ?_
                refine wa_aload_n (n := 0) rfl ?_
                refine wb_gfi 158 rfl (wy_pr rfl) wt_158 wf_5_14 (v := fo) ((w_up_slot (by decide)).trans ((w_up_slot (by decide)).trans ((w_up_slot (by decide)).trans ((w_up_slot (by decide)).trans ((w_up_slot (by decide)).trans ((w_up_slot (by decide)).trans ((w_up_slot (by decide)).trans (l14)))))))) (fun r115 => ?_)
                refine wa_iconst ?_
                refine wb_iast 54 rfl (wy_pr rfl) wt_54 (n := (S 48 (-1))) ((w_up_slot (by decide)).trans ((w_up_slot (by decide)).trans ((w_up_slot (by decide)).trans ((w_up_slot (by decide)).trans ((w_up_slot (by decide)).trans ((w_up_slot (by decide)).trans ((w_up_slot (by decide)).trans ((hl.2.2.1 6 (by decide)))))))))) (by omega) (by omega) ⟨(by omega), (by omega)⟩ ?_
                refine wa_iinc rfl rfl ?_
                refine wa_goto ⟨_, rfl⟩ ?_
                refine wJ_S (L2 := [(0, (2, 158)), (1, (0, 3)), (2, (0, 7))]) ?_ ⟨rfl, rfl, rfl, trivial⟩
                refine wa_iload_n (n := 2) rfl ?_
                refine wa_bipush (w_rg2 (by omega) (by omega)) ?_
                refine wa_icmpge (w_rg0 (by omega) (by omega)) (w_rg0 (by omega) (by omega)) ⟨_, rfl⟩ (fun c116 => ?_) (fun c116 => ?_)
                · skip
                  exact absurd c116 (by omega)
                · skip
                  refine wa_aload_n (n := 0) rfl ?_
                  refine wb_gf4 158 rfl (wy_pr rfl) wt_158 wf_5_3 (v := 47) wl_158_3 ?_
                  refine wa_iload_n (n := 2) rfl ?_
                  refine wb_aald5 47 7 rfl rfl (wy_pr rfl) wt_47 (by rw [show _ = _ from ((w_up_slot (by decide)).trans ((w_up_slot (by decide)).trans ((w_up_slot (by decide)).trans ((w_up_slot (by decide)).trans ((w_up_slot (by decide)).trans ((w_up_slot (by decide)).trans ((w_up_slot (by decide)).trans ((w_up_slot (by decide)).trans ((cl_47 hC))))))))))]; omega) wl_47_7 ?_
                  refine wa_aload_n (n := 0) rfl ?_
                  refine wb_gfi 158 rfl (wy_pr rfl) wt_158 wf_5_14 (v := fo) ((w_up_slot (by decide)).trans ((w_up_slot (by decide)).trans ((w_up_slot (by decide)).trans ((w_up_slot (by decide)).trans ((w_up_slot (by decide)).trans ((w_up_slot (by decide)).trans ((w_up_slot (by decide)).trans ((w_up_slot (by decide)).trans (l14))))))))) (fun r117 => ?_)
                  refine wa_iconst ?_
                  refine wb_iast 55 rfl (wy_pr rfl) wt_55 (n := (S 48 (-1))) ((w_up_slot (by decide)).trans ((w_up_slot (by decide)).trans ((w_up_slot (by decide)).trans ((w_up_slot (by decide)).trans ((w_up_slot (by decide)).trans ((w_up_slot (by decide)).trans ((w_up_slot (by decide)).trans ((w_up_slot (by decide)).trans ((hl.2.2.1 7 (by decide))))))))))) (by omega) (by omega) ⟨(by omega), (by omega)⟩ ?_
                  refine wa_iinc rfl rfl ?_
                  refine wa_goto ⟨_, rfl⟩ ?_
                  refine wJ_S (L2 := [(0, (2, 158)), (1, (0, 3)), (2, (0, 8))]) ?_ ⟨rfl, rfl, rfl, trivial⟩
                  refine wa_iload_n (n := 2) rfl ?_
                  refine wa_bipush (w_rg2 (by omega) (by omega)) ?_
                  refine wa_icmpge (w_rg0 (by omega) (by omega)) (w_rg0 (by omega) (by omega)) ⟨_, rfl⟩ (fun c118 => ?_) (fun c118 => ?_)
                  · skip
                    exact absurd c118 (by omega)
                  · skip
                    refine wa_aload_n (n := 0) rfl ?_
                    refine wb_gf4 158 rfl (wy_pr rfl) wt_158 wf_5_3 (v := 47) wl_158_3 ?_
                    refine wa_iload_n (n := 2) rfl ?_
                    refine wb_aald5 47 8 rfl rfl (wy_pr rfl) wt_47 (by rw [show _ = _ from ((w_up_slot (by decide)).trans ((w_up_slot (by decide)).trans ((w_up_slot (by decide)).trans ((w_up_slot (by decide)).trans ((w_up_slot (by decide)).trans ((w_up_slot (by decide)).trans ((w_up_slot (by decide)).trans ((w_up_slot (by decide)).trans ((w_up_slot (by decide)).trans ((cl_47 hC)))))))))))]; omega) wl_47_8 ?_
                    refine wa_aload_n (n := 0) rfl ?_
                    refine wb_gfi 158 rfl (wy_pr rfl) wt_158 wf_5_14 (v := fo) ((w_up_slot (by decide)).trans ((w_up_slot (by decide)).trans ((w_up_slot (by decide)).trans ((w_up_slot (by decide)).trans ((w_up_slot (by decide)).trans ((w_up_slot (by decide)).trans ((w_up_slot (by decide)).trans ((w_up_slot (by decide)).trans ((w_up_slot (by decide)).trans (l14)))))))))) (fun r119 => ?_)
                    refine wa_iconst ?_
                    refine wb_iast 56 rfl (wy_pr rfl) wt_56 (n := (S 48 (-1))) ((w_up_slot (by decide)).trans ((w_up_slot (by decide)).trans ((w_up_slot (by decide)).trans ((w_up_slot (by decide)).trans ((w_up_slot (by decide)).trans ((w_up_slot (by decide)).trans ((w_up_slot (by decide)).trans ((w_up_slot (by decide)).trans ((w_up_slot (by decide)).trans ((hl.2.2.1 8 (by decide)))))))))))) (by omega) (by omega) ⟨(by omega), (by omega)⟩ ?_
                    refine wa_iinc rfl rfl ?_
                    refine wa_goto ⟨_, rfl⟩ ?_
                    refine wJ_S (L2 := [(0, (2, 158)), (1, (0, 3)), (2, (0, 9))]) ?_ ⟨rfl, rfl, rfl, trivial⟩
                    refine wa_iload_n (n := 2) rfl ?_
                    refine wa_bipush (w_rg2 (by omega) (by omega)) ?_
                    refine wa_icmpge (w_rg0 (by omega) (by omega)) (w_rg0 (by omega) (by omega)) ⟨_, rfl⟩ (fun c120 => ?_) (fun c120 => ?_)
                    · skip
                      exact absurd c120 (by omega)
                    · skip
                      refine wa_aload_n (n := 0) rfl ?_
                      refine wb_gf4 158 rfl (wy_pr rfl) wt_158 wf_5_3 (v := 47) wl_158_3 ?_
                      refine wa_iload_n (n := 2) rfl ?_
                      refine wb_aald5 47 9 rfl rfl (wy_pr rfl) wt_47 (by rw [show _ = _ from ((w_up_slot (by decide)).trans ((w_up_slot (by decide)).trans ((w_up_slot (by decide)).trans ((w_up_slot (by decide)).trans ((w_up_slot (by decide)).trans ((w_up_slot (by decide)).trans ((w_up_slot (by decide)).trans ((w_up_slot (by decide)).trans ((w_up_slot (by decide)).trans ((w_up_slot (by decide)).trans ((cl_47 hC))))))))))))]; omega) wl_47_9 ?_
                      refine wa_aload_n (n := 0) rfl ?_
                      refine wb_gfi 158 rfl (wy_pr rfl) wt_158 wf_5_14 (v := fo) ((w_up_slot (by decide)).trans ((w_up_slot (by decide)).trans ((w_up_slot (by decide)).trans ((w_up_slot (by decide)).trans ((w_up_slot (by decide)).trans ((w_up_slot (by decide)).trans ((w_up_slot (by decide)).trans ((w_up_slot (by decide)).trans ((w_up_slot (by decide)).trans ((w_up_slot (by decide)).trans (l14))))))))))) (fun r121 => ?_)
                      refine wa_iconst ?_
                      refine wb_iast 57 rfl (wy_pr rfl) wt_57 (n := (S 48 (-1))) ((w_up_slot (by decide)).trans ((w_up_slot (by decide)).trans ((w_up_slot (by decide)).trans ((w_up_slot (by decide)).trans ((w_up_slot (by decide)).trans ((w_up_slot (by decide)).trans ((w_up_slot (by decide)).trans ((w_up_slot (by decide)).trans ((w_up_slot (by decide)).trans ((w_up_slot (by decide)).trans ((hl.2.2.1 9 (by decide))))))))))))) (by omega) (by omega) ⟨(by omega), (by omega)⟩ ?_
                      refine wa_iinc rfl rfl ?_
                      refine wa_goto ⟨_, rfl⟩ ?_
                      refine wJ_S (L2 := [(0, (2, 158)), (1, (0, 3)), (2, (0, 10))]) ?_ ⟨rfl, rfl, rfl, trivial⟩
                      refine wa_iload_n (n := 2) rfl ?_
                      refine wa_bipush (w_rg2 (by omega) (by omega)) ?_
                      refine wa_icmpge (w_rg0 (by omega) (by omega)) (w_rg0 (by omega) (by omega)) ⟨_, rfl⟩ (fun c122 => ?_) (fun c122 => ?_)
                      · skip
                        refine wa_aload_n (n := 0) rfl ?_
                        refine wb_gf4 158 rfl (wy_pr rfl) wt_158 wf_5_3 (v := 47) wl_158_3 ?_
                        refine wa_iconst ?_
                        refine wb_aald5 47 0 rfl rfl (wy_pr rfl) wt_47 (by rw [show _ = _ from ((w_up_slot (by decide)).trans ((w_up_slot (by decide)).trans ((w_up_slot (by decide)).trans ((w_up_slot (by decide)).trans ((w_up_slot (by decide)).trans ((w_up_slot (by decide)).trans ((w_up_slot (by decide)).trans ((w_up_slot (by decide)).trans ((w_up_slot (by decide)).trans ((w_up_slot (by decide)).trans ((w_up_slot (by decide)).trans ((cl_47 hC)))))))))))))]; omega) wl_47_0 ?_
                        refine wa_aload_n (n := 0) rfl ?_
                        refine wb_gfi 158 rfl (wy_pr rfl) wt_158 wf_5_14 (v := fo) ((w_up_slot (by decide)).trans ((w_up_slot (by decide)).trans ((w_up_slot (by decide)).trans ((w_up_slot (by decide)).trans ((w_up_slot (by decide)).trans ((w_up_slot (by decide)).trans ((w_up_slot (by decide)).trans ((w_up_slot (by decide)).trans ((w_up_slot (by decide)).trans ((w_up_slot (by decide)).trans ((w_up_slot (by decide)).trans (l14)))))))))))) (fun r123 => ?_)
                        refine wa_iload_n (n := 1) rfl ?_
                        refine wb_iast 48 rfl (wy_pr rfl) wt_48 (n := (S 48 (-1))) ((w_up_slot (by decide)).trans ((w_up_slot (by decide)).trans ((w_up_slot (by decide)).trans ((w_up_slot (by decide)).trans ((w_up_slot (by decide)).trans ((w_up_slot (by decide)).trans ((w_up_slot (by decide)).trans ((w_up_slot (by decide)).trans ((w_up_slot (by decide)).trans ((w_up_at (by omega)).trans ((w_up_slot (by decide)).trans (rfl)))))))))))) (by omega) (by omega) ⟨(by omega), (by omega)⟩ ?_
                        refine wa_iload_n (n := 1) rfl ?_
                        refine wa_ifne (w_rg0 (by omega) (by omega)) ⟨_, rfl⟩ (fun c124 => ?_) (fun c124 => ?_)
                        · skip
                          refine wa_iload_n (n := 1) rfl ?_
                          refine wa_iconst ?_
                          refine wa_icmpne (w_rg0 (by omega) (by omega)) (w_rg0 (by omega) (by omega)) ⟨_, rfl⟩ (fun c125 => ?_) (fun c125 => ?_)
                          · skip
                            exact absurd c125 (by omega)
                          · skip
                            refine wa_aload_n (n := 0) rfl ?_
                            have eb : (w_up (w_up (w_up (w_up (w_up (w_up (w_up (w_up (w_up (w_up (w_up (w_up S 160 3 ((S 160 3) + 1)) 48 fo (-1)) 49 fo (-1)) 50 fo (-1)) 51 fo (-1)) 52 fo (-1)) 53 fo (-1)) 54 fo (-1)) 55 fo (-1)) 56 fo (-1)) 57 fo (-1)) 48 fo 3) = bkZ fo 3 (w_up S 160 3 (S 160 3 + 1)) := rfl
                            rw [eb]
                            refine wa_cv 158 rfl (wy_pr rfl) wt_158 (M2 := mS ml) rfl at_XL_lookAtRow ⟨_, rfl⟩ rfl rfl ⟨(Or.inr ⟨wy_pr rfl, hmn⟩), trivial, trivial, trivial⟩ trivial (fun _ _ q => q) (hcal) (fun oq126 Sq126 hp127 q126 => ?_)
                            rcases q126 with ⟨rfl, hz⟩
                            show wJ _ _ _ _ _ _ _ _ _ _
                            obtain ⟨⟨hz4, hz34, hz45⟩, hzq, hzk⟩ := hR _ hz
                            have hz34b := hz34.2
                            refine wa_goto ⟨_, rfl⟩ ?_
                            refine wa_aload_n (n := 0) rfl ?_
                            refine wb_gf5 158 rfl (wy_pr rfl) wt_158 wf_5_4 (v := 215) (hz4.1) (fun r128 => ?_)
                            refine wb_gfi 215 rfl (wy_pr rfl) wt_215 wf_8_16 (v := (Sq126 215 16)) rfl (fun r129 => ?_)
                            refine wa_ifne (w_rg0 (by omega) (by omega)) ⟨_, rfl⟩ (fun c130 => ?_) (fun c130 => ?_)
                            · skip
                              refine wa_aload_n (n := 0) rfl ?_
                              refine wb_gfi 158 rfl (wy_pr rfl) wt_158 wf_5_14 (v := fo) (hz4.2.2) (fun r131 => ?_)
                              refine wa_fall ⟨_, rfl⟩ ?_
                              refine wa_ireturn rfl ?_
                              exact hzq (by omega)
                            · skip
                              refine wa_aload_n (n := 0) rfl ?_
                              refine wb_gf4 158 rfl (wy_pr rfl) wt_158 wf_5_2 (v := 34) wl_158_2 ?_
                              refine wa_bipush (w_rg2 (by omega) (by omega)) ?_
                              refine wb_aald5 34 10 rfl rfl (wy_pr rfl) wt_34 (by rw [show _ = _ from (hz34.1)]; omega) wl_34_10 ?_
                              refine wa_aload_n (n := 0) rfl ?_
                              refine wb_gfi 158 rfl (wy_pr rfl) wt_158 wf_5_6 (v := s) (hz4.2.1) (fun r132 => ?_)
                              refine wb_iald 45 rfl (wy_pr rfl) wt_45 (n := (Sq126 45 (-1))) (rfl) (by omega) (by omega) (v := (Sq126 45 s)) rfl (fun r133 => ?_)
                              refine wa_ifne (w_rg0 (by omega) (by omega)) ⟨_, rfl⟩ (fun c134 => ?_) (fun c134 => ?_)
                              · skip
                                refine wa_aload_n (n := 0) rfl ?_
                                refine wb_gfi 158 rfl (wy_pr rfl) wt_158 wf_5_14 (v := fo) (hz4.2.2) (fun r135 => ?_)
                                refine wa_fall ⟨_, rfl⟩ ?_
                                refine wa_ireturn rfl ?_
                                exact hzq (by omega)
                              · skip
                                refine wa_aload_n (n := 0) rfl ?_
                                refine wa_cv 158 rfl (wy_pr rfl) wt_158 (M2 := mS ml) rfl at_XL_link ⟨_, rfl⟩ rfl rfl ⟨(Or.inr ⟨wy_pr rfl, hmn⟩), trivial, trivial, trivial⟩ trivial (fun _ _ q => q) (hzk (by omega) (by omega)) (fun oq136 Sq136 hp137 q136 => ?_)
                                rcases q136 with ⟨lv, rfl, hqv⟩
                                show wJ _ _ _ _ _ _ _ _ _ _
                                refine wa_goto ⟨_, rfl⟩ ?_
                                refine wa_ireturn rfl ?_
                                exact hqv
                        · skip
                          exact absurd c124 (by omega)
                      · skip
                        exact absurd c122 (by omega)
theorem lok3_215 {ty : Int} (hC : w_CL S) (hl : cSl S) (l4 : S 158 4 = 215) (l6 : S 158 6 = s) (l7 : S 158 7 = kd) (l9 : S 158 9 = gk) (l10 : S 158 10 = gb) (l11 : S 158 11 = nm) (l13 : S 158 13 = es) (l14 : S 158 14 = fo) (hfo : 0 ≤ fo ∧ fo < S 48 (-1)) (hgk : gk = 3 ∨ gk = 6) (hak : 0 ≤ S 160 3 ∧ S 160 3 ≤ 1000000) (hcal : wJ (pe_GA xs) wY0 (mS ml) (d + 5) t_XL_lookAtRow ((pe_at t_XL_lookAtRow.bl 0).getD (0, [])).2 [(0, (2, 158))] [] (bkZ fo 3 (w_up S 160 3 (S 160 3 + 1))) (fun o Z => o = .inl none ∧ R Z)) (hR : ∀ Z : wS, R Z → ((Z 158 4 = 215 ∧ Z 158 6 = s ∧ Z 158 14 = fo) ∧ (Z 34 (-1) = 12 ∧ 0 ≤ s ∧ s < Z 45 (-1)) ∧ (Z 45 s = 0 ∨ Z 45 s = 1)) ∧ (Z 215 16 ≠ 0 ∨ Z 45 s = 1 → Q (.inl (some (0, fo))) Z) ∧ (Z 215 16 = 0 → Z 45 s = 0 → wJ (pe_GA xs) wY0 (mS ml) (d + 5) t_XL_link ((pe_at t_XL_link.bl 0).getD (0, [])).2 [(0, (2, 158))] [] Z (fun o Z2 => ∃ v : Int, o = .inl (some (0, v)) ∧ Q (.inl (some (0, v))) Z2))) (hmn : ¬ mS ml 158) (l160 : S 160 (-1) = 4) : wJ (pe_GA xs) wY0 (mS ml) (d + 6) t_XL_look ((pe_at t_XL_look.bl 0).getD (0, [])).2 [(0, (2, 158))] [] S Q := by
  have h35 := hl.2.1
  have h48 := hl.2.2.2
  refine wa_aload_n (n := 0) rfl ?_
  refine wb_gfi 158 rfl (wy_pr rfl) wt_158 wf_5_9 (v := gk) (l9) (fun r901 => ?_)
  by_cases c902 : gk = 3
  · refine wb_sw (w_rg0 (by omega) (by omega)) (tb := 4) (by rw [c902]; rfl) ⟨_, rfl⟩ ?_
    refine wa_iconst ?_
    refine wa_istore_n (n := 1) rfl ?_
    refine wa_goto ⟨_, rfl⟩ ?_
    exact wJ_S (lob3_215 (ty := 0) hC hl l4 l6 l7 l9 l10 l11 l13 l14 hfo hgk hak hcal hR hmn l160) ⟨rfl, rfl, trivial⟩
  by_cases c903 : gk = 4
  · exact absurd c903 (by omega)
  by_cases c904 : gk = 5
  · exact absurd c904 (by omega)
  by_cases c905 : gk = 6
  · refine wb_sw (w_rg0 (by omega) (by omega)) (tb := 4) (by rw [c905]; rfl) ⟨_, rfl⟩ ?_
    refine wa_iconst ?_
    refine wa_istore_n (n := 1) rfl ?_
    refine wa_goto ⟨_, rfl⟩ ?_
    exact wJ_S (lob3_215 (ty := 0) hC hl l4 l6 l7 l9 l10 l11 l13 l14 hfo hgk hak hcal hR hmn l160) ⟨rfl, rfl, trivial⟩
  exfalso; omega
set_option maxHeartbeats 4000000 in
theorem lob1_215 {ty : Int} (hC : w_CL S) (hl : cSl S) (l4 : S 158 4 = 215) (l6 : S 158 6 = s) (l7 : S 158 7 = kd) (l9 : S 158 9 = gk) (l10 : S 158 10 = gb) (l11 : S 158 11 = nm) (l13 : S 158 13 = es) (l14 : S 158 14 = fo) (hfo : 0 ≤ fo ∧ fo < S 48 (-1)) (hgk : gk = 7) (hgb : 0 ≤ gb ∧ gb < (T.length : Int)) (hty : S 129 gb = ty) (hlt : cLt S T) (hak : 0 ≤ S 160 1 ∧ S 160 1 ≤ 1000000) (hcal : wJ (pe_GA xs) wY0 (mS ml) (d + 5) t_XL_lookAtHost ((pe_at t_XL_lookAtHost.bl 0).getD (0, [])).2 [(0, (2, 158)), (1, (0, ty)), (2, (0, 0))] [] (bkZ fo 1 (w_up S 160 1 (S 160 1 + 1))) (fun o Z => o = .inl none ∧ R Z)) (hR : ∀ Z : wS, R Z → ((Z 158 4 = 215 ∧ Z 158 6 = s ∧ Z 158 14 = fo) ∧ (Z 34 (-1) = 12 ∧ 0 ≤ s ∧ s < Z 45 (-1)) ∧ (Z 45 s = 0 ∨ Z 45 s = 1)) ∧ (Z 215 16 ≠ 0 ∨ Z 45 s = 1 → Q (.inl (some (0, fo))) Z) ∧ (Z 215 16 = 0 → Z 45 s = 0 → wJ (pe_GA xs) wY0 (mS ml) (d + 5) t_XL_link ((pe_at t_XL_link.bl 0).getD (0, [])).2 [(0, (2, 158))] [] Z (fun o Z2 => ∃ v : Int, o = .inl (some (0, v)) ∧ Q (.inl (some (0, v))) Z2))) (hmn : ¬ mS ml 158) (l160 : S 160 (-1) = 4) (hT8 : (T.length : Int) ≤ 8000) : wJ (pe_GA xs) wY0 (mS ml) (d + 6) t_XL_look ((pe_at t_XL_look.bl 6).getD (0, [])).2 [(0, (2, 158)), (1, (0, 1))] [] S Q := by
  have h35 := hl.2.1
  have h48 := hl.2.2.2
  have ht2 := hlt.2
  refine wa_aload_n (n := 0) rfl ?_
  refine wb_gf4 158 rfl (wy_pr rfl) wt_158 wf_5_18 (v := 160) wl_158_18 ?_
  refine wa_iload_n (n := 1) rfl ?_
  refine wa_dup2 (by decide) (by decide) ?_
  refine wb_iald 160 rfl (wy_pr rfl) wt_160 (n := 4) (l160) (by omega) (by omega) (v := (S 160 1)) rfl (fun r101 => ?_)
  refine wa_iconst ?_
  refine wa_iadd ?_
  refine wb_iast 160 rfl (wy_pr rfl) wt_160 (n := 4) (l160) (by omega) (by omega) ⟨(by omega), (by omega)⟩ ?_
  refine wa_iconst ?_
  refine wa_istore_n (n := 2) rfl ?_
  refine wa_fall ⟨_, rfl⟩ ?_
  refine wJ_S (L2 := [(0, (2, 158)), (1, (0, 1)), (2, (0, 0))]) ?_ ⟨rfl, rfl, rfl, trivial⟩
  refine wa_iload_n (n := 2) rfl ?_
  refine wa_bipush (w_rg2 (by omega) (by omega)) ?_
  refine wa_icmpge (w_rg0 (by omega) (by omega)) (w_rg0 (by omega) (by omega)) ⟨_, rfl⟩ (fun c102 => ?_) (fun c102 => ?_)
  · skip
    exact absurd c102 (by omega)
  · skip
    refine wa_aload_n (n := 0) rfl ?_
    refine wb_gf4 158 rfl (wy_pr rfl) wt_158 wf_5_3 (v := 47) wl_158_3 ?_
    refine wa_iload_n (n := 2) rfl ?_
    refine wb_aald5 47 0 rfl rfl (wy_pr rfl) wt_47 (by rw [show _ = _ from ((w_up_slot (by decide)).trans ((cl_47 hC)))]; omega) wl_47_0 ?_
    refine wa_aload_n (n := 0) rfl ?_
    refine wb_gfi 158 rfl (wy_pr rfl) wt_158 wf_5_14 (v := fo) ((w_up_slot (by decide)).trans (l14)) (fun r103 => ?_)
    refine wa_iconst ?_
    refine wb_iast 48 rfl (wy_pr rfl) wt_48 (n := (S 48 (-1))) ((w_up_slot (by decide)).trans (rfl)) (by omega) (by omega) ⟨(by omega), (by omega)⟩ ?_
    refine wa_iinc rfl rfl ?_
    refine wa_goto ⟨_, rfl⟩ ?_
    refine wJ_S (L2 := [(0, (2, 158)), (1, (0, 1)), (2, (0, 1))]) ?_ ⟨rfl, rfl, rfl, trivial⟩
    refine wa_iload_n (n := 2) rfl ?_
    refine wa_bipush (w_rg2 (by omega) (by omega)) ?_
    refine wa_icmpge (w_rg0 (by omega) (by omega)) (w_rg0 (by omega) (by omega)) ⟨_, rfl⟩ (fun c104 => ?_) (fun c104 => ?_)
    · skip
      exact absurd c104 (by omega)
    · skip
      refine wa_aload_n (n := 0) rfl ?_
      refine wb_gf4 158 rfl (wy_pr rfl) wt_158 wf_5_3 (v := 47) wl_158_3 ?_
      refine wa_iload_n (n := 2) rfl ?_
      refine wb_aald5 47 1 rfl rfl (wy_pr rfl) wt_47 (by rw [show _ = _ from ((w_up_slot (by decide)).trans ((w_up_slot (by decide)).trans ((cl_47 hC))))]; omega) wl_47_1 ?_
      refine wa_aload_n (n := 0) rfl ?_
      refine wb_gfi 158 rfl (wy_pr rfl) wt_158 wf_5_14 (v := fo) ((w_up_slot (by decide)).trans ((w_up_slot (by decide)).trans (l14))) (fun r105 => ?_)
      refine wa_iconst ?_
      refine wb_iast 49 rfl (wy_pr rfl) wt_49 (n := (S 48 (-1))) ((w_up_slot (by decide)).trans ((w_up_slot (by decide)).trans ((hl.2.2.1 1 (by decide))))) (by omega) (by omega) ⟨(by omega), (by omega)⟩ ?_
      refine wa_iinc rfl rfl ?_
      refine wa_goto ⟨_, rfl⟩ ?_
      refine wJ_S (L2 := [(0, (2, 158)), (1, (0, 1)), (2, (0, 2))]) ?_ ⟨rfl, rfl, rfl, trivial⟩
      refine wa_iload_n (n := 2) rfl ?_
      refine wa_bipush (w_rg2 (by omega) (by omega)) ?_
      refine wa_icmpge (w_rg0 (by omega) (by omega)) (w_rg0 (by omega) (by omega)) ⟨_, rfl⟩ (fun c106 => ?_) (fun c106 => ?_)
      · skip
        exact absurd c106 (by omega)
      · skip
        refine wa_aload_n (n := 0) rfl ?_
        refine wb_gf4 158 rfl (wy_pr rfl) wt_158 wf_5_3 (v := 47) wl_158_3 ?_
        refine wa_iload_n (n := 2) rfl ?_
        refine wb_aald5 47 2 rfl rfl (wy_pr rfl) wt_47 (by rw [show _ = _ from ((w_up_slot (by decide)).trans ((w_up_slot (by decide)).trans ((w_up_slot (by decide)).trans ((cl_47 hC)))))]; omega) wl_47_2 ?_
        refine wa_aload_n (n := 0) rfl ?_
        refine wb_gfi 158 rfl (wy_pr rfl) wt_158 wf_5_14 (v := fo) ((w_up_slot (by decide)).trans ((w_up_slot (by decide)).trans ((w_up_slot (by decide)).trans (l14)))) (fun r107 => ?_)
        refine wa_iconst ?_
        refine wb_iast 50 rfl (wy_pr rfl) wt_50 (n := (S 48 (-1))) ((w_up_slot (by decide)).trans ((w_up_slot (by decide)).trans ((w_up_slot (by decide)).trans ((hl.2.2.1 2 (by decide)))))) (by omega) (by omega) ⟨(by omega), (by omega)⟩ ?_
        refine wa_iinc rfl rfl ?_
        refine wa_goto ⟨_, rfl⟩ ?_
        refine wJ_S (L2 := [(0, (2, 158)), (1, (0, 1)), (2, (0, 3))]) ?_ ⟨rfl, rfl, rfl, trivial⟩
        refine wa_iload_n (n := 2) rfl ?_
        refine wa_bipush (w_rg2 (by omega) (by omega)) ?_
        refine wa_icmpge (w_rg0 (by omega) (by omega)) (w_rg0 (by omega) (by omega)) ⟨_, rfl⟩ (fun c108 => ?_) (fun c108 => ?_)
        · skip
          exact absurd c108 (by omega)
        · skip
          refine wa_aload_n (n := 0) rfl ?_
          refine wb_gf4 158 rfl (wy_pr rfl) wt_158 wf_5_3 (v := 47) wl_158_3 ?_
          refine wa_iload_n (n := 2) rfl ?_
          refine wb_aald5 47 3 rfl rfl (wy_pr rfl) wt_47 (by rw [show _ = _ from ((w_up_slot (by decide)).trans ((w_up_slot (by decide)).trans ((w_up_slot (by decide)).trans ((w_up_slot (by decide)).trans ((cl_47 hC))))))]; omega) wl_47_3 ?_
          refine wa_aload_n (n := 0) rfl ?_
          refine wb_gfi 158 rfl (wy_pr rfl) wt_158 wf_5_14 (v := fo) ((w_up_slot (by decide)).trans ((w_up_slot (by decide)).trans ((w_up_slot (by decide)).trans ((w_up_slot (by decide)).trans (l14))))) (fun r109 => ?_)
          refine wa_iconst ?_
          refine wb_iast 51 rfl (wy_pr rfl) wt_51 (n := (S 48 (-1))) ((w_up_slot (by decide)).trans ((w_up_slot (by decide)).trans ((w_up_slot (by decide)).trans ((w_up_slot (by decide)).trans ((hl.2.2.1 3 (by decide))))))) (by omega) (by omega) ⟨(by omega), (by omega)⟩ ?_
          refine wa_iinc rfl rfl ?_
          refine wa_goto ⟨_, rfl⟩ ?_
          refine wJ_S (L2 := [(0, (2, 158)), (1, (0, 1)), (2, (0, 4))]) ?_ ⟨rfl, rfl, rfl, trivial⟩
          refine wa_iload_n (n := 2) rfl ?_
          refine wa_bipush (w_rg2 (by omega) (by omega)) ?_
          refine wa_icmpge (w_rg0 (by omega) (by omega)) (w_rg0 (by omega) (by omega)) ⟨_, rfl⟩ (fun c110 => ?_) (fun c110 => ?_)
          · skip
            exact absurd c110 (by omega)
          · skip
            refine wa_aload_n (n := 0) rfl ?_
            refine wb_gf4 158 rfl (wy_pr rfl) wt_158 wf_5_3 (v := 47) wl_158_3 ?_
            refine wa_iload_n (n := 2) rfl ?_
            refine wb_aald5 47 4 rfl rfl (wy_pr rfl) wt_47 (by rw [show _ = _ from ((w_up_slot (by decide)).trans ((w_up_slot (by decide)).trans ((w_up_slot (by decide)).trans ((w_up_slot (by decide)).trans ((w_up_slot (by decide)).trans ((cl_47 hC)))))))]; omega) wl_47_4 ?_
            refine wa_aload_n (n := 0) rfl ?_
            refine wb_gfi 158 rfl (wy_pr rfl) wt_158 wf_5_14 (v := fo) ((w_up_slot (by decide)).trans ((w_up_slot (by decide)).trans ((w_up_slot (by decide)).trans ((w_up_slot (by decide)).trans ((w_up_slot (by decide)).trans (l14)))))) (fun r111 => ?_)
            refine wa_iconst ?_
            refine wb_iast 52 rfl (wy_pr rfl) wt_52 (n := (S 48 (-1))) ((w_up_slot (by decide)).trans ((w_up_slot (by decide)).trans ((w_up_slot (by decide)).trans ((w_up_slot (by decide)).trans ((w_up_slot (by decide)).trans ((hl.2.2.1 4 (by decide)))))))) (by omega) (by omega) ⟨(by omega), (by omega)⟩ ?_
            refine wa_iinc rfl rfl ?_
            refine wa_goto ⟨_, rfl⟩ ?_
            refine wJ_S (L2 := [(0, (2, 158)), (1, (0, 1)), (2, (0, 5))]) ?_ ⟨rfl, rfl, rfl, trivial⟩
            refine wa_iload_n (n := 2) rfl ?_
            refine wa_bipush (w_rg2 (by omega) (by omega)) ?_
            refine wa_icmpge (w_rg0 (by omega) (by omega)) (w_rg0 (by omega) (by omega)) ⟨_, rfl⟩ (fun c112 => ?_) (fun c112 => ?_)
            · skip
              exact absurd c112 (by omega)
            · skip
              refine wa_aload_n (n := 0) rfl ?_
              refine wb_gf4 158 rfl (wy_pr rfl) wt_158 wf_5_3 (v := 47) wl_158_3 ?_
              refine wa_iload_n (n := 2) rfl ?_
              refine wb_aald5 47 5 rfl rfl (wy_pr rfl) wt_47 (by rw [show _ = _ from ((w_up_slot (by decide)).trans ((w_up_slot (by decide)).trans ((w_up_slot (by decide)).trans ((w_up_slot (by decide)).trans ((w_up_slot (by decide)).trans ((w_up_slot (by decide)).trans ((cl_47 hC))))))))]; omega) wl_47_5 ?_
              refine wa_aload_n (n := 0) rfl ?_
              refine wb_gfi 158 rfl (wy_pr rfl) wt_158 wf_5_14 (v := fo) ((w_up_slot (by decide)).trans ((w_up_slot (by decide)).trans ((w_up_slot (by decide)).trans ((w_up_slot (by decide)).trans ((w_up_slot (by decide)).trans ((w_up_slot (by decide)).trans (l14))))))) (fun r113 => ?_)
              refine wa_iconst ?_
              refine wb_iast 53 rfl (wy_pr rfl) wt_53 (n := (S 48 (-1))) ((w_up_slot (by decide)).trans ((w_up_slot (by decide)).trans ((w_up_slot (by decide)).trans ((w_up_slot (by decide)).trans ((w_up_slot (by decide)).trans ((w_up_slot (by decide)).trans ((hl.2.2.1 5 (by decide))))))))) (by omega) (by omega) ⟨(by omega), (by omega)⟩ ?_
              refine wa_iinc rfl rfl ?_
              refine wa_goto ⟨_, rfl⟩ ?_
              refine wJ_S (L2 := [(0, (2, 158)), (1, (0, 1)), (2, (0, 6))]) ?_ ⟨rfl, rfl, rfl, trivial⟩
              refine wa_iload_n (n := 2) rfl ?_
              refine wa_bipush (w_rg2 (by omega) (by omega)) ?_
              refine wa_icmpge (w_rg0 (by omega) (by omega)) (w_rg0 (by omega) (by omega)) ⟨_, rfl⟩ (fun c114 => ?_) (fun c114 => ?_)
              · skip
                exact absurd c114 (by omega)
              · skip
                refine wa_aload_n (n := 0) rfl ?_
                refine wb_gf4 158 rfl (wy_pr rfl) wt_158 wf_5_3 (v := 47) wl_158_3 ?_
                refine wa_iload_n (n := 2) rfl ?_
                refine wb_aald5 47 6 rfl rfl (wy_pr rfl) wt_47 (by rw [show _ = _ from ((w_up_slot (by decide)).trans ((w_up_slot (by decide)).trans ((w_up_slot (by decide)).trans ((w_up_slot (by decide)).trans ((w_up_slot (by decide)).trans ((w_up_slot (by decide)).trans ((w_up_slot (by decide)).trans ((cl_47 hC)))))))))]; omega) wl_47_6 ?_
                refine wa_aload_n (n := 0) rfl ?_
                refine wb_gfi 158 rfl (wy_pr rfl) wt_158 wf_5_14 (v := fo) ((w_up_slot (by decide)).trans ((w_up_slot (by decide)).trans ((w_up_slot (by decide)).trans ((w_up_slot (by decide)).trans ((w_up_slot (by decide)).trans ((w_up_slot (by decide)).trans ((w_up_slot (by decide)).trans (l14)))))))) (fun r115 => ?_)
                refine wa_iconst ?_
                refine wb_iast 54 rfl (wy_pr rfl) wt_54 (n := (S 48 (-1))) ((w_up_slot (by decide)).trans ((w_up_slot (by decide)).trans ((w_up_slot (by decide)).trans ((w_up_slot (by decide)).trans ((w_up_slot (by decide)).trans ((w_up_slot (by decide)).trans ((w_up_slot (by decide)).trans ((hl.2.2.1 6 (by decide)))))))))) (by omega) (by omega) ⟨(by omega), (by omega)⟩ ?_
                refine wa_iinc rfl rfl ?_
                refine wa_goto ⟨_, rfl⟩ ?_
                refine wJ_S (L2 := [(0, (2, 158)), (1, (0, 1)), (2, (0, 7))]) ?_ ⟨rfl, rfl, rfl, trivial⟩
                refine wa_iload_n (n := 2) rfl ?_
                refine wa_bipush (w_rg2 (by omega) (by omega)) ?_
                refine wa_icmpge (w_rg0 (by omega) (by omega)) (w_rg0 (by omega) (by omega)) ⟨_, rfl⟩ (fun c116 => ?_) (fun c116 => ?_)
                · skip
                  exact absurd c116 (by omega)
                · skip
                  refine wa_aload_n (n := 0) rfl ?_
                  refine wb_gf4 158 rfl (wy_pr rfl) wt_158 wf_5_3 (v := 47) wl_158_3 ?_
                  refine wa_iload_n (n := 2) rfl ?_
                  refine wb_aald5 47 7 rfl rfl (wy_pr rfl) wt_47 (by rw [show _ = _ from ((w_up_slot (by decide)).trans ((w_up_slot (by decide)).trans ((w_up_slot (by decide)).trans ((w_up_slot (by decide)).trans ((w_up_slot (by decide)).trans ((w_up_slot (by decide)).trans ((w_up_slot (by decide)).trans ((w_up_slot (by decide)).trans ((cl_47 hC))))))))))]; omega) wl_47_7 ?_
                  refine wa_aload_n (n := 0) rfl ?_
                  refine wb_gfi 158 rfl (wy_pr rfl) wt_158 wf_5_14 (v := fo) ((w_up_slot (by decide)).trans ((w_up_slot (by decide)).trans ((w_up_slot (by decide)).trans ((w_up_slot (by decide)).trans ((w_up_slot (by decide)).trans ((w_up_slot (by decide)).trans ((w_up_slot (by decide)).trans ((w_up_slot (by decide)).trans (l14))))))))) (fun r117 => ?_)
                  refine wa_iconst ?_
                  refine wb_iast 55 rfl (wy_pr rfl) wt_55 (n := (S 48 (-1))) ((w_up_slot (by decide)).trans ((w_up_slot (by decide)).trans ((w_up_slot (by decide)).trans ((w_up_slot (by decide)).trans ((w_up_slot (by decide)).trans ((w_up_slot (by decide)).trans ((w_up_slot (by decide)).trans ((w_up_slot (by decide)).trans ((hl.2.2.1 7 (by decide))))))))))) (by omega) (by omega) ⟨(by omega), (by omega)⟩ ?_
                  refine wa_iinc rfl rfl ?_
                  refine wa_goto ⟨_, rfl⟩ ?_
                  refine wJ_S (L2 := [(0, (2, 158)), (1, (0, 1)), (2, (0, 8))]) ?_ ⟨rfl, rfl, rfl, trivial⟩
                  refine wa_iload_n (n := 2) rfl ?_
                  refine wa_bipush (w_rg2 (by omega) (by omega)) ?_
                  refine wa_icmpge (w_rg0 (by omega) (by omega)) (w_rg0 (by omega) (by omega)) ⟨_, rfl⟩ (fun c118 => ?_) (fun c118 => ?_)
                  · skip
                    exact absurd c118 (by omega)
                  · skip
                    refine wa_aload_n (n := 0) rfl ?_
                    refine wb_gf4 158 rfl (wy_pr rfl) wt_158 wf_5_3 (v := 47) wl_158_3 ?_
                    refine wa_iload_n (n := 2) rfl ?_
                    refine wb_aald5 47 8 rfl rfl (wy_pr rfl) wt_47 (by rw [show _ = _ from ((w_up_slot (by decide)).trans ((w_up_slot (by decide)).trans ((w_up_slot (by decide)).trans ((w_up_slot (by decide)).trans ((w_up_slot (by decide)).trans ((w_up_slot (by decide)).trans ((w_up_slot (by decide)).trans ((w_up_slot (by decide)).trans ((w_up_slot (by decide)).trans ((cl_47 hC)))))))))))]; omega) wl_47_8 ?_
                    refine wa_aload_n (n := 0) rfl ?_
                    refine wb_gfi 158 rfl (wy_pr rfl) wt_158 wf_5_14 (v := fo) ((w_up_slot (by decide)).trans ((w_up_slot (by decide)).trans ((w_up_slot (by decide)).trans ((w_up_slot (by decide)).trans ((w_up_slot (by decide)).trans ((w_up_slot (by decide)).trans ((w_up_slot (by decide)).trans ((w_up_slot (by decide)).trans ((w_up_slot (by decide)).trans (l14)))))))))) (fun r119 => ?_)
                    refine wa_iconst ?_
                    refine wb_iast 56 rfl (wy_pr rfl) wt_56 (n := (S 48 (-1))) ((w_up_slot (by decide)).trans ((w_up_slot (by decide)).trans ((w_up_slot (by decide)).trans ((w_up_slot (by decide)).trans ((w_up_slot (by decide)).trans ((w_up_slot (by decide)).trans ((w_up_slot (by decide)).trans ((w_up_slot (by decide)).trans ((w_up_slot (by decide)).trans ((hl.2.2.1 8 (by decide)))))))))))) (by omega) (by omega) ⟨(by omega), (by omega)⟩ ?_
                    refine wa_iinc rfl rfl ?_
                    refine wa_goto ⟨_, rfl⟩ ?_
                    refine wJ_S (L2 := [(0, (2, 158)), (1, (0, 1)), (2, (0, 9))]) ?_ ⟨rfl, rfl, rfl, trivial⟩
                    refine wa_iload_n (n := 2) rfl ?_
                    refine wa_bipush (w_rg2 (by omega) (by omega)) ?_
                    refine wa_icmpge (w_rg0 (by omega) (by omega)) (w_rg0 (by omega) (by omega)) ⟨_, rfl⟩ (fun c120 => ?_) (fun c120 => ?_)
                    · skip
                      exact absurd c120 (by omega)
                    · skip
                      refine wa_aload_n (n := 0) rfl ?_
                      refine wb_gf4 158 rfl (wy_pr rfl) wt_158 wf_5_3 (v := 47) wl_158_3 ?_
                      refine wa_iload_n (n := 2) rfl ?_
                      refine wb_aald5 47 9 rfl rfl (wy_pr rfl) wt_47 (by rw [show _ = _ from ((w_up_slot (by decide)).trans ((w_up_slot (by decide)).trans ((w_up_slot (by decide)).trans ((w_up_slot (by decide)).trans ((w_up_slot (by decide)).trans ((w_up_slot (by decide)).trans ((w_up_slot (by decide)).trans ((w_up_slot (by decide)).trans ((w_up_slot (by decide)).trans ((w_up_slot (by decide)).trans ((cl_47 hC))))))))))))]; omega) wl_47_9 ?_
                      refine wa_aload_n (n := 0) rfl ?_
                      refine wb_gfi 158 rfl (wy_pr rfl) wt_158 wf_5_14 (v := fo) ((w_up_slot (by decide)).trans ((w_up_slot (by decide)).trans ((w_up_slot (by decide)).trans ((w_up_slot (by decide)).trans ((w_up_slot (by decide)).trans ((w_up_slot (by decide)).trans ((w_up_slot (by decide)).trans ((w_up_slot (by decide)).trans ((w_up_slot (by decide)).trans ((w_up_slot (by decide)).trans (l14))))))))))) (fun r121 => ?_)
                      refine wa_iconst ?_
                      refine wb_iast 57 rfl (wy_pr rfl) wt_57 (n := (S 48 (-1))) ((w_up_slot (by decide)).trans ((w_up_slot (by decide)).trans ((w_up_slot (by decide)).trans ((w_up_slot (by decide)).trans ((w_up_slot (by decide)).trans ((w_up_slot (by decide)).trans ((w_up_slot (by decide)).trans ((w_up_slot (by decide)).trans ((w_up_slot (by decide)).trans ((w_up_slot (by decide)).trans ((hl.2.2.1 9 (by decide))))))))))))) (by omega) (by omega) ⟨(by omega), (by omega)⟩ ?_
                      refine wa_iinc rfl rfl ?_
                      refine wa_goto ⟨_, rfl⟩ ?_
                      refine wJ_S (L2 := [(0, (2, 158)), (1, (0, 1)), (2, (0, 10))]) ?_ ⟨rfl, rfl, rfl, trivial⟩
                      refine wa_iload_n (n := 2) rfl ?_
                      refine wa_bipush (w_rg2 (by omega) (by omega)) ?_
                      refine wa_icmpge (w_rg0 (by omega) (by omega)) (w_rg0 (by omega) (by omega)) ⟨_, rfl⟩ (fun c122 => ?_) (fun c122 => ?_)
                      · skip
                        refine wa_aload_n (n := 0) rfl ?_
                        refine wb_gf4 158 rfl (wy_pr rfl) wt_158 wf_5_3 (v := 47) wl_158_3 ?_
                        refine wa_iconst ?_
                        refine wb_aald5 47 0 rfl rfl (wy_pr rfl) wt_47 (by rw [show _ = _ from ((w_up_slot (by decide)).trans ((w_up_slot (by decide)).trans ((w_up_slot (by decide)).trans ((w_up_slot (by decide)).trans ((w_up_slot (by decide)).trans ((w_up_slot (by decide)).trans ((w_up_slot (by decide)).trans ((w_up_slot (by decide)).trans ((w_up_slot (by decide)).trans ((w_up_slot (by decide)).trans ((w_up_slot (by decide)).trans ((cl_47 hC)))))))))))))]; omega) wl_47_0 ?_
                        refine wa_aload_n (n := 0) rfl ?_
                        refine wb_gfi 158 rfl (wy_pr rfl) wt_158 wf_5_14 (v := fo) ((w_up_slot (by decide)).trans ((w_up_slot (by decide)).trans ((w_up_slot (by decide)).trans ((w_up_slot (by decide)).trans ((w_up_slot (by decide)).trans ((w_up_slot (by decide)).trans ((w_up_slot (by decide)).trans ((w_up_slot (by decide)).trans ((w_up_slot (by decide)).trans ((w_up_slot (by decide)).trans ((w_up_slot (by decide)).trans (l14)))))))))))) (fun r123 => ?_)
                        refine wa_iload_n (n := 1) rfl ?_
                        refine wb_iast 48 rfl (wy_pr rfl) wt_48 (n := (S 48 (-1))) ((w_up_slot (by decide)).trans ((w_up_slot (by decide)).trans ((w_up_slot (by decide)).trans ((w_up_slot (by decide)).trans ((w_up_slot (by decide)).trans ((w_up_slot (by decide)).trans ((w_up_slot (by decide)).trans ((w_up_slot (by decide)).trans ((w_up_slot (by decide)).trans ((w_up_at (by omega)).trans ((w_up_slot (by decide)).trans (rfl)))))))))))) (by omega) (by omega) ⟨(by omega), (by omega)⟩ ?_
                        refine wa_iload_n (n := 1) rfl ?_
                        refine wa_ifne (w_rg0 (by omega) (by omega)) ⟨_, rfl⟩ (fun c124 => ?_) (fun c124 => ?_)
                        · skip
                          refine wa_iload_n (n := 1) rfl ?_
                          refine wa_iconst ?_
                          refine wa_icmpne (w_rg0 (by omega) (by omega)) (w_rg0 (by omega) (by omega)) ⟨_, rfl⟩ (fun c125 => ?_) (fun c125 => ?_)
                          · skip
                            refine wa_iload_n (n := 1) rfl ?_
                            refine wa_iconst ?_
                            refine wa_icmpne (w_rg0 (by omega) (by omega)) (w_rg0 (by omega) (by omega)) ⟨_, rfl⟩ (fun c126 => ?_) (fun c126 => ?_)
                            · skip
                              exact absurd c126 (by omega)
                            · skip
                              refine wa_aload_n (n := 0) rfl ?_
                              refine wa_aload_n (n := 0) rfl ?_
                              refine wb_gf4 158 rfl (wy_pr rfl) wt_158 wf_5_0 (v := 72) wl_158_0 ?_
                              refine wb_gf4 72 rfl (wy_pr rfl) wt_72 wf_2_2 (v := 126) wl_72_2 ?_
                              refine wa_iconst ?_
                              refine wb_aald5 126 2 rfl rfl (wy_pr rfl) wt_126 (by rw [show _ = _ from ((w_up_slot (by decide)).trans ((w_up_slot (by decide)).trans ((w_up_slot (by decide)).trans ((w_up_slot (by decide)).trans ((w_up_slot (by decide)).trans ((w_up_slot (by decide)).trans ((w_up_slot (by decide)).trans ((w_up_slot (by decide)).trans ((w_up_slot (by decide)).trans ((w_up_slot (by decide)).trans ((w_up_slot (by decide)).trans ((w_up_slot (by decide)).trans ((cl_126 hC))))))))))))))]; omega) wl_126_2 ?_
                              refine wa_aload_n (n := 0) rfl ?_
                              refine wb_gfl 158 rfl (wy_pr rfl) wt_158 wf_5_10 (v := gb) ((w_up_slot (by decide)).trans ((w_up_slot (by decide)).trans ((w_up_slot (by decide)).trans ((w_up_slot (by decide)).trans ((w_up_slot (by decide)).trans ((w_up_slot (by decide)).trans ((w_up_slot (by decide)).trans ((w_up_slot (by decide)).trans ((w_up_slot (by decide)).trans ((w_up_slot (by decide)).trans ((w_up_slot (by decide)).trans ((w_up_slot (by decide)).trans (l10))))))))))))) (fun r127 => ?_)
                              refine wb_l2i_r (wb_l2i_id ⟨(by omega), (by omega)⟩) ?_
                              refine wb_iald 129 rfl (wy_pr rfl) wt_129 (n := (S 127 (-1))) ((w_up_slot (by decide)).trans ((w_up_slot (by decide)).trans ((w_up_slot (by decide)).trans ((w_up_slot (by decide)).trans ((w_up_slot (by decide)).trans ((w_up_slot (by decide)).trans ((w_up_slot (by decide)).trans ((w_up_slot (by decide)).trans ((w_up_slot (by decide)).trans ((w_up_slot (by decide)).trans ((w_up_slot (by decide)).trans ((w_up_slot (by decide)).trans ((hlt.1 2 (by decide))))))))))))))) (by omega) (by omega) (v := ty) ((w_up_slot (by decide)).trans ((w_up_slot (by decide)).trans ((w_up_slot (by decide)).trans ((w_up_slot (by decide)).trans ((w_up_slot (by decide)).trans ((w_up_slot (by decide)).trans ((w_up_slot (by decide)).trans ((w_up_slot (by decide)).trans ((w_up_slot (by decide)).trans ((w_up_slot (by decide)).trans ((w_up_slot (by decide)).trans ((w_up_slot (by decide)).trans (hty))))))))))))) (fun r128 => ?_)
                              refine wa_iconst ?_
                              have eb : (w_up (w_up (w_up (w_up (w_up (w_up (w_up (w_up (w_up (w_up (w_up (w_up S 160 1 ((S 160 1) + 1)) 48 fo (-1)) 49 fo (-1)) 50 fo (-1)) 51 fo (-1)) 52 fo (-1)) 53 fo (-1)) 54 fo (-1)) 55 fo (-1)) 56 fo (-1)) 57 fo (-1)) 48 fo 1) = bkZ fo 1 (w_up S 160 1 (S 160 1 + 1)) := rfl
                              rw [eb]
                              refine wa_cv 158 rfl (wy_pr rfl) wt_158 (M2 := mS ml) rfl at_XL_lookAtHost ⟨_, rfl⟩ rfl rfl ⟨(Or.inr ⟨wy_pr rfl, hmn⟩), trivial, trivial, trivial⟩ trivial (fun _ _ q => q) (hcal) (fun oq129 Sq129 hp130 q129 => ?_)
                              rcases q129 with ⟨rfl, hz⟩
                              show wJ _ _ _ _ _ _ _ _ _ _
                              obtain ⟨⟨hz4, hz34, hz45⟩, hzq, hzk⟩ := hR _ hz
                              have hz34b := hz34.2
                              refine wa_goto ⟨_, rfl⟩ ?_
                              refine wa_aload_n (n := 0) rfl ?_
                              refine wb_gf5 158 rfl (wy_pr rfl) wt_158 wf_5_4 (v := 215) (hz4.1) (fun r131 => ?_)
                              refine wb_gfi 215 rfl (wy_pr rfl) wt_215 wf_8_16 (v := (Sq129 215 16)) rfl (fun r132 => ?_)
                              refine wa_ifne (w_rg0 (by omega) (by omega)) ⟨_, rfl⟩ (fun c133 => ?_) (fun c133 => ?_)
                              · skip
                                refine wa_aload_n (n := 0) rfl ?_
                                refine wb_gfi 158 rfl (wy_pr rfl) wt_158 wf_5_14 (v := fo) (hz4.2.2) (fun r134 => ?_)
                                refine wa_fall ⟨_, rfl⟩ ?_
                                refine wa_ireturn rfl ?_
                                exact hzq (by omega)
                              · skip
                                refine wa_aload_n (n := 0) rfl ?_
                                refine wb_gf4 158 rfl (wy_pr rfl) wt_158 wf_5_2 (v := 34) wl_158_2 ?_
                                refine wa_bipush (w_rg2 (by omega) (by omega)) ?_
                                refine wb_aald5 34 10 rfl rfl (wy_pr rfl) wt_34 (by rw [show _ = _ from (hz34.1)]; omega) wl_34_10 ?_
                                refine wa_aload_n (n := 0) rfl ?_
                                refine wb_gfi 158 rfl (wy_pr rfl) wt_158 wf_5_6 (v := s) (hz4.2.1) (fun r135 => ?_)
                                refine wb_iald 45 rfl (wy_pr rfl) wt_45 (n := (Sq129 45 (-1))) (rfl) (by omega) (by omega) (v := (Sq129 45 s)) rfl (fun r136 => ?_)
                                refine wa_ifne (w_rg0 (by omega) (by omega)) ⟨_, rfl⟩ (fun c137 => ?_) (fun c137 => ?_)
                                · skip
                                  refine wa_aload_n (n := 0) rfl ?_
                                  refine wb_gfi 158 rfl (wy_pr rfl) wt_158 wf_5_14 (v := fo) (hz4.2.2) (fun r138 => ?_)
                                  refine wa_fall ⟨_, rfl⟩ ?_
                                  refine wa_ireturn rfl ?_
                                  exact hzq (by omega)
                                · skip
                                  refine wa_aload_n (n := 0) rfl ?_
                                  refine wa_cv 158 rfl (wy_pr rfl) wt_158 (M2 := mS ml) rfl at_XL_link ⟨_, rfl⟩ rfl rfl ⟨(Or.inr ⟨wy_pr rfl, hmn⟩), trivial, trivial, trivial⟩ trivial (fun _ _ q => q) (hzk (by omega) (by omega)) (fun oq139 Sq139 hp140 q139 => ?_)
                                  rcases q139 with ⟨lv, rfl, hqv⟩
                                  show wJ _ _ _ _ _ _ _ _ _ _
                                  refine wa_goto ⟨_, rfl⟩ ?_
                                  refine wa_ireturn rfl ?_
                                  exact hqv
                          · skip
                            exact absurd c125 (by omega)
                        · skip
                          exact absurd c124 (by omega)
                      · skip
                        exact absurd c122 (by omega)
theorem lok1_215 {ty : Int} (hC : w_CL S) (hl : cSl S) (l4 : S 158 4 = 215) (l6 : S 158 6 = s) (l7 : S 158 7 = kd) (l9 : S 158 9 = gk) (l10 : S 158 10 = gb) (l11 : S 158 11 = nm) (l13 : S 158 13 = es) (l14 : S 158 14 = fo) (hfo : 0 ≤ fo ∧ fo < S 48 (-1)) (hgk : gk = 7) (hgb : 0 ≤ gb ∧ gb < (T.length : Int)) (hty : S 129 gb = ty) (hlt : cLt S T) (hak : 0 ≤ S 160 1 ∧ S 160 1 ≤ 1000000) (hcal : wJ (pe_GA xs) wY0 (mS ml) (d + 5) t_XL_lookAtHost ((pe_at t_XL_lookAtHost.bl 0).getD (0, [])).2 [(0, (2, 158)), (1, (0, ty)), (2, (0, 0))] [] (bkZ fo 1 (w_up S 160 1 (S 160 1 + 1))) (fun o Z => o = .inl none ∧ R Z)) (hR : ∀ Z : wS, R Z → ((Z 158 4 = 215 ∧ Z 158 6 = s ∧ Z 158 14 = fo) ∧ (Z 34 (-1) = 12 ∧ 0 ≤ s ∧ s < Z 45 (-1)) ∧ (Z 45 s = 0 ∨ Z 45 s = 1)) ∧ (Z 215 16 ≠ 0 ∨ Z 45 s = 1 → Q (.inl (some (0, fo))) Z) ∧ (Z 215 16 = 0 → Z 45 s = 0 → wJ (pe_GA xs) wY0 (mS ml) (d + 5) t_XL_link ((pe_at t_XL_link.bl 0).getD (0, [])).2 [(0, (2, 158))] [] Z (fun o Z2 => ∃ v : Int, o = .inl (some (0, v)) ∧ Q (.inl (some (0, v))) Z2))) (hmn : ¬ mS ml 158) (l160 : S 160 (-1) = 4) (hT8 : (T.length : Int) ≤ 8000) : wJ (pe_GA xs) wY0 (mS ml) (d + 6) t_XL_look ((pe_at t_XL_look.bl 0).getD (0, [])).2 [(0, (2, 158))] [] S Q := by
  have h35 := hl.2.1
  have h48 := hl.2.2.2
  have ht2 := hlt.2
  refine wa_aload_n (n := 0) rfl ?_
  refine wb_gfi 158 rfl (wy_pr rfl) wt_158 wf_5_9 (v := gk) (l9) (fun r901 => ?_)
  by_cases c902 : gk = 3
  · exact absurd c902 (by omega)
  by_cases c903 : gk = 4
  · exact absurd c903 (by omega)
  by_cases c904 : gk = 5
  · exact absurd c904 (by omega)
  by_cases c905 : gk = 6
  · exact absurd c905 (by omega)
  by_cases c906 : gk = 7
  · refine wb_sw (w_rg0 (by omega) (by omega)) (tb := 2) (by rw [c906]; rfl) ⟨_, rfl⟩ ?_
    refine wa_iconst ?_
    refine wa_istore_n (n := 1) rfl ?_
    refine wa_goto ⟨_, rfl⟩ ?_
    exact wJ_S (lob1_215 (ty := ty) hC hl l4 l6 l7 l9 l10 l11 l13 l14 hfo hgk hgb hty hlt hak hcal hR hmn l160 hT8) ⟨rfl, rfl, trivial⟩
  exfalso; omega
set_option maxHeartbeats 4000000 in
theorem lob2_215 {ty : Int} (hC : w_CL S) (hl : cSl S) (l4 : S 158 4 = 215) (l6 : S 158 6 = s) (l7 : S 158 7 = kd) (l9 : S 158 9 = gk) (l10 : S 158 10 = gb) (l11 : S 158 11 = nm) (l13 : S 158 13 = es) (l14 : S 158 14 = fo) (hfo : 0 ≤ fo ∧ fo < S 48 (-1)) (hgk : gk = 8) (hgb : 0 ≤ gb ∧ gb < 8000) (hak : 0 ≤ S 160 2 ∧ S 160 2 ≤ 1000000) (hcal : wJ (pe_GA xs) wY0 (mS ml) (d + 5) t_XL_lookAtHost ((pe_at t_XL_lookAtHost.bl 0).getD (0, [])).2 [(0, (2, 158)), (1, (0, gb)), (2, (0, 1))] [] (bkZ fo 2 (w_up S 160 2 (S 160 2 + 1))) (fun o Z => o = .inl none ∧ R Z)) (hR : ∀ Z : wS, R Z → ((Z 158 4 = 215 ∧ Z 158 6 = s ∧ Z 158 14 = fo) ∧ (Z 34 (-1) = 12 ∧ 0 ≤ s ∧ s < Z 45 (-1)) ∧ (Z 45 s = 0 ∨ Z 45 s = 1)) ∧ (Z 215 16 ≠ 0 ∨ Z 45 s = 1 → Q (.inl (some (0, fo))) Z) ∧ (Z 215 16 = 0 → Z 45 s = 0 → wJ (pe_GA xs) wY0 (mS ml) (d + 5) t_XL_link ((pe_at t_XL_link.bl 0).getD (0, [])).2 [(0, (2, 158))] [] Z (fun o Z2 => ∃ v : Int, o = .inl (some (0, v)) ∧ Q (.inl (some (0, v))) Z2))) (hmn : ¬ mS ml 158) (l160 : S 160 (-1) = 4) : wJ (pe_GA xs) wY0 (mS ml) (d + 6) t_XL_look ((pe_at t_XL_look.bl 6).getD (0, [])).2 [(0, (2, 158)), (1, (0, 2))] [] S Q := by
  have h35 := hl.2.1
  have h48 := hl.2.2.2
  refine wa_aload_n (n := 0) rfl ?_
  refine wb_gf4 158 rfl (wy_pr rfl) wt_158 wf_5_18 (v := 160) wl_158_18 ?_
  refine wa_iload_n (n := 1) rfl ?_
  refine wa_dup2 (by decide) (by decide) ?_
  refine wb_iald 160 rfl (wy_pr rfl) wt_160 (n := 4) (l160) (by omega) (by omega) (v := (S 160 2)) rfl (fun r101 => ?_)
  refine wa_iconst ?_
  refine wa_iadd ?_
  refine wb_iast 160 rfl (wy_pr rfl) wt_160 (n := 4) (l160) (by omega) (by omega) ⟨(by omega), (by omega)⟩ ?_
  refine wa_iconst ?_
  refine wa_istore_n (n := 2) rfl ?_
  refine wa_fall ⟨_, rfl⟩ ?_
  refine wJ_S (L2 := [(0, (2, 158)), (1, (0, 2)), (2, (0, 0))]) ?_ ⟨rfl, rfl, rfl, trivial⟩
  refine wa_iload_n (n := 2) rfl ?_
  refine wa_bipush (w_rg2 (by omega) (by omega)) ?_
  refine wa_icmpge (w_rg0 (by omega) (by omega)) (w_rg0 (by omega) (by omega)) ⟨_, rfl⟩ (fun c102 => ?_) (fun c102 => ?_)
  · skip
    exact absurd c102 (by omega)
  · skip
    refine wa_aload_n (n := 0) rfl ?_
    refine wb_gf4 158 rfl (wy_pr rfl) wt_158 wf_5_3 (v := 47) wl_158_3 ?_
    refine wa_iload_n (n := 2) rfl ?_
    refine wb_aald5 47 0 rfl rfl (wy_pr rfl) wt_47 (by rw [show _ = _ from ((w_up_slot (by decide)).trans ((cl_47 hC)))]; omega) wl_47_0 ?_
    refine wa_aload_n (n := 0) rfl ?_
    refine wb_gfi 158 rfl (wy_pr rfl) wt_158 wf_5_14 (v := fo) ((w_up_slot (by decide)).trans (l14)) (fun r103 => ?_)
    refine wa_iconst ?_
    refine wb_iast 48 rfl (wy_pr rfl) wt_48 (n := (S 48 (-1))) ((w_up_slot (by decide)).trans (rfl)) (by omega) (by omega) ⟨(by omega), (by omega)⟩ ?_
    refine wa_iinc rfl rfl ?_
    refine wa_goto ⟨_, rfl⟩ ?_
    refine wJ_S (L2 := [(0, (2, 158)), (1, (0, 2)), (2, (0, 1))]) ?_ ⟨rfl, rfl, rfl, trivial⟩
    refine wa_iload_n (n := 2) rfl ?_
    refine wa_bipush (w_rg2 (by omega) (by omega)) ?_
    refine wa_icmpge (w_rg0 (by omega) (by omega)) (w_rg0 (by omega) (by omega)) ⟨_, rfl⟩ (fun c104 => ?_) (fun c104 => ?_)
    · skip
      exact absurd c104 (by omega)
    · skip
      refine wa_aload_n (n := 0) rfl ?_
      refine wb_gf4 158 rfl (wy_pr rfl) wt_158 wf_5_3 (v := 47) wl_158_3 ?_
      refine wa_iload_n (n := 2) rfl ?_
      refine wb_aald5 47 1 rfl rfl (wy_pr rfl) wt_47 (by rw [show _ = _ from ((w_up_slot (by decide)).trans ((w_up_slot (by decide)).trans ((cl_47 hC))))]; omega) wl_47_1 ?_
      refine wa_aload_n (n := 0) rfl ?_
      refine wb_gfi 158 rfl (wy_pr rfl) wt_158 wf_5_14 (v := fo) ((w_up_slot (by decide)).trans ((w_up_slot (by decide)).trans (l14))) (fun r105 => ?_)
      refine wa_iconst ?_
      refine wb_iast 49 rfl (wy_pr rfl) wt_49 (n := (S 48 (-1))) ((w_up_slot (by decide)).trans ((w_up_slot (by decide)).trans ((hl.2.2.1 1 (by decide))))) (by omega) (by omega) ⟨(by omega), (by omega)⟩ ?_
      refine wa_iinc rfl rfl ?_
      refine wa_goto ⟨_, rfl⟩ ?_
      refine wJ_S (L2 := [(0, (2, 158)), (1, (0, 2)), (2, (0, 2))]) ?_ ⟨rfl, rfl, rfl, trivial⟩
      refine wa_iload_n (n := 2) rfl ?_
      refine wa_bipush (w_rg2 (by omega) (by omega)) ?_
      refine wa_icmpge (w_rg0 (by omega) (by omega)) (w_rg0 (by omega) (by omega)) ⟨_, rfl⟩ (fun c106 => ?_) (fun c106 => ?_)
      · skip
        exact absurd c106 (by omega)
      · skip
        refine wa_aload_n (n := 0) rfl ?_
        refine wb_gf4 158 rfl (wy_pr rfl) wt_158 wf_5_3 (v := 47) wl_158_3 ?_
        refine wa_iload_n (n := 2) rfl ?_
        refine wb_aald5 47 2 rfl rfl (wy_pr rfl) wt_47 (by rw [show _ = _ from ((w_up_slot (by decide)).trans ((w_up_slot (by decide)).trans ((w_up_slot (by decide)).trans ((cl_47 hC)))))]; omega) wl_47_2 ?_
        refine wa_aload_n (n := 0) rfl ?_
        refine wb_gfi 158 rfl (wy_pr rfl) wt_158 wf_5_14 (v := fo) ((w_up_slot (by decide)).trans ((w_up_slot (by decide)).trans ((w_up_slot (by decide)).trans (l14)))) (fun r107 => ?_)
        refine wa_iconst ?_
        refine wb_iast 50 rfl (wy_pr rfl) wt_50 (n := (S 48 (-1))) ((w_up_slot (by decide)).trans ((w_up_slot (by decide)).trans ((w_up_slot (by decide)).trans ((hl.2.2.1 2 (by decide)))))) (by omega) (by omega) ⟨(by omega), (by omega)⟩ ?_
        refine wa_iinc rfl rfl ?_
        refine wa_goto ⟨_, rfl⟩ ?_
        refine wJ_S (L2 := [(0, (2, 158)), (1, (0, 2)), (2, (0, 3))]) ?_ ⟨rfl, rfl, rfl, trivial⟩
        refine wa_iload_n (n := 2) rfl ?_
        refine wa_bipush (w_rg2 (by omega) (by omega)) ?_
        refine wa_icmpge (w_rg0 (by omega) (by omega)) (w_rg0 (by omega) (by omega)) ⟨_, rfl⟩ (fun c108 => ?_) (fun c108 => ?_)
        · skip
          exact absurd c108 (by omega)
        · skip
          refine wa_aload_n (n := 0) rfl ?_
          refine wb_gf4 158 rfl (wy_pr rfl) wt_158 wf_5_3 (v := 47) wl_158_3 ?_
          refine wa_iload_n (n := 2) rfl ?_
          refine wb_aald5 47 3 rfl rfl (wy_pr rfl) wt_47 (by rw [show _ = _ from ((w_up_slot (by decide)).trans ((w_up_slot (by decide)).trans ((w_up_slot (by decide)).trans ((w_up_slot (by decide)).trans ((cl_47 hC))))))]; omega) wl_47_3 ?_
          refine wa_aload_n (n := 0) rfl ?_
          refine wb_gfi 158 rfl (wy_pr rfl) wt_158 wf_5_14 (v := fo) ((w_up_slot (by decide)).trans ((w_up_slot (by decide)).trans ((w_up_slot (by decide)).trans ((w_up_slot (by decide)).trans (l14))))) (fun r109 => ?_)
          refine wa_iconst ?_
          refine wb_iast 51 rfl (wy_pr rfl) wt_51 (n := (S 48 (-1))) ((w_up_slot (by decide)).trans ((w_up_slot (by decide)).trans ((w_up_slot (by decide)).trans ((w_up_slot (by decide)).trans ((hl.2.2.1 3 (by decide))))))) (by omega) (by omega) ⟨(by omega), (by omega)⟩ ?_
          refine wa_iinc rfl rfl ?_
          refine wa_goto ⟨_, rfl⟩ ?_
          refine wJ_S (L2 := [(0, (2, 158)), (1, (0, 2)), (2, (0, 4))]) ?_ ⟨rfl, rfl, rfl, trivial⟩
          refine wa_iload_n (n := 2) rfl ?_
          refine wa_bipush (w_rg2 (by omega) (by omega)) ?_
          refine wa_icmpge (w_rg0 (by omega) (by omega)) (w_rg0 (by omega) (by omega)) ⟨_, rfl⟩ (fun c110 => ?_) (fun c110 => ?_)
          · skip
            exact absurd c110 (by omega)
          · skip
            refine wa_aload_n (n := 0) rfl ?_
            refine wb_gf4 158 rfl (wy_pr rfl) wt_158 wf_5_3 (v := 47) wl_158_3 ?_
            refine wa_iload_n (n := 2) rfl ?_
            refine wb_aald5 47 4 rfl rfl (wy_pr rfl) wt_47 (by rw [show _ = _ from ((w_up_slot (by decide)).trans ((w_up_slot (by decide)).trans ((w_up_slot (by decide)).trans ((w_up_slot (by decide)).trans ((w_up_slot (by decide)).trans ((cl_47 hC)))))))]; omega) wl_47_4 ?_
            refine wa_aload_n (n := 0) rfl ?_
            refine wb_gfi 158 rfl (wy_pr rfl) wt_158 wf_5_14 (v := fo) ((w_up_slot (by decide)).trans ((w_up_slot (by decide)).trans ((w_up_slot (by decide)).trans ((w_up_slot (by decide)).trans ((w_up_slot (by decide)).trans (l14)))))) (fun r111 => ?_)
            refine wa_iconst ?_
            refine wb_iast 52 rfl (wy_pr rfl) wt_52 (n := (S 48 (-1))) ((w_up_slot (by decide)).trans ((w_up_slot (by decide)).trans ((w_up_slot (by decide)).trans ((w_up_slot (by decide)).trans ((w_up_slot (by decide)).trans ((hl.2.2.1 4 (by decide)))))))) (by omega) (by omega) ⟨(by omega), (by omega)⟩ ?_
            refine wa_iinc rfl rfl ?_
            refine wa_goto ⟨_, rfl⟩ ?_
            refine wJ_S (L2 := [(0, (2, 158)), (1, (0, 2)), (2, (0, 5))]) ?_ ⟨rfl, rfl, rfl, trivial⟩
            refine wa_iload_n (n := 2) rfl ?_
            refine wa_bipush (w_rg2 (by omega) (by omega)) ?_
            refine wa_icmpge (w_rg0 (by omega) (by omega)) (w_rg0 (by omega) (by omega)) ⟨_, rfl⟩ (fun c112 => ?_) (fun c112 => ?_)
            · skip
              exact absurd c112 (by omega)
            · skip
              refine wa_aload_n (n := 0) rfl ?_
              refine wb_gf4 158 rfl (wy_pr rfl) wt_158 wf_5_3 (v := 47) wl_158_3 ?_
              refine wa_iload_n (n := 2) rfl ?_
              refine wb_aald5 47 5 rfl rfl (wy_pr rfl) wt_47 (by rw [show _ = _ from ((w_up_slot (by decide)).trans ((w_up_slot (by decide)).trans ((w_up_slot (by decide)).trans ((w_up_slot (by decide)).trans ((w_up_slot (by decide)).trans ((w_up_slot (by decide)).trans ((cl_47 hC))))))))]; omega) wl_47_5 ?_
              refine wa_aload_n (n := 0) rfl ?_
              refine wb_gfi 158 rfl (wy_pr rfl) wt_158 wf_5_14 (v := fo) ((w_up_slot (by decide)).trans ((w_up_slot (by decide)).trans ((w_up_slot (by decide)).trans ((w_up_slot (by decide)).trans ((w_up_slot (by decide)).trans ((w_up_slot (by decide)).trans (l14))))))) (fun r113 => ?_)
              refine wa_iconst ?_
              refine wb_iast 53 rfl (wy_pr rfl) wt_53 (n := (S 48 (-1))) ((w_up_slot (by decide)).trans ((w_up_slot (by decide)).trans ((w_up_slot (by decide)).trans ((w_up_slot (by decide)).trans ((w_up_slot (by decide)).trans ((w_up_slot (by decide)).trans ((hl.2.2.1 5 (by decide))))))))) (by omega) (by omega) ⟨(by omega), (by omega)⟩ ?_
              refine wa_iinc rfl rfl ?_
              refine wa_goto ⟨_, rfl⟩ ?_
              refine wJ_S (L2 := [(0, (2, 158)), (1, (0, 2)), (2, (0, 6))]) ?_ ⟨rfl, rfl, rfl, trivial⟩
              refine wa_iload_n (n := 2) rfl ?_
              refine wa_bipush (w_rg2 (by omega) (by omega)) ?_
              refine wa_icmpge (w_rg0 (by omega) (by omega)) (w_rg0 (by omega) (by omega)) ⟨_, rfl⟩ (fun c114 => ?_) (fun c114 => ?_)
              · skip
                exact absurd c114 (by omega)
              · skip
                refine wa_aload_n (n := 0) rfl ?_
                refine wb_gf4 158 rfl (wy_pr rfl) wt_158 wf_5_3 (v := 47) wl_158_3 ?_
                refine wa_iload_n (n := 2) rfl ?_
                refine wb_aald5 47 6 rfl rfl (wy_pr rfl) wt_47 (by rw [show _ = _ from ((w_up_slot (by decide)).trans ((w_up_slot (by decide)).trans ((w_up_slot (by decide)).trans ((w_up_slot (by decide)).trans ((w_up_slot (by decide)).trans ((w_up_slot (by decide)).trans ((w_up_slot (by decide)).trans ((cl_47 hC)))))))))]; omega) wl_47_6 ?_
                refine wa_aload_n (n := 0) rfl ?_
                refine wb_gfi 158 rfl (wy_pr rfl) wt_158 wf_5_14 (v := fo) ((w_up_slot (by decide)).trans ((w_up_slot (by decide)).trans ((w_up_slot (by decide)).trans ((w_up_slot (by decide)).trans ((w_up_slot (by decide)).trans ((w_up_slot (by decide)).trans ((w_up_slot (by decide)).trans (l14)))))))) (fun r115 => ?_)
                refine wa_iconst ?_
                refine wb_iast 54 rfl (wy_pr rfl) wt_54 (n := (S 48 (-1))) ((w_up_slot (by decide)).trans ((w_up_slot (by decide)).trans ((w_up_slot (by decide)).trans ((w_up_slot (by decide)).trans ((w_up_slot (by decide)).trans ((w_up_slot (by decide)).trans ((w_up_slot (by decide)).trans ((hl.2.2.1 6 (by decide)))))))))) (by omega) (by omega) ⟨(by omega), (by omega)⟩ ?_
                refine wa_iinc rfl rfl ?_
                refine wa_goto ⟨_, rfl⟩ ?_
                refine wJ_S (L2 := [(0, (2, 158)), (1, (0, 2)), (2, (0, 7))]) ?_ ⟨rfl, rfl, rfl, trivial⟩
                refine wa_iload_n (n := 2) rfl ?_
                refine wa_bipush (w_rg2 (by omega) (by omega)) ?_
                refine wa_icmpge (w_rg0 (by omega) (by omega)) (w_rg0 (by omega) (by omega)) ⟨_, rfl⟩ (fun c116 => ?_) (fun c116 => ?_)
                · skip
                  exact absurd c116 (by omega)
                · skip
                  refine wa_aload_n (n := 0) rfl ?_
                  refine wb_gf4 158 rfl (wy_pr rfl) wt_158 wf_5_3 (v := 47) wl_158_3 ?_
                  refine wa_iload_n (n := 2) rfl ?_
                  refine wb_aald5 47 7 rfl rfl (wy_pr rfl) wt_47 (by rw [show _ = _ from ((w_up_slot (by decide)).trans ((w_up_slot (by decide)).trans ((w_up_slot (by decide)).trans ((w_up_slot (by decide)).trans ((w_up_slot (by decide)).trans ((w_up_slot (by decide)).trans ((w_up_slot (by decide)).trans ((w_up_slot (by decide)).trans ((cl_47 hC))))))))))]; omega) wl_47_7 ?_
                  refine wa_aload_n (n := 0) rfl ?_
                  refine wb_gfi 158 rfl (wy_pr rfl) wt_158 wf_5_14 (v := fo) ((w_up_slot (by decide)).trans ((w_up_slot (by decide)).trans ((w_up_slot (by decide)).trans ((w_up_slot (by decide)).trans ((w_up_slot (by decide)).trans ((w_up_slot (by decide)).trans ((w_up_slot (by decide)).trans ((w_up_slot (by decide)).trans (l14))))))))) (fun r117 => ?_)
                  refine wa_iconst ?_
                  refine wb_iast 55 rfl (wy_pr rfl) wt_55 (n := (S 48 (-1))) ((w_up_slot (by decide)).trans ((w_up_slot (by decide)).trans ((w_up_slot (by decide)).trans ((w_up_slot (by decide)).trans ((w_up_slot (by decide)).trans ((w_up_slot (by decide)).trans ((w_up_slot (by decide)).trans ((w_up_slot (by decide)).trans ((hl.2.2.1 7 (by decide))))))))))) (by omega) (by omega) ⟨(by omega), (by omega)⟩ ?_
                  refine wa_iinc rfl rfl ?_
                  refine wa_goto ⟨_, rfl⟩ ?_
                  refine wJ_S (L2 := [(0, (2, 158)), (1, (0, 2)), (2, (0, 8))]) ?_ ⟨rfl, rfl, rfl, trivial⟩
                  refine wa_iload_n (n := 2) rfl ?_
                  refine wa_bipush (w_rg2 (by omega) (by omega)) ?_
                  refine wa_icmpge (w_rg0 (by omega) (by omega)) (w_rg0 (by omega) (by omega)) ⟨_, rfl⟩ (fun c118 => ?_) (fun c118 => ?_)
                  · skip
                    exact absurd c118 (by omega)
                  · skip
                    refine wa_aload_n (n := 0) rfl ?_
                    refine wb_gf4 158 rfl (wy_pr rfl) wt_158 wf_5_3 (v := 47) wl_158_3 ?_
                    refine wa_iload_n (n := 2) rfl ?_
                    refine wb_aald5 47 8 rfl rfl (wy_pr rfl) wt_47 (by rw [show _ = _ from ((w_up_slot (by decide)).trans ((w_up_slot (by decide)).trans ((w_up_slot (by decide)).trans ((w_up_slot (by decide)).trans ((w_up_slot (by decide)).trans ((w_up_slot (by decide)).trans ((w_up_slot (by decide)).trans ((w_up_slot (by decide)).trans ((w_up_slot (by decide)).trans ((cl_47 hC)))))))))))]; omega) wl_47_8 ?_
                    refine wa_aload_n (n := 0) rfl ?_
                    refine wb_gfi 158 rfl (wy_pr rfl) wt_158 wf_5_14 (v := fo) ((w_up_slot (by decide)).trans ((w_up_slot (by decide)).trans ((w_up_slot (by decide)).trans ((w_up_slot (by decide)).trans ((w_up_slot (by decide)).trans ((w_up_slot (by decide)).trans ((w_up_slot (by decide)).trans ((w_up_slot (by decide)).trans ((w_up_slot (by decide)).trans (l14)))))))))) (fun r119 => ?_)
                    refine wa_iconst ?_
                    refine wb_iast 56 rfl (wy_pr rfl) wt_56 (n := (S 48 (-1))) ((w_up_slot (by decide)).trans ((w_up_slot (by decide)).trans ((w_up_slot (by decide)).trans ((w_up_slot (by decide)).trans ((w_up_slot (by decide)).trans ((w_up_slot (by decide)).trans ((w_up_slot (by decide)).trans ((w_up_slot (by decide)).trans ((w_up_slot (by decide)).trans ((hl.2.2.1 8 (by decide)))))))))))) (by omega) (by omega) ⟨(by omega), (by omega)⟩ ?_
                    refine wa_iinc rfl rfl ?_
                    refine wa_goto ⟨_, rfl⟩ ?_
                    refine wJ_S (L2 := [(0, (2, 158)), (1, (0, 2)), (2, (0, 9))]) ?_ ⟨rfl, rfl, rfl, trivial⟩
                    refine wa_iload_n (n := 2) rfl ?_
                    refine wa_bipush (w_rg2 (by omega) (by omega)) ?_
                    refine wa_icmpge (w_rg0 (by omega) (by omega)) (w_rg0 (by omega) (by omega)) ⟨_, rfl⟩ (fun c120 => ?_) (fun c120 => ?_)
                    · skip
                      exact absurd c120 (by omega)
                    · skip
                      refine wa_aload_n (n := 0) rfl ?_
                      refine wb_gf4 158 rfl (wy_pr rfl) wt_158 wf_5_3 (v := 47) wl_158_3 ?_
                      refine wa_iload_n (n := 2) rfl ?_
                      refine wb_aald5 47 9 rfl rfl (wy_pr rfl) wt_47 (by rw [show _ = _ from ((w_up_slot (by decide)).trans ((w_up_slot (by decide)).trans ((w_up_slot (by decide)).trans ((w_up_slot (by decide)).trans ((w_up_slot (by decide)).trans ((w_up_slot (by decide)).trans ((w_up_slot (by decide)).trans ((w_up_slot (by decide)).trans ((w_up_slot (by decide)).trans ((w_up_slot (by decide)).trans ((cl_47 hC))))))))))))]; omega) wl_47_9 ?_
                      refine wa_aload_n (n := 0) rfl ?_
                      refine wb_gfi 158 rfl (wy_pr rfl) wt_158 wf_5_14 (v := fo) ((w_up_slot (by decide)).trans ((w_up_slot (by decide)).trans ((w_up_slot (by decide)).trans ((w_up_slot (by decide)).trans ((w_up_slot (by decide)).trans ((w_up_slot (by decide)).trans ((w_up_slot (by decide)).trans ((w_up_slot (by decide)).trans ((w_up_slot (by decide)).trans ((w_up_slot (by decide)).trans (l14))))))))))) (fun r121 => ?_)
                      refine wa_iconst ?_
                      refine wb_iast 57 rfl (wy_pr rfl) wt_57 (n := (S 48 (-1))) ((w_up_slot (by decide)).trans ((w_up_slot (by decide)).trans ((w_up_slot (by decide)).trans ((w_up_slot (by decide)).trans ((w_up_slot (by decide)).trans ((w_up_slot (by decide)).trans ((w_up_slot (by decide)).trans ((w_up_slot (by decide)).trans ((w_up_slot (by decide)).trans ((w_up_slot (by decide)).trans ((hl.2.2.1 9 (by decide))))))))))))) (by omega) (by omega) ⟨(by omega), (by omega)⟩ ?_
                      refine wa_iinc rfl rfl ?_
                      refine wa_goto ⟨_, rfl⟩ ?_
                      refine wJ_S (L2 := [(0, (2, 158)), (1, (0, 2)), (2, (0, 10))]) ?_ ⟨rfl, rfl, rfl, trivial⟩
                      refine wa_iload_n (n := 2) rfl ?_
                      refine wa_bipush (w_rg2 (by omega) (by omega)) ?_
                      refine wa_icmpge (w_rg0 (by omega) (by omega)) (w_rg0 (by omega) (by omega)) ⟨_, rfl⟩ (fun c122 => ?_) (fun c122 => ?_)
                      · skip
                        refine wa_aload_n (n := 0) rfl ?_
                        refine wb_gf4 158 rfl (wy_pr rfl) wt_158 wf_5_3 (v := 47) wl_158_3 ?_
                        refine wa_iconst ?_
                        refine wb_aald5 47 0 rfl rfl (wy_pr rfl) wt_47 (by rw [show _ = _ from ((w_up_slot (by decide)).trans ((w_up_slot (by decide)).trans ((w_up_slot (by decide)).trans ((w_up_slot (by decide)).trans ((w_up_slot (by decide)).trans ((w_up_slot (by decide)).trans ((w_up_slot (by decide)).trans ((w_up_slot (by decide)).trans ((w_up_slot (by decide)).trans ((w_up_slot (by decide)).trans ((w_up_slot (by decide)).trans ((cl_47 hC)))))))))))))]; omega) wl_47_0 ?_
                        refine wa_aload_n (n := 0) rfl ?_
                        refine wb_gfi 158 rfl (wy_pr rfl) wt_158 wf_5_14 (v := fo) ((w_up_slot (by decide)).trans ((w_up_slot (by decide)).trans ((w_up_slot (by decide)).trans ((w_up_slot (by decide)).trans ((w_up_slot (by decide)).trans ((w_up_slot (by decide)).trans ((w_up_slot (by decide)).trans ((w_up_slot (by decide)).trans ((w_up_slot (by decide)).trans ((w_up_slot (by decide)).trans ((w_up_slot (by decide)).trans (l14)))))))))))) (fun r123 => ?_)
                        refine wa_iload_n (n := 1) rfl ?_
                        refine wb_iast 48 rfl (wy_pr rfl) wt_48 (n := (S 48 (-1))) ((w_up_slot (by decide)).trans ((w_up_slot (by decide)).trans ((w_up_slot (by decide)).trans ((w_up_slot (by decide)).trans ((w_up_slot (by decide)).trans ((w_up_slot (by decide)).trans ((w_up_slot (by decide)).trans ((w_up_slot (by decide)).trans ((w_up_slot (by decide)).trans ((w_up_at (by omega)).trans ((w_up_slot (by decide)).trans (rfl)))))))))))) (by omega) (by omega) ⟨(by omega), (by omega)⟩ ?_
                        refine wa_iload_n (n := 1) rfl ?_
                        refine wa_ifne (w_rg0 (by omega) (by omega)) ⟨_, rfl⟩ (fun c124 => ?_) (fun c124 => ?_)
                        · skip
                          refine wa_iload_n (n := 1) rfl ?_
                          refine wa_iconst ?_
                          refine wa_icmpne (w_rg0 (by omega) (by omega)) (w_rg0 (by omega) (by omega)) ⟨_, rfl⟩ (fun c125 => ?_) (fun c125 => ?_)
                          · skip
                            refine wa_iload_n (n := 1) rfl ?_
                            refine wa_iconst ?_
                            refine wa_icmpne (w_rg0 (by omega) (by omega)) (w_rg0 (by omega) (by omega)) ⟨_, rfl⟩ (fun c126 => ?_) (fun c126 => ?_)
                            · skip
                              refine wa_aload_n (n := 0) rfl ?_
                              refine wa_aload_n (n := 0) rfl ?_
                              refine wb_gfl 158 rfl (wy_pr rfl) wt_158 wf_5_10 (v := gb) ((w_up_slot (by decide)).trans ((w_up_slot (by decide)).trans ((w_up_slot (by decide)).trans ((w_up_slot (by decide)).trans ((w_up_slot (by decide)).trans ((w_up_slot (by decide)).trans ((w_up_slot (by decide)).trans ((w_up_slot (by decide)).trans ((w_up_slot (by decide)).trans ((w_up_slot (by decide)).trans ((w_up_slot (by decide)).trans ((w_up_slot (by decide)).trans (l10))))))))))))) (fun r127 => ?_)
                              refine wb_l2i_r (wb_l2i_id ⟨(by omega), (by omega)⟩) ?_
                              refine wa_iconst ?_
                              have eb : (w_up (w_up (w_up (w_up (w_up (w_up (w_up (w_up (w_up (w_up (w_up (w_up S 160 2 ((S 160 2) + 1)) 48 fo (-1)) 49 fo (-1)) 50 fo (-1)) 51 fo (-1)) 52 fo (-1)) 53 fo (-1)) 54 fo (-1)) 55 fo (-1)) 56 fo (-1)) 57 fo (-1)) 48 fo 2) = bkZ fo 2 (w_up S 160 2 (S 160 2 + 1)) := rfl
                              rw [eb]
                              refine wa_cv 158 rfl (wy_pr rfl) wt_158 (M2 := mS ml) rfl at_XL_lookAtHost ⟨_, rfl⟩ rfl rfl ⟨(Or.inr ⟨wy_pr rfl, hmn⟩), trivial, trivial, trivial⟩ trivial (fun _ _ q => q) (hcal) (fun oq128 Sq128 hp129 q128 => ?_)
                              rcases q128 with ⟨rfl, hz⟩
                              show wJ _ _ _ _ _ _ _ _ _ _
                              obtain ⟨⟨hz4, hz34, hz45⟩, hzq, hzk⟩ := hR _ hz
                              have hz34b := hz34.2
                              refine wa_fall ⟨_, rfl⟩ ?_
                              refine wa_aload_n (n := 0) rfl ?_
                              refine wb_gf5 158 rfl (wy_pr rfl) wt_158 wf_5_4 (v := 215) (hz4.1) (fun r130 => ?_)
                              refine wb_gfi 215 rfl (wy_pr rfl) wt_215 wf_8_16 (v := (Sq128 215 16)) rfl (fun r131 => ?_)
                              refine wa_ifne (w_rg0 (by omega) (by omega)) ⟨_, rfl⟩ (fun c132 => ?_) (fun c132 => ?_)
                              · skip
                                refine wa_aload_n (n := 0) rfl ?_
                                refine wb_gfi 158 rfl (wy_pr rfl) wt_158 wf_5_14 (v := fo) (hz4.2.2) (fun r133 => ?_)
                                refine wa_fall ⟨_, rfl⟩ ?_
                                refine wa_ireturn rfl ?_
                                exact hzq (by omega)
                              · skip
                                refine wa_aload_n (n := 0) rfl ?_
                                refine wb_gf4 158 rfl (wy_pr rfl) wt_158 wf_5_2 (v := 34) wl_158_2 ?_
                                refine wa_bipush (w_rg2 (by omega) (by omega)) ?_
                                refine wb_aald5 34 10 rfl rfl (wy_pr rfl) wt_34 (by rw [show _ = _ from (hz34.1)]; omega) wl_34_10 ?_
                                refine wa_aload_n (n := 0) rfl ?_
                                refine wb_gfi 158 rfl (wy_pr rfl) wt_158 wf_5_6 (v := s) (hz4.2.1) (fun r134 => ?_)
                                refine wb_iald 45 rfl (wy_pr rfl) wt_45 (n := (Sq128 45 (-1))) (rfl) (by omega) (by omega) (v := (Sq128 45 s)) rfl (fun r135 => ?_)
                                refine wa_ifne (w_rg0 (by omega) (by omega)) ⟨_, rfl⟩ (fun c136 => ?_) (fun c136 => ?_)
                                · skip
                                  refine wa_aload_n (n := 0) rfl ?_
                                  refine wb_gfi 158 rfl (wy_pr rfl) wt_158 wf_5_14 (v := fo) (hz4.2.2) (fun r137 => ?_)
                                  refine wa_fall ⟨_, rfl⟩ ?_
                                  refine wa_ireturn rfl ?_
                                  exact hzq (by omega)
                                · skip
                                  refine wa_aload_n (n := 0) rfl ?_
                                  refine wa_cv 158 rfl (wy_pr rfl) wt_158 (M2 := mS ml) rfl at_XL_link ⟨_, rfl⟩ rfl rfl ⟨(Or.inr ⟨wy_pr rfl, hmn⟩), trivial, trivial, trivial⟩ trivial (fun _ _ q => q) (hzk (by omega) (by omega)) (fun oq138 Sq138 hp139 q138 => ?_)
                                  rcases q138 with ⟨lv, rfl, hqv⟩
                                  show wJ _ _ _ _ _ _ _ _ _ _
                                  refine wa_goto ⟨_, rfl⟩ ?_
                                  refine wa_ireturn rfl ?_
                                  exact hqv
                            · skip
                              exact absurd c126 (by omega)
                          · skip
                            exact absurd c125 (by omega)
                        · skip
                          exact absurd c124 (by omega)
                      · skip
                        exact absurd c122 (by omega)
theorem lok2_215 {ty : Int} (hC : w_CL S) (hl : cSl S) (l4 : S 158 4 = 215) (l6 : S 158 6 = s) (l7 : S 158 7 = kd) (l9 : S 158 9 = gk) (l10 : S 158 10 = gb) (l11 : S 158 11 = nm) (l13 : S 158 13 = es) (l14 : S 158 14 = fo) (hfo : 0 ≤ fo ∧ fo < S 48 (-1)) (hgk : gk = 8) (hgb : 0 ≤ gb ∧ gb < 8000) (hak : 0 ≤ S 160 2 ∧ S 160 2 ≤ 1000000) (hcal : wJ (pe_GA xs) wY0 (mS ml) (d + 5) t_XL_lookAtHost ((pe_at t_XL_lookAtHost.bl 0).getD (0, [])).2 [(0, (2, 158)), (1, (0, gb)), (2, (0, 1))] [] (bkZ fo 2 (w_up S 160 2 (S 160 2 + 1))) (fun o Z => o = .inl none ∧ R Z)) (hR : ∀ Z : wS, R Z → ((Z 158 4 = 215 ∧ Z 158 6 = s ∧ Z 158 14 = fo) ∧ (Z 34 (-1) = 12 ∧ 0 ≤ s ∧ s < Z 45 (-1)) ∧ (Z 45 s = 0 ∨ Z 45 s = 1)) ∧ (Z 215 16 ≠ 0 ∨ Z 45 s = 1 → Q (.inl (some (0, fo))) Z) ∧ (Z 215 16 = 0 → Z 45 s = 0 → wJ (pe_GA xs) wY0 (mS ml) (d + 5) t_XL_link ((pe_at t_XL_link.bl 0).getD (0, [])).2 [(0, (2, 158))] [] Z (fun o Z2 => ∃ v : Int, o = .inl (some (0, v)) ∧ Q (.inl (some (0, v))) Z2))) (hmn : ¬ mS ml 158) (l160 : S 160 (-1) = 4) : wJ (pe_GA xs) wY0 (mS ml) (d + 6) t_XL_look ((pe_at t_XL_look.bl 0).getD (0, [])).2 [(0, (2, 158))] [] S Q := by
  have h35 := hl.2.1
  have h48 := hl.2.2.2
  refine wa_aload_n (n := 0) rfl ?_
  refine wb_gfi 158 rfl (wy_pr rfl) wt_158 wf_5_9 (v := gk) (l9) (fun r901 => ?_)
  by_cases c902 : gk = 3
  · exact absurd c902 (by omega)
  by_cases c903 : gk = 4
  · exact absurd c903 (by omega)
  by_cases c904 : gk = 5
  · exact absurd c904 (by omega)
  by_cases c905 : gk = 6
  · exact absurd c905 (by omega)
  by_cases c906 : gk = 7
  · exact absurd c906 (by omega)
  by_cases c907 : gk = 8
  · refine wb_sw (w_rg0 (by omega) (by omega)) (tb := 3) (by rw [c907]; rfl) ⟨_, rfl⟩ ?_
    refine wa_iconst ?_
    refine wa_istore_n (n := 1) rfl ?_
    refine wa_goto ⟨_, rfl⟩ ?_
    exact wJ_S (lob2_215 (ty := 0) hC hl l4 l6 l7 l9 l10 l11 l13 l14 hfo hgk hgb hak hcal hR hmn l160) ⟨rfl, rfl, trivial⟩
  exfalso; omega
theorem lar_226 (hC : w_CL S) (hl : cSl S) (l4 : S 158 4 = 226) (l7 : S 158 7 = kd) (l9 : S 158 9 = gk) (l10 : S 158 10 = gb) (l11 : S 158 11 = nm) (l13 : S 158 13 = es) (l12 : S 158 12 = ec) (l14 : S 158 14 = fo) (hfo : 0 ≤ fo ∧ fo < S 48 (-1)) (hgk : gk = 3 ∨ gk = 6) (hkd : 0 ≤ kd ∧ kd ≤ 6) (hnm : nm = -1 ∨ (0 ≤ nm ∧ nm < S 9 (-1))) (hwd : wd = if nm = -1 then -1 else S 9 nm) : wJ (pe_GA xs) wY0 M d t_XL_lookAtRow ((pe_at t_XL_lookAtRow.bl 0).getD (0, [])).2 [(0, (2, 158))] [] S (fun o Z => o = .inl none ∧ rwZ 226 fo (if gk = 6 then 0 else 1) (rwP wd gk kd ec) S = Z) := by
  have h35 := hl.2.1
  have h48 := hl.2.2.2
  have hwr : -2147483648 ≤ wd ∧ wd ≤ 2147483647 ∨ 0 ≤ nm := by
    by_cases c : nm = -1
    · rw [if_pos c] at hwd; omega
    · omega
  refine wa_aload_n (n := 0) rfl ?_
  refine wb_gfi 158 rfl (wy_pr rfl) wt_158 wf_5_9 (v := gk) (l9) (fun r1 => ?_)
  refine wa_bipush (w_rg2 (by omega) (by omega)) ?_
  refine wa_icmpne (w_rg0 (by omega) (by omega)) (w_rg0 (by omega) (by omega)) ⟨_, rfl⟩ (fun c2 => ?_) (fun c2 => ?_)
  · skip
    refine wa_iconst ?_
    refine wa_fall ⟨_, rfl⟩ ?_
    refine wa_istore_n (n := 1) rfl ?_
    refine wa_aload_n (n := 0) rfl ?_
    refine wb_gfi 158 rfl (wy_pr rfl) wt_158 wf_5_11 (v := nm) (l11) (fun r3 => ?_)
    refine wa_iconst ?_
    refine wa_icmpne (w_rg0 (by omega) (by omega)) (w_rg0 (by omega) (by omega)) ⟨_, rfl⟩ (fun c4 => ?_) (fun c4 => ?_)
    · skip
      refine wa_aload_n (n := 0) rfl ?_
      refine wb_gf4 158 rfl (wy_pr rfl) wt_158 wf_5_0 (v := 72) wl_158_0 ?_
      refine wb_gf4 72 rfl (wy_pr rfl) wt_72 wf_2_0 (v := 2) wl_72_0 ?_
      refine wb_gf4 2 rfl (wy_pr rfl) wt_2 wf_9_9 (v := 9) wl_2_9 ?_
      refine wa_aload_n (n := 0) rfl ?_
      refine wb_gfi 158 rfl (wy_pr rfl) wt_158 wf_5_11 (v := nm) (l11) (fun r5 => ?_)
      refine wb_iald 9 rfl (wy_pr rfl) wt_9 (n := (S 9 (-1))) (rfl) (by omega) (by omega) (v := (S 9 nm)) rfl (fun r6 => ?_)
      refine wa_fall ⟨_, rfl⟩ ?_
      have ewd : (S 9 nm) = wd := by rw [hwd]; first | exact (if_pos (by omega)).symm | exact (if_neg (by omega)).symm
      rw [ewd]
      have hwb : -2147483648 ≤ wd ∧ wd ≤ 2147483647 := by omega
      refine wa_istore_n (n := 2) rfl ?_
      refine wa_aload_n (n := 0) rfl ?_
      refine wb_gf4 158 rfl (wy_pr rfl) wt_158 wf_5_3 (v := 47) wl_158_3 ?_
      refine wa_iconst ?_
      refine wb_aald5 47 1 rfl rfl (wy_pr rfl) wt_47 (by rw [show _ = _ from ((cl_47 hC))]; omega) wl_47_1 ?_
      refine wa_aload_n (n := 0) rfl ?_
      refine wb_gfi 158 rfl (wy_pr rfl) wt_158 wf_5_14 (v := fo) (l14) (fun r7 => ?_)
      refine wa_iload_n (n := 1) rfl ?_
      refine wa_ifeq (w_rg0 (by omega) (by omega)) ⟨_, rfl⟩ (fun c8 => ?_) (fun c8 => ?_)
      · skip
        refine wa_iconst ?_
        refine wa_fall ⟨_, rfl⟩ ?_
        refine wb_iast 49 rfl (wy_pr rfl) wt_49 (n := (S 48 (-1))) ((hl.2.2.1 1 (by decide))) (by omega) (by omega) ⟨(by omega), (by omega)⟩ ?_
        refine wa_aload_n (n := 0) rfl ?_
        refine wb_gfi 158 rfl (wy_pr rfl) wt_158 wf_5_7 (v := kd) ((w_up_slot (by decide)).trans (l7)) (fun r9 => ?_)
        by_cases c10 : kd = 0
        · refine wa_lw (tb := 0) (w_rg0 (by omega) (by omega)) (q := (25, 7)) (by rw [c10]; first | rfl | decide) ⟨_, rfl⟩ ?_
          refine wa_iload_n (n := 2) rfl ?_
          refine wa_bipush (w_rg2 (by omega) (by omega)) ?_
          refine wa_icmpne (w_rg0 (by omega) (by omega)) (w_rg0 (by omega) (by omega)) ⟨_, rfl⟩ (fun c11 => ?_) (fun c11 => ?_)
          · skip
            refine wa_iconst ?_
            refine wa_fall ⟨_, rfl⟩ ?_
            refine wa_istore_n (n := 3) rfl ?_
            refine wa_goto ⟨_, rfl⟩ ?_
            refine wa_iload_n (n := 3) rfl ?_
            refine wa_ifne (w_rg0 (by omega) (by omega)) ⟨_, rfl⟩ (fun c12 => ?_) (fun c12 => ?_)
            · skip
              exact absurd c12 (by omega)
            · skip
              refine wa_aload_n (n := 0) rfl ?_
              refine wb_gf5 158 rfl (wy_pr rfl) wt_158 wf_5_4 (v := 226) ((w_up_slot (by decide)).trans (l4)) (fun r13 => ?_)
              refine wa_iconst ?_
              refine wb_pfi 226 rfl (wy_pr rfl) wt_226 wf_8_16 (n := 16) rfl ⟨(by omega), (by omega)⟩ ?_
              refine wa_fall ⟨_, rfl⟩ ?_
              refine wa_return rfl ?_
              have eg : (if gk = 6 then 0 else 1 : Int) = 1 := by first | exact if_pos (by omega) | exact if_neg (by omega)
              have ep : rwP wd gk kd ec = 4 := by unfold rwP; (repeat (first | rw [if_pos (by omega)] | rw [if_neg (by omega)])); all_goals omega
              rw [eg, ep]
              exact ⟨rfl, if_neg (by first | decide | omega)⟩
          · skip
            refine wa_iconst ?_
            refine wa_goto ⟨_, rfl⟩ ?_
            refine wa_istore_n (n := 3) rfl ?_
            refine wa_goto ⟨_, rfl⟩ ?_
            refine wa_iload_n (n := 3) rfl ?_
            refine wa_ifne (w_rg0 (by omega) (by omega)) ⟨_, rfl⟩ (fun c14 => ?_) (fun c14 => ?_)
            · skip
              refine wa_return rfl ?_
              have eg : (if gk = 6 then 0 else 1 : Int) = 1 := by first | exact if_pos (by omega) | exact if_neg (by omega)
              have ep : rwP wd gk kd ec = 0 := by unfold rwP; (repeat (first | rw [if_pos (by omega)] | rw [if_neg (by omega)])); all_goals omega
              rw [eg, ep]
              exact ⟨rfl, if_pos rfl⟩
            · skip
              exact absurd c14 (by omega)
        by_cases c15 : kd = 5
        · refine wa_lw (tb := 0) (w_rg0 (by omega) (by omega)) (q := (40, 10)) (by rw [c15]; first | rfl | decide) ⟨_, rfl⟩ ?_
          refine wa_iload_n (n := 1) rfl ?_
          refine wa_ifeq (w_rg0 (by omega) (by omega)) ⟨_, rfl⟩ (fun c16 => ?_) (fun c16 => ?_)
          · skip
            refine wa_iload_n (n := 2) rfl ?_
            refine wa_bipush (w_rg2 (by omega) (by omega)) ?_
            refine wa_icmpne (w_rg0 (by omega) (by omega)) (w_rg0 (by omega) (by omega)) ⟨_, rfl⟩ (fun c17 => ?_) (fun c17 => ?_)
            · skip
              refine wa_iconst ?_
              refine wa_fall ⟨_, rfl⟩ ?_
              refine wa_istore_n (n := 3) rfl ?_
              refine wa_goto ⟨_, rfl⟩ ?_
              refine wa_iload_n (n := 3) rfl ?_
              refine wa_ifne (w_rg0 (by omega) (by omega)) ⟨_, rfl⟩ (fun c18 => ?_) (fun c18 => ?_)
              · skip
                exact absurd c18 (by omega)
              · skip
                refine wa_aload_n (n := 0) rfl ?_
                refine wb_gf5 158 rfl (wy_pr rfl) wt_158 wf_5_4 (v := 226) ((w_up_slot (by decide)).trans (l4)) (fun r19 => ?_)
                refine wa_iconst ?_
                refine wb_pfi 226 rfl (wy_pr rfl) wt_226 wf_8_16 (n := 16) rfl ⟨(by omega), (by omega)⟩ ?_
                refine wa_fall ⟨_, rfl⟩ ?_
                refine wa_return rfl ?_
                have eg : (if gk = 6 then 0 else 1 : Int) = 1 := by first | exact if_pos (by omega) | exact if_neg (by omega)
                have ep : rwP wd gk kd ec = 4 := by unfold rwP; (repeat (first | rw [if_pos (by omega)] | rw [if_neg (by omega)])); all_goals omega
                rw [eg, ep]
                exact ⟨rfl, if_neg (by first | decide | omega)⟩
            · skip
              refine wa_aload_n (n := 0) rfl ?_
              refine wb_gfi 158 rfl (wy_pr rfl) wt_158 wf_5_12 (v := ec) ((w_up_slot (by decide)).trans (l12)) (fun r20 => ?_)
              refine wa_iconst ?_
              refine wa_icmpne (w_rg0 (by omega) (by omega)) (w_rg0 (by omega) (by omega)) ⟨_, rfl⟩ (fun c21 => ?_) (fun c21 => ?_)
              · skip
                refine wa_iconst ?_
                refine wa_fall ⟨_, rfl⟩ ?_
                refine wa_istore_n (n := 3) rfl ?_
                refine wa_goto ⟨_, rfl⟩ ?_
                refine wa_iload_n (n := 3) rfl ?_
                refine wa_ifne (w_rg0 (by omega) (by omega)) ⟨_, rfl⟩ (fun c22 => ?_) (fun c22 => ?_)
                · skip
                  exact absurd c22 (by omega)
                · skip
                  refine wa_aload_n (n := 0) rfl ?_
                  refine wb_gf5 158 rfl (wy_pr rfl) wt_158 wf_5_4 (v := 226) ((w_up_slot (by decide)).trans (l4)) (fun r23 => ?_)
                  refine wa_iconst ?_
                  refine wb_pfi 226 rfl (wy_pr rfl) wt_226 wf_8_16 (n := 16) rfl ⟨(by omega), (by omega)⟩ ?_
                  refine wa_fall ⟨_, rfl⟩ ?_
                  refine wa_return rfl ?_
                  have eg : (if gk = 6 then 0 else 1 : Int) = 1 := by first | exact if_pos (by omega) | exact if_neg (by omega)
                  have ep : rwP wd gk kd ec = 4 := by unfold rwP; (repeat (first | rw [if_pos (by omega)] | rw [if_neg (by omega)])); all_goals omega
                  rw [eg, ep]
                  exact ⟨rfl, if_neg (by first | decide | omega)⟩
              · skip
                refine wa_iconst ?_
                refine wa_goto ⟨_, rfl⟩ ?_
                refine wa_istore_n (n := 3) rfl ?_
                refine wa_goto ⟨_, rfl⟩ ?_
                refine wa_iload_n (n := 3) rfl ?_
                refine wa_ifne (w_rg0 (by omega) (by omega)) ⟨_, rfl⟩ (fun c24 => ?_) (fun c24 => ?_)
                · skip
                  refine wa_return rfl ?_
                  have eg : (if gk = 6 then 0 else 1 : Int) = 1 := by first | exact if_pos (by omega) | exact if_neg (by omega)
                  have ep : rwP wd gk kd ec = 0 := by unfold rwP; (repeat (first | rw [if_pos (by omega)] | rw [if_neg (by omega)])); all_goals omega
                  rw [eg, ep]
                  exact ⟨rfl, if_pos rfl⟩
                · skip
                  exact absurd c24 (by omega)
          · skip
            exact absurd c16 (by omega)
        refine wa_lw (tb := 0) (w_rg0 (by omega) (by omega)) (q := (102, 17)) (lw_df [0, 5] rfl (by simp only [List.mem_cons, List.not_mem_nil, or_false, not_or]; omega) (by first | rfl | decide)) ⟨_, rfl⟩ ?_
        refine wa_aload_n (n := 0) rfl ?_
        refine wb_gfi 158 rfl (wy_pr rfl) wt_158 wf_5_7 (v := kd) ((w_up_slot (by decide)).trans (l7)) (fun r25 => ?_)
        refine wa_iconst ?_
        refine wa_icmpeq (w_rg0 (by omega) (by omega)) (w_rg0 (by omega) (by omega)) ⟨_, rfl⟩ (fun c26 => ?_) (fun c26 => ?_)
        · skip
          refine wa_return rfl ?_
          have eg : (if gk = 6 then 0 else 1 : Int) = 1 := by first | exact if_pos (by omega) | exact if_neg (by omega)
          have ep : rwP wd gk kd ec = 0 := by unfold rwP; (repeat (first | rw [if_pos (by omega)] | rw [if_neg (by omega)])); all_goals omega
          rw [eg, ep]
          exact ⟨rfl, if_pos rfl⟩
        · skip
          refine wa_aload_n (n := 0) rfl ?_
          refine wb_gfi 158 rfl (wy_pr rfl) wt_158 wf_5_7 (v := kd) ((w_up_slot (by decide)).trans (l7)) (fun r27 => ?_)
          refine wa_iconst ?_
          refine wa_icmpne (w_rg0 (by omega) (by omega)) (w_rg0 (by omega) (by omega)) ⟨_, rfl⟩ (fun c28 => ?_) (fun c28 => ?_)
          · skip
            refine wa_aload_n (n := 0) rfl ?_
            refine wb_gf5 158 rfl (wy_pr rfl) wt_158 wf_5_4 (v := 226) ((w_up_slot (by decide)).trans (l4)) (fun r29 => ?_)
            refine wa_iconst ?_
            refine wb_pfi 226 rfl (wy_pr rfl) wt_226 wf_8_16 (n := 16) rfl ⟨(by omega), (by omega)⟩ ?_
            refine wa_fall ⟨_, rfl⟩ ?_
            refine wa_return rfl ?_
            have eg : (if gk = 6 then 0 else 1 : Int) = 1 := by first | exact if_pos (by omega) | exact if_neg (by omega)
            have ep : rwP wd gk kd ec = 5 := by unfold rwP; (repeat (first | rw [if_pos (by omega)] | rw [if_neg (by omega)])); all_goals omega
            rw [eg, ep]
            exact ⟨rfl, if_neg (by first | decide | omega)⟩
          · skip
            refine wa_iload_n (n := 1) rfl ?_
            refine wa_ifne (w_rg0 (by omega) (by omega)) ⟨_, rfl⟩ (fun c30 => ?_) (fun c30 => ?_)
            · skip
              exact absurd c30 (by omega)
            · skip
              refine wa_fall ⟨_, rfl⟩ ?_
              refine wa_aload_n (n := 0) rfl ?_
              refine wb_gf5 158 rfl (wy_pr rfl) wt_158 wf_5_4 (v := 226) ((w_up_slot (by decide)).trans (l4)) (fun r31 => ?_)
              refine wa_iconst ?_
              refine wb_pfi 226 rfl (wy_pr rfl) wt_226 wf_8_16 (n := 16) rfl ⟨(by omega), (by omega)⟩ ?_
              refine wa_fall ⟨_, rfl⟩ ?_
              refine wa_return rfl ?_
              have eg : (if gk = 6 then 0 else 1 : Int) = 1 := by first | exact if_pos (by omega) | exact if_neg (by omega)
              have ep : rwP wd gk kd ec = 5 := by unfold rwP; (repeat (first | rw [if_pos (by omega)] | rw [if_neg (by omega)])); all_goals omega
              rw [eg, ep]
              exact ⟨rfl, if_neg (by first | decide | omega)⟩
      · skip
        exact absurd c8 (by omega)
    · skip
      refine wa_iconst ?_
      refine wa_goto ⟨_, rfl⟩ ?_
      have ewd : (-1) = wd := by rw [hwd]; first | exact (if_pos (by omega)).symm | exact (if_neg (by omega)).symm
      rw [ewd]
      have hwb : -2147483648 ≤ wd ∧ wd ≤ 2147483647 := by omega
      refine wa_istore_n (n := 2) rfl ?_
      refine wa_aload_n (n := 0) rfl ?_
      refine wb_gf4 158 rfl (wy_pr rfl) wt_158 wf_5_3 (v := 47) wl_158_3 ?_
      refine wa_iconst ?_
      refine wb_aald5 47 1 rfl rfl (wy_pr rfl) wt_47 (by rw [show _ = _ from ((cl_47 hC))]; omega) wl_47_1 ?_
      refine wa_aload_n (n := 0) rfl ?_
      refine wb_gfi 158 rfl (wy_pr rfl) wt_158 wf_5_14 (v := fo) (l14) (fun r32 => ?_)
      refine wa_iload_n (n := 1) rfl ?_
      refine wa_ifeq (w_rg0 (by omega) (by omega)) ⟨_, rfl⟩ (fun c33 => ?_) (fun c33 => ?_)
      · skip
        refine wa_iconst ?_
        refine wa_fall ⟨_, rfl⟩ ?_
        refine wb_iast 49 rfl (wy_pr rfl) wt_49 (n := (S 48 (-1))) ((hl.2.2.1 1 (by decide))) (by omega) (by omega) ⟨(by omega), (by omega)⟩ ?_
        refine wa_aload_n (n := 0) rfl ?_
        refine wb_gfi 158 rfl (wy_pr rfl) wt_158 wf_5_7 (v := kd) ((w_up_slot (by decide)).trans (l7)) (fun r34 => ?_)
        by_cases c35 : kd = 0
        · refine wa_lw (tb := 0) (w_rg0 (by omega) (by omega)) (q := (25, 7)) (by rw [c35]; first | rfl | decide) ⟨_, rfl⟩ ?_
          refine wa_iload_n (n := 2) rfl ?_
          refine wa_bipush (w_rg2 (by omega) (by omega)) ?_
          refine wa_icmpne (w_rg0 (by omega) (by omega)) (w_rg0 (by omega) (by omega)) ⟨_, rfl⟩ (fun c36 => ?_) (fun c36 => ?_)
          · skip
            refine wa_iconst ?_
            refine wa_fall ⟨_, rfl⟩ ?_
            refine wa_istore_n (n := 3) rfl ?_
            refine wa_goto ⟨_, rfl⟩ ?_
            refine wa_iload_n (n := 3) rfl ?_
            refine wa_ifne (w_rg0 (by omega) (by omega)) ⟨_, rfl⟩ (fun c37 => ?_) (fun c37 => ?_)
            · skip
              exact absurd c37 (by omega)
            · skip
              refine wa_aload_n (n := 0) rfl ?_
              refine wb_gf5 158 rfl (wy_pr rfl) wt_158 wf_5_4 (v := 226) ((w_up_slot (by decide)).trans (l4)) (fun r38 => ?_)
              refine wa_iconst ?_
              refine wb_pfi 226 rfl (wy_pr rfl) wt_226 wf_8_16 (n := 16) rfl ⟨(by omega), (by omega)⟩ ?_
              refine wa_fall ⟨_, rfl⟩ ?_
              refine wa_return rfl ?_
              have eg : (if gk = 6 then 0 else 1 : Int) = 1 := by first | exact if_pos (by omega) | exact if_neg (by omega)
              have ep : rwP wd gk kd ec = 4 := by unfold rwP; (repeat (first | rw [if_pos (by omega)] | rw [if_neg (by omega)])); all_goals omega
              rw [eg, ep]
              exact ⟨rfl, if_neg (by first | decide | omega)⟩
          · skip
            refine wa_iconst ?_
            refine wa_goto ⟨_, rfl⟩ ?_
            refine wa_istore_n (n := 3) rfl ?_
            refine wa_goto ⟨_, rfl⟩ ?_
            refine wa_iload_n (n := 3) rfl ?_
            refine wa_ifne (w_rg0 (by omega) (by omega)) ⟨_, rfl⟩ (fun c39 => ?_) (fun c39 => ?_)
            · skip
              refine wa_return rfl ?_
              have eg : (if gk = 6 then 0 else 1 : Int) = 1 := by first | exact if_pos (by omega) | exact if_neg (by omega)
              have ep : rwP wd gk kd ec = 0 := by unfold rwP; (repeat (first | rw [if_pos (by omega)] | rw [if_neg (by omega)])); all_goals omega
              rw [eg, ep]
              exact ⟨rfl, if_pos rfl⟩
            · skip
              exact absurd c39 (by omega)
        by_cases c40 : kd = 5
        · refine wa_lw (tb := 0) (w_rg0 (by omega) (by omega)) (q := (40, 10)) (by rw [c40]; first | rfl | decide) ⟨_, rfl⟩ ?_
          refine wa_iload_n (n := 1) rfl ?_
          refine wa_ifeq (w_rg0 (by omega) (by omega)) ⟨_, rfl⟩ (fun c41 => ?_) (fun c41 => ?_)
          · skip
            refine wa_iload_n (n := 2) rfl ?_
            refine wa_bipush (w_rg2 (by omega) (by omega)) ?_
            refine wa_icmpne (w_rg0 (by omega) (by omega)) (w_rg0 (by omega) (by omega)) ⟨_, rfl⟩ (fun c42 => ?_) (fun c42 => ?_)
            · skip
              refine wa_iconst ?_
              refine wa_fall ⟨_, rfl⟩ ?_
              refine wa_istore_n (n := 3) rfl ?_
              refine wa_goto ⟨_, rfl⟩ ?_
              refine wa_iload_n (n := 3) rfl ?_
              refine wa_ifne (w_rg0 (by omega) (by omega)) ⟨_, rfl⟩ (fun c43 => ?_) (fun c43 => ?_)
              · skip
                exact absurd c43 (by omega)
              · skip
                refine wa_aload_n (n := 0) rfl ?_
                refine wb_gf5 158 rfl (wy_pr rfl) wt_158 wf_5_4 (v := 226) ((w_up_slot (by decide)).trans (l4)) (fun r44 => ?_)
                refine wa_iconst ?_
                refine wb_pfi 226 rfl (wy_pr rfl) wt_226 wf_8_16 (n := 16) rfl ⟨(by omega), (by omega)⟩ ?_
                refine wa_fall ⟨_, rfl⟩ ?_
                refine wa_return rfl ?_
                have eg : (if gk = 6 then 0 else 1 : Int) = 1 := by first | exact if_pos (by omega) | exact if_neg (by omega)
                have ep : rwP wd gk kd ec = 4 := by unfold rwP; (repeat (first | rw [if_pos (by omega)] | rw [if_neg (by omega)])); all_goals omega
                rw [eg, ep]
                exact ⟨rfl, if_neg (by first | decide | omega)⟩
            · skip
              refine wa_aload_n (n := 0) rfl ?_
              refine wb_gfi 158 rfl (wy_pr rfl) wt_158 wf_5_12 (v := ec) ((w_up_slot (by decide)).trans (l12)) (fun r45 => ?_)
              refine wa_iconst ?_
              refine wa_icmpne (w_rg0 (by omega) (by omega)) (w_rg0 (by omega) (by omega)) ⟨_, rfl⟩ (fun c46 => ?_) (fun c46 => ?_)
              · skip
                refine wa_iconst ?_
                refine wa_fall ⟨_, rfl⟩ ?_
                refine wa_istore_n (n := 3) rfl ?_
                refine wa_goto ⟨_, rfl⟩ ?_
                refine wa_iload_n (n := 3) rfl ?_
                refine wa_ifne (w_rg0 (by omega) (by omega)) ⟨_, rfl⟩ (fun c47 => ?_) (fun c47 => ?_)
                · skip
                  exact absurd c47 (by omega)
                · skip
                  refine wa_aload_n (n := 0) rfl ?_
                  refine wb_gf5 158 rfl (wy_pr rfl) wt_158 wf_5_4 (v := 226) ((w_up_slot (by decide)).trans (l4)) (fun r48 => ?_)
                  refine wa_iconst ?_
                  refine wb_pfi 226 rfl (wy_pr rfl) wt_226 wf_8_16 (n := 16) rfl ⟨(by omega), (by omega)⟩ ?_
                  refine wa_fall ⟨_, rfl⟩ ?_
                  refine wa_return rfl ?_
                  have eg : (if gk = 6 then 0 else 1 : Int) = 1 := by first | exact if_pos (by omega) | exact if_neg (by omega)
                  have ep : rwP wd gk kd ec = 4 := by unfold rwP; (repeat (first | rw [if_pos (by omega)] | rw [if_neg (by omega)])); all_goals omega
                  rw [eg, ep]
                  exact ⟨rfl, if_neg (by first | decide | omega)⟩
              · skip
                refine wa_iconst ?_
                refine wa_goto ⟨_, rfl⟩ ?_
                refine wa_istore_n (n := 3) rfl ?_
                refine wa_goto ⟨_, rfl⟩ ?_
                refine wa_iload_n (n := 3) rfl ?_
                refine wa_ifne (w_rg0 (by omega) (by omega)) ⟨_, rfl⟩ (fun c49 => ?_) (fun c49 => ?_)
                · skip
                  refine wa_return rfl ?_
                  have eg : (if gk = 6 then 0 else 1 : Int) = 1 := by first | exact if_pos (by omega) | exact if_neg (by omega)
                  have ep : rwP wd gk kd ec = 0 := by unfold rwP; (repeat (first | rw [if_pos (by omega)] | rw [if_neg (by omega)])); all_goals omega
                  rw [eg, ep]
                  exact ⟨rfl, if_pos rfl⟩
                · skip
                  exact absurd c49 (by omega)
          · skip
            exact absurd c41 (by omega)
        refine wa_lw (tb := 0) (w_rg0 (by omega) (by omega)) (q := (102, 17)) (lw_df [0, 5] rfl (by simp only [List.mem_cons, List.not_mem_nil, or_false, not_or]; omega) (by first | rfl | decide)) ⟨_, rfl⟩ ?_
        refine wa_aload_n (n := 0) rfl ?_
        refine wb_gfi 158 rfl (wy_pr rfl) wt_158 wf_5_7 (v := kd) ((w_up_slot (by decide)).trans (l7)) (fun r50 => ?_)
        refine wa_iconst ?_
        refine wa_icmpeq (w_rg0 (by omega) (by omega)) (w_rg0 (by omega) (by omega)) ⟨_, rfl⟩ (fun c51 => ?_) (fun c51 => ?_)
        · skip
          refine wa_return rfl ?_
          have eg : (if gk = 6 then 0 else 1 : Int) = 1 := by first | exact if_pos (by omega) | exact if_neg (by omega)
          have ep : rwP wd gk kd ec = 0 := by unfold rwP; (repeat (first | rw [if_pos (by omega)] | rw [if_neg (by omega)])); all_goals omega
          rw [eg, ep]
          exact ⟨rfl, if_pos rfl⟩
        · skip
          refine wa_aload_n (n := 0) rfl ?_
          refine wb_gfi 158 rfl (wy_pr rfl) wt_158 wf_5_7 (v := kd) ((w_up_slot (by decide)).trans (l7)) (fun r52 => ?_)
          refine wa_iconst ?_
          refine wa_icmpne (w_rg0 (by omega) (by omega)) (w_rg0 (by omega) (by omega)) ⟨_, rfl⟩ (fun c53 => ?_) (fun c53 => ?_)
          · skip
            refine wa_aload_n (n := 0) rfl ?_
            refine wb_gf5 158 rfl (wy_pr rfl) wt_158 wf_5_4 (v := 226) ((w_up_slot (by decide)).trans (l4)) (fun r54 => ?_)
            refine wa_iconst ?_
            refine wb_pfi 226 rfl (wy_pr rfl) wt_226 wf_8_16 (n := 16) rfl ⟨(by omega), (by omega)⟩ ?_
            refine wa_fall ⟨_, rfl⟩ ?_
            refine wa_return rfl ?_
            have eg : (if gk = 6 then 0 else 1 : Int) = 1 := by first | exact if_pos (by omega) | exact if_neg (by omega)
            have ep : rwP wd gk kd ec = 5 := by unfold rwP; (repeat (first | rw [if_pos (by omega)] | rw [if_neg (by omega)])); all_goals omega
            rw [eg, ep]
            exact ⟨rfl, if_neg (by first | decide | omega)⟩
          · skip
            refine wa_iload_n (n := 1) rfl ?_
            refine wa_ifne (w_rg0 (by omega) (by omega)) ⟨_, rfl⟩ (fun c55 => ?_) (fun c55 => ?_)
            · skip
              exact absurd c55 (by omega)
            · skip
              refine wa_fall ⟨_, rfl⟩ ?_
              refine wa_aload_n (n := 0) rfl ?_
              refine wb_gf5 158 rfl (wy_pr rfl) wt_158 wf_5_4 (v := 226) ((w_up_slot (by decide)).trans (l4)) (fun r56 => ?_)
              refine wa_iconst ?_
              refine wb_pfi 226 rfl (wy_pr rfl) wt_226 wf_8_16 (n := 16) rfl ⟨(by omega), (by omega)⟩ ?_
              refine wa_fall ⟨_, rfl⟩ ?_
              refine wa_return rfl ?_
              have eg : (if gk = 6 then 0 else 1 : Int) = 1 := by first | exact if_pos (by omega) | exact if_neg (by omega)
              have ep : rwP wd gk kd ec = 5 := by unfold rwP; (repeat (first | rw [if_pos (by omega)] | rw [if_neg (by omega)])); all_goals omega
              rw [eg, ep]
              exact ⟨rfl, if_neg (by first | decide | omega)⟩
      · skip
        exact absurd c33 (by omega)
  · skip
    refine wa_iconst ?_
    refine wa_goto ⟨_, rfl⟩ ?_
    refine wa_istore_n (n := 1) rfl ?_
    refine wa_aload_n (n := 0) rfl ?_
    refine wb_gfi 158 rfl (wy_pr rfl) wt_158 wf_5_11 (v := nm) (l11) (fun r57 => ?_)
    refine wa_iconst ?_
    refine wa_icmpne (w_rg0 (by omega) (by omega)) (w_rg0 (by omega) (by omega)) ⟨_, rfl⟩ (fun c58 => ?_) (fun c58 => ?_)
    · skip
      refine wa_aload_n (n := 0) rfl ?_
      refine wb_gf4 158 rfl (wy_pr rfl) wt_158 wf_5_0 (v := 72) wl_158_0 ?_
      refine wb_gf4 72 rfl (wy_pr rfl) wt_72 wf_2_0 (v := 2) wl_72_0 ?_
      refine wb_gf4 2 rfl (wy_pr rfl) wt_2 wf_9_9 (v := 9) wl_2_9 ?_
      refine wa_aload_n (n := 0) rfl ?_
      refine wb_gfi 158 rfl (wy_pr rfl) wt_158 wf_5_11 (v := nm) (l11) (fun r59 => ?_)
      refine wb_iald 9 rfl (wy_pr rfl) wt_9 (n := (S 9 (-1))) (rfl) (by omega) (by omega) (v := (S 9 nm)) rfl (fun r60 => ?_)
      refine wa_fall ⟨_, rfl⟩ ?_
      have ewd : (S 9 nm) = wd := by rw [hwd]; first | exact (if_pos (by omega)).symm | exact (if_neg (by omega)).symm
      rw [ewd]
      have hwb : -2147483648 ≤ wd ∧ wd ≤ 2147483647 := by omega
      refine wa_istore_n (n := 2) rfl ?_
      refine wa_aload_n (n := 0) rfl ?_
      refine wb_gf4 158 rfl (wy_pr rfl) wt_158 wf_5_3 (v := 47) wl_158_3 ?_
      refine wa_iconst ?_
      refine wb_aald5 47 1 rfl rfl (wy_pr rfl) wt_47 (by rw [show _ = _ from ((cl_47 hC))]; omega) wl_47_1 ?_
      refine wa_aload_n (n := 0) rfl ?_
      refine wb_gfi 158 rfl (wy_pr rfl) wt_158 wf_5_14 (v := fo) (l14) (fun r61 => ?_)
      refine wa_iload_n (n := 1) rfl ?_
      refine wa_ifeq (w_rg0 (by omega) (by omega)) ⟨_, rfl⟩ (fun c62 => ?_) (fun c62 => ?_)
      · skip
        exact absurd c62 (by omega)
      · skip
        refine wa_iconst ?_
        refine wa_goto ⟨_, rfl⟩ ?_
        refine wb_iast 49 rfl (wy_pr rfl) wt_49 (n := (S 48 (-1))) ((hl.2.2.1 1 (by decide))) (by omega) (by omega) ⟨(by omega), (by omega)⟩ ?_
        refine wa_aload_n (n := 0) rfl ?_
        refine wb_gfi 158 rfl (wy_pr rfl) wt_158 wf_5_7 (v := kd) ((w_up_slot (by decide)).trans (l7)) (fun r63 => ?_)
        by_cases c64 : kd = 0
        · refine wa_lw (tb := 0) (w_rg0 (by omega) (by omega)) (q := (25, 7)) (by rw [c64]; first | rfl | decide) ⟨_, rfl⟩ ?_
          refine wa_iload_n (n := 2) rfl ?_
          refine wa_bipush (w_rg2 (by omega) (by omega)) ?_
          refine wa_icmpne (w_rg0 (by omega) (by omega)) (w_rg0 (by omega) (by omega)) ⟨_, rfl⟩ (fun c65 => ?_) (fun c65 => ?_)
          · skip
            refine wa_iconst ?_
            refine wa_fall ⟨_, rfl⟩ ?_
            refine wa_istore_n (n := 3) rfl ?_
            refine wa_goto ⟨_, rfl⟩ ?_
            refine wa_iload_n (n := 3) rfl ?_
            refine wa_ifne (w_rg0 (by omega) (by omega)) ⟨_, rfl⟩ (fun c66 => ?_) (fun c66 => ?_)
            · skip
              exact absurd c66 (by omega)
            · skip
              refine wa_aload_n (n := 0) rfl ?_
              refine wb_gf5 158 rfl (wy_pr rfl) wt_158 wf_5_4 (v := 226) ((w_up_slot (by decide)).trans (l4)) (fun r67 => ?_)
              refine wa_iconst ?_
              refine wb_pfi 226 rfl (wy_pr rfl) wt_226 wf_8_16 (n := 16) rfl ⟨(by omega), (by omega)⟩ ?_
              refine wa_fall ⟨_, rfl⟩ ?_
              refine wa_return rfl ?_
              have eg : (if gk = 6 then 0 else 1 : Int) = 0 := by first | exact if_pos (by omega) | exact if_neg (by omega)
              have ep : rwP wd gk kd ec = 4 := by unfold rwP; (repeat (first | rw [if_pos (by omega)] | rw [if_neg (by omega)])); all_goals omega
              rw [eg, ep]
              exact ⟨rfl, if_neg (by first | decide | omega)⟩
          · skip
            refine wa_iconst ?_
            refine wa_goto ⟨_, rfl⟩ ?_
            refine wa_istore_n (n := 3) rfl ?_
            refine wa_goto ⟨_, rfl⟩ ?_
            refine wa_iload_n (n := 3) rfl ?_
            refine wa_ifne (w_rg0 (by omega) (by omega)) ⟨_, rfl⟩ (fun c68 => ?_) (fun c68 => ?_)
            · skip
              refine wa_return rfl ?_
              have eg : (if gk = 6 then 0 else 1 : Int) = 0 := by first | exact if_pos (by omega) | exact if_neg (by omega)
              have ep : rwP wd gk kd ec = 0 := by unfold rwP; (repeat (first | rw [if_pos (by omega)] | rw [if_neg (by omega)])); all_goals omega
              rw [eg, ep]
              exact ⟨rfl, if_pos rfl⟩
            · skip
              exact absurd c68 (by omega)
        by_cases c69 : kd = 5
        · refine wa_lw (tb := 0) (w_rg0 (by omega) (by omega)) (q := (40, 10)) (by rw [c69]; first | rfl | decide) ⟨_, rfl⟩ ?_
          refine wa_iload_n (n := 1) rfl ?_
          refine wa_ifeq (w_rg0 (by omega) (by omega)) ⟨_, rfl⟩ (fun c70 => ?_) (fun c70 => ?_)
          · skip
            exact absurd c70 (by omega)
          · skip
            refine wa_iload_n (n := 2) rfl ?_
            refine wa_bipush (w_rg2 (by omega) (by omega)) ?_
            refine wa_icmpne (w_rg0 (by omega) (by omega)) (w_rg0 (by omega) (by omega)) ⟨_, rfl⟩ (fun c71 => ?_) (fun c71 => ?_)
            · skip
              refine wa_iload_n (n := 2) rfl ?_
              refine wa_bipush (w_rg2 (by omega) (by omega)) ?_
              refine wa_icmpne (w_rg0 (by omega) (by omega)) (w_rg0 (by omega) (by omega)) ⟨_, rfl⟩ (fun c72 => ?_) (fun c72 => ?_)
              · skip
                refine wa_iconst ?_
                refine wa_goto ⟨_, rfl⟩ ?_
                refine wa_istore_n (n := 3) rfl ?_
                refine wa_goto ⟨_, rfl⟩ ?_
                refine wa_iload_n (n := 3) rfl ?_
                refine wa_ifne (w_rg0 (by omega) (by omega)) ⟨_, rfl⟩ (fun c73 => ?_) (fun c73 => ?_)
                · skip
                  exact absurd c73 (by omega)
                · skip
                  refine wa_aload_n (n := 0) rfl ?_
                  refine wb_gf5 158 rfl (wy_pr rfl) wt_158 wf_5_4 (v := 226) ((w_up_slot (by decide)).trans (l4)) (fun r74 => ?_)
                  refine wa_iconst ?_
                  refine wb_pfi 226 rfl (wy_pr rfl) wt_226 wf_8_16 (n := 16) rfl ⟨(by omega), (by omega)⟩ ?_
                  refine wa_fall ⟨_, rfl⟩ ?_
                  refine wa_return rfl ?_
                  have eg : (if gk = 6 then 0 else 1 : Int) = 0 := by first | exact if_pos (by omega) | exact if_neg (by omega)
                  have ep : rwP wd gk kd ec = 4 := by unfold rwP; (repeat (first | rw [if_pos (by omega)] | rw [if_neg (by omega)])); all_goals omega
                  rw [eg, ep]
                  exact ⟨rfl, if_neg (by first | decide | omega)⟩
              · skip
                refine wa_aload_n (n := 0) rfl ?_
                refine wb_gfi 158 rfl (wy_pr rfl) wt_158 wf_5_12 (v := ec) ((w_up_slot (by decide)).trans (l12)) (fun r75 => ?_)
                refine wa_ifne (w_rg0 (by omega) (by omega)) ⟨_, rfl⟩ (fun c76 => ?_) (fun c76 => ?_)
                · skip
                  refine wa_iconst ?_
                  refine wa_goto ⟨_, rfl⟩ ?_
                  refine wa_istore_n (n := 3) rfl ?_
                  refine wa_goto ⟨_, rfl⟩ ?_
                  refine wa_iload_n (n := 3) rfl ?_
                  refine wa_ifne (w_rg0 (by omega) (by omega)) ⟨_, rfl⟩ (fun c77 => ?_) (fun c77 => ?_)
                  · skip
                    exact absurd c77 (by omega)
                  · skip
                    refine wa_aload_n (n := 0) rfl ?_
                    refine wb_gf5 158 rfl (wy_pr rfl) wt_158 wf_5_4 (v := 226) ((w_up_slot (by decide)).trans (l4)) (fun r78 => ?_)
                    refine wa_iconst ?_
                    refine wb_pfi 226 rfl (wy_pr rfl) wt_226 wf_8_16 (n := 16) rfl ⟨(by omega), (by omega)⟩ ?_
                    refine wa_fall ⟨_, rfl⟩ ?_
                    refine wa_return rfl ?_
                    have eg : (if gk = 6 then 0 else 1 : Int) = 0 := by first | exact if_pos (by omega) | exact if_neg (by omega)
                    have ep : rwP wd gk kd ec = 4 := by unfold rwP; (repeat (first | rw [if_pos (by omega)] | rw [if_neg (by omega)])); all_goals omega
                    rw [eg, ep]
                    exact ⟨rfl, if_neg (by first | decide | omega)⟩
                · skip
                  refine wa_fall ⟨_, rfl⟩ ?_
                  refine wa_iconst ?_
                  refine wa_goto ⟨_, rfl⟩ ?_
                  refine wa_istore_n (n := 3) rfl ?_
                  refine wa_goto ⟨_, rfl⟩ ?_
                  refine wa_iload_n (n := 3) rfl ?_
                  refine wa_ifne (w_rg0 (by omega) (by omega)) ⟨_, rfl⟩ (fun c79 => ?_) (fun c79 => ?_)
                  · skip
                    refine wa_return rfl ?_
                    have eg : (if gk = 6 then 0 else 1 : Int) = 0 := by first | exact if_pos (by omega) | exact if_neg (by omega)
                    have ep : rwP wd gk kd ec = 0 := by unfold rwP; (repeat (first | rw [if_pos (by omega)] | rw [if_neg (by omega)])); all_goals omega
                    rw [eg, ep]
                    exact ⟨rfl, if_pos rfl⟩
                  · skip
                    exact absurd c79 (by omega)
            · skip
              refine wa_aload_n (n := 0) rfl ?_
              refine wb_gfi 158 rfl (wy_pr rfl) wt_158 wf_5_12 (v := ec) ((w_up_slot (by decide)).trans (l12)) (fun r80 => ?_)
              refine wa_iconst ?_
              refine wa_icmpeq (w_rg0 (by omega) (by omega)) (w_rg0 (by omega) (by omega)) ⟨_, rfl⟩ (fun c81 => ?_) (fun c81 => ?_)
              · skip
                refine wa_iconst ?_
                refine wa_goto ⟨_, rfl⟩ ?_
                refine wa_istore_n (n := 3) rfl ?_
                refine wa_goto ⟨_, rfl⟩ ?_
                refine wa_iload_n (n := 3) rfl ?_
                refine wa_ifne (w_rg0 (by omega) (by omega)) ⟨_, rfl⟩ (fun c82 => ?_) (fun c82 => ?_)
                · skip
                  refine wa_return rfl ?_
                  have eg : (if gk = 6 then 0 else 1 : Int) = 0 := by first | exact if_pos (by omega) | exact if_neg (by omega)
                  have ep : rwP wd gk kd ec = 0 := by unfold rwP; (repeat (first | rw [if_pos (by omega)] | rw [if_neg (by omega)])); all_goals omega
                  rw [eg, ep]
                  exact ⟨rfl, if_pos rfl⟩
                · skip
                  exact absurd c82 (by omega)
              · skip
                refine wa_fall ⟨_, rfl⟩ ?_
                refine wa_iload_n (n := 2) rfl ?_
                refine wa_bipush (w_rg2 (by omega) (by omega)) ?_
                refine wa_icmpne (w_rg0 (by omega) (by omega)) (w_rg0 (by omega) (by omega)) ⟨_, rfl⟩ (fun c83 => ?_) (fun c83 => ?_)
                · skip
                  refine wa_iconst ?_
                  refine wa_goto ⟨_, rfl⟩ ?_
                  refine wa_istore_n (n := 3) rfl ?_
                  refine wa_goto ⟨_, rfl⟩ ?_
                  refine wa_iload_n (n := 3) rfl ?_
                  refine wa_ifne (w_rg0 (by omega) (by omega)) ⟨_, rfl⟩ (fun c84 => ?_) (fun c84 => ?_)
                  · skip
                    exact absurd c84 (by omega)
                  · skip
                    refine wa_aload_n (n := 0) rfl ?_
                    refine wb_gf5 158 rfl (wy_pr rfl) wt_158 wf_5_4 (v := 226) ((w_up_slot (by decide)).trans (l4)) (fun r85 => ?_)
                    refine wa_iconst ?_
                    refine wb_pfi 226 rfl (wy_pr rfl) wt_226 wf_8_16 (n := 16) rfl ⟨(by omega), (by omega)⟩ ?_
                    refine wa_fall ⟨_, rfl⟩ ?_
                    refine wa_return rfl ?_
                    have eg : (if gk = 6 then 0 else 1 : Int) = 0 := by first | exact if_pos (by omega) | exact if_neg (by omega)
                    have ep : rwP wd gk kd ec = 4 := by unfold rwP; (repeat (first | rw [if_pos (by omega)] | rw [if_neg (by omega)])); all_goals omega
                    rw [eg, ep]
                    exact ⟨rfl, if_neg (by first | decide | omega)⟩
                · skip
                  exact absurd c83 (by omega)
        refine wa_lw (tb := 0) (w_rg0 (by omega) (by omega)) (q := (102, 17)) (lw_df [0, 5] rfl (by simp only [List.mem_cons, List.not_mem_nil, or_false, not_or]; omega) (by first | rfl | decide)) ⟨_, rfl⟩ ?_
        refine wa_aload_n (n := 0) rfl ?_
        refine wb_gfi 158 rfl (wy_pr rfl) wt_158 wf_5_7 (v := kd) ((w_up_slot (by decide)).trans (l7)) (fun r86 => ?_)
        refine wa_iconst ?_
        refine wa_icmpeq (w_rg0 (by omega) (by omega)) (w_rg0 (by omega) (by omega)) ⟨_, rfl⟩ (fun c87 => ?_) (fun c87 => ?_)
        · skip
          refine wa_return rfl ?_
          have eg : (if gk = 6 then 0 else 1 : Int) = 0 := by first | exact if_pos (by omega) | exact if_neg (by omega)
          have ep : rwP wd gk kd ec = 0 := by unfold rwP; (repeat (first | rw [if_pos (by omega)] | rw [if_neg (by omega)])); all_goals omega
          rw [eg, ep]
          exact ⟨rfl, if_pos rfl⟩
        · skip
          refine wa_aload_n (n := 0) rfl ?_
          refine wb_gfi 158 rfl (wy_pr rfl) wt_158 wf_5_7 (v := kd) ((w_up_slot (by decide)).trans (l7)) (fun r88 => ?_)
          refine wa_iconst ?_
          refine wa_icmpne (w_rg0 (by omega) (by omega)) (w_rg0 (by omega) (by omega)) ⟨_, rfl⟩ (fun c89 => ?_) (fun c89 => ?_)
          · skip
            refine wa_aload_n (n := 0) rfl ?_
            refine wb_gf5 158 rfl (wy_pr rfl) wt_158 wf_5_4 (v := 226) ((w_up_slot (by decide)).trans (l4)) (fun r90 => ?_)
            refine wa_iconst ?_
            refine wb_pfi 226 rfl (wy_pr rfl) wt_226 wf_8_16 (n := 16) rfl ⟨(by omega), (by omega)⟩ ?_
            refine wa_fall ⟨_, rfl⟩ ?_
            refine wa_return rfl ?_
            have eg : (if gk = 6 then 0 else 1 : Int) = 0 := by first | exact if_pos (by omega) | exact if_neg (by omega)
            have ep : rwP wd gk kd ec = 5 := by unfold rwP; (repeat (first | rw [if_pos (by omega)] | rw [if_neg (by omega)])); all_goals omega
            rw [eg, ep]
            exact ⟨rfl, if_neg (by first | decide | omega)⟩
          · skip
            refine wa_iload_n (n := 1) rfl ?_
            refine wa_ifne (w_rg0 (by omega) (by omega)) ⟨_, rfl⟩ (fun c91 => ?_) (fun c91 => ?_)
            · skip
              refine wa_return rfl ?_
              have eg : (if gk = 6 then 0 else 1 : Int) = 0 := by first | exact if_pos (by omega) | exact if_neg (by omega)
              have ep : rwP wd gk kd ec = 0 := by unfold rwP; (repeat (first | rw [if_pos (by omega)] | rw [if_neg (by omega)])); all_goals omega
              rw [eg, ep]
              exact ⟨rfl, if_pos rfl⟩
            · skip
              exact absurd c91 (by omega)
    · skip
      refine wa_iconst ?_
      refine wa_goto ⟨_, rfl⟩ ?_
      have ewd : (-1) = wd := by rw [hwd]; first | exact (if_pos (by omega)).symm | exact (if_neg (by omega)).symm
      rw [ewd]
      have hwb : -2147483648 ≤ wd ∧ wd ≤ 2147483647 := by omega
      refine wa_istore_n (n := 2) rfl ?_
      refine wa_aload_n (n := 0) rfl ?_
      refine wb_gf4 158 rfl (wy_pr rfl) wt_158 wf_5_3 (v := 47) wl_158_3 ?_
      refine wa_iconst ?_
      refine wb_aald5 47 1 rfl rfl (wy_pr rfl) wt_47 (by rw [show _ = _ from ((cl_47 hC))]; omega) wl_47_1 ?_
      refine wa_aload_n (n := 0) rfl ?_
      refine wb_gfi 158 rfl (wy_pr rfl) wt_158 wf_5_14 (v := fo) (l14) (fun r92 => ?_)
      refine wa_iload_n (n := 1) rfl ?_
      refine wa_ifeq (w_rg0 (by omega) (by omega)) ⟨_, rfl⟩ (fun c93 => ?_) (fun c93 => ?_)
      · skip
        exact absurd c93 (by omega)
      · skip
        refine wa_iconst ?_
        refine wa_goto ⟨_, rfl⟩ ?_
        refine wb_iast 49 rfl (wy_pr rfl) wt_49 (n := (S 48 (-1))) ((hl.2.2.1 1 (by decide))) (by omega) (by omega) ⟨(by omega), (by omega)⟩ ?_
        refine wa_aload_n (n := 0) rfl ?_
        refine wb_gfi 158 rfl (wy_pr rfl) wt_158 wf_5_7 (v := kd) ((w_up_slot (by decide)).trans (l7)) (fun r94 => ?_)
        by_cases c95 : kd = 0
        · refine wa_lw (tb := 0) (w_rg0 (by omega) (by omega)) (q := (25, 7)) (by rw [c95]; first | rfl | decide) ⟨_, rfl⟩ ?_
          refine wa_iload_n (n := 2) rfl ?_
          refine wa_bipush (w_rg2 (by omega) (by omega)) ?_
          refine wa_icmpne (w_rg0 (by omega) (by omega)) (w_rg0 (by omega) (by omega)) ⟨_, rfl⟩ (fun c96 => ?_) (fun c96 => ?_)
          · skip
            refine wa_iconst ?_
            refine wa_fall ⟨_, rfl⟩ ?_
            refine wa_istore_n (n := 3) rfl ?_
            refine wa_goto ⟨_, rfl⟩ ?_
            refine wa_iload_n (n := 3) rfl ?_
            refine wa_ifne (w_rg0 (by omega) (by omega)) ⟨_, rfl⟩ (fun c97 => ?_) (fun c97 => ?_)
            · skip
              exact absurd c97 (by omega)
            · skip
              refine wa_aload_n (n := 0) rfl ?_
              refine wb_gf5 158 rfl (wy_pr rfl) wt_158 wf_5_4 (v := 226) ((w_up_slot (by decide)).trans (l4)) (fun r98 => ?_)
              refine wa_iconst ?_
              refine wb_pfi 226 rfl (wy_pr rfl) wt_226 wf_8_16 (n := 16) rfl ⟨(by omega), (by omega)⟩ ?_
              refine wa_fall ⟨_, rfl⟩ ?_
              refine wa_return rfl ?_
              have eg : (if gk = 6 then 0 else 1 : Int) = 0 := by first | exact if_pos (by omega) | exact if_neg (by omega)
              have ep : rwP wd gk kd ec = 4 := by unfold rwP; (repeat (first | rw [if_pos (by omega)] | rw [if_neg (by omega)])); all_goals omega
              rw [eg, ep]
              exact ⟨rfl, if_neg (by first | decide | omega)⟩
          · skip
            refine wa_iconst ?_
            refine wa_goto ⟨_, rfl⟩ ?_
            refine wa_istore_n (n := 3) rfl ?_
            refine wa_goto ⟨_, rfl⟩ ?_
            refine wa_iload_n (n := 3) rfl ?_
            refine wa_ifne (w_rg0 (by omega) (by omega)) ⟨_, rfl⟩ (fun c99 => ?_) (fun c99 => ?_)
            · skip
              refine wa_return rfl ?_
              have eg : (if gk = 6 then 0 else 1 : Int) = 0 := by first | exact if_pos (by omega) | exact if_neg (by omega)
              have ep : rwP wd gk kd ec = 0 := by unfold rwP; (repeat (first | rw [if_pos (by omega)] | rw [if_neg (by omega)])); all_goals omega
              rw [eg, ep]
              exact ⟨rfl, if_pos rfl⟩
            · skip
              exact absurd c99 (by omega)
        by_cases c100 : kd = 5
        · refine wa_lw (tb := 0) (w_rg0 (by omega) (by omega)) (q := (40, 10)) (by rw [c100]; first | rfl | decide) ⟨_, rfl⟩ ?_
          refine wa_iload_n (n := 1) rfl ?_
          refine wa_ifeq (w_rg0 (by omega) (by omega)) ⟨_, rfl⟩ (fun c101 => ?_) (fun c101 => ?_)
          · skip
            exact absurd c101 (by omega)
          · skip
            refine wa_iload_n (n := 2) rfl ?_
            refine wa_bipush (w_rg2 (by omega) (by omega)) ?_
            refine wa_icmpne (w_rg0 (by omega) (by omega)) (w_rg0 (by omega) (by omega)) ⟨_, rfl⟩ (fun c102 => ?_) (fun c102 => ?_)
            · skip
              refine wa_iload_n (n := 2) rfl ?_
              refine wa_bipush (w_rg2 (by omega) (by omega)) ?_
              refine wa_icmpne (w_rg0 (by omega) (by omega)) (w_rg0 (by omega) (by omega)) ⟨_, rfl⟩ (fun c103 => ?_) (fun c103 => ?_)
              · skip
                refine wa_iconst ?_
                refine wa_goto ⟨_, rfl⟩ ?_
                refine wa_istore_n (n := 3) rfl ?_
                refine wa_goto ⟨_, rfl⟩ ?_
                refine wa_iload_n (n := 3) rfl ?_
                refine wa_ifne (w_rg0 (by omega) (by omega)) ⟨_, rfl⟩ (fun c104 => ?_) (fun c104 => ?_)
                · skip
                  exact absurd c104 (by omega)
                · skip
                  refine wa_aload_n (n := 0) rfl ?_
                  refine wb_gf5 158 rfl (wy_pr rfl) wt_158 wf_5_4 (v := 226) ((w_up_slot (by decide)).trans (l4)) (fun r105 => ?_)
                  refine wa_iconst ?_
                  refine wb_pfi 226 rfl (wy_pr rfl) wt_226 wf_8_16 (n := 16) rfl ⟨(by omega), (by omega)⟩ ?_
                  refine wa_fall ⟨_, rfl⟩ ?_
                  refine wa_return rfl ?_
                  have eg : (if gk = 6 then 0 else 1 : Int) = 0 := by first | exact if_pos (by omega) | exact if_neg (by omega)
                  have ep : rwP wd gk kd ec = 4 := by unfold rwP; (repeat (first | rw [if_pos (by omega)] | rw [if_neg (by omega)])); all_goals omega
                  rw [eg, ep]
                  exact ⟨rfl, if_neg (by first | decide | omega)⟩
              · skip
                refine wa_aload_n (n := 0) rfl ?_
                refine wb_gfi 158 rfl (wy_pr rfl) wt_158 wf_5_12 (v := ec) ((w_up_slot (by decide)).trans (l12)) (fun r106 => ?_)
                refine wa_ifne (w_rg0 (by omega) (by omega)) ⟨_, rfl⟩ (fun c107 => ?_) (fun c107 => ?_)
                · skip
                  refine wa_iconst ?_
                  refine wa_goto ⟨_, rfl⟩ ?_
                  refine wa_istore_n (n := 3) rfl ?_
                  refine wa_goto ⟨_, rfl⟩ ?_
                  refine wa_iload_n (n := 3) rfl ?_
                  refine wa_ifne (w_rg0 (by omega) (by omega)) ⟨_, rfl⟩ (fun c108 => ?_) (fun c108 => ?_)
                  · skip
                    exact absurd c108 (by omega)
                  · skip
                    refine wa_aload_n (n := 0) rfl ?_
                    refine wb_gf5 158 rfl (wy_pr rfl) wt_158 wf_5_4 (v := 226) ((w_up_slot (by decide)).trans (l4)) (fun r109 => ?_)
                    refine wa_iconst ?_
                    refine wb_pfi 226 rfl (wy_pr rfl) wt_226 wf_8_16 (n := 16) rfl ⟨(by omega), (by omega)⟩ ?_
                    refine wa_fall ⟨_, rfl⟩ ?_
                    refine wa_return rfl ?_
                    have eg : (if gk = 6 then 0 else 1 : Int) = 0 := by first | exact if_pos (by omega) | exact if_neg (by omega)
                    have ep : rwP wd gk kd ec = 4 := by unfold rwP; (repeat (first | rw [if_pos (by omega)] | rw [if_neg (by omega)])); all_goals omega
                    rw [eg, ep]
                    exact ⟨rfl, if_neg (by first | decide | omega)⟩
                · skip
                  refine wa_fall ⟨_, rfl⟩ ?_
                  refine wa_iconst ?_
                  refine wa_goto ⟨_, rfl⟩ ?_
                  refine wa_istore_n (n := 3) rfl ?_
                  refine wa_goto ⟨_, rfl⟩ ?_
                  refine wa_iload_n (n := 3) rfl ?_
                  refine wa_ifne (w_rg0 (by omega) (by omega)) ⟨_, rfl⟩ (fun c110 => ?_) (fun c110 => ?_)
                  · skip
                    refine wa_return rfl ?_
                    have eg : (if gk = 6 then 0 else 1 : Int) = 0 := by first | exact if_pos (by omega) | exact if_neg (by omega)
                    have ep : rwP wd gk kd ec = 0 := by unfold rwP; (repeat (first | rw [if_pos (by omega)] | rw [if_neg (by omega)])); all_goals omega
                    rw [eg, ep]
                    exact ⟨rfl, if_pos rfl⟩
                  · skip
                    exact absurd c110 (by omega)
            · skip
              refine wa_aload_n (n := 0) rfl ?_
              refine wb_gfi 158 rfl (wy_pr rfl) wt_158 wf_5_12 (v := ec) ((w_up_slot (by decide)).trans (l12)) (fun r111 => ?_)
              refine wa_iconst ?_
              refine wa_icmpeq (w_rg0 (by omega) (by omega)) (w_rg0 (by omega) (by omega)) ⟨_, rfl⟩ (fun c112 => ?_) (fun c112 => ?_)
              · skip
                refine wa_iconst ?_
                refine wa_goto ⟨_, rfl⟩ ?_
                refine wa_istore_n (n := 3) rfl ?_
                refine wa_goto ⟨_, rfl⟩ ?_
                refine wa_iload_n (n := 3) rfl ?_
                refine wa_ifne (w_rg0 (by omega) (by omega)) ⟨_, rfl⟩ (fun c113 => ?_) (fun c113 => ?_)
                · skip
                  refine wa_return rfl ?_
                  have eg : (if gk = 6 then 0 else 1 : Int) = 0 := by first | exact if_pos (by omega) | exact if_neg (by omega)
                  have ep : rwP wd gk kd ec = 0 := by unfold rwP; (repeat (first | rw [if_pos (by omega)] | rw [if_neg (by omega)])); all_goals omega
                  rw [eg, ep]
                  exact ⟨rfl, if_pos rfl⟩
                · skip
                  exact absurd c113 (by omega)
              · skip
                refine wa_fall ⟨_, rfl⟩ ?_
                refine wa_iload_n (n := 2) rfl ?_
                refine wa_bipush (w_rg2 (by omega) (by omega)) ?_
                refine wa_icmpne (w_rg0 (by omega) (by omega)) (w_rg0 (by omega) (by omega)) ⟨_, rfl⟩ (fun c114 => ?_) (fun c114 => ?_)
                · skip
                  refine wa_iconst ?_
                  refine wa_goto ⟨_, rfl⟩ ?_
                  refine wa_istore_n (n := 3) rfl ?_
                  refine wa_goto ⟨_, rfl⟩ ?_
                  refine wa_iload_n (n := 3) rfl ?_
                  refine wa_ifne (w_rg0 (by omega) (by omega)) ⟨_, rfl⟩ (fun c115 => ?_) (fun c115 => ?_)
                  · skip
                    exact absurd c115 (by omega)
                  · skip
                    refine wa_aload_n (n := 0) rfl ?_
                    refine wb_gf5 158 rfl (wy_pr rfl) wt_158 wf_5_4 (v := 226) ((w_up_slot (by decide)).trans (l4)) (fun r116 => ?_)
                    refine wa_iconst ?_
                    refine wb_pfi 226 rfl (wy_pr rfl) wt_226 wf_8_16 (n := 16) rfl ⟨(by omega), (by omega)⟩ ?_
                    refine wa_fall ⟨_, rfl⟩ ?_
                    refine wa_return rfl ?_
                    have eg : (if gk = 6 then 0 else 1 : Int) = 0 := by first | exact if_pos (by omega) | exact if_neg (by omega)
                    have ep : rwP wd gk kd ec = 4 := by unfold rwP; (repeat (first | rw [if_pos (by omega)] | rw [if_neg (by omega)])); all_goals omega
                    rw [eg, ep]
                    exact ⟨rfl, if_neg (by first | decide | omega)⟩
                · skip
                  exact absurd c114 (by omega)
        refine wa_lw (tb := 0) (w_rg0 (by omega) (by omega)) (q := (102, 17)) (lw_df [0, 5] rfl (by simp only [List.mem_cons, List.not_mem_nil, or_false, not_or]; omega) (by first | rfl | decide)) ⟨_, rfl⟩ ?_
        refine wa_aload_n (n := 0) rfl ?_
        refine wb_gfi 158 rfl (wy_pr rfl) wt_158 wf_5_7 (v := kd) ((w_up_slot (by decide)).trans (l7)) (fun r117 => ?_)
        refine wa_iconst ?_
        refine wa_icmpeq (w_rg0 (by omega) (by omega)) (w_rg0 (by omega) (by omega)) ⟨_, rfl⟩ (fun c118 => ?_) (fun c118 => ?_)
        · skip
          refine wa_return rfl ?_
          have eg : (if gk = 6 then 0 else 1 : Int) = 0 := by first | exact if_pos (by omega) | exact if_neg (by omega)
          have ep : rwP wd gk kd ec = 0 := by unfold rwP; (repeat (first | rw [if_pos (by omega)] | rw [if_neg (by omega)])); all_goals omega
          rw [eg, ep]
          exact ⟨rfl, if_pos rfl⟩
        · skip
          refine wa_aload_n (n := 0) rfl ?_
          refine wb_gfi 158 rfl (wy_pr rfl) wt_158 wf_5_7 (v := kd) ((w_up_slot (by decide)).trans (l7)) (fun r119 => ?_)
          refine wa_iconst ?_
          refine wa_icmpne (w_rg0 (by omega) (by omega)) (w_rg0 (by omega) (by omega)) ⟨_, rfl⟩ (fun c120 => ?_) (fun c120 => ?_)
          · skip
            refine wa_aload_n (n := 0) rfl ?_
            refine wb_gf5 158 rfl (wy_pr rfl) wt_158 wf_5_4 (v := 226) ((w_up_slot (by decide)).trans (l4)) (fun r121 => ?_)
            refine wa_iconst ?_
            refine wb_pfi 226 rfl (wy_pr rfl) wt_226 wf_8_16 (n := 16) rfl ⟨(by omega), (by omega)⟩ ?_
            refine wa_fall ⟨_, rfl⟩ ?_
            refine wa_return rfl ?_
            have eg : (if gk = 6 then 0 else 1 : Int) = 0 := by first | exact if_pos (by omega) | exact if_neg (by omega)
            have ep : rwP wd gk kd ec = 5 := by unfold rwP; (repeat (first | rw [if_pos (by omega)] | rw [if_neg (by omega)])); all_goals omega
            rw [eg, ep]
            exact ⟨rfl, if_neg (by first | decide | omega)⟩
          · skip
            refine wa_iload_n (n := 1) rfl ?_
            refine wa_ifne (w_rg0 (by omega) (by omega)) ⟨_, rfl⟩ (fun c122 => ?_) (fun c122 => ?_)
            · skip
              refine wa_return rfl ?_
              have eg : (if gk = 6 then 0 else 1 : Int) = 0 := by first | exact if_pos (by omega) | exact if_neg (by omega)
              have ep : rwP wd gk kd ec = 0 := by unfold rwP; (repeat (first | rw [if_pos (by omega)] | rw [if_neg (by omega)])); all_goals omega
              rw [eg, ep]
              exact ⟨rfl, if_pos rfl⟩
            · skip
              exact absurd c122 (by omega)
set_option maxHeartbeats 4000000 in
theorem lob0_226 {ty : Int} (hC : w_CL S) (hl : cSl S) (l4 : S 158 4 = 226) (l6 : S 158 6 = s) (l7 : S 158 7 = kd) (l9 : S 158 9 = gk) (l10 : S 158 10 = gb) (l11 : S 158 11 = nm) (l13 : S 158 13 = es) (l14 : S 158 14 = fo) (hfo : 0 ≤ fo ∧ fo < S 48 (-1)) (hgk : gk = 4 ∨ gk = 5) (hgb : 0 ≤ gb ∧ gb < 8000) (hak : 0 ≤ S 160 0 ∧ S 160 0 ≤ 1000000) (hcal : wJ (pe_GA xs) wY0 (mS ml) (d + 5) t_XL_lookAtThing ((pe_at t_XL_lookAtThing.bl 0).getD (0, [])).2 [(0, (2, 158)), (1, (0, gb))] [] (bkZ fo 0 (w_up S 160 0 (S 160 0 + 1))) (fun o Z => o = .inl none ∧ R Z)) (hR : ∀ Z : wS, R Z → ((Z 158 4 = 226 ∧ Z 158 6 = s ∧ Z 158 14 = fo) ∧ (Z 34 (-1) = 12 ∧ 0 ≤ s ∧ s < Z 45 (-1)) ∧ (Z 45 s = 0 ∨ Z 45 s = 1)) ∧ (Z 226 16 ≠ 0 ∨ Z 45 s = 1 → Q (.inl (some (0, fo))) Z) ∧ (Z 226 16 = 0 → Z 45 s = 0 → wJ (pe_GA xs) wY0 (mS ml) (d + 5) t_XL_link ((pe_at t_XL_link.bl 0).getD (0, [])).2 [(0, (2, 158))] [] Z (fun o Z2 => ∃ v : Int, o = .inl (some (0, v)) ∧ Q (.inl (some (0, v))) Z2))) (hmn : ¬ mS ml 158) (l160 : S 160 (-1) = 4) : wJ (pe_GA xs) wY0 (mS ml) (d + 6) t_XL_look ((pe_at t_XL_look.bl 6).getD (0, [])).2 [(0, (2, 158)), (1, (0, 0))] [] S Q := by
  have h35 := hl.2.1
  have h48 := hl.2.2.2
  refine wa_aload_n (n := 0) rfl ?_
  refine wb_gf4 158 rfl (wy_pr rfl) wt_158 wf_5_18 (v := 160) wl_158_18 ?_
  refine wa_iload_n (n := 1) rfl ?_
  refine wa_dup2 (by decide) (by decide) ?_
  refine wb_iald 160 rfl (wy_pr rfl) wt_160 (n := 4) (l160) (by omega) (by omega) (v := (S 160 0)) rfl (fun r101 => ?_)
  refine wa_iconst ?_
  refine wa_iadd ?_
  refine wb_iast 160 rfl (wy_pr rfl) wt_160 (n := 4) (l160) (by omega) (by omega) ⟨(by omega), (by omega)⟩ ?_
  refine wa_iconst ?_
  refine wa_istore_n (n := 2) rfl ?_
  refine wa_fall ⟨_, rfl⟩ ?_
  refine wJ_S (L2 := [(0, (2, 158)), (1, (0, 0)), (2, (0, 0))]) ?_ ⟨rfl, rfl, rfl, trivial⟩
  refine wa_iload_n (n := 2) rfl ?_
  refine wa_bipush (w_rg2 (by omega) (by omega)) ?_
  refine wa_icmpge (w_rg0 (by omega) (by omega)) (w_rg0 (by omega) (by omega)) ⟨_, rfl⟩ (fun c102 => ?_) (fun c102 => ?_)
  · skip
    exact absurd c102 (by omega)
  · skip
    refine wa_aload_n (n := 0) rfl ?_
    refine wb_gf4 158 rfl (wy_pr rfl) wt_158 wf_5_3 (v := 47) wl_158_3 ?_
    refine wa_iload_n (n := 2) rfl ?_
    refine wb_aald5 47 0 rfl rfl (wy_pr rfl) wt_47 (by rw [show _ = _ from ((w_up_slot (by decide)).trans ((cl_47 hC)))]; omega) wl_47_0 ?_
    refine wa_aload_n (n := 0) rfl ?_
    refine wb_gfi 158 rfl (wy_pr rfl) wt_158 wf_5_14 (v := fo) ((w_up_slot (by decide)).trans (l14)) (fun r103 => ?_)
    refine wa_iconst ?_
    refine wb_iast 48 rfl (wy_pr rfl) wt_48 (n := (S 48 (-1))) ((w_up_slot (by decide)).trans (rfl)) (by omega) (by omega) ⟨(by omega), (by omega)⟩ ?_
    refine wa_iinc rfl rfl ?_
    refine wa_goto ⟨_, rfl⟩ ?_
    refine wJ_S (L2 := [(0, (2, 158)), (1, (0, 0)), (2, (0, 1))]) ?_ ⟨rfl, rfl, rfl, trivial⟩
    refine wa_iload_n (n := 2) rfl ?_
    refine wa_bipush (w_rg2 (by omega) (by omega)) ?_
    refine wa_icmpge (w_rg0 (by omega) (by omega)) (w_rg0 (by omega) (by omega)) ⟨_, rfl⟩ (fun c104 => ?_) (fun c104 => ?_)
    · skip
      exact absurd c104 (by omega)
    · skip
      refine wa_aload_n (n := 0) rfl ?_
      refine wb_gf4 158 rfl (wy_pr rfl) wt_158 wf_5_3 (v := 47) wl_158_3 ?_
      refine wa_iload_n (n := 2) rfl ?_
      refine wb_aald5 47 1 rfl rfl (wy_pr rfl) wt_47 (by rw [show _ = _ from ((w_up_slot (by decide)).trans ((w_up_slot (by decide)).trans ((cl_47 hC))))]; omega) wl_47_1 ?_
      refine wa_aload_n (n := 0) rfl ?_
      refine wb_gfi 158 rfl (wy_pr rfl) wt_158 wf_5_14 (v := fo) ((w_up_slot (by decide)).trans ((w_up_slot (by decide)).trans (l14))) (fun r105 => ?_)
      refine wa_iconst ?_
      refine wb_iast 49 rfl (wy_pr rfl) wt_49 (n := (S 48 (-1))) ((w_up_slot (by decide)).trans ((w_up_slot (by decide)).trans ((hl.2.2.1 1 (by decide))))) (by omega) (by omega) ⟨(by omega), (by omega)⟩ ?_
      refine wa_iinc rfl rfl ?_
      refine wa_goto ⟨_, rfl⟩ ?_
      refine wJ_S (L2 := [(0, (2, 158)), (1, (0, 0)), (2, (0, 2))]) ?_ ⟨rfl, rfl, rfl, trivial⟩
      refine wa_iload_n (n := 2) rfl ?_
      refine wa_bipush (w_rg2 (by omega) (by omega)) ?_
      refine wa_icmpge (w_rg0 (by omega) (by omega)) (w_rg0 (by omega) (by omega)) ⟨_, rfl⟩ (fun c106 => ?_) (fun c106 => ?_)
      · skip
        exact absurd c106 (by omega)
      · skip
        refine wa_aload_n (n := 0) rfl ?_
        refine wb_gf4 158 rfl (wy_pr rfl) wt_158 wf_5_3 (v := 47) wl_158_3 ?_
        refine wa_iload_n (n := 2) rfl ?_
        refine wb_aald5 47 2 rfl rfl (wy_pr rfl) wt_47 (by rw [show _ = _ from ((w_up_slot (by decide)).trans ((w_up_slot (by decide)).trans ((w_up_slot (by decide)).trans ((cl_47 hC)))))]; omega) wl_47_2 ?_
        refine wa_aload_n (n := 0) rfl ?_
        refine wb_gfi 158 rfl (wy_pr rfl) wt_158 wf_5_14 (v := fo) ((w_up_slot (by decide)).trans ((w_up_slot (by decide)).trans ((w_up_slot (by decide)).trans (l14)))) (fun r107 => ?_)
        refine wa_iconst ?_
        refine wb_iast 50 rfl (wy_pr rfl) wt_50 (n := (S 48 (-1))) ((w_up_slot (by decide)).trans ((w_up_slot (by decide)).trans ((w_up_slot (by decide)).trans ((hl.2.2.1 2 (by decide)))))) (by omega) (by omega) ⟨(by omega), (by omega)⟩ ?_
        refine wa_iinc rfl rfl ?_
        refine wa_goto ⟨_, rfl⟩ ?_
        refine wJ_S (L2 := [(0, (2, 158)), (1, (0, 0)), (2, (0, 3))]) ?_ ⟨rfl, rfl, rfl, trivial⟩
        refine wa_iload_n (n := 2) rfl ?_
        refine wa_bipush (w_rg2 (by omega) (by omega)) ?_
        refine wa_icmpge (w_rg0 (by omega) (by omega)) (w_rg0 (by omega) (by omega)) ⟨_, rfl⟩ (fun c108 => ?_) (fun c108 => ?_)
        · skip
          exact absurd c108 (by omega)
        · skip
          refine wa_aload_n (n := 0) rfl ?_
          refine wb_gf4 158 rfl (wy_pr rfl) wt_158 wf_5_3 (v := 47) wl_158_3 ?_
          refine wa_iload_n (n := 2) rfl ?_
          refine wb_aald5 47 3 rfl rfl (wy_pr rfl) wt_47 (by rw [show _ = _ from ((w_up_slot (by decide)).trans ((w_up_slot (by decide)).trans ((w_up_slot (by decide)).trans ((w_up_slot (by decide)).trans ((cl_47 hC))))))]; omega) wl_47_3 ?_
          refine wa_aload_n (n := 0) rfl ?_
          refine wb_gfi 158 rfl (wy_pr rfl) wt_158 wf_5_14 (v := fo) ((w_up_slot (by decide)).trans ((w_up_slot (by decide)).trans ((w_up_slot (by decide)).trans ((w_up_slot (by decide)).trans (l14))))) (fun r109 => ?_)
          refine wa_iconst ?_
          refine wb_iast 51 rfl (wy_pr rfl) wt_51 (n := (S 48 (-1))) ((w_up_slot (by decide)).trans ((w_up_slot (by decide)).trans ((w_up_slot (by decide)).trans ((w_up_slot (by decide)).trans ((hl.2.2.1 3 (by decide))))))) (by omega) (by omega) ⟨(by omega), (by omega)⟩ ?_
          refine wa_iinc rfl rfl ?_
          refine wa_goto ⟨_, rfl⟩ ?_
          refine wJ_S (L2 := [(0, (2, 158)), (1, (0, 0)), (2, (0, 4))]) ?_ ⟨rfl, rfl, rfl, trivial⟩
          refine wa_iload_n (n := 2) rfl ?_
          refine wa_bipush (w_rg2 (by omega) (by omega)) ?_
          refine wa_icmpge (w_rg0 (by omega) (by omega)) (w_rg0 (by omega) (by omega)) ⟨_, rfl⟩ (fun c110 => ?_) (fun c110 => ?_)
          · skip
            exact absurd c110 (by omega)
          · skip
            refine wa_aload_n (n := 0) rfl ?_
            refine wb_gf4 158 rfl (wy_pr rfl) wt_158 wf_5_3 (v := 47) wl_158_3 ?_
            refine wa_iload_n (n := 2) rfl ?_
            refine wb_aald5 47 4 rfl rfl (wy_pr rfl) wt_47 (by rw [show _ = _ from ((w_up_slot (by decide)).trans ((w_up_slot (by decide)).trans ((w_up_slot (by decide)).trans ((w_up_slot (by decide)).trans ((w_up_slot (by decide)).trans ((cl_47 hC)))))))]; omega) wl_47_4 ?_
            refine wa_aload_n (n := 0) rfl ?_
            refine wb_gfi 158 rfl (wy_pr rfl) wt_158 wf_5_14 (v := fo) ((w_up_slot (by decide)).trans ((w_up_slot (by decide)).trans ((w_up_slot (by decide)).trans ((w_up_slot (by decide)).trans ((w_up_slot (by decide)).trans (l14)))))) (fun r111 => ?_)
            refine wa_iconst ?_
            refine wb_iast 52 rfl (wy_pr rfl) wt_52 (n := (S 48 (-1))) ((w_up_slot (by decide)).trans ((w_up_slot (by decide)).trans ((w_up_slot (by decide)).trans ((w_up_slot (by decide)).trans ((w_up_slot (by decide)).trans ((hl.2.2.1 4 (by decide)))))))) (by omega) (by omega) ⟨(by omega), (by omega)⟩ ?_
            refine wa_iinc rfl rfl ?_
            refine wa_goto ⟨_, rfl⟩ ?_
            refine wJ_S (L2 := [(0, (2, 158)), (1, (0, 0)), (2, (0, 5))]) ?_ ⟨rfl, rfl, rfl, trivial⟩
            refine wa_iload_n (n := 2) rfl ?_
            refine wa_bipush (w_rg2 (by omega) (by omega)) ?_
            refine wa_icmpge (w_rg0 (by omega) (by omega)) (w_rg0 (by omega) (by omega)) ⟨_, rfl⟩ (fun c112 => ?_) (fun c112 => ?_)
            · skip
              exact absurd c112 (by omega)
            · skip
              refine wa_aload_n (n := 0) rfl ?_
              refine wb_gf4 158 rfl (wy_pr rfl) wt_158 wf_5_3 (v := 47) wl_158_3 ?_
              refine wa_iload_n (n := 2) rfl ?_
              refine wb_aald5 47 5 rfl rfl (wy_pr rfl) wt_47 (by rw [show _ = _ from ((w_up_slot (by decide)).trans ((w_up_slot (by decide)).trans ((w_up_slot (by decide)).trans ((w_up_slot (by decide)).trans ((w_up_slot (by decide)).trans ((w_up_slot (by decide)).trans ((cl_47 hC))))))))]; omega) wl_47_5 ?_
              refine wa_aload_n (n := 0) rfl ?_
              refine wb_gfi 158 rfl (wy_pr rfl) wt_158 wf_5_14 (v := fo) ((w_up_slot (by decide)).trans ((w_up_slot (by decide)).trans ((w_up_slot (by decide)).trans ((w_up_slot (by decide)).trans ((w_up_slot (by decide)).trans ((w_up_slot (by decide)).trans (l14))))))) (fun r113 => ?_)
              refine wa_iconst ?_
              refine wb_iast 53 rfl (wy_pr rfl) wt_53 (n := (S 48 (-1))) ((w_up_slot (by decide)).trans ((w_up_slot (by decide)).trans ((w_up_slot (by decide)).trans ((w_up_slot (by decide)).trans ((w_up_slot (by decide)).trans ((w_up_slot (by decide)).trans ((hl.2.2.1 5 (by decide))))))))) (by omega) (by omega) ⟨(by omega), (by omega)⟩ ?_
              refine wa_iinc rfl rfl ?_
              refine wa_goto ⟨_, rfl⟩ ?_
              refine wJ_S (L2 := [(0, (2, 158)), (1, (0, 0)), (2, (0, 6))]) ?_ ⟨rfl, rfl, rfl, trivial⟩
              refine wa_iload_n (n := 2) rfl ?_
              refine wa_bipush (w_rg2 (by omega) (by omega)) ?_
              refine wa_icmpge (w_rg0 (by omega) (by omega)) (w_rg0 (by omega) (by omega)) ⟨_, rfl⟩ (fun c114 => ?_) (fun c114 => ?_)
              · skip
                exact absurd c114 (by omega)
              · skip
                refine wa_aload_n (n := 0) rfl ?_
                refine wb_gf4 158 rfl (wy_pr rfl) wt_158 wf_5_3 (v := 47) wl_158_3 ?_
                refine wa_iload_n (n := 2) rfl ?_
                refine wb_aald5 47 6 rfl rfl (wy_pr rfl) wt_47 (by rw [show _ = _ from ((w_up_slot (by decide)).trans ((w_up_slot (by decide)).trans ((w_up_slot (by decide)).trans ((w_up_slot (by decide)).trans ((w_up_slot (by decide)).trans ((w_up_slot (by decide)).trans ((w_up_slot (by decide)).trans ((cl_47 hC)))))))))]; omega) wl_47_6 ?_
                refine wa_aload_n (n := 0) rfl ?_
                refine wb_gfi 158 rfl (wy_pr rfl) wt_158 wf_5_14 (v := fo) ((w_up_slot (by decide)).trans ((w_up_slot (by decide)).trans ((w_up_slot (by decide)).trans ((w_up_slot (by decide)).trans ((w_up_slot (by decide)).trans ((w_up_slot (by decide)).trans ((w_up_slot (by decide)).trans (l14)))))))) (fun r115 => ?_)
                refine wa_iconst ?_
                refine wb_iast 54 rfl (wy_pr rfl) wt_54 (n := (S 48 (-1))) ((w_up_slot (by decide)).trans ((w_up_slot (by decide)).trans ((w_up_slot (by decide)).trans ((w_up_slot (by decide)).trans ((w_up_slot (by decide)).trans ((w_up_slot (by decide)).trans ((w_up_slot (by decide)).trans ((hl.2.2.1 6 (by decide)))))))))) (by omega) (by omega) ⟨(by omega), (by omega)⟩ ?_
                refine wa_iinc rfl rfl ?_
                refine wa_goto ⟨_, rfl⟩ ?_
                refine wJ_S (L2 := [(0, (2, 158)), (1, (0, 0)), (2, (0, 7))]) ?_ ⟨rfl, rfl, rfl, trivial⟩
                refine wa_iload_n (n := 2) rfl ?_
                refine wa_bipush (w_rg2 (by omega) (by omega)) ?_
                refine wa_icmpge (w_rg0 (by omega) (by omega)) (w_rg0 (by omega) (by omega)) ⟨_, rfl⟩ (fun c116 => ?_) (fun c116 => ?_)
                · skip
                  exact absurd c116 (by omega)
                · skip
                  refine wa_aload_n (n := 0) rfl ?_
                  refine wb_gf4 158 rfl (wy_pr rfl) wt_158 wf_5_3 (v := 47) wl_158_3 ?_
                  refine wa_iload_n (n := 2) rfl ?_
                  refine wb_aald5 47 7 rfl rfl (wy_pr rfl) wt_47 (by rw [show _ = _ from ((w_up_slot (by decide)).trans ((w_up_slot (by decide)).trans ((w_up_slot (by decide)).trans ((w_up_slot (by decide)).trans ((w_up_slot (by decide)).trans ((w_up_slot (by decide)).trans ((w_up_slot (by decide)).trans ((w_up_slot (by decide)).trans ((cl_47 hC))))))))))]; omega) wl_47_7 ?_
                  refine wa_aload_n (n := 0) rfl ?_
                  refine wb_gfi 158 rfl (wy_pr rfl) wt_158 wf_5_14 (v := fo) ((w_up_slot (by decide)).trans ((w_up_slot (by decide)).trans ((w_up_slot (by decide)).trans ((w_up_slot (by decide)).trans ((w_up_slot (by decide)).trans ((w_up_slot (by decide)).trans ((w_up_slot (by decide)).trans ((w_up_slot (by decide)).trans (l14))))))))) (fun r117 => ?_)
                  refine wa_iconst ?_
                  refine wb_iast 55 rfl (wy_pr rfl) wt_55 (n := (S 48 (-1))) ((w_up_slot (by decide)).trans ((w_up_slot (by decide)).trans ((w_up_slot (by decide)).trans ((w_up_slot (by decide)).trans ((w_up_slot (by decide)).trans ((w_up_slot (by decide)).trans ((w_up_slot (by decide)).trans ((w_up_slot (by decide)).trans ((hl.2.2.1 7 (by decide))))))))))) (by omega) (by omega) ⟨(by omega), (by omega)⟩ ?_
                  refine wa_iinc rfl rfl ?_
                  refine wa_goto ⟨_, rfl⟩ ?_
                  refine wJ_S (L2 := [(0, (2, 158)), (1, (0, 0)), (2, (0, 8))]) ?_ ⟨rfl, rfl, rfl, trivial⟩
                  refine wa_iload_n (n := 2) rfl ?_
                  refine wa_bipush (w_rg2 (by omega) (by omega)) ?_
                  refine wa_icmpge (w_rg0 (by omega) (by omega)) (w_rg0 (by omega) (by omega)) ⟨_, rfl⟩ (fun c118 => ?_) (fun c118 => ?_)
                  · skip
                    exact absurd c118 (by omega)
                  · skip
                    refine wa_aload_n (n := 0) rfl ?_
                    refine wb_gf4 158 rfl (wy_pr rfl) wt_158 wf_5_3 (v := 47) wl_158_3 ?_
                    refine wa_iload_n (n := 2) rfl ?_
                    refine wb_aald5 47 8 rfl rfl (wy_pr rfl) wt_47 (by rw [show _ = _ from ((w_up_slot (by decide)).trans ((w_up_slot (by decide)).trans ((w_up_slot (by decide)).trans ((w_up_slot (by decide)).trans ((w_up_slot (by decide)).trans ((w_up_slot (by decide)).trans ((w_up_slot (by decide)).trans ((w_up_slot (by decide)).trans ((w_up_slot (by decide)).trans ((cl_47 hC)))))))))))]; omega) wl_47_8 ?_
                    refine wa_aload_n (n := 0) rfl ?_
                    refine wb_gfi 158 rfl (wy_pr rfl) wt_158 wf_5_14 (v := fo) ((w_up_slot (by decide)).trans ((w_up_slot (by decide)).trans ((w_up_slot (by decide)).trans ((w_up_slot (by decide)).trans ((w_up_slot (by decide)).trans ((w_up_slot (by decide)).trans ((w_up_slot (by decide)).trans ((w_up_slot (by decide)).trans ((w_up_slot (by decide)).trans (l14)))))))))) (fun r119 => ?_)
                    refine wa_iconst ?_
                    refine wb_iast 56 rfl (wy_pr rfl) wt_56 (n := (S 48 (-1))) ((w_up_slot (by decide)).trans ((w_up_slot (by decide)).trans ((w_up_slot (by decide)).trans ((w_up_slot (by decide)).trans ((w_up_slot (by decide)).trans ((w_up_slot (by decide)).trans ((w_up_slot (by decide)).trans ((w_up_slot (by decide)).trans ((w_up_slot (by decide)).trans ((hl.2.2.1 8 (by decide)))))))))))) (by omega) (by omega) ⟨(by omega), (by omega)⟩ ?_
                    refine wa_iinc rfl rfl ?_
                    refine wa_goto ⟨_, rfl⟩ ?_
                    refine wJ_S (L2 := [(0, (2, 158)), (1, (0, 0)), (2, (0, 9))]) ?_ ⟨rfl, rfl, rfl, trivial⟩
                    refine wa_iload_n (n := 2) rfl ?_
                    refine wa_bipush (w_rg2 (by omega) (by omega)) ?_
                    refine wa_icmpge (w_rg0 (by omega) (by omega)) (w_rg0 (by omega) (by omega)) ⟨_, rfl⟩ (fun c120 => ?_) (fun c120 => ?_)
                    · skip
                      exact absurd c120 (by omega)
                    · skip
                      refine wa_aload_n (n := 0) rfl ?_
                      refine wb_gf4 158 rfl (wy_pr rfl) wt_158 wf_5_3 (v := 47) wl_158_3 ?_
                      refine wa_iload_n (n := 2) rfl ?_
                      refine wb_aald5 47 9 rfl rfl (wy_pr rfl) wt_47 (by rw [show _ = _ from ((w_up_slot (by decide)).trans ((w_up_slot (by decide)).trans ((w_up_slot (by decide)).trans ((w_up_slot (by decide)).trans ((w_up_slot (by decide)).trans ((w_up_slot (by decide)).trans ((w_up_slot (by decide)).trans ((w_up_slot (by decide)).trans ((w_up_slot (by decide)).trans ((w_up_slot (by decide)).trans ((cl_47 hC))))))))))))]; omega) wl_47_9 ?_
                      refine wa_aload_n (n := 0) rfl ?_
                      refine wb_gfi 158 rfl (wy_pr rfl) wt_158 wf_5_14 (v := fo) ((w_up_slot (by decide)).trans ((w_up_slot (by decide)).trans ((w_up_slot (by decide)).trans ((w_up_slot (by decide)).trans ((w_up_slot (by decide)).trans ((w_up_slot (by decide)).trans ((w_up_slot (by decide)).trans ((w_up_slot (by decide)).trans ((w_up_slot (by decide)).trans ((w_up_slot (by decide)).trans (l14))))))))))) (fun r121 => ?_)
                      refine wa_iconst ?_
                      refine wb_iast 57 rfl (wy_pr rfl) wt_57 (n := (S 48 (-1))) ((w_up_slot (by decide)).trans ((w_up_slot (by decide)).trans ((w_up_slot (by decide)).trans ((w_up_slot (by decide)).trans ((w_up_slot (by decide)).trans ((w_up_slot (by decide)).trans ((w_up_slot (by decide)).trans ((w_up_slot (by decide)).trans ((w_up_slot (by decide)).trans ((w_up_slot (by decide)).trans ((hl.2.2.1 9 (by decide))))))))))))) (by omega) (by omega) ⟨(by omega), (by omega)⟩ ?_
                      refine wa_iinc rfl rfl ?_
                      refine wa_goto ⟨_, rfl⟩ ?_
                      refine wJ_S (L2 := [(0, (2, 158)), (1, (0, 0)), (2, (0, 10))]) ?_ ⟨rfl, rfl, rfl, trivial⟩
                      refine wa_iload_n (n := 2) rfl ?_
                      refine wa_bipush (w_rg2 (by omega) (by omega)) ?_
                      refine wa_icmpge (w_rg0 (by omega) (by omega)) (w_rg0 (by omega) (by omega)) ⟨_, rfl⟩ (fun c122 => ?_) (fun c122 => ?_)
                      · skip
                        refine wa_aload_n (n := 0) rfl ?_
                        refine wb_gf4 158 rfl (wy_pr rfl) wt_158 wf_5_3 (v := 47) wl_158_3 ?_
                        refine wa_iconst ?_
                        refine wb_aald5 47 0 rfl rfl (wy_pr rfl) wt_47 (by rw [show _ = _ from ((w_up_slot (by decide)).trans ((w_up_slot (by decide)).trans ((w_up_slot (by decide)).trans ((w_up_slot (by decide)).trans ((w_up_slot (by decide)).trans ((w_up_slot (by decide)).trans ((w_up_slot (by decide)).trans ((w_up_slot (by decide)).trans ((w_up_slot (by decide)).trans ((w_up_slot (by decide)).trans ((w_up_slot (by decide)).trans ((cl_47 hC)))))))))))))]; omega) wl_47_0 ?_
                        refine wa_aload_n (n := 0) rfl ?_
                        refine wb_gfi 158 rfl (wy_pr rfl) wt_158 wf_5_14 (v := fo) ((w_up_slot (by decide)).trans ((w_up_slot (by decide)).trans ((w_up_slot (by decide)).trans ((w_up_slot (by decide)).trans ((w_up_slot (by decide)).trans ((w_up_slot (by decide)).trans ((w_up_slot (by decide)).trans ((w_up_slot (by decide)).trans ((w_up_slot (by decide)).trans ((w_up_slot (by decide)).trans ((w_up_slot (by decide)).trans (l14)))))))))))) (fun r123 => ?_)
                        refine wa_iload_n (n := 1) rfl ?_
                        refine wb_iast 48 rfl (wy_pr rfl) wt_48 (n := (S 48 (-1))) ((w_up_slot (by decide)).trans ((w_up_slot (by decide)).trans ((w_up_slot (by decide)).trans ((w_up_slot (by decide)).trans ((w_up_slot (by decide)).trans ((w_up_slot (by decide)).trans ((w_up_slot (by decide)).trans ((w_up_slot (by decide)).trans ((w_up_slot (by decide)).trans ((w_up_at (by omega)).trans ((w_up_slot (by decide)).trans (rfl)))))))))))) (by omega) (by omega) ⟨(by omega), (by omega)⟩ ?_
                        refine wa_iload_n (n := 1) rfl ?_
                        refine wa_ifne (w_rg0 (by omega) (by omega)) ⟨_, rfl⟩ (fun c124 => ?_) (fun c124 => ?_)
                        · skip
                          exact absurd c124 (by omega)
                        · skip
                          refine wa_aload_n (n := 0) rfl ?_
                          refine wa_aload_n (n := 0) rfl ?_
                          refine wb_gfl 158 rfl (wy_pr rfl) wt_158 wf_5_10 (v := gb) ((w_up_slot (by decide)).trans ((w_up_slot (by decide)).trans ((w_up_slot (by decide)).trans ((w_up_slot (by decide)).trans ((w_up_slot (by decide)).trans ((w_up_slot (by decide)).trans ((w_up_slot (by decide)).trans ((w_up_slot (by decide)).trans ((w_up_slot (by decide)).trans ((w_up_slot (by decide)).trans ((w_up_slot (by decide)).trans ((w_up_slot (by decide)).trans (l10))))))))))))) (fun r125 => ?_)
                          refine wb_l2i_r (wb_l2i_id ⟨(by omega), (by omega)⟩) ?_
                          have eb : (w_up (w_up (w_up (w_up (w_up (w_up (w_up (w_up (w_up (w_up (w_up (w_up S 160 0 ((S 160 0) + 1)) 48 fo (-1)) 49 fo (-1)) 50 fo (-1)) 51 fo (-1)) 52 fo (-1)) 53 fo (-1)) 54 fo (-1)) 55 fo (-1)) 56 fo (-1)) 57 fo (-1)) 48 fo 0) = bkZ fo 0 (w_up S 160 0 (S 160 0 + 1)) := rfl
                          rw [eb]
                          refine wa_cv 158 rfl (wy_pr rfl) wt_158 (M2 := mS ml) rfl at_XL_lookAtThing ⟨_, rfl⟩ rfl rfl ⟨(Or.inr ⟨wy_pr rfl, hmn⟩), trivial, trivial, trivial⟩ trivial (fun _ _ q => q) (hcal) (fun oq126 Sq126 hp127 q126 => ?_)
                          rcases q126 with ⟨rfl, hz⟩
                          show wJ _ _ _ _ _ _ _ _ _ _
                          obtain ⟨⟨hz4, hz34, hz45⟩, hzq, hzk⟩ := hR _ hz
                          have hz34b := hz34.2
                          refine wa_goto ⟨_, rfl⟩ ?_
                          refine wa_aload_n (n := 0) rfl ?_
                          refine wb_gf5 158 rfl (wy_pr rfl) wt_158 wf_5_4 (v := 226) (hz4.1) (fun r128 => ?_)
                          refine wb_gfi 226 rfl (wy_pr rfl) wt_226 wf_8_16 (v := (Sq126 226 16)) rfl (fun r129 => ?_)
                          refine wa_ifne (w_rg0 (by omega) (by omega)) ⟨_, rfl⟩ (fun c130 => ?_) (fun c130 => ?_)
                          · skip
                            refine wa_aload_n (n := 0) rfl ?_
                            refine wb_gfi 158 rfl (wy_pr rfl) wt_158 wf_5_14 (v := fo) (hz4.2.2) (fun r131 => ?_)
                            refine wa_fall ⟨_, rfl⟩ ?_
                            refine wa_ireturn rfl ?_
                            exact hzq (by omega)
                          · skip
                            refine wa_aload_n (n := 0) rfl ?_
                            refine wb_gf4 158 rfl (wy_pr rfl) wt_158 wf_5_2 (v := 34) wl_158_2 ?_
                            refine wa_bipush (w_rg2 (by omega) (by omega)) ?_
                            refine wb_aald5 34 10 rfl rfl (wy_pr rfl) wt_34 (by rw [show _ = _ from (hz34.1)]; omega) wl_34_10 ?_
                            refine wa_aload_n (n := 0) rfl ?_
                            refine wb_gfi 158 rfl (wy_pr rfl) wt_158 wf_5_6 (v := s) (hz4.2.1) (fun r132 => ?_)
                            refine wb_iald 45 rfl (wy_pr rfl) wt_45 (n := (Sq126 45 (-1))) (rfl) (by omega) (by omega) (v := (Sq126 45 s)) rfl (fun r133 => ?_)
                            refine wa_ifne (w_rg0 (by omega) (by omega)) ⟨_, rfl⟩ (fun c134 => ?_) (fun c134 => ?_)
                            · skip
                              refine wa_aload_n (n := 0) rfl ?_
                              refine wb_gfi 158 rfl (wy_pr rfl) wt_158 wf_5_14 (v := fo) (hz4.2.2) (fun r135 => ?_)
                              refine wa_fall ⟨_, rfl⟩ ?_
                              refine wa_ireturn rfl ?_
                              exact hzq (by omega)
                            · skip
                              refine wa_aload_n (n := 0) rfl ?_
                              refine wa_cv 158 rfl (wy_pr rfl) wt_158 (M2 := mS ml) rfl at_XL_link ⟨_, rfl⟩ rfl rfl ⟨(Or.inr ⟨wy_pr rfl, hmn⟩), trivial, trivial, trivial⟩ trivial (fun _ _ q => q) (hzk (by omega) (by omega)) (fun oq136 Sq136 hp137 q136 => ?_)
                              rcases q136 with ⟨lv, rfl, hqv⟩
                              show wJ _ _ _ _ _ _ _ _ _ _
                              refine wa_goto ⟨_, rfl⟩ ?_
                              refine wa_ireturn rfl ?_
                              exact hqv
                      · skip
                        exact absurd c122 (by omega)
theorem lok0_226 {ty : Int} (hC : w_CL S) (hl : cSl S) (l4 : S 158 4 = 226) (l6 : S 158 6 = s) (l7 : S 158 7 = kd) (l9 : S 158 9 = gk) (l10 : S 158 10 = gb) (l11 : S 158 11 = nm) (l13 : S 158 13 = es) (l14 : S 158 14 = fo) (hfo : 0 ≤ fo ∧ fo < S 48 (-1)) (hgk : gk = 4 ∨ gk = 5) (hgb : 0 ≤ gb ∧ gb < 8000) (hak : 0 ≤ S 160 0 ∧ S 160 0 ≤ 1000000) (hcal : wJ (pe_GA xs) wY0 (mS ml) (d + 5) t_XL_lookAtThing ((pe_at t_XL_lookAtThing.bl 0).getD (0, [])).2 [(0, (2, 158)), (1, (0, gb))] [] (bkZ fo 0 (w_up S 160 0 (S 160 0 + 1))) (fun o Z => o = .inl none ∧ R Z)) (hR : ∀ Z : wS, R Z → ((Z 158 4 = 226 ∧ Z 158 6 = s ∧ Z 158 14 = fo) ∧ (Z 34 (-1) = 12 ∧ 0 ≤ s ∧ s < Z 45 (-1)) ∧ (Z 45 s = 0 ∨ Z 45 s = 1)) ∧ (Z 226 16 ≠ 0 ∨ Z 45 s = 1 → Q (.inl (some (0, fo))) Z) ∧ (Z 226 16 = 0 → Z 45 s = 0 → wJ (pe_GA xs) wY0 (mS ml) (d + 5) t_XL_link ((pe_at t_XL_link.bl 0).getD (0, [])).2 [(0, (2, 158))] [] Z (fun o Z2 => ∃ v : Int, o = .inl (some (0, v)) ∧ Q (.inl (some (0, v))) Z2))) (hmn : ¬ mS ml 158) (l160 : S 160 (-1) = 4) : wJ (pe_GA xs) wY0 (mS ml) (d + 6) t_XL_look ((pe_at t_XL_look.bl 0).getD (0, [])).2 [(0, (2, 158))] [] S Q := by
  have h35 := hl.2.1
  have h48 := hl.2.2.2
  refine wa_aload_n (n := 0) rfl ?_
  refine wb_gfi 158 rfl (wy_pr rfl) wt_158 wf_5_9 (v := gk) (l9) (fun r901 => ?_)
  by_cases c902 : gk = 3
  · exact absurd c902 (by omega)
  by_cases c903 : gk = 4
  · refine wb_sw (w_rg0 (by omega) (by omega)) (tb := 1) (by rw [c903]; rfl) ⟨_, rfl⟩ ?_
    refine wa_iconst ?_
    refine wa_istore_n (n := 1) rfl ?_
    refine wa_goto ⟨_, rfl⟩ ?_
    exact wJ_S (lob0_226 (ty := 0) hC hl l4 l6 l7 l9 l10 l11 l13 l14 hfo hgk hgb hak hcal hR hmn l160) ⟨rfl, rfl, trivial⟩
  by_cases c904 : gk = 5
  · refine wb_sw (w_rg0 (by omega) (by omega)) (tb := 1) (by rw [c904]; rfl) ⟨_, rfl⟩ ?_
    refine wa_iconst ?_
    refine wa_istore_n (n := 1) rfl ?_
    refine wa_goto ⟨_, rfl⟩ ?_
    exact wJ_S (lob0_226 (ty := 0) hC hl l4 l6 l7 l9 l10 l11 l13 l14 hfo hgk hgb hak hcal hR hmn l160) ⟨rfl, rfl, trivial⟩
  exfalso; omega
set_option maxHeartbeats 4000000 in
theorem lob3_226 {ty : Int} (hC : w_CL S) (hl : cSl S) (l4 : S 158 4 = 226) (l6 : S 158 6 = s) (l7 : S 158 7 = kd) (l9 : S 158 9 = gk) (l10 : S 158 10 = gb) (l11 : S 158 11 = nm) (l13 : S 158 13 = es) (l14 : S 158 14 = fo) (hfo : 0 ≤ fo ∧ fo < S 48 (-1)) (hgk : gk = 3 ∨ gk = 6) (hak : 0 ≤ S 160 3 ∧ S 160 3 ≤ 1000000) (hcal : wJ (pe_GA xs) wY0 (mS ml) (d + 5) t_XL_lookAtRow ((pe_at t_XL_lookAtRow.bl 0).getD (0, [])).2 [(0, (2, 158))] [] (bkZ fo 3 (w_up S 160 3 (S 160 3 + 1))) (fun o Z => o = .inl none ∧ R Z)) (hR : ∀ Z : wS, R Z → ((Z 158 4 = 226 ∧ Z 158 6 = s ∧ Z 158 14 = fo) ∧ (Z 34 (-1) = 12 ∧ 0 ≤ s ∧ s < Z 45 (-1)) ∧ (Z 45 s = 0 ∨ Z 45 s = 1)) ∧ (Z 226 16 ≠ 0 ∨ Z 45 s = 1 → Q (.inl (some (0, fo))) Z) ∧ (Z 226 16 = 0 → Z 45 s = 0 → wJ (pe_GA xs) wY0 (mS ml) (d + 5) t_XL_link ((pe_at t_XL_link.bl 0).getD (0, [])).2 [(0, (2, 158))] [] Z (fun o Z2 => ∃ v : Int, o = .inl (some (0, v)) ∧ Q (.inl (some (0, v))) Z2))) (hmn : ¬ mS ml 158) (l160 : S 160 (-1) = 4) : wJ (pe_GA xs) wY0 (mS ml) (d + 6) t_XL_look ((pe_at t_XL_look.bl 6).getD (0, [])).2 [(0, (2, 158)), (1, (0, 3))] [] S Q := by
  have h35 := hl.2.1
  have h48 := hl.2.2.2
  refine wa_aload_n (n := 0) rfl ?_
  refine wb_gf4 158 rfl (wy_pr rfl) wt_158 wf_5_18 (v := 160) wl_158_18 ?_
  refine wa_iload_n (n := 1) rfl ?_
  refine wa_dup2 (by decide) (by decide) ?_
  refine wb_iald 160 rfl (wy_pr rfl) wt_160 (n := 4) (l160) (by omega) (by omega) (v := (S 160 3)) rfl (fun r101 => ?_)
  refine wa_iconst ?_
  refine wa_iadd ?_
  refine wb_iast 160 rfl (wy_pr rfl) wt_160 (n := 4) (l160) (by omega) (by omega) ⟨(by omega), (by omega)⟩ ?_
  refine wa_iconst ?_
  refine wa_istore_n (n := 2) rfl ?_
  refine wa_fall ⟨_, rfl⟩ ?_
  refine wJ_S (L2 := [(0, (2, 158)), (1, (0, 3)), (2, (0, 0))]) ?_ ⟨rfl, rfl, rfl, trivial⟩
  refine wa_iload_n (n := 2) rfl ?_
  refine wa_bipush (w_rg2 (by omega) (by omega)) ?_
  refine wa_icmpge (w_rg0 (by omega) (by omega)) (w_rg0 (by omega) (by omega)) ⟨_, rfl⟩ (fun c102 => ?_) (fun c102 => ?_)
  · skip
    exact absurd c102 (by omega)
  · skip
    refine wa_aload_n (n := 0) rfl ?_
    refine wb_gf4 158 rfl (wy_pr rfl) wt_158 wf_5_3 (v := 47) wl_158_3 ?_
    refine wa_iload_n (n := 2) rfl ?_
    refine wb_aald5 47 0 rfl rfl (wy_pr rfl) wt_47 (by rw [show _ = _ from ((w_up_slot (by decide)).trans ((cl_47 hC)))]; omega) wl_47_0 ?_
    refine wa_aload_n (n := 0) rfl ?_
    refine wb_gfi 158 rfl (wy_pr rfl) wt_158 wf_5_14 (v := fo) ((w_up_slot (by decide)).trans (l14)) (fun r103 => ?_)
    refine wa_iconst ?_
    refine wb_iast 48 rfl (wy_pr rfl) wt_48 (n := (S 48 (-1))) ((w_up_slot (by decide)).trans (rfl)) (by omega) (by omega) ⟨(by omega), (by omega)⟩ ?_
    refine wa_iinc rfl rfl ?_
    refine wa_goto ⟨_, rfl⟩ ?_
    refine wJ_S (L2 := [(0, (2, 158)), (1, (0, 3)), (2, (0, 1))]) ?_ ⟨rfl, rfl, rfl, trivial⟩
    refine wa_iload_n (n := 2) rfl ?_
    refine wa_bipush (w_rg2 (by omega) (by omega)) ?_
    refine wa_icmpge (w_rg0 (by omega) (by omega)) (w_rg0 (by omega) (by omega)) ⟨_, rfl⟩ (fun c104 => ?_) (fun c104 => ?_)
    · skip
      exact absurd c104 (by omega)
    · skip
      refine wa_aload_n (n := 0) rfl ?_
      refine wb_gf4 158 rfl (wy_pr rfl) wt_158 wf_5_3 (v := 47) wl_158_3 ?_
      refine wa_iload_n (n := 2) rfl ?_
      refine wb_aald5 47 1 rfl rfl (wy_pr rfl) wt_47 (by rw [show _ = _ from ((w_up_slot (by decide)).trans ((w_up_slot (by decide)).trans ((cl_47 hC))))]; omega) wl_47_1 ?_
      refine wa_aload_n (n := 0) rfl ?_
      refine wb_gfi 158 rfl (wy_pr rfl) wt_158 wf_5_14 (v := fo) ((w_up_slot (by decide)).trans ((w_up_slot (by decide)).trans (l14))) (fun r105 => ?_)
      refine wa_iconst ?_
      refine wb_iast 49 rfl (wy_pr rfl) wt_49 (n := (S 48 (-1))) ((w_up_slot (by decide)).trans ((w_up_slot (by decide)).trans ((hl.2.2.1 1 (by decide))))) (by omega) (by omega) ⟨(by omega), (by omega)⟩ ?_
      refine wa_iinc rfl rfl ?_
      refine wa_goto ⟨_, rfl⟩ ?_
      refine wJ_S (L2 := [(0, (2, 158)), (1, (0, 3)), (2, (0, 2))]) ?_ ⟨rfl, rfl, rfl, trivial⟩
      refine wa_iload_n (n := 2) rfl ?_
      refine wa_bipush (w_rg2 (by omega) (by omega)) ?_
      refine wa_icmpge (w_rg0 (by omega) (by omega)) (w_rg0 (by omega) (by omega)) ⟨_, rfl⟩ (fun c106 => ?_) (fun c106 => ?_)
      · skip
        exact absurd c106 (by omega)
      · skip
        refine wa_aload_n (n := 0) rfl ?_
        refine wb_gf4 158 rfl (wy_pr rfl) wt_158 wf_5_3 (v := 47) wl_158_3 ?_
        refine wa_iload_n (n := 2) rfl ?_
        refine wb_aald5 47 2 rfl rfl (wy_pr rfl) wt_47 (by rw [show _ = _ from ((w_up_slot (by decide)).trans ((w_up_slot (by decide)).trans ((w_up_slot (by decide)).trans ((cl_47 hC)))))]; omega) wl_47_2 ?_
        refine wa_aload_n (n := 0) rfl ?_
        refine wb_gfi 158 rfl (wy_pr rfl) wt_158 wf_5_14 (v := fo) ((w_up_slot (by decide)).trans ((w_up_slot (by decide)).trans ((w_up_slot (by decide)).trans (l14)))) (fun r107 => ?_)
        refine wa_iconst ?_
        refine wb_iast 50 rfl (wy_pr rfl) wt_50 (n := (S 48 (-1))) ((w_up_slot (by decide)).trans ((w_up_slot (by decide)).trans ((w_up_slot (by decide)).trans ((hl.2.2.1 2 (by decide)))))) (by omega) (by omega) ⟨(by omega), (by omega)⟩ ?_
        refine wa_iinc rfl rfl ?_
        refine wa_goto ⟨_, rfl⟩ ?_
        refine wJ_S (L2 := [(0, (2, 158)), (1, (0, 3)), (2, (0, 3))]) ?_ ⟨rfl, rfl, rfl, trivial⟩
        refine wa_iload_n (n := 2) rfl ?_
        refine wa_bipush (w_rg2 (by omega) (by omega)) ?_
        refine wa_icmpge (w_rg0 (by omega) (by omega)) (w_rg0 (by omega) (by omega)) ⟨_, rfl⟩ (fun c108 => ?_) (fun c108 => ?_)
        · skip
          exact absurd c108 (by omega)
        · skip
          refine wa_aload_n (n := 0) rfl ?_
          refine wb_gf4 158 rfl (wy_pr rfl) wt_158 wf_5_3 (v := 47) wl_158_3 ?_
          refine wa_iload_n (n := 2) rfl ?_
          refine wb_aald5 47 3 rfl rfl (wy_pr rfl) wt_47 (by rw [show _ = _ from ((w_up_slot (by decide)).trans ((w_up_slot (by decide)).trans ((w_up_slot (by decide)).trans ((w_up_slot (by decide)).trans ((cl_47 hC))))))]; omega) wl_47_3 ?_
          refine wa_aload_n (n := 0) rfl ?_
          refine wb_gfi 158 rfl (wy_pr rfl) wt_158 wf_5_14 (v := fo) ((w_up_slot (by decide)).trans ((w_up_slot (by decide)).trans ((w_up_slot (by decide)).trans ((w_up_slot (by decide)).trans (l14))))) (fun r109 => ?_)
          refine wa_iconst ?_
          refine wb_iast 51 rfl (wy_pr rfl) wt_51 (n := (S 48 (-1))) ((w_up_slot (by decide)).trans ((w_up_slot (by decide)).trans ((w_up_slot (by decide)).trans ((w_up_slot (by decide)).trans ((hl.2.2.1 3 (by decide))))))) (by omega) (by omega) ⟨(by omega), (by omega)⟩ ?_
          refine wa_iinc rfl rfl ?_
          refine wa_goto ⟨_, rfl⟩ ?_
          refine wJ_S (L2 := [(0, (2, 158)), (1, (0, 3)), (2, (0, 4))]) ?_ ⟨rfl, rfl, rfl, trivial⟩
          refine wa_iload_n (n := 2) rfl ?_
          refine wa_bipush (w_rg2 (by omega) (by omega)) ?_
          refine wa_icmpge (w_rg0 (by omega) (by omega)) (w_rg0 (by omega) (by omega)) ⟨_, rfl⟩ (fun c110 => ?_) (fun c110 => ?_)
          · skip
            exact absurd c110 (by omega)
          · skip
            refine wa_aload_n (n := 0) rfl ?_
            refine wb_gf4 158 rfl (wy_pr rfl) wt_158 wf_5_3 (v := 47) wl_158_3 ?_
            refine wa_iload_n (n := 2) rfl ?_
            refine wb_aald5 47 4 rfl rfl (wy_pr rfl) wt_47 (by rw [show _ = _ from ((w_up_slot (by decide)).trans ((w_up_slot (by decide)).trans ((w_up_slot (by decide)).trans ((w_up_slot (by decide)).trans ((w_up_slot (by decide)).trans ((cl_47 hC)))))))]; omega) wl_47_4 ?_
            refine wa_aload_n (n := 0) rfl ?_
            refine wb_gfi 158 rfl (wy_pr rfl) wt_158 wf_5_14 (v := fo) ((w_up_slot (by decide)).trans ((w_up_slot (by decide)).trans ((w_up_slot (by decide)).trans ((w_up_slot (by decide)).trans ((w_up_slot (by decide)).trans (l14)))))) (fun r111 => ?_)
            refine wa_iconst ?_
            refine wb_iast 52 rfl (wy_pr rfl) wt_52 (n := (S 48 (-1))) ((w_up_slot (by decide)).trans ((w_up_slot (by decide)).trans ((w_up_slot (by decide)).trans ((w_up_slot (by decide)).trans ((w_up_slot (by decide)).trans ((hl.2.2.1 4 (by decide)))))))) (by omega) (by omega) ⟨(by omega), (by omega)⟩ ?_
            refine wa_iinc rfl rfl ?_
            refine wa_goto ⟨_, rfl⟩ ?_
            refine wJ_S (L2 := [(0, (2, 158)), (1, (0, 3)), (2, (0, 5))]) ?_ ⟨rfl, rfl, rfl, trivial⟩
            refine wa_iload_n (n := 2) rfl ?_
            refine wa_bipush (w_rg2 (by omega) (by omega)) ?_
            refine wa_icmpge (w_rg0 (by omega) (by omega)) (w_rg0 (by omega) (by omega)) ⟨_, rfl⟩ (fun c112 => ?_) (fun c112 => ?_)
            · skip
              exact absurd c112 (by omega)
            · skip
              refine wa_aload_n (n := 0) rfl ?_
              refine wb_gf4 158 rfl (wy_pr rfl) wt_158 wf_5_3 (v := 47) wl_158_3 ?_
              refine wa_iload_n (n := 2) rfl ?_
              refine wb_aald5 47 5 rfl rfl (wy_pr rfl) wt_47 (by rw [show _ = _ from ((w_up_slot (by decide)).trans ((w_up_slot (by decide)).trans ((w_up_slot (by decide)).trans ((w_up_slot (by decide)).trans ((w_up_slot (by decide)).trans ((w_up_slot (by decide)).trans ((cl_47 hC))))))))]; omega) wl_47_5 ?_
              refine wa_aload_n (n := 0) rfl ?_
              refine wb_gfi 158 rfl (wy_pr rfl) wt_158 wf_5_14 (v := fo) ((w_up_slot (by decide)).trans ((w_up_slot (by decide)).trans ((w_up_slot (by decide)).trans ((w_up_slot (by decide)).trans ((w_up_slot (by decide)).trans ((w_up_slot (by decide)).trans (l14))))))) (fun r113 => ?_)
              refine wa_iconst ?_
              refine wb_iast 53 rfl (wy_pr rfl) wt_53 (n := (S 48 (-1))) ((w_up_slot (by decide)).trans ((w_up_slot (by decide)).trans ((w_up_slot (by decide)).trans ((w_up_slot (by decide)).trans ((w_up_slot (by decide)).trans ((w_up_slot (by decide)).trans ((hl.2.2.1 5 (by decide))))))))) (by omega) (by omega) ⟨(by omega), (by omega)⟩ ?_
              refine wa_iinc rfl rfl ?_
              refine wa_goto ⟨_, rfl⟩ ?_
              refine wJ_S (L2 := [(0, (2, 158)), (1, (0, 3)), (2, (0, 6))]) ?_ ⟨rfl, rfl, rfl, trivial⟩
              refine wa_iload_n (n := 2) rfl ?_
              refine wa_bipush (w_rg2 (by omega) (by omega)) ?_
              refine wa_icmpge (w_rg0 (by omega) (by omega)) (w_rg0 (by omega) (by omega)) ⟨_, rfl⟩ (fun c114 => ?_) (fun c114 => ?_)
              · skip
                exact absurd c114 (by omega)
              · skip
                refine wa_aload_n (n := 0) rfl ?_
                refine wb_gf4 158 rfl (wy_pr rfl) wt_158 wf_5_3 (v := 47) wl_158_3 ?_
                refine wa_iload_n (n := 2) rfl ?_
                refine wb_aald5 47 6 rfl rfl (wy_pr rfl) wt_47 (by rw [show _ = _ from ((w_up_slot (by decide)).trans ((w_up_slot (by decide)).trans ((w_up_slot (by decide)).trans ((w_up_slot (by decide)).trans ((w_up_slot (by decide)).trans ((w_up_slot (by decide)).trans ((w_up_slot (by decide)).trans ((cl_47 hC)))))))))]; omega) wl_47_6 ?_
                refine wa_aload_n (n := 0) rfl ?_
                refine wb_gfi 158 rfl (wy_pr rfl) wt_158 wf_5_14 (v := fo) ((w_up_slot (by decide)).trans ((w_up_slot (by decide)).trans ((w_up_slot (by decide)).trans ((w_up_slot (by decide)).trans ((w_up_slot (by decide)).trans ((w_up_slot (by decide)).trans ((w_up_slot (by decide)).trans (l14)))))))) (fun r115 => ?_)
                refine wa_iconst ?_
                refine wb_iast 54 rfl (wy_pr rfl) wt_54 (n := (S 48 (-1))) ((w_up_slot (by decide)).trans ((w_up_slot (by decide)).trans ((w_up_slot (by decide)).trans ((w_up_slot (by decide)).trans ((w_up_slot (by decide)).trans ((w_up_slot (by decide)).trans ((w_up_slot (by decide)).trans ((hl.2.2.1 6 (by decide)))))))))) (by omega) (by omega) ⟨(by omega), (by omega)⟩ ?_
                refine wa_iinc rfl rfl ?_
                refine wa_goto ⟨_, rfl⟩ ?_
                refine wJ_S (L2 := [(0, (2, 158)), (1, (0, 3)), (2, (0, 7))]) ?_ ⟨rfl, rfl, rfl, trivial⟩
                refine wa_iload_n (n := 2) rfl ?_
                refine wa_bipush (w_rg2 (by omega) (by omega)) ?_
                refine wa_icmpge (w_rg0 (by omega) (by omega)) (w_rg0 (by omega) (by omega)) ⟨_, rfl⟩ (fun c116 => ?_) (fun c116 => ?_)
                · skip
                  exact absurd c116 (by omega)
                · skip
                  refine wa_aload_n (n := 0) rfl ?_
                  refine wb_gf4 158 rfl (wy_pr rfl) wt_158 wf_5_3 (v := 47) wl_158_3 ?_
                  refine wa_iload_n (n := 2) rfl ?_
                  refine wb_aald5 47 7 rfl rfl (wy_pr rfl) wt_47 (by rw [show _ = _ from ((w_up_slot (by decide)).trans ((w_up_slot (by decide)).trans ((w_up_slot (by decide)).trans ((w_up_slot (by decide)).trans ((w_up_slot (by decide)).trans ((w_up_slot (by decide)).trans ((w_up_slot (by decide)).trans ((w_up_slot (by decide)).trans ((cl_47 hC))))))))))]; omega) wl_47_7 ?_
                  refine wa_aload_n (n := 0) rfl ?_
                  refine wb_gfi 158 rfl (wy_pr rfl) wt_158 wf_5_14 (v := fo) ((w_up_slot (by decide)).trans ((w_up_slot (by decide)).trans ((w_up_slot (by decide)).trans ((w_up_slot (by decide)).trans ((w_up_slot (by decide)).trans ((w_up_slot (by decide)).trans ((w_up_slot (by decide)).trans ((w_up_slot (by decide)).trans (l14))))))))) (fun r117 => ?_)
                  refine wa_iconst ?_
                  refine wb_iast 55 rfl (wy_pr rfl) wt_55 (n := (S 48 (-1))) ((w_up_slot (by decide)).trans ((w_up_slot (by decide)).trans ((w_up_slot (by decide)).trans ((w_up_slot (by decide)).trans ((w_up_slot (by decide)).trans ((w_up_slot (by decide)).trans ((w_up_slot (by decide)).trans ((w_up_slot (by decide)).trans ((hl.2.2.1 7 (by decide))))))))))) (by omega) (by omega) ⟨(by omega), (by omega)⟩ ?_
                  refine wa_iinc rfl rfl ?_
                  refine wa_goto ⟨_, rfl⟩ ?_
                  refine wJ_S (L2 := [(0, (2, 158)), (1, (0, 3)), (2, (0, 8))]) ?_ ⟨rfl, rfl, rfl, trivial⟩
                  refine wa_iload_n (n := 2) rfl ?_
                  refine wa_bipush (w_rg2 (by omega) (by omega)) ?_
                  refine wa_icmpge (w_rg0 (by omega) (by omega)) (w_rg0 (by omega) (by omega)) ⟨_, rfl⟩ (fun c118 => ?_) (fun c118 => ?_)
                  · skip
                    exact absurd c118 (by omega)
                  · skip
                    refine wa_aload_n (n := 0) rfl ?_
                    refine wb_gf4 158 rfl (wy_pr rfl) wt_158 wf_5_3 (v := 47) wl_158_3 ?_
                    refine wa_iload_n (n := 2) rfl ?_
                    refine wb_aald5 47 8 rfl rfl (wy_pr rfl) wt_47 (by rw [show _ = _ from ((w_up_slot (by decide)).trans ((w_up_slot (by decide)).trans ((w_up_slot (by decide)).trans ((w_up_slot (by decide)).trans ((w_up_slot (by decide)).trans ((w_up_slot (by decide)).trans ((w_up_slot (by decide)).trans ((w_up_slot (by decide)).trans ((w_up_slot (by decide)).trans ((cl_47 hC)))))))))))]; omega) wl_47_8 ?_
                    refine wa_aload_n (n := 0) rfl ?_
                    refine wb_gfi 158 rfl (wy_pr rfl) wt_158 wf_5_14 (v := fo) ((w_up_slot (by decide)).trans ((w_up_slot (by decide)).trans ((w_up_slot (by decide)).trans ((w_up_slot (by decide)).trans ((w_up_slot (by decide)).trans ((w_up_slot (by decide)).trans ((w_up_slot (by decide)).trans ((w_up_slot (by decide)).trans ((w_up_slot (by decide)).trans (l14)))))))))) (fun r119 => ?_)
                    refine wa_iconst ?_
                    refine wb_iast 56 rfl (wy_pr rfl) wt_56 (n := (S 48 (-1))) ((w_up_slot (by decide)).trans ((w_up_slot (by decide)).trans ((w_up_slot (by decide)).trans ((w_up_slot (by decide)).trans ((w_up_slot (by decide)).trans ((w_up_slot (by decide)).trans ((w_up_slot (by decide)).trans ((w_up_slot (by decide)).trans ((w_up_slot (by decide)).trans ((hl.2.2.1 8 (by decide)))))))))))) (by omega) (by omega) ⟨(by omega), (by omega)⟩ ?_
                    refine wa_iinc rfl rfl ?_
                    refine wa_goto ⟨_, rfl⟩ ?_
                    refine wJ_S (L2 := [(0, (2, 158)), (1, (0, 3)), (2, (0, 9))]) ?_ ⟨rfl, rfl, rfl, trivial⟩
                    refine wa_iload_n (n := 2) rfl ?_
                    refine wa_bipush (w_rg2 (by omega) (by omega)) ?_
                    refine wa_icmpge (w_rg0 (by omega) (by omega)) (w_rg0 (by omega) (by omega)) ⟨_, rfl⟩ (fun c120 => ?_) (fun c120 => ?_)
                    · skip
                      exact absurd c120 (by omega)
                    · skip
                      refine wa_aload_n (n := 0) rfl ?_
                      refine wb_gf4 158 rfl (wy_pr rfl) wt_158 wf_5_3 (v := 47) wl_158_3 ?_
                      refine wa_iload_n (n := 2) rfl ?_
                      refine wb_aald5 47 9 rfl rfl (wy_pr rfl) wt_47 (by rw [show _ = _ from ((w_up_slot (by decide)).trans ((w_up_slot (by decide)).trans ((w_up_slot (by decide)).trans ((w_up_slot (by decide)).trans ((w_up_slot (by decide)).trans ((w_up_slot (by decide)).trans ((w_up_slot (by decide)).trans ((w_up_slot (by decide)).trans ((w_up_slot (by decide)).trans ((w_up_slot (by decide)).trans ((cl_47 hC))))))))))))]; omega) wl_47_9 ?_
                      refine wa_aload_n (n := 0) rfl ?_
                      refine wb_gfi 158 rfl (wy_pr rfl) wt_158 wf_5_14 (v := fo) ((w_up_slot (by decide)).trans ((w_up_slot (by decide)).trans ((w_up_slot (by decide)).trans ((w_up_slot (by decide)).trans ((w_up_slot (by decide)).trans ((w_up_slot (by decide)).trans ((w_up_slot (by decide)).trans ((w_up_slot (by decide)).trans ((w_up_slot (by decide)).trans ((w_up_slot (by decide)).trans (l14))))))))))) (fun r121 => ?_)
                      refine wa_iconst ?_
                      refine wb_iast 57 rfl (wy_pr rfl) wt_57 (n := (S 48 (-1))) ((w_up_slot (by decide)).trans ((w_up_slot (by decide)).trans ((w_up_slot (by decide)).trans ((w_up_slot (by decide)).trans ((w_up_slot (by decide)).trans ((w_up_slot (by decide)).trans ((w_up_slot (by decide)).trans ((w_up_slot (by decide)).trans ((w_up_slot (by decide)).trans ((w_up_slot (by decide)).trans ((hl.2.2.1 9 (by decide))))))))))))) (by omega) (by omega) ⟨(by omega), (by omega)⟩ ?_
                      refine wa_iinc rfl rfl ?_
                      refine wa_goto ⟨_, rfl⟩ ?_
                      refine wJ_S (L2 := [(0, (2, 158)), (1, (0, 3)), (2, (0, 10))]) ?_ ⟨rfl, rfl, rfl, trivial⟩
                      refine wa_iload_n (n := 2) rfl ?_
                      refine wa_bipush (w_rg2 (by omega) (by omega)) ?_
                      refine wa_icmpge (w_rg0 (by omega) (by omega)) (w_rg0 (by omega) (by omega)) ⟨_, rfl⟩ (fun c122 => ?_) (fun c122 => ?_)
                      · skip
                        refine wa_aload_n (n := 0) rfl ?_
                        refine wb_gf4 158 rfl (wy_pr rfl) wt_158 wf_5_3 (v := 47) wl_158_3 ?_
                        refine wa_iconst ?_
                        refine wb_aald5 47 0 rfl rfl (wy_pr rfl) wt_47 (by rw [show _ = _ from ((w_up_slot (by decide)).trans ((w_up_slot (by decide)).trans ((w_up_slot (by decide)).trans ((w_up_slot (by decide)).trans ((w_up_slot (by decide)).trans ((w_up_slot (by decide)).trans ((w_up_slot (by decide)).trans ((w_up_slot (by decide)).trans ((w_up_slot (by decide)).trans ((w_up_slot (by decide)).trans ((w_up_slot (by decide)).trans ((cl_47 hC)))))))))))))]; omega) wl_47_0 ?_
                        refine wa_aload_n (n := 0) rfl ?_
                        refine wb_gfi 158 rfl (wy_pr rfl) wt_158 wf_5_14 (v := fo) ((w_up_slot (by decide)).trans ((w_up_slot (by decide)).trans ((w_up_slot (by decide)).trans ((w_up_slot (by decide)).trans ((w_up_slot (by decide)).trans ((w_up_slot (by decide)).trans ((w_up_slot (by decide)).trans ((w_up_slot (by decide)).trans ((w_up_slot (by decide)).trans ((w_up_slot (by decide)).trans ((w_up_slot (by decide)).trans (l14)))))))))))) (fun r123 => ?_)
                        refine wa_iload_n (n := 1) rfl ?_
                        refine wb_iast 48 rfl (wy_pr rfl) wt_48 (n := (S 48 (-1))) ((w_up_slot (by decide)).trans ((w_up_slot (by decide)).trans ((w_up_slot (by decide)).trans ((w_up_slot (by decide)).trans ((w_up_slot (by decide)).trans ((w_up_slot (by decide)).trans ((w_up_slot (by decide)).trans ((w_up_slot (by decide)).trans ((w_up_slot (by decide)).trans ((w_up_at (by omega)).trans ((w_up_slot (by decide)).trans (rfl)))))))))))) (by omega) (by omega) ⟨(by omega), (by omega)⟩ ?_
                        refine wa_iload_n (n := 1) rfl ?_
                        refine wa_ifne (w_rg0 (by omega) (by omega)) ⟨_, rfl⟩ (fun c124 => ?_) (fun c124 => ?_)
                        · skip
                          refine wa_iload_n (n := 1) rfl ?_
                          refine wa_iconst ?_
                          refine wa_icmpne (w_rg0 (by omega) (by omega)) (w_rg0 (by omega) (by omega)) ⟨_, rfl⟩ (fun c125 => ?_) (fun c125 => ?_)
                          · skip
                            exact absurd c125 (by omega)
                          · skip
                            refine wa_aload_n (n := 0) rfl ?_
                            have eb : (w_up (w_up (w_up (w_up (w_up (w_up (w_up (w_up (w_up (w_up (w_up (w_up S 160 3 ((S 160 3) + 1)) 48 fo (-1)) 49 fo (-1)) 50 fo (-1)) 51 fo (-1)) 52 fo (-1)) 53 fo (-1)) 54 fo (-1)) 55 fo (-1)) 56 fo (-1)) 57 fo (-1)) 48 fo 3) = bkZ fo 3 (w_up S 160 3 (S 160 3 + 1)) := rfl
                            rw [eb]
                            refine wa_cv 158 rfl (wy_pr rfl) wt_158 (M2 := mS ml) rfl at_XL_lookAtRow ⟨_, rfl⟩ rfl rfl ⟨(Or.inr ⟨wy_pr rfl, hmn⟩), trivial, trivial, trivial⟩ trivial (fun _ _ q => q) (hcal) (fun oq126 Sq126 hp127 q126 => ?_)
                            rcases q126 with ⟨rfl, hz⟩
                            show wJ _ _ _ _ _ _ _ _ _ _
                            obtain ⟨⟨hz4, hz34, hz45⟩, hzq, hzk⟩ := hR _ hz
                            have hz34b := hz34.2
                            refine wa_goto ⟨_, rfl⟩ ?_
                            refine wa_aload_n (n := 0) rfl ?_
                            refine wb_gf5 158 rfl (wy_pr rfl) wt_158 wf_5_4 (v := 226) (hz4.1) (fun r128 => ?_)
                            refine wb_gfi 226 rfl (wy_pr rfl) wt_226 wf_8_16 (v := (Sq126 226 16)) rfl (fun r129 => ?_)
                            refine wa_ifne (w_rg0 (by omega) (by omega)) ⟨_, rfl⟩ (fun c130 => ?_) (fun c130 => ?_)
                            · skip
                              refine wa_aload_n (n := 0) rfl ?_
                              refine wb_gfi 158 rfl (wy_pr rfl) wt_158 wf_5_14 (v := fo) (hz4.2.2) (fun r131 => ?_)
                              refine wa_fall ⟨_, rfl⟩ ?_
                              refine wa_ireturn rfl ?_
                              exact hzq (by omega)
                            · skip
                              refine wa_aload_n (n := 0) rfl ?_
                              refine wb_gf4 158 rfl (wy_pr rfl) wt_158 wf_5_2 (v := 34) wl_158_2 ?_
                              refine wa_bipush (w_rg2 (by omega) (by omega)) ?_
                              refine wb_aald5 34 10 rfl rfl (wy_pr rfl) wt_34 (by rw [show _ = _ from (hz34.1)]; omega) wl_34_10 ?_
                              refine wa_aload_n (n := 0) rfl ?_
                              refine wb_gfi 158 rfl (wy_pr rfl) wt_158 wf_5_6 (v := s) (hz4.2.1) (fun r132 => ?_)
                              refine wb_iald 45 rfl (wy_pr rfl) wt_45 (n := (Sq126 45 (-1))) (rfl) (by omega) (by omega) (v := (Sq126 45 s)) rfl (fun r133 => ?_)
                              refine wa_ifne (w_rg0 (by omega) (by omega)) ⟨_, rfl⟩ (fun c134 => ?_) (fun c134 => ?_)
                              · skip
                                refine wa_aload_n (n := 0) rfl ?_
                                refine wb_gfi 158 rfl (wy_pr rfl) wt_158 wf_5_14 (v := fo) (hz4.2.2) (fun r135 => ?_)
                                refine wa_fall ⟨_, rfl⟩ ?_
                                refine wa_ireturn rfl ?_
                                exact hzq (by omega)
                              · skip
                                refine wa_aload_n (n := 0) rfl ?_
                                refine wa_cv 158 rfl (wy_pr rfl) wt_158 (M2 := mS ml) rfl at_XL_link ⟨_, rfl⟩ rfl rfl ⟨(Or.inr ⟨wy_pr rfl, hmn⟩), trivial, trivial, trivial⟩ trivial (fun _ _ q => q) (hzk (by omega) (by omega)) (fun oq136 Sq136 hp137 q136 => ?_)
                                rcases q136 with ⟨lv, rfl, hqv⟩
                                show wJ _ _ _ _ _ _ _ _ _ _
                                refine wa_goto ⟨_, rfl⟩ ?_
                                refine wa_ireturn rfl ?_
                                exact hqv
                        · skip
                          exact absurd c124 (by omega)
                      · skip
                        exact absurd c122 (by omega)
theorem lok3_226 {ty : Int} (hC : w_CL S) (hl : cSl S) (l4 : S 158 4 = 226) (l6 : S 158 6 = s) (l7 : S 158 7 = kd) (l9 : S 158 9 = gk) (l10 : S 158 10 = gb) (l11 : S 158 11 = nm) (l13 : S 158 13 = es) (l14 : S 158 14 = fo) (hfo : 0 ≤ fo ∧ fo < S 48 (-1)) (hgk : gk = 3 ∨ gk = 6) (hak : 0 ≤ S 160 3 ∧ S 160 3 ≤ 1000000) (hcal : wJ (pe_GA xs) wY0 (mS ml) (d + 5) t_XL_lookAtRow ((pe_at t_XL_lookAtRow.bl 0).getD (0, [])).2 [(0, (2, 158))] [] (bkZ fo 3 (w_up S 160 3 (S 160 3 + 1))) (fun o Z => o = .inl none ∧ R Z)) (hR : ∀ Z : wS, R Z → ((Z 158 4 = 226 ∧ Z 158 6 = s ∧ Z 158 14 = fo) ∧ (Z 34 (-1) = 12 ∧ 0 ≤ s ∧ s < Z 45 (-1)) ∧ (Z 45 s = 0 ∨ Z 45 s = 1)) ∧ (Z 226 16 ≠ 0 ∨ Z 45 s = 1 → Q (.inl (some (0, fo))) Z) ∧ (Z 226 16 = 0 → Z 45 s = 0 → wJ (pe_GA xs) wY0 (mS ml) (d + 5) t_XL_link ((pe_at t_XL_link.bl 0).getD (0, [])).2 [(0, (2, 158))] [] Z (fun o Z2 => ∃ v : Int, o = .inl (some (0, v)) ∧ Q (.inl (some (0, v))) Z2))) (hmn : ¬ mS ml 158) (l160 : S 160 (-1) = 4) : wJ (pe_GA xs) wY0 (mS ml) (d + 6) t_XL_look ((pe_at t_XL_look.bl 0).getD (0, [])).2 [(0, (2, 158))] [] S Q := by
  have h35 := hl.2.1
  have h48 := hl.2.2.2
  refine wa_aload_n (n := 0) rfl ?_
  refine wb_gfi 158 rfl (wy_pr rfl) wt_158 wf_5_9 (v := gk) (l9) (fun r901 => ?_)
  by_cases c902 : gk = 3
  · refine wb_sw (w_rg0 (by omega) (by omega)) (tb := 4) (by rw [c902]; rfl) ⟨_, rfl⟩ ?_
    refine wa_iconst ?_
    refine wa_istore_n (n := 1) rfl ?_
    refine wa_goto ⟨_, rfl⟩ ?_
    exact wJ_S (lob3_226 (ty := 0) hC hl l4 l6 l7 l9 l10 l11 l13 l14 hfo hgk hak hcal hR hmn l160) ⟨rfl, rfl, trivial⟩
  by_cases c903 : gk = 4
  · exact absurd c903 (by omega)
  by_cases c904 : gk = 5
  · exact absurd c904 (by omega)
  by_cases c905 : gk = 6
  · refine wb_sw (w_rg0 (by omega) (by omega)) (tb := 4) (by rw [c905]; rfl) ⟨_, rfl⟩ ?_
    refine wa_iconst ?_
    refine wa_istore_n (n := 1) rfl ?_
    refine wa_goto ⟨_, rfl⟩ ?_
    exact wJ_S (lob3_226 (ty := 0) hC hl l4 l6 l7 l9 l10 l11 l13 l14 hfo hgk hak hcal hR hmn l160) ⟨rfl, rfl, trivial⟩
  exfalso; omega
set_option maxHeartbeats 4000000 in
theorem lob1_226 {ty : Int} (hC : w_CL S) (hl : cSl S) (l4 : S 158 4 = 226) (l6 : S 158 6 = s) (l7 : S 158 7 = kd) (l9 : S 158 9 = gk) (l10 : S 158 10 = gb) (l11 : S 158 11 = nm) (l13 : S 158 13 = es) (l14 : S 158 14 = fo) (hfo : 0 ≤ fo ∧ fo < S 48 (-1)) (hgk : gk = 7) (hgb : 0 ≤ gb ∧ gb < (T.length : Int)) (hty : S 129 gb = ty) (hlt : cLt S T) (hak : 0 ≤ S 160 1 ∧ S 160 1 ≤ 1000000) (hcal : wJ (pe_GA xs) wY0 (mS ml) (d + 5) t_XL_lookAtHost ((pe_at t_XL_lookAtHost.bl 0).getD (0, [])).2 [(0, (2, 158)), (1, (0, ty)), (2, (0, 0))] [] (bkZ fo 1 (w_up S 160 1 (S 160 1 + 1))) (fun o Z => o = .inl none ∧ R Z)) (hR : ∀ Z : wS, R Z → ((Z 158 4 = 226 ∧ Z 158 6 = s ∧ Z 158 14 = fo) ∧ (Z 34 (-1) = 12 ∧ 0 ≤ s ∧ s < Z 45 (-1)) ∧ (Z 45 s = 0 ∨ Z 45 s = 1)) ∧ (Z 226 16 ≠ 0 ∨ Z 45 s = 1 → Q (.inl (some (0, fo))) Z) ∧ (Z 226 16 = 0 → Z 45 s = 0 → wJ (pe_GA xs) wY0 (mS ml) (d + 5) t_XL_link ((pe_at t_XL_link.bl 0).getD (0, [])).2 [(0, (2, 158))] [] Z (fun o Z2 => ∃ v : Int, o = .inl (some (0, v)) ∧ Q (.inl (some (0, v))) Z2))) (hmn : ¬ mS ml 158) (l160 : S 160 (-1) = 4) (hT8 : (T.length : Int) ≤ 8000) : wJ (pe_GA xs) wY0 (mS ml) (d + 6) t_XL_look ((pe_at t_XL_look.bl 6).getD (0, [])).2 [(0, (2, 158)), (1, (0, 1))] [] S Q := by
  have h35 := hl.2.1
  have h48 := hl.2.2.2
  have ht2 := hlt.2
  refine wa_aload_n (n := 0) rfl ?_
  refine wb_gf4 158 rfl (wy_pr rfl) wt_158 wf_5_18 (v := 160) wl_158_18 ?_
  refine wa_iload_n (n := 1) rfl ?_
  refine wa_dup2 (by decide) (by decide) ?_
  refine wb_iald 160 rfl (wy_pr rfl) wt_160 (n := 4) (l160) (by omega) (by omega) (v := (S 160 1)) rfl (fun r101 => ?_)
  refine wa_iconst ?_
  refine wa_iadd ?_
  refine wb_iast 160 rfl (wy_pr rfl) wt_160 (n := 4) (l160) (by omega) (by omega) ⟨(by omega), (by omega)⟩ ?_
  refine wa_iconst ?_
  refine wa_istore_n (n := 2) rfl ?_
  refine wa_fall ⟨_, rfl⟩ ?_
  refine wJ_S (L2 := [(0, (2, 158)), (1, (0, 1)), (2, (0, 0))]) ?_ ⟨rfl, rfl, rfl, trivial⟩
  refine wa_iload_n (n := 2) rfl ?_
  refine wa_bipush (w_rg2 (by omega) (by omega)) ?_
  refine wa_icmpge (w_rg0 (by omega) (by omega)) (w_rg0 (by omega) (by omega)) ⟨_, rfl⟩ (fun c102 => ?_) (fun c102 => ?_)
  · skip
    exact absurd c102 (by omega)
  · skip
    refine wa_aload_n (n := 0) rfl ?_
    refine wb_gf4 158 rfl (wy_pr rfl) wt_158 wf_5_3 (v := 47) wl_158_3 ?_
    refine wa_iload_n (n := 2) rfl ?_
    refine wb_aald5 47 0 rfl rfl (wy_pr rfl) wt_47 (by rw [show _ = _ from ((w_up_slot (by decide)).trans ((cl_47 hC)))]; omega) wl_47_0 ?_
    refine wa_aload_n (n := 0) rfl ?_
    refine wb_gfi 158 rfl (wy_pr rfl) wt_158 wf_5_14 (v := fo) ((w_up_slot (by decide)).trans (l14)) (fun r103 => ?_)
    refine wa_iconst ?_
    refine wb_iast 48 rfl (wy_pr rfl) wt_48 (n := (S 48 (-1))) ((w_up_slot (by decide)).trans (rfl)) (by omega) (by omega) ⟨(by omega), (by omega)⟩ ?_
    refine wa_iinc rfl rfl ?_
    refine wa_goto ⟨_, rfl⟩ ?_
    refine wJ_S (L2 := [(0, (2, 158)), (1, (0, 1)), (2, (0, 1))]) ?_ ⟨rfl, rfl, rfl, trivial⟩
    refine wa_iload_n (n := 2) rfl ?_
    refine wa_bipush (w_rg2 (by omega) (by omega)) ?_
    refine wa_icmpge (w_rg0 (by omega) (by omega)) (w_rg0 (by omega) (by omega)) ⟨_, rfl⟩ (fun c104 => ?_) (fun c104 => ?_)
    · skip
      exact absurd c104 (by omega)
    · skip
      refine wa_aload_n (n := 0) rfl ?_
      refine wb_gf4 158 rfl (wy_pr rfl) wt_158 wf_5_3 (v := 47) wl_158_3 ?_
      refine wa_iload_n (n := 2) rfl ?_
      refine wb_aald5 47 1 rfl rfl (wy_pr rfl) wt_47 (by rw [show _ = _ from ((w_up_slot (by decide)).trans ((w_up_slot (by decide)).trans ((cl_47 hC))))]; omega) wl_47_1 ?_
      refine wa_aload_n (n := 0) rfl ?_
      refine wb_gfi 158 rfl (wy_pr rfl) wt_158 wf_5_14 (v := fo) ((w_up_slot (by decide)).trans ((w_up_slot (by decide)).trans (l14))) (fun r105 => ?_)
      refine wa_iconst ?_
      refine wb_iast 49 rfl (wy_pr rfl) wt_49 (n := (S 48 (-1))) ((w_up_slot (by decide)).trans ((w_up_slot (by decide)).trans ((hl.2.2.1 1 (by decide))))) (by omega) (by omega) ⟨(by omega), (by omega)⟩ ?_
      refine wa_iinc rfl rfl ?_
      refine wa_goto ⟨_, rfl⟩ ?_
      refine wJ_S (L2 := [(0, (2, 158)), (1, (0, 1)), (2, (0, 2))]) ?_ ⟨rfl, rfl, rfl, trivial⟩
      refine wa_iload_n (n := 2) rfl ?_
      refine wa_bipush (w_rg2 (by omega) (by omega)) ?_
      refine wa_icmpge (w_rg0 (by omega) (by omega)) (w_rg0 (by omega) (by omega)) ⟨_, rfl⟩ (fun c106 => ?_) (fun c106 => ?_)
      · skip
        exact absurd c106 (by omega)
      · skip
        refine wa_aload_n (n := 0) rfl ?_
        refine wb_gf4 158 rfl (wy_pr rfl) wt_158 wf_5_3 (v := 47) wl_158_3 ?_
        refine wa_iload_n (n := 2) rfl ?_
        refine wb_aald5 47 2 rfl rfl (wy_pr rfl) wt_47 (by rw [show _ = _ from ((w_up_slot (by decide)).trans ((w_up_slot (by decide)).trans ((w_up_slot (by decide)).trans ((cl_47 hC)))))]; omega) wl_47_2 ?_
        refine wa_aload_n (n := 0) rfl ?_
        refine wb_gfi 158 rfl (wy_pr rfl) wt_158 wf_5_14 (v := fo) ((w_up_slot (by decide)).trans ((w_up_slot (by decide)).trans ((w_up_slot (by decide)).trans (l14)))) (fun r107 => ?_)
        refine wa_iconst ?_
        refine wb_iast 50 rfl (wy_pr rfl) wt_50 (n := (S 48 (-1))) ((w_up_slot (by decide)).trans ((w_up_slot (by decide)).trans ((w_up_slot (by decide)).trans ((hl.2.2.1 2 (by decide)))))) (by omega) (by omega) ⟨(by omega), (by omega)⟩ ?_
        refine wa_iinc rfl rfl ?_
        refine wa_goto ⟨_, rfl⟩ ?_
        refine wJ_S (L2 := [(0, (2, 158)), (1, (0, 1)), (2, (0, 3))]) ?_ ⟨rfl, rfl, rfl, trivial⟩
        refine wa_iload_n (n := 2) rfl ?_
        refine wa_bipush (w_rg2 (by omega) (by omega)) ?_
        refine wa_icmpge (w_rg0 (by omega) (by omega)) (w_rg0 (by omega) (by omega)) ⟨_, rfl⟩ (fun c108 => ?_) (fun c108 => ?_)
        · skip
          exact absurd c108 (by omega)
        · skip
          refine wa_aload_n (n := 0) rfl ?_
          refine wb_gf4 158 rfl (wy_pr rfl) wt_158 wf_5_3 (v := 47) wl_158_3 ?_
          refine wa_iload_n (n := 2) rfl ?_
          refine wb_aald5 47 3 rfl rfl (wy_pr rfl) wt_47 (by rw [show _ = _ from ((w_up_slot (by decide)).trans ((w_up_slot (by decide)).trans ((w_up_slot (by decide)).trans ((w_up_slot (by decide)).trans ((cl_47 hC))))))]; omega) wl_47_3 ?_
          refine wa_aload_n (n := 0) rfl ?_
          refine wb_gfi 158 rfl (wy_pr rfl) wt_158 wf_5_14 (v := fo) ((w_up_slot (by decide)).trans ((w_up_slot (by decide)).trans ((w_up_slot (by decide)).trans ((w_up_slot (by decide)).trans (l14))))) (fun r109 => ?_)
          refine wa_iconst ?_
          refine wb_iast 51 rfl (wy_pr rfl) wt_51 (n := (S 48 (-1))) ((w_up_slot (by decide)).trans ((w_up_slot (by decide)).trans ((w_up_slot (by decide)).trans ((w_up_slot (by decide)).trans ((hl.2.2.1 3 (by decide))))))) (by omega) (by omega) ⟨(by omega), (by omega)⟩ ?_
          refine wa_iinc rfl rfl ?_
          refine wa_goto ⟨_, rfl⟩ ?_
          refine wJ_S (L2 := [(0, (2, 158)), (1, (0, 1)), (2, (0, 4))]) ?_ ⟨rfl, rfl, rfl, trivial⟩
          refine wa_iload_n (n := 2) rfl ?_
          refine wa_bipush (w_rg2 (by omega) (by omega)) ?_
          refine wa_icmpge (w_rg0 (by omega) (by omega)) (w_rg0 (by omega) (by omega)) ⟨_, rfl⟩ (fun c110 => ?_) (fun c110 => ?_)
          · skip
            exact absurd c110 (by omega)
          · skip
            refine wa_aload_n (n := 0) rfl ?_
            refine wb_gf4 158 rfl (wy_pr rfl) wt_158 wf_5_3 (v := 47) wl_158_3 ?_
            refine wa_iload_n (n := 2) rfl ?_
            refine wb_aald5 47 4 rfl rfl (wy_pr rfl) wt_47 (by rw [show _ = _ from ((w_up_slot (by decide)).trans ((w_up_slot (by decide)).trans ((w_up_slot (by decide)).trans ((w_up_slot (by decide)).trans ((w_up_slot (by decide)).trans ((cl_47 hC)))))))]; omega) wl_47_4 ?_
            refine wa_aload_n (n := 0) rfl ?_
            refine wb_gfi 158 rfl (wy_pr rfl) wt_158 wf_5_14 (v := fo) ((w_up_slot (by decide)).trans ((w_up_slot (by decide)).trans ((w_up_slot (by decide)).trans ((w_up_slot (by decide)).trans ((w_up_slot (by decide)).trans (l14)))))) (fun r111 => ?_)
            refine wa_iconst ?_
            refine wb_iast 52 rfl (wy_pr rfl) wt_52 (n := (S 48 (-1))) ((w_up_slot (by decide)).trans ((w_up_slot (by decide)).trans ((w_up_slot (by decide)).trans ((w_up_slot (by decide)).trans ((w_up_slot (by decide)).trans ((hl.2.2.1 4 (by decide)))))))) (by omega) (by omega) ⟨(by omega), (by omega)⟩ ?_
            refine wa_iinc rfl rfl ?_
            refine wa_goto ⟨_, rfl⟩ ?_
            refine wJ_S (L2 := [(0, (2, 158)), (1, (0, 1)), (2, (0, 5))]) ?_ ⟨rfl, rfl, rfl, trivial⟩
            refine wa_iload_n (n := 2) rfl ?_
            refine wa_bipush (w_rg2 (by omega) (by omega)) ?_
            refine wa_icmpge (w_rg0 (by omega) (by omega)) (w_rg0 (by omega) (by omega)) ⟨_, rfl⟩ (fun c112 => ?_) (fun c112 => ?_)
            · skip
              exact absurd c112 (by omega)
            · skip
              refine wa_aload_n (n := 0) rfl ?_
              refine wb_gf4 158 rfl (wy_pr rfl) wt_158 wf_5_3 (v := 47) wl_158_3 ?_
              refine wa_iload_n (n := 2) rfl ?_
              refine wb_aald5 47 5 rfl rfl (wy_pr rfl) wt_47 (by rw [show _ = _ from ((w_up_slot (by decide)).trans ((w_up_slot (by decide)).trans ((w_up_slot (by decide)).trans ((w_up_slot (by decide)).trans ((w_up_slot (by decide)).trans ((w_up_slot (by decide)).trans ((cl_47 hC))))))))]; omega) wl_47_5 ?_
              refine wa_aload_n (n := 0) rfl ?_
              refine wb_gfi 158 rfl (wy_pr rfl) wt_158 wf_5_14 (v := fo) ((w_up_slot (by decide)).trans ((w_up_slot (by decide)).trans ((w_up_slot (by decide)).trans ((w_up_slot (by decide)).trans ((w_up_slot (by decide)).trans ((w_up_slot (by decide)).trans (l14))))))) (fun r113 => ?_)
              refine wa_iconst ?_
              refine wb_iast 53 rfl (wy_pr rfl) wt_53 (n := (S 48 (-1))) ((w_up_slot (by decide)).trans ((w_up_slot (by decide)).trans ((w_up_slot (by decide)).trans ((w_up_slot (by decide)).trans ((w_up_slot (by decide)).trans ((w_up_slot (by decide)).trans ((hl.2.2.1 5 (by decide))))))))) (by omega) (by omega) ⟨(by omega), (by omega)⟩ ?_
              refine wa_iinc rfl rfl ?_
              refine wa_goto ⟨_, rfl⟩ ?_
              refine wJ_S (L2 := [(0, (2, 158)), (1, (0, 1)), (2, (0, 6))]) ?_ ⟨rfl, rfl, rfl, trivial⟩
              refine wa_iload_n (n := 2) rfl ?_
              refine wa_bipush (w_rg2 (by omega) (by omega)) ?_
              refine wa_icmpge (w_rg0 (by omega) (by omega)) (w_rg0 (by omega) (by omega)) ⟨_, rfl⟩ (fun c114 => ?_) (fun c114 => ?_)
              · skip
                exact absurd c114 (by omega)
              · skip
                refine wa_aload_n (n := 0) rfl ?_
                refine wb_gf4 158 rfl (wy_pr rfl) wt_158 wf_5_3 (v := 47) wl_158_3 ?_
                refine wa_iload_n (n := 2) rfl ?_
                refine wb_aald5 47 6 rfl rfl (wy_pr rfl) wt_47 (by rw [show _ = _ from ((w_up_slot (by decide)).trans ((w_up_slot (by decide)).trans ((w_up_slot (by decide)).trans ((w_up_slot (by decide)).trans ((w_up_slot (by decide)).trans ((w_up_slot (by decide)).trans ((w_up_slot (by decide)).trans ((cl_47 hC)))))))))]; omega) wl_47_6 ?_
                refine wa_aload_n (n := 0) rfl ?_
                refine wb_gfi 158 rfl (wy_pr rfl) wt_158 wf_5_14 (v := fo) ((w_up_slot (by decide)).trans ((w_up_slot (by decide)).trans ((w_up_slot (by decide)).trans ((w_up_slot (by decide)).trans ((w_up_slot (by decide)).trans ((w_up_slot (by decide)).trans ((w_up_slot (by decide)).trans (l14)))))))) (fun r115 => ?_)
                refine wa_iconst ?_
                refine wb_iast 54 rfl (wy_pr rfl) wt_54 (n := (S 48 (-1))) ((w_up_slot (by decide)).trans ((w_up_slot (by decide)).trans ((w_up_slot (by decide)).trans ((w_up_slot (by decide)).trans ((w_up_slot (by decide)).trans ((w_up_slot (by decide)).trans ((w_up_slot (by decide)).trans ((hl.2.2.1 6 (by decide)))))))))) (by omega) (by omega) ⟨(by omega), (by omega)⟩ ?_
                refine wa_iinc rfl rfl ?_
                refine wa_goto ⟨_, rfl⟩ ?_
                refine wJ_S (L2 := [(0, (2, 158)), (1, (0, 1)), (2, (0, 7))]) ?_ ⟨rfl, rfl, rfl, trivial⟩
                refine wa_iload_n (n := 2) rfl ?_
                refine wa_bipush (w_rg2 (by omega) (by omega)) ?_
                refine wa_icmpge (w_rg0 (by omega) (by omega)) (w_rg0 (by omega) (by omega)) ⟨_, rfl⟩ (fun c116 => ?_) (fun c116 => ?_)
                · skip
                  exact absurd c116 (by omega)
                · skip
                  refine wa_aload_n (n := 0) rfl ?_
                  refine wb_gf4 158 rfl (wy_pr rfl) wt_158 wf_5_3 (v := 47) wl_158_3 ?_
                  refine wa_iload_n (n := 2) rfl ?_
                  refine wb_aald5 47 7 rfl rfl (wy_pr rfl) wt_47 (by rw [show _ = _ from ((w_up_slot (by decide)).trans ((w_up_slot (by decide)).trans ((w_up_slot (by decide)).trans ((w_up_slot (by decide)).trans ((w_up_slot (by decide)).trans ((w_up_slot (by decide)).trans ((w_up_slot (by decide)).trans ((w_up_slot (by decide)).trans ((cl_47 hC))))))))))]; omega) wl_47_7 ?_
                  refine wa_aload_n (n := 0) rfl ?_
                  refine wb_gfi 158 rfl (wy_pr rfl) wt_158 wf_5_14 (v := fo) ((w_up_slot (by decide)).trans ((w_up_slot (by decide)).trans ((w_up_slot (by decide)).trans ((w_up_slot (by decide)).trans ((w_up_slot (by decide)).trans ((w_up_slot (by decide)).trans ((w_up_slot (by decide)).trans ((w_up_slot (by decide)).trans (l14))))))))) (fun r117 => ?_)
                  refine wa_iconst ?_
                  refine wb_iast 55 rfl (wy_pr rfl) wt_55 (n := (S 48 (-1))) ((w_up_slot (by decide)).trans ((w_up_slot (by decide)).trans ((w_up_slot (by decide)).trans ((w_up_slot (by decide)).trans ((w_up_slot (by decide)).trans ((w_up_slot (by decide)).trans ((w_up_slot (by decide)).trans ((w_up_slot (by decide)).trans ((hl.2.2.1 7 (by decide))))))))))) (by omega) (by omega) ⟨(by omega), (by omega)⟩ ?_
                  refine wa_iinc rfl rfl ?_
                  refine wa_goto ⟨_, rfl⟩ ?_
                  refine wJ_S (L2 := [(0, (2, 158)), (1, (0, 1)), (2, (0, 8))]) ?_ ⟨rfl, rfl, rfl, trivial⟩
                  refine wa_iload_n (n := 2) rfl ?_
                  refine wa_bipush (w_rg2 (by omega) (by omega)) ?_
                  refine wa_icmpge (w_rg0 (by omega) (by omega)) (w_rg0 (by omega) (by omega)) ⟨_, rfl⟩ (fun c118 => ?_) (fun c118 => ?_)
                  · skip
                    exact absurd c118 (by omega)
                  · skip
                    refine wa_aload_n (n := 0) rfl ?_
                    refine wb_gf4 158 rfl (wy_pr rfl) wt_158 wf_5_3 (v := 47) wl_158_3 ?_
                    refine wa_iload_n (n := 2) rfl ?_
                    refine wb_aald5 47 8 rfl rfl (wy_pr rfl) wt_47 (by rw [show _ = _ from ((w_up_slot (by decide)).trans ((w_up_slot (by decide)).trans ((w_up_slot (by decide)).trans ((w_up_slot (by decide)).trans ((w_up_slot (by decide)).trans ((w_up_slot (by decide)).trans ((w_up_slot (by decide)).trans ((w_up_slot (by decide)).trans ((w_up_slot (by decide)).trans ((cl_47 hC)))))))))))]; omega) wl_47_8 ?_
                    refine wa_aload_n (n := 0) rfl ?_
                    refine wb_gfi 158 rfl (wy_pr rfl) wt_158 wf_5_14 (v := fo) ((w_up_slot (by decide)).trans ((w_up_slot (by decide)).trans ((w_up_slot (by decide)).trans ((w_up_slot (by decide)).trans ((w_up_slot (by decide)).trans ((w_up_slot (by decide)).trans ((w_up_slot (by decide)).trans ((w_up_slot (by decide)).trans ((w_up_slot (by decide)).trans (l14)))))))))) (fun r119 => ?_)
                    refine wa_iconst ?_
                    refine wb_iast 56 rfl (wy_pr rfl) wt_56 (n := (S 48 (-1))) ((w_up_slot (by decide)).trans ((w_up_slot (by decide)).trans ((w_up_slot (by decide)).trans ((w_up_slot (by decide)).trans ((w_up_slot (by decide)).trans ((w_up_slot (by decide)).trans ((w_up_slot (by decide)).trans ((w_up_slot (by decide)).trans ((w_up_slot (by decide)).trans ((hl.2.2.1 8 (by decide)))))))))))) (by omega) (by omega) ⟨(by omega), (by omega)⟩ ?_
                    refine wa_iinc rfl rfl ?_
                    refine wa_goto ⟨_, rfl⟩ ?_
                    refine wJ_S (L2 := [(0, (2, 158)), (1, (0, 1)), (2, (0, 9))]) ?_ ⟨rfl, rfl, rfl, trivial⟩
                    refine wa_iload_n (n := 2) rfl ?_
                    refine wa_bipush (w_rg2 (by omega) (by omega)) ?_
                    refine wa_icmpge (w_rg0 (by omega) (by omega)) (w_rg0 (by omega) (by omega)) ⟨_, rfl⟩ (fun c120 => ?_) (fun c120 => ?_)
                    · skip
                      exact absurd c120 (by omega)
                    · skip
                      refine wa_aload_n (n := 0) rfl ?_
                      refine wb_gf4 158 rfl (wy_pr rfl) wt_158 wf_5_3 (v := 47) wl_158_3 ?_
                      refine wa_iload_n (n := 2) rfl ?_
                      refine wb_aald5 47 9 rfl rfl (wy_pr rfl) wt_47 (by rw [show _ = _ from ((w_up_slot (by decide)).trans ((w_up_slot (by decide)).trans ((w_up_slot (by decide)).trans ((w_up_slot (by decide)).trans ((w_up_slot (by decide)).trans ((w_up_slot (by decide)).trans ((w_up_slot (by decide)).trans ((w_up_slot (by decide)).trans ((w_up_slot (by decide)).trans ((w_up_slot (by decide)).trans ((cl_47 hC))))))))))))]; omega) wl_47_9 ?_
                      refine wa_aload_n (n := 0) rfl ?_
                      refine wb_gfi 158 rfl (wy_pr rfl) wt_158 wf_5_14 (v := fo) ((w_up_slot (by decide)).trans ((w_up_slot (by decide)).trans ((w_up_slot (by decide)).trans ((w_up_slot (by decide)).trans ((w_up_slot (by decide)).trans ((w_up_slot (by decide)).trans ((w_up_slot (by decide)).trans ((w_up_slot (by decide)).trans ((w_up_slot (by decide)).trans ((w_up_slot (by decide)).trans (l14))))))))))) (fun r121 => ?_)
                      refine wa_iconst ?_
                      refine wb_iast 57 rfl (wy_pr rfl) wt_57 (n := (S 48 (-1))) ((w_up_slot (by decide)).trans ((w_up_slot (by decide)).trans ((w_up_slot (by decide)).trans ((w_up_slot (by decide)).trans ((w_up_slot (by decide)).trans ((w_up_slot (by decide)).trans ((w_up_slot (by decide)).trans ((w_up_slot (by decide)).trans ((w_up_slot (by decide)).trans ((w_up_slot (by decide)).trans ((hl.2.2.1 9 (by decide))))))))))))) (by omega) (by omega) ⟨(by omega), (by omega)⟩ ?_
                      refine wa_iinc rfl rfl ?_
                      refine wa_goto ⟨_, rfl⟩ ?_
                      refine wJ_S (L2 := [(0, (2, 158)), (1, (0, 1)), (2, (0, 10))]) ?_ ⟨rfl, rfl, rfl, trivial⟩
                      refine wa_iload_n (n := 2) rfl ?_
                      refine wa_bipush (w_rg2 (by omega) (by omega)) ?_
                      refine wa_icmpge (w_rg0 (by omega) (by omega)) (w_rg0 (by omega) (by omega)) ⟨_, rfl⟩ (fun c122 => ?_) (fun c122 => ?_)
                      · skip
                        refine wa_aload_n (n := 0) rfl ?_
                        refine wb_gf4 158 rfl (wy_pr rfl) wt_158 wf_5_3 (v := 47) wl_158_3 ?_
                        refine wa_iconst ?_
                        refine wb_aald5 47 0 rfl rfl (wy_pr rfl) wt_47 (by rw [show _ = _ from ((w_up_slot (by decide)).trans ((w_up_slot (by decide)).trans ((w_up_slot (by decide)).trans ((w_up_slot (by decide)).trans ((w_up_slot (by decide)).trans ((w_up_slot (by decide)).trans ((w_up_slot (by decide)).trans ((w_up_slot (by decide)).trans ((w_up_slot (by decide)).trans ((w_up_slot (by decide)).trans ((w_up_slot (by decide)).trans ((cl_47 hC)))))))))))))]; omega) wl_47_0 ?_
                        refine wa_aload_n (n := 0) rfl ?_
                        refine wb_gfi 158 rfl (wy_pr rfl) wt_158 wf_5_14 (v := fo) ((w_up_slot (by decide)).trans ((w_up_slot (by decide)).trans ((w_up_slot (by decide)).trans ((w_up_slot (by decide)).trans ((w_up_slot (by decide)).trans ((w_up_slot (by decide)).trans ((w_up_slot (by decide)).trans ((w_up_slot (by decide)).trans ((w_up_slot (by decide)).trans ((w_up_slot (by decide)).trans ((w_up_slot (by decide)).trans (l14)))))))))))) (fun r123 => ?_)
                        refine wa_iload_n (n := 1) rfl ?_
                        refine wb_iast 48 rfl (wy_pr rfl) wt_48 (n := (S 48 (-1))) ((w_up_slot (by decide)).trans ((w_up_slot (by decide)).trans ((w_up_slot (by decide)).trans ((w_up_slot (by decide)).trans ((w_up_slot (by decide)).trans ((w_up_slot (by decide)).trans ((w_up_slot (by decide)).trans ((w_up_slot (by decide)).trans ((w_up_slot (by decide)).trans ((w_up_at (by omega)).trans ((w_up_slot (by decide)).trans (rfl)))))))))))) (by omega) (by omega) ⟨(by omega), (by omega)⟩ ?_
                        refine wa_iload_n (n := 1) rfl ?_
                        refine wa_ifne (w_rg0 (by omega) (by omega)) ⟨_, rfl⟩ (fun c124 => ?_) (fun c124 => ?_)
                        · skip
                          refine wa_iload_n (n := 1) rfl ?_
                          refine wa_iconst ?_
                          refine wa_icmpne (w_rg0 (by omega) (by omega)) (w_rg0 (by omega) (by omega)) ⟨_, rfl⟩ (fun c125 => ?_) (fun c125 => ?_)
                          · skip
                            refine wa_iload_n (n := 1) rfl ?_
                            refine wa_iconst ?_
                            refine wa_icmpne (w_rg0 (by omega) (by omega)) (w_rg0 (by omega) (by omega)) ⟨_, rfl⟩ (fun c126 => ?_) (fun c126 => ?_)
                            · skip
                              exact absurd c126 (by omega)
                            · skip
                              refine wa_aload_n (n := 0) rfl ?_
                              refine wa_aload_n (n := 0) rfl ?_
                              refine wb_gf4 158 rfl (wy_pr rfl) wt_158 wf_5_0 (v := 72) wl_158_0 ?_
                              refine wb_gf4 72 rfl (wy_pr rfl) wt_72 wf_2_2 (v := 126) wl_72_2 ?_
                              refine wa_iconst ?_
                              refine wb_aald5 126 2 rfl rfl (wy_pr rfl) wt_126 (by rw [show _ = _ from ((w_up_slot (by decide)).trans ((w_up_slot (by decide)).trans ((w_up_slot (by decide)).trans ((w_up_slot (by decide)).trans ((w_up_slot (by decide)).trans ((w_up_slot (by decide)).trans ((w_up_slot (by decide)).trans ((w_up_slot (by decide)).trans ((w_up_slot (by decide)).trans ((w_up_slot (by decide)).trans ((w_up_slot (by decide)).trans ((w_up_slot (by decide)).trans ((cl_126 hC))))))))))))))]; omega) wl_126_2 ?_
                              refine wa_aload_n (n := 0) rfl ?_
                              refine wb_gfl 158 rfl (wy_pr rfl) wt_158 wf_5_10 (v := gb) ((w_up_slot (by decide)).trans ((w_up_slot (by decide)).trans ((w_up_slot (by decide)).trans ((w_up_slot (by decide)).trans ((w_up_slot (by decide)).trans ((w_up_slot (by decide)).trans ((w_up_slot (by decide)).trans ((w_up_slot (by decide)).trans ((w_up_slot (by decide)).trans ((w_up_slot (by decide)).trans ((w_up_slot (by decide)).trans ((w_up_slot (by decide)).trans (l10))))))))))))) (fun r127 => ?_)
                              refine wb_l2i_r (wb_l2i_id ⟨(by omega), (by omega)⟩) ?_
                              refine wb_iald 129 rfl (wy_pr rfl) wt_129 (n := (S 127 (-1))) ((w_up_slot (by decide)).trans ((w_up_slot (by decide)).trans ((w_up_slot (by decide)).trans ((w_up_slot (by decide)).trans ((w_up_slot (by decide)).trans ((w_up_slot (by decide)).trans ((w_up_slot (by decide)).trans ((w_up_slot (by decide)).trans ((w_up_slot (by decide)).trans ((w_up_slot (by decide)).trans ((w_up_slot (by decide)).trans ((w_up_slot (by decide)).trans ((hlt.1 2 (by decide))))))))))))))) (by omega) (by omega) (v := ty) ((w_up_slot (by decide)).trans ((w_up_slot (by decide)).trans ((w_up_slot (by decide)).trans ((w_up_slot (by decide)).trans ((w_up_slot (by decide)).trans ((w_up_slot (by decide)).trans ((w_up_slot (by decide)).trans ((w_up_slot (by decide)).trans ((w_up_slot (by decide)).trans ((w_up_slot (by decide)).trans ((w_up_slot (by decide)).trans ((w_up_slot (by decide)).trans (hty))))))))))))) (fun r128 => ?_)
                              refine wa_iconst ?_
                              have eb : (w_up (w_up (w_up (w_up (w_up (w_up (w_up (w_up (w_up (w_up (w_up (w_up S 160 1 ((S 160 1) + 1)) 48 fo (-1)) 49 fo (-1)) 50 fo (-1)) 51 fo (-1)) 52 fo (-1)) 53 fo (-1)) 54 fo (-1)) 55 fo (-1)) 56 fo (-1)) 57 fo (-1)) 48 fo 1) = bkZ fo 1 (w_up S 160 1 (S 160 1 + 1)) := rfl
                              rw [eb]
                              refine wa_cv 158 rfl (wy_pr rfl) wt_158 (M2 := mS ml) rfl at_XL_lookAtHost ⟨_, rfl⟩ rfl rfl ⟨(Or.inr ⟨wy_pr rfl, hmn⟩), trivial, trivial, trivial⟩ trivial (fun _ _ q => q) (hcal) (fun oq129 Sq129 hp130 q129 => ?_)
                              rcases q129 with ⟨rfl, hz⟩
                              show wJ _ _ _ _ _ _ _ _ _ _
                              obtain ⟨⟨hz4, hz34, hz45⟩, hzq, hzk⟩ := hR _ hz
                              have hz34b := hz34.2
                              refine wa_goto ⟨_, rfl⟩ ?_
                              refine wa_aload_n (n := 0) rfl ?_
                              refine wb_gf5 158 rfl (wy_pr rfl) wt_158 wf_5_4 (v := 226) (hz4.1) (fun r131 => ?_)
                              refine wb_gfi 226 rfl (wy_pr rfl) wt_226 wf_8_16 (v := (Sq129 226 16)) rfl (fun r132 => ?_)
                              refine wa_ifne (w_rg0 (by omega) (by omega)) ⟨_, rfl⟩ (fun c133 => ?_) (fun c133 => ?_)
                              · skip
                                refine wa_aload_n (n := 0) rfl ?_
                                refine wb_gfi 158 rfl (wy_pr rfl) wt_158 wf_5_14 (v := fo) (hz4.2.2) (fun r134 => ?_)
                                refine wa_fall ⟨_, rfl⟩ ?_
                                refine wa_ireturn rfl ?_
                                exact hzq (by omega)
                              · skip
                                refine wa_aload_n (n := 0) rfl ?_
                                refine wb_gf4 158 rfl (wy_pr rfl) wt_158 wf_5_2 (v := 34) wl_158_2 ?_
                                refine wa_bipush (w_rg2 (by omega) (by omega)) ?_
                                refine wb_aald5 34 10 rfl rfl (wy_pr rfl) wt_34 (by rw [show _ = _ from (hz34.1)]; omega) wl_34_10 ?_
                                refine wa_aload_n (n := 0) rfl ?_
                                refine wb_gfi 158 rfl (wy_pr rfl) wt_158 wf_5_6 (v := s) (hz4.2.1) (fun r135 => ?_)
                                refine wb_iald 45 rfl (wy_pr rfl) wt_45 (n := (Sq129 45 (-1))) (rfl) (by omega) (by omega) (v := (Sq129 45 s)) rfl (fun r136 => ?_)
                                refine wa_ifne (w_rg0 (by omega) (by omega)) ⟨_, rfl⟩ (fun c137 => ?_) (fun c137 => ?_)
                                · skip
                                  refine wa_aload_n (n := 0) rfl ?_
                                  refine wb_gfi 158 rfl (wy_pr rfl) wt_158 wf_5_14 (v := fo) (hz4.2.2) (fun r138 => ?_)
                                  refine wa_fall ⟨_, rfl⟩ ?_
                                  refine wa_ireturn rfl ?_
                                  exact hzq (by omega)
                                · skip
                                  refine wa_aload_n (n := 0) rfl ?_
                                  refine wa_cv 158 rfl (wy_pr rfl) wt_158 (M2 := mS ml) rfl at_XL_link ⟨_, rfl⟩ rfl rfl ⟨(Or.inr ⟨wy_pr rfl, hmn⟩), trivial, trivial, trivial⟩ trivial (fun _ _ q => q) (hzk (by omega) (by omega)) (fun oq139 Sq139 hp140 q139 => ?_)
                                  rcases q139 with ⟨lv, rfl, hqv⟩
                                  show wJ _ _ _ _ _ _ _ _ _ _
                                  refine wa_goto ⟨_, rfl⟩ ?_
                                  refine wa_ireturn rfl ?_
                                  exact hqv
                          · skip
                            exact absurd c125 (by omega)
                        · skip
                          exact absurd c124 (by omega)
                      · skip
                        exact absurd c122 (by omega)
theorem lok1_226 {ty : Int} (hC : w_CL S) (hl : cSl S) (l4 : S 158 4 = 226) (l6 : S 158 6 = s) (l7 : S 158 7 = kd) (l9 : S 158 9 = gk) (l10 : S 158 10 = gb) (l11 : S 158 11 = nm) (l13 : S 158 13 = es) (l14 : S 158 14 = fo) (hfo : 0 ≤ fo ∧ fo < S 48 (-1)) (hgk : gk = 7) (hgb : 0 ≤ gb ∧ gb < (T.length : Int)) (hty : S 129 gb = ty) (hlt : cLt S T) (hak : 0 ≤ S 160 1 ∧ S 160 1 ≤ 1000000) (hcal : wJ (pe_GA xs) wY0 (mS ml) (d + 5) t_XL_lookAtHost ((pe_at t_XL_lookAtHost.bl 0).getD (0, [])).2 [(0, (2, 158)), (1, (0, ty)), (2, (0, 0))] [] (bkZ fo 1 (w_up S 160 1 (S 160 1 + 1))) (fun o Z => o = .inl none ∧ R Z)) (hR : ∀ Z : wS, R Z → ((Z 158 4 = 226 ∧ Z 158 6 = s ∧ Z 158 14 = fo) ∧ (Z 34 (-1) = 12 ∧ 0 ≤ s ∧ s < Z 45 (-1)) ∧ (Z 45 s = 0 ∨ Z 45 s = 1)) ∧ (Z 226 16 ≠ 0 ∨ Z 45 s = 1 → Q (.inl (some (0, fo))) Z) ∧ (Z 226 16 = 0 → Z 45 s = 0 → wJ (pe_GA xs) wY0 (mS ml) (d + 5) t_XL_link ((pe_at t_XL_link.bl 0).getD (0, [])).2 [(0, (2, 158))] [] Z (fun o Z2 => ∃ v : Int, o = .inl (some (0, v)) ∧ Q (.inl (some (0, v))) Z2))) (hmn : ¬ mS ml 158) (l160 : S 160 (-1) = 4) (hT8 : (T.length : Int) ≤ 8000) : wJ (pe_GA xs) wY0 (mS ml) (d + 6) t_XL_look ((pe_at t_XL_look.bl 0).getD (0, [])).2 [(0, (2, 158))] [] S Q := by
  have h35 := hl.2.1
  have h48 := hl.2.2.2
  have ht2 := hlt.2
  refine wa_aload_n (n := 0) rfl ?_
  refine wb_gfi 158 rfl (wy_pr rfl) wt_158 wf_5_9 (v := gk) (l9) (fun r901 => ?_)
  by_cases c902 : gk = 3
  · exact absurd c902 (by omega)
  by_cases c903 : gk = 4
  · exact absurd c903 (by omega)
  by_cases c904 : gk = 5
  · exact absurd c904 (by omega)
  by_cases c905 : gk = 6
  · exact absurd c905 (by omega)
  by_cases c906 : gk = 7
  · refine wb_sw (w_rg0 (by omega) (by omega)) (tb := 2) (by rw [c906]; rfl) ⟨_, rfl⟩ ?_
    refine wa_iconst ?_
    refine wa_istore_n (n := 1) rfl ?_
    refine wa_goto ⟨_, rfl⟩ ?_
    exact wJ_S (lob1_226 (ty := ty) hC hl l4 l6 l7 l9 l10 l11 l13 l14 hfo hgk hgb hty hlt hak hcal hR hmn l160 hT8) ⟨rfl, rfl, trivial⟩
  exfalso; omega
set_option maxHeartbeats 4000000 in
theorem lob2_226 {ty : Int} (hC : w_CL S) (hl : cSl S) (l4 : S 158 4 = 226) (l6 : S 158 6 = s) (l7 : S 158 7 = kd) (l9 : S 158 9 = gk) (l10 : S 158 10 = gb) (l11 : S 158 11 = nm) (l13 : S 158 13 = es) (l14 : S 158 14 = fo) (hfo : 0 ≤ fo ∧ fo < S 48 (-1)) (hgk : gk = 8) (hgb : 0 ≤ gb ∧ gb < 8000) (hak : 0 ≤ S 160 2 ∧ S 160 2 ≤ 1000000) (hcal : wJ (pe_GA xs) wY0 (mS ml) (d + 5) t_XL_lookAtHost ((pe_at t_XL_lookAtHost.bl 0).getD (0, [])).2 [(0, (2, 158)), (1, (0, gb)), (2, (0, 1))] [] (bkZ fo 2 (w_up S 160 2 (S 160 2 + 1))) (fun o Z => o = .inl none ∧ R Z)) (hR : ∀ Z : wS, R Z → ((Z 158 4 = 226 ∧ Z 158 6 = s ∧ Z 158 14 = fo) ∧ (Z 34 (-1) = 12 ∧ 0 ≤ s ∧ s < Z 45 (-1)) ∧ (Z 45 s = 0 ∨ Z 45 s = 1)) ∧ (Z 226 16 ≠ 0 ∨ Z 45 s = 1 → Q (.inl (some (0, fo))) Z) ∧ (Z 226 16 = 0 → Z 45 s = 0 → wJ (pe_GA xs) wY0 (mS ml) (d + 5) t_XL_link ((pe_at t_XL_link.bl 0).getD (0, [])).2 [(0, (2, 158))] [] Z (fun o Z2 => ∃ v : Int, o = .inl (some (0, v)) ∧ Q (.inl (some (0, v))) Z2))) (hmn : ¬ mS ml 158) (l160 : S 160 (-1) = 4) : wJ (pe_GA xs) wY0 (mS ml) (d + 6) t_XL_look ((pe_at t_XL_look.bl 6).getD (0, [])).2 [(0, (2, 158)), (1, (0, 2))] [] S Q := by
  have h35 := hl.2.1
  have h48 := hl.2.2.2
  refine wa_aload_n (n := 0) rfl ?_
  refine wb_gf4 158 rfl (wy_pr rfl) wt_158 wf_5_18 (v := 160) wl_158_18 ?_
  refine wa_iload_n (n := 1) rfl ?_
  refine wa_dup2 (by decide) (by decide) ?_
  refine wb_iald 160 rfl (wy_pr rfl) wt_160 (n := 4) (l160) (by omega) (by omega) (v := (S 160 2)) rfl (fun r101 => ?_)
  refine wa_iconst ?_
  refine wa_iadd ?_
  refine wb_iast 160 rfl (wy_pr rfl) wt_160 (n := 4) (l160) (by omega) (by omega) ⟨(by omega), (by omega)⟩ ?_
  refine wa_iconst ?_
  refine wa_istore_n (n := 2) rfl ?_
  refine wa_fall ⟨_, rfl⟩ ?_
  refine wJ_S (L2 := [(0, (2, 158)), (1, (0, 2)), (2, (0, 0))]) ?_ ⟨rfl, rfl, rfl, trivial⟩
  refine wa_iload_n (n := 2) rfl ?_
  refine wa_bipush (w_rg2 (by omega) (by omega)) ?_
  refine wa_icmpge (w_rg0 (by omega) (by omega)) (w_rg0 (by omega) (by omega)) ⟨_, rfl⟩ (fun c102 => ?_) (fun c102 => ?_)
  · skip
    exact absurd c102 (by omega)
  · skip
    refine wa_aload_n (n := 0) rfl ?_
    refine wb_gf4 158 rfl (wy_pr rfl) wt_158 wf_5_3 (v := 47) wl_158_3 ?_
    refine wa_iload_n (n := 2) rfl ?_
    refine wb_aald5 47 0 rfl rfl (wy_pr rfl) wt_47 (by rw [show _ = _ from ((w_up_slot (by decide)).trans ((cl_47 hC)))]; omega) wl_47_0 ?_
    refine wa_aload_n (n := 0) rfl ?_
    refine wb_gfi 158 rfl (wy_pr rfl) wt_158 wf_5_14 (v := fo) ((w_up_slot (by decide)).trans (l14)) (fun r103 => ?_)
    refine wa_iconst ?_
    refine wb_iast 48 rfl (wy_pr rfl) wt_48 (n := (S 48 (-1))) ((w_up_slot (by decide)).trans (rfl)) (by omega) (by omega) ⟨(by omega), (by omega)⟩ ?_
    refine wa_iinc rfl rfl ?_
    refine wa_goto ⟨_, rfl⟩ ?_
    refine wJ_S (L2 := [(0, (2, 158)), (1, (0, 2)), (2, (0, 1))]) ?_ ⟨rfl, rfl, rfl, trivial⟩
    refine wa_iload_n (n := 2) rfl ?_
    refine wa_bipush (w_rg2 (by omega) (by omega)) ?_
    refine wa_icmpge (w_rg0 (by omega) (by omega)) (w_rg0 (by omega) (by omega)) ⟨_, rfl⟩ (fun c104 => ?_) (fun c104 => ?_)
    · skip
      exact absurd c104 (by omega)
    · skip
      refine wa_aload_n (n := 0) rfl ?_
      refine wb_gf4 158 rfl (wy_pr rfl) wt_158 wf_5_3 (v := 47) wl_158_3 ?_
      refine wa_iload_n (n := 2) rfl ?_
      refine wb_aald5 47 1 rfl rfl (wy_pr rfl) wt_47 (by rw [show _ = _ from ((w_up_slot (by decide)).trans ((w_up_slot (by decide)).trans ((cl_47 hC))))]; omega) wl_47_1 ?_
      refine wa_aload_n (n := 0) rfl ?_
      refine wb_gfi 158 rfl (wy_pr rfl) wt_158 wf_5_14 (v := fo) ((w_up_slot (by decide)).trans ((w_up_slot (by decide)).trans (l14))) (fun r105 => ?_)
      refine wa_iconst ?_
      refine wb_iast 49 rfl (wy_pr rfl) wt_49 (n := (S 48 (-1))) ((w_up_slot (by decide)).trans ((w_up_slot (by decide)).trans ((hl.2.2.1 1 (by decide))))) (by omega) (by omega) ⟨(by omega), (by omega)⟩ ?_
      refine wa_iinc rfl rfl ?_
      refine wa_goto ⟨_, rfl⟩ ?_
      refine wJ_S (L2 := [(0, (2, 158)), (1, (0, 2)), (2, (0, 2))]) ?_ ⟨rfl, rfl, rfl, trivial⟩
      refine wa_iload_n (n := 2) rfl ?_
      refine wa_bipush (w_rg2 (by omega) (by omega)) ?_
      refine wa_icmpge (w_rg0 (by omega) (by omega)) (w_rg0 (by omega) (by omega)) ⟨_, rfl⟩ (fun c106 => ?_) (fun c106 => ?_)
      · skip
        exact absurd c106 (by omega)
      · skip
        refine wa_aload_n (n := 0) rfl ?_
        refine wb_gf4 158 rfl (wy_pr rfl) wt_158 wf_5_3 (v := 47) wl_158_3 ?_
        refine wa_iload_n (n := 2) rfl ?_
        refine wb_aald5 47 2 rfl rfl (wy_pr rfl) wt_47 (by rw [show _ = _ from ((w_up_slot (by decide)).trans ((w_up_slot (by decide)).trans ((w_up_slot (by decide)).trans ((cl_47 hC)))))]; omega) wl_47_2 ?_
        refine wa_aload_n (n := 0) rfl ?_
        refine wb_gfi 158 rfl (wy_pr rfl) wt_158 wf_5_14 (v := fo) ((w_up_slot (by decide)).trans ((w_up_slot (by decide)).trans ((w_up_slot (by decide)).trans (l14)))) (fun r107 => ?_)
        refine wa_iconst ?_
        refine wb_iast 50 rfl (wy_pr rfl) wt_50 (n := (S 48 (-1))) ((w_up_slot (by decide)).trans ((w_up_slot (by decide)).trans ((w_up_slot (by decide)).trans ((hl.2.2.1 2 (by decide)))))) (by omega) (by omega) ⟨(by omega), (by omega)⟩ ?_
        refine wa_iinc rfl rfl ?_
        refine wa_goto ⟨_, rfl⟩ ?_
        refine wJ_S (L2 := [(0, (2, 158)), (1, (0, 2)), (2, (0, 3))]) ?_ ⟨rfl, rfl, rfl, trivial⟩
        refine wa_iload_n (n := 2) rfl ?_
        refine wa_bipush (w_rg2 (by omega) (by omega)) ?_
        refine wa_icmpge (w_rg0 (by omega) (by omega)) (w_rg0 (by omega) (by omega)) ⟨_, rfl⟩ (fun c108 => ?_) (fun c108 => ?_)
        · skip
          exact absurd c108 (by omega)
        · skip
          refine wa_aload_n (n := 0) rfl ?_
          refine wb_gf4 158 rfl (wy_pr rfl) wt_158 wf_5_3 (v := 47) wl_158_3 ?_
          refine wa_iload_n (n := 2) rfl ?_
          refine wb_aald5 47 3 rfl rfl (wy_pr rfl) wt_47 (by rw [show _ = _ from ((w_up_slot (by decide)).trans ((w_up_slot (by decide)).trans ((w_up_slot (by decide)).trans ((w_up_slot (by decide)).trans ((cl_47 hC))))))]; omega) wl_47_3 ?_
          refine wa_aload_n (n := 0) rfl ?_
          refine wb_gfi 158 rfl (wy_pr rfl) wt_158 wf_5_14 (v := fo) ((w_up_slot (by decide)).trans ((w_up_slot (by decide)).trans ((w_up_slot (by decide)).trans ((w_up_slot (by decide)).trans (l14))))) (fun r109 => ?_)
          refine wa_iconst ?_
          refine wb_iast 51 rfl (wy_pr rfl) wt_51 (n := (S 48 (-1))) ((w_up_slot (by decide)).trans ((w_up_slot (by decide)).trans ((w_up_slot (by decide)).trans ((w_up_slot (by decide)).trans ((hl.2.2.1 3 (by decide))))))) (by omega) (by omega) ⟨(by omega), (by omega)⟩ ?_
          refine wa_iinc rfl rfl ?_
          refine wa_goto ⟨_, rfl⟩ ?_
          refine wJ_S (L2 := [(0, (2, 158)), (1, (0, 2)), (2, (0, 4))]) ?_ ⟨rfl, rfl, rfl, trivial⟩
          refine wa_iload_n (n := 2) rfl ?_
          refine wa_bipush (w_rg2 (by omega) (by omega)) ?_
          refine wa_icmpge (w_rg0 (by omega) (by omega)) (w_rg0 (by omega) (by omega)) ⟨_, rfl⟩ (fun c110 => ?_) (fun c110 => ?_)
          · skip
            exact absurd c110 (by omega)
          · skip
            refine wa_aload_n (n := 0) rfl ?_
            refine wb_gf4 158 rfl (wy_pr rfl) wt_158 wf_5_3 (v := 47) wl_158_3 ?_
            refine wa_iload_n (n := 2) rfl ?_
            refine wb_aald5 47 4 rfl rfl (wy_pr rfl) wt_47 (by rw [show _ = _ from ((w_up_slot (by decide)).trans ((w_up_slot (by decide)).trans ((w_up_slot (by decide)).trans ((w_up_slot (by decide)).trans ((w_up_slot (by decide)).trans ((cl_47 hC)))))))]; omega) wl_47_4 ?_
            refine wa_aload_n (n := 0) rfl ?_
            refine wb_gfi 158 rfl (wy_pr rfl) wt_158 wf_5_14 (v := fo) ((w_up_slot (by decide)).trans ((w_up_slot (by decide)).trans ((w_up_slot (by decide)).trans ((w_up_slot (by decide)).trans ((w_up_slot (by decide)).trans (l14)))))) (fun r111 => ?_)
            refine wa_iconst ?_
            refine wb_iast 52 rfl (wy_pr rfl) wt_52 (n := (S 48 (-1))) ((w_up_slot (by decide)).trans ((w_up_slot (by decide)).trans ((w_up_slot (by decide)).trans ((w_up_slot (by decide)).trans ((w_up_slot (by decide)).trans ((hl.2.2.1 4 (by decide)))))))) (by omega) (by omega) ⟨(by omega), (by omega)⟩ ?_
            refine wa_iinc rfl rfl ?_
            refine wa_goto ⟨_, rfl⟩ ?_
            refine wJ_S (L2 := [(0, (2, 158)), (1, (0, 2)), (2, (0, 5))]) ?_ ⟨rfl, rfl, rfl, trivial⟩
            refine wa_iload_n (n := 2) rfl ?_
            refine wa_bipush (w_rg2 (by omega) (by omega)) ?_
            refine wa_icmpge (w_rg0 (by omega) (by omega)) (w_rg0 (by omega) (by omega)) ⟨_, rfl⟩ (fun c112 => ?_) (fun c112 => ?_)
            · skip
              exact absurd c112 (by omega)
            · skip
              refine wa_aload_n (n := 0) rfl ?_
              refine wb_gf4 158 rfl (wy_pr rfl) wt_158 wf_5_3 (v := 47) wl_158_3 ?_
              refine wa_iload_n (n := 2) rfl ?_
              refine wb_aald5 47 5 rfl rfl (wy_pr rfl) wt_47 (by rw [show _ = _ from ((w_up_slot (by decide)).trans ((w_up_slot (by decide)).trans ((w_up_slot (by decide)).trans ((w_up_slot (by decide)).trans ((w_up_slot (by decide)).trans ((w_up_slot (by decide)).trans ((cl_47 hC))))))))]; omega) wl_47_5 ?_
              refine wa_aload_n (n := 0) rfl ?_
              refine wb_gfi 158 rfl (wy_pr rfl) wt_158 wf_5_14 (v := fo) ((w_up_slot (by decide)).trans ((w_up_slot (by decide)).trans ((w_up_slot (by decide)).trans ((w_up_slot (by decide)).trans ((w_up_slot (by decide)).trans ((w_up_slot (by decide)).trans (l14))))))) (fun r113 => ?_)
              refine wa_iconst ?_
              refine wb_iast 53 rfl (wy_pr rfl) wt_53 (n := (S 48 (-1))) ((w_up_slot (by decide)).trans ((w_up_slot (by decide)).trans ((w_up_slot (by decide)).trans ((w_up_slot (by decide)).trans ((w_up_slot (by decide)).trans ((w_up_slot (by decide)).trans ((hl.2.2.1 5 (by decide))))))))) (by omega) (by omega) ⟨(by omega), (by omega)⟩ ?_
              refine wa_iinc rfl rfl ?_
              refine wa_goto ⟨_, rfl⟩ ?_
              refine wJ_S (L2 := [(0, (2, 158)), (1, (0, 2)), (2, (0, 6))]) ?_ ⟨rfl, rfl, rfl, trivial⟩
              refine wa_iload_n (n := 2) rfl ?_
              refine wa_bipush (w_rg2 (by omega) (by omega)) ?_
              refine wa_icmpge (w_rg0 (by omega) (by omega)) (w_rg0 (by omega) (by omega)) ⟨_, rfl⟩ (fun c114 => ?_) (fun c114 => ?_)
              · skip
                exact absurd c114 (by omega)
              · skip
                refine wa_aload_n (n := 0) rfl ?_
                refine wb_gf4 158 rfl (wy_pr rfl) wt_158 wf_5_3 (v := 47) wl_158_3 ?_
                refine wa_iload_n (n := 2) rfl ?_
                refine wb_aald5 47 6 rfl rfl (wy_pr rfl) wt_47 (by rw [show _ = _ from ((w_up_slot (by decide)).trans ((w_up_slot (by decide)).trans ((w_up_slot (by decide)).trans ((w_up_slot (by decide)).trans ((w_up_slot (by decide)).trans ((w_up_slot (by decide)).trans ((w_up_slot (by decide)).trans ((cl_47 hC)))))))))]; omega) wl_47_6 ?_
                refine wa_aload_n (n := 0) rfl ?_
                refine wb_gfi 158 rfl (wy_pr rfl) wt_158 wf_5_14 (v := fo) ((w_up_slot (by decide)).trans ((w_up_slot (by decide)).trans ((w_up_slot (by decide)).trans ((w_up_slot (by decide)).trans ((w_up_slot (by decide)).trans ((w_up_slot (by decide)).trans ((w_up_slot (by decide)).trans (l14)))))))) (fun r115 => ?_)
                refine wa_iconst ?_
                refine wb_iast 54 rfl (wy_pr rfl) wt_54 (n := (S 48 (-1))) ((w_up_slot (by decide)).trans ((w_up_slot (by decide)).trans ((w_up_slot (by decide)).trans ((w_up_slot (by decide)).trans ((w_up_slot (by decide)).trans ((w_up_slot (by decide)).trans ((w_up_slot (by decide)).trans ((hl.2.2.1 6 (by decide)))))))))) (by omega) (by omega) ⟨(by omega), (by omega)⟩ ?_
                refine wa_iinc rfl rfl ?_
                refine wa_goto ⟨_, rfl⟩ ?_
                refine wJ_S (L2 := [(0, (2, 158)), (1, (0, 2)), (2, (0, 7))]) ?_ ⟨rfl, rfl, rfl, trivial⟩
                refine wa_iload_n (n := 2) rfl ?_
                refine wa_bipush (w_rg2 (by omega) (by omega)) ?_
                refine wa_icmpge (w_rg0 (by omega) (by omega)) (w_rg0 (by omega) (by omega)) ⟨_, rfl⟩ (fun c116 => ?_) (fun c116 => ?_)
                · skip
                  exact absurd c116 (by omega)
                · skip
                  refine wa_aload_n (n := 0) rfl ?_
                  refine wb_gf4 158 rfl (wy_pr rfl) wt_158 wf_5_3 (v := 47) wl_158_3 ?_
                  refine wa_iload_n (n := 2) rfl ?_
                  refine wb_aald5 47 7 rfl rfl (wy_pr rfl) wt_47 (by rw [show _ = _ from ((w_up_slot (by decide)).trans ((w_up_slot (by decide)).trans ((w_up_slot (by decide)).trans ((w_up_slot (by decide)).trans ((w_up_slot (by decide)).trans ((w_up_slot (by decide)).trans ((w_up_slot (by decide)).trans ((w_up_slot (by decide)).trans ((cl_47 hC))))))))))]; omega) wl_47_7 ?_
                  refine wa_aload_n (n := 0) rfl ?_
                  refine wb_gfi 158 rfl (wy_pr rfl) wt_158 wf_5_14 (v := fo) ((w_up_slot (by decide)).trans ((w_up_slot (by decide)).trans ((w_up_slot (by decide)).trans ((w_up_slot (by decide)).trans ((w_up_slot (by decide)).trans ((w_up_slot (by decide)).trans ((w_up_slot (by decide)).trans ((w_up_slot (by decide)).trans (l14))))))))) (fun r117 => ?_)
                  refine wa_iconst ?_
                  refine wb_iast 55 rfl (wy_pr rfl) wt_55 (n := (S 48 (-1))) ((w_up_slot (by decide)).trans ((w_up_slot (by decide)).trans ((w_up_slot (by decide)).trans ((w_up_slot (by decide)).trans ((w_up_slot (by decide)).trans ((w_up_slot (by decide)).trans ((w_up_slot (by decide)).trans ((w_up_slot (by decide)).trans ((hl.2.2.1 7 (by decide))))))))))) (by omega) (by omega) ⟨(by omega), (by omega)⟩ ?_
                  refine wa_iinc rfl rfl ?_
                  refine wa_goto ⟨_, rfl⟩ ?_
                  refine wJ_S (L2 := [(0, (2, 158)), (1, (0, 2)), (2, (0, 8))]) ?_ ⟨rfl, rfl, rfl, trivial⟩
                  refine wa_iload_n (n := 2) rfl ?_
                  refine wa_bipush (w_rg2 (by omega) (by omega)) ?_
                  refine wa_icmpge (w_rg0 (by omega) (by omega)) (w_rg0 (by omega) (by omega)) ⟨_, rfl⟩ (fun c118 => ?_) (fun c118 => ?_)
                  · skip
                    exact absurd c118 (by omega)
                  · skip
                    refine wa_aload_n (n := 0) rfl ?_
                    refine wb_gf4 158 rfl (wy_pr rfl) wt_158 wf_5_3 (v := 47) wl_158_3 ?_
                    refine wa_iload_n (n := 2) rfl ?_
                    refine wb_aald5 47 8 rfl rfl (wy_pr rfl) wt_47 (by rw [show _ = _ from ((w_up_slot (by decide)).trans ((w_up_slot (by decide)).trans ((w_up_slot (by decide)).trans ((w_up_slot (by decide)).trans ((w_up_slot (by decide)).trans ((w_up_slot (by decide)).trans ((w_up_slot (by decide)).trans ((w_up_slot (by decide)).trans ((w_up_slot (by decide)).trans ((cl_47 hC)))))))))))]; omega) wl_47_8 ?_
                    refine wa_aload_n (n := 0) rfl ?_
                    refine wb_gfi 158 rfl (wy_pr rfl) wt_158 wf_5_14 (v := fo) ((w_up_slot (by decide)).trans ((w_up_slot (by decide)).trans ((w_up_slot (by decide)).trans ((w_up_slot (by decide)).trans ((w_up_slot (by decide)).trans ((w_up_slot (by decide)).trans ((w_up_slot (by decide)).trans ((w_up_slot (by decide)).trans ((w_up_slot (by decide)).trans (l14)))))))))) (fun r119 => ?_)
                    refine wa_iconst ?_
                    refine wb_iast 56 rfl (wy_pr rfl) wt_56 (n := (S 48 (-1))) ((w_up_slot (by decide)).trans ((w_up_slot (by decide)).trans ((w_up_slot (by decide)).trans ((w_up_slot (by decide)).trans ((w_up_slot (by decide)).trans ((w_up_slot (by decide)).trans ((w_up_slot (by decide)).trans ((w_up_slot (by decide)).trans ((w_up_slot (by decide)).trans ((hl.2.2.1 8 (by decide)))))))))))) (by omega) (by omega) ⟨(by omega), (by omega)⟩ ?_
                    refine wa_iinc rfl rfl ?_
                    refine wa_goto ⟨_, rfl⟩ ?_
                    refine wJ_S (L2 := [(0, (2, 158)), (1, (0, 2)), (2, (0, 9))]) ?_ ⟨rfl, rfl, rfl, trivial⟩
                    refine wa_iload_n (n := 2) rfl ?_
                    refine wa_bipush (w_rg2 (by omega) (by omega)) ?_
                    refine wa_icmpge (w_rg0 (by omega) (by omega)) (w_rg0 (by omega) (by omega)) ⟨_, rfl⟩ (fun c120 => ?_) (fun c120 => ?_)
                    · skip
                      exact absurd c120 (by omega)
                    · skip
                      refine wa_aload_n (n := 0) rfl ?_
                      refine wb_gf4 158 rfl (wy_pr rfl) wt_158 wf_5_3 (v := 47) wl_158_3 ?_
                      refine wa_iload_n (n := 2) rfl ?_
                      refine wb_aald5 47 9 rfl rfl (wy_pr rfl) wt_47 (by rw [show _ = _ from ((w_up_slot (by decide)).trans ((w_up_slot (by decide)).trans ((w_up_slot (by decide)).trans ((w_up_slot (by decide)).trans ((w_up_slot (by decide)).trans ((w_up_slot (by decide)).trans ((w_up_slot (by decide)).trans ((w_up_slot (by decide)).trans ((w_up_slot (by decide)).trans ((w_up_slot (by decide)).trans ((cl_47 hC))))))))))))]; omega) wl_47_9 ?_
                      refine wa_aload_n (n := 0) rfl ?_
                      refine wb_gfi 158 rfl (wy_pr rfl) wt_158 wf_5_14 (v := fo) ((w_up_slot (by decide)).trans ((w_up_slot (by decide)).trans ((w_up_slot (by decide)).trans ((w_up_slot (by decide)).trans ((w_up_slot (by decide)).trans ((w_up_slot (by decide)).trans ((w_up_slot (by decide)).trans ((w_up_slot (by decide)).trans ((w_up_slot (by decide)).trans ((w_up_slot (by decide)).trans (l14))))))))))) (fun r121 => ?_)
                      refine wa_iconst ?_
                      refine wb_iast 57 rfl (wy_pr rfl) wt_57 (n := (S 48 (-1))) ((w_up_slot (by decide)).trans ((w_up_slot (by decide)).trans ((w_up_slot (by decide)).trans ((w_up_slot (by decide)).trans ((w_up_slot (by decide)).trans ((w_up_slot (by decide)).trans ((w_up_slot (by decide)).trans ((w_up_slot (by decide)).trans ((w_up_slot (by decide)).trans ((w_up_slot (by decide)).trans ((hl.2.2.1 9 (by decide))))))))))))) (by omega) (by omega) ⟨(by omega), (by omega)⟩ ?_
                      refine wa_iinc rfl rfl ?_
                      refine wa_goto ⟨_, rfl⟩ ?_
                      refine wJ_S (L2 := [(0, (2, 158)), (1, (0, 2)), (2, (0, 10))]) ?_ ⟨rfl, rfl, rfl, trivial⟩
                      refine wa_iload_n (n := 2) rfl ?_
                      refine wa_bipush (w_rg2 (by omega) (by omega)) ?_
                      refine wa_icmpge (w_rg0 (by omega) (by omega)) (w_rg0 (by omega) (by omega)) ⟨_, rfl⟩ (fun c122 => ?_) (fun c122 => ?_)
                      · skip
                        refine wa_aload_n (n := 0) rfl ?_
                        refine wb_gf4 158 rfl (wy_pr rfl) wt_158 wf_5_3 (v := 47) wl_158_3 ?_
                        refine wa_iconst ?_
                        refine wb_aald5 47 0 rfl rfl (wy_pr rfl) wt_47 (by rw [show _ = _ from ((w_up_slot (by decide)).trans ((w_up_slot (by decide)).trans ((w_up_slot (by decide)).trans ((w_up_slot (by decide)).trans ((w_up_slot (by decide)).trans ((w_up_slot (by decide)).trans ((w_up_slot (by decide)).trans ((w_up_slot (by decide)).trans ((w_up_slot (by decide)).trans ((w_up_slot (by decide)).trans ((w_up_slot (by decide)).trans ((cl_47 hC)))))))))))))]; omega) wl_47_0 ?_
                        refine wa_aload_n (n := 0) rfl ?_
                        refine wb_gfi 158 rfl (wy_pr rfl) wt_158 wf_5_14 (v := fo) ((w_up_slot (by decide)).trans ((w_up_slot (by decide)).trans ((w_up_slot (by decide)).trans ((w_up_slot (by decide)).trans ((w_up_slot (by decide)).trans ((w_up_slot (by decide)).trans ((w_up_slot (by decide)).trans ((w_up_slot (by decide)).trans ((w_up_slot (by decide)).trans ((w_up_slot (by decide)).trans ((w_up_slot (by decide)).trans (l14)))))))))))) (fun r123 => ?_)
                        refine wa_iload_n (n := 1) rfl ?_
                        refine wb_iast 48 rfl (wy_pr rfl) wt_48 (n := (S 48 (-1))) ((w_up_slot (by decide)).trans ((w_up_slot (by decide)).trans ((w_up_slot (by decide)).trans ((w_up_slot (by decide)).trans ((w_up_slot (by decide)).trans ((w_up_slot (by decide)).trans ((w_up_slot (by decide)).trans ((w_up_slot (by decide)).trans ((w_up_slot (by decide)).trans ((w_up_at (by omega)).trans ((w_up_slot (by decide)).trans (rfl)))))))))))) (by omega) (by omega) ⟨(by omega), (by omega)⟩ ?_
                        refine wa_iload_n (n := 1) rfl ?_
                        refine wa_ifne (w_rg0 (by omega) (by omega)) ⟨_, rfl⟩ (fun c124 => ?_) (fun c124 => ?_)
                        · skip
                          refine wa_iload_n (n := 1) rfl ?_
                          refine wa_iconst ?_
                          refine wa_icmpne (w_rg0 (by omega) (by omega)) (w_rg0 (by omega) (by omega)) ⟨_, rfl⟩ (fun c125 => ?_) (fun c125 => ?_)
                          · skip
                            refine wa_iload_n (n := 1) rfl ?_
                            refine wa_iconst ?_
                            refine wa_icmpne (w_rg0 (by omega) (by omega)) (w_rg0 (by omega) (by omega)) ⟨_, rfl⟩ (fun c126 => ?_) (fun c126 => ?_)
                            · skip
                              refine wa_aload_n (n := 0) rfl ?_
                              refine wa_aload_n (n := 0) rfl ?_
                              refine wb_gfl 158 rfl (wy_pr rfl) wt_158 wf_5_10 (v := gb) ((w_up_slot (by decide)).trans ((w_up_slot (by decide)).trans ((w_up_slot (by decide)).trans ((w_up_slot (by decide)).trans ((w_up_slot (by decide)).trans ((w_up_slot (by decide)).trans ((w_up_slot (by decide)).trans ((w_up_slot (by decide)).trans ((w_up_slot (by decide)).trans ((w_up_slot (by decide)).trans ((w_up_slot (by decide)).trans ((w_up_slot (by decide)).trans (l10))))))))))))) (fun r127 => ?_)
                              refine wb_l2i_r (wb_l2i_id ⟨(by omega), (by omega)⟩) ?_
                              refine wa_iconst ?_
                              have eb : (w_up (w_up (w_up (w_up (w_up (w_up (w_up (w_up (w_up (w_up (w_up (w_up S 160 2 ((S 160 2) + 1)) 48 fo (-1)) 49 fo (-1)) 50 fo (-1)) 51 fo (-1)) 52 fo (-1)) 53 fo (-1)) 54 fo (-1)) 55 fo (-1)) 56 fo (-1)) 57 fo (-1)) 48 fo 2) = bkZ fo 2 (w_up S 160 2 (S 160 2 + 1)) := rfl
                              rw [eb]
                              refine wa_cv 158 rfl (wy_pr rfl) wt_158 (M2 := mS ml) rfl at_XL_lookAtHost ⟨_, rfl⟩ rfl rfl ⟨(Or.inr ⟨wy_pr rfl, hmn⟩), trivial, trivial, trivial⟩ trivial (fun _ _ q => q) (hcal) (fun oq128 Sq128 hp129 q128 => ?_)
                              rcases q128 with ⟨rfl, hz⟩
                              show wJ _ _ _ _ _ _ _ _ _ _
                              obtain ⟨⟨hz4, hz34, hz45⟩, hzq, hzk⟩ := hR _ hz
                              have hz34b := hz34.2
                              refine wa_fall ⟨_, rfl⟩ ?_
                              refine wa_aload_n (n := 0) rfl ?_
                              refine wb_gf5 158 rfl (wy_pr rfl) wt_158 wf_5_4 (v := 226) (hz4.1) (fun r130 => ?_)
                              refine wb_gfi 226 rfl (wy_pr rfl) wt_226 wf_8_16 (v := (Sq128 226 16)) rfl (fun r131 => ?_)
                              refine wa_ifne (w_rg0 (by omega) (by omega)) ⟨_, rfl⟩ (fun c132 => ?_) (fun c132 => ?_)
                              · skip
                                refine wa_aload_n (n := 0) rfl ?_
                                refine wb_gfi 158 rfl (wy_pr rfl) wt_158 wf_5_14 (v := fo) (hz4.2.2) (fun r133 => ?_)
                                refine wa_fall ⟨_, rfl⟩ ?_
                                refine wa_ireturn rfl ?_
                                exact hzq (by omega)
                              · skip
                                refine wa_aload_n (n := 0) rfl ?_
                                refine wb_gf4 158 rfl (wy_pr rfl) wt_158 wf_5_2 (v := 34) wl_158_2 ?_
                                refine wa_bipush (w_rg2 (by omega) (by omega)) ?_
                                refine wb_aald5 34 10 rfl rfl (wy_pr rfl) wt_34 (by rw [show _ = _ from (hz34.1)]; omega) wl_34_10 ?_
                                refine wa_aload_n (n := 0) rfl ?_
                                refine wb_gfi 158 rfl (wy_pr rfl) wt_158 wf_5_6 (v := s) (hz4.2.1) (fun r134 => ?_)
                                refine wb_iald 45 rfl (wy_pr rfl) wt_45 (n := (Sq128 45 (-1))) (rfl) (by omega) (by omega) (v := (Sq128 45 s)) rfl (fun r135 => ?_)
                                refine wa_ifne (w_rg0 (by omega) (by omega)) ⟨_, rfl⟩ (fun c136 => ?_) (fun c136 => ?_)
                                · skip
                                  refine wa_aload_n (n := 0) rfl ?_
                                  refine wb_gfi 158 rfl (wy_pr rfl) wt_158 wf_5_14 (v := fo) (hz4.2.2) (fun r137 => ?_)
                                  refine wa_fall ⟨_, rfl⟩ ?_
                                  refine wa_ireturn rfl ?_
                                  exact hzq (by omega)
                                · skip
                                  refine wa_aload_n (n := 0) rfl ?_
                                  refine wa_cv 158 rfl (wy_pr rfl) wt_158 (M2 := mS ml) rfl at_XL_link ⟨_, rfl⟩ rfl rfl ⟨(Or.inr ⟨wy_pr rfl, hmn⟩), trivial, trivial, trivial⟩ trivial (fun _ _ q => q) (hzk (by omega) (by omega)) (fun oq138 Sq138 hp139 q138 => ?_)
                                  rcases q138 with ⟨lv, rfl, hqv⟩
                                  show wJ _ _ _ _ _ _ _ _ _ _
                                  refine wa_goto ⟨_, rfl⟩ ?_
                                  refine wa_ireturn rfl ?_
                                  exact hqv
                            · skip
                              exact absurd c126 (by omega)
                          · skip
                            exact absurd c125 (by omega)
                        · skip
                          exact absurd c124 (by omega)
                      · skip
                        exact absurd c122 (by omega)
theorem lok2_226 {ty : Int} (hC : w_CL S) (hl : cSl S) (l4 : S 158 4 = 226) (l6 : S 158 6 = s) (l7 : S 158 7 = kd) (l9 : S 158 9 = gk) (l10 : S 158 10 = gb) (l11 : S 158 11 = nm) (l13 : S 158 13 = es) (l14 : S 158 14 = fo) (hfo : 0 ≤ fo ∧ fo < S 48 (-1)) (hgk : gk = 8) (hgb : 0 ≤ gb ∧ gb < 8000) (hak : 0 ≤ S 160 2 ∧ S 160 2 ≤ 1000000) (hcal : wJ (pe_GA xs) wY0 (mS ml) (d + 5) t_XL_lookAtHost ((pe_at t_XL_lookAtHost.bl 0).getD (0, [])).2 [(0, (2, 158)), (1, (0, gb)), (2, (0, 1))] [] (bkZ fo 2 (w_up S 160 2 (S 160 2 + 1))) (fun o Z => o = .inl none ∧ R Z)) (hR : ∀ Z : wS, R Z → ((Z 158 4 = 226 ∧ Z 158 6 = s ∧ Z 158 14 = fo) ∧ (Z 34 (-1) = 12 ∧ 0 ≤ s ∧ s < Z 45 (-1)) ∧ (Z 45 s = 0 ∨ Z 45 s = 1)) ∧ (Z 226 16 ≠ 0 ∨ Z 45 s = 1 → Q (.inl (some (0, fo))) Z) ∧ (Z 226 16 = 0 → Z 45 s = 0 → wJ (pe_GA xs) wY0 (mS ml) (d + 5) t_XL_link ((pe_at t_XL_link.bl 0).getD (0, [])).2 [(0, (2, 158))] [] Z (fun o Z2 => ∃ v : Int, o = .inl (some (0, v)) ∧ Q (.inl (some (0, v))) Z2))) (hmn : ¬ mS ml 158) (l160 : S 160 (-1) = 4) : wJ (pe_GA xs) wY0 (mS ml) (d + 6) t_XL_look ((pe_at t_XL_look.bl 0).getD (0, [])).2 [(0, (2, 158))] [] S Q := by
  have h35 := hl.2.1
  have h48 := hl.2.2.2
  refine wa_aload_n (n := 0) rfl ?_
  refine wb_gfi 158 rfl (wy_pr rfl) wt_158 wf_5_9 (v := gk) (l9) (fun r901 => ?_)
  by_cases c902 : gk = 3
  · exact absurd c902 (by omega)
  by_cases c903 : gk = 4
  · exact absurd c903 (by omega)
  by_cases c904 : gk = 5
  · exact absurd c904 (by omega)
  by_cases c905 : gk = 6
  · exact absurd c905 (by omega)
  by_cases c906 : gk = 7
  · exact absurd c906 (by omega)
  by_cases c907 : gk = 8
  · refine wb_sw (w_rg0 (by omega) (by omega)) (tb := 3) (by rw [c907]; rfl) ⟨_, rfl⟩ ?_
    refine wa_iconst ?_
    refine wa_istore_n (n := 1) rfl ?_
    refine wa_goto ⟨_, rfl⟩ ?_
    exact wJ_S (lob2_226 (ty := 0) hC hl l4 l6 l7 l9 l10 l11 l13 l14 hfo hgk hgb hak hcal hR hmn l160) ⟨rfl, rfl, trivial⟩
  exfalso; omega
end Wgl
