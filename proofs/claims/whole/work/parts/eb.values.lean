/-! PART eb: the class's addValue, dropValue, noteChange. -/
section Web
variable {xs : List (Nat × List Int32)} {M : Nat → Prop} {d : Nat} {S Z A B : wS} {Q : wO → wS → Prop}
theorem wb_acL {G : pe_G} {mt : pe_Mt} {rest : List pe_I} {L : wL} {st : List wv} {x y n dp sp : Int} {ix : Nat} {ws : List Nat} (a b : Nat) (hx : x = a) (hy : y = b) (ha : w_pr wY0 S a) (hb : w_pr wY0 S b) (hta : wY0.ty a = 1) (htb : wY0.ty b = 1) (hI : gI S) (hR : rmR A S) (hb2 : b < 237 ∧ b ≠ 14) (hn : 0 ≤ n) (hs : 0 ≤ sp) (hd0 : 0 ≤ dp) (hs1 : sp + n ≤ S a (-1)) (hd1 : dp + n ≤ S b (-1)) (hd : 0 < d) (hc : Nat.ble (w_cat st) 8 = true) (k : ∀ Z, cp_ag S Z a b sp dp n → gI Z → rmR A Z → wJ G wY0 M d mt rest L st Z Q) : wJ G wY0 M d mt (.inr (.inr (.inr (.inr (.inr (.inr (.inr (.inr (.inr (.inr (.inr (.inr (.inr (.inr (.inr (.inl (.inr (.inr (.inl (ix, ws))))))))))))))))))) :: rest) L ((0, n) :: (0, dp) :: (2, y) :: (0, sp) :: (2, x) :: st) S Q := by
  refine wa_acL a b hx hy ha hb hta htb hn hs hd0 hs1 hd1 hd hc (k _ ⟨fun j i h => ?_, fun i i0 i1 => ?_⟩ (gI_ag hI (fun j hj => funext fun i => w_cp_of (by omega) i)) (rmR_ag hR (fun k _ => w_cp_out (by omega)) (w_cp_of (by unfold wG; omega) _) (w_cp_of (by unfold wG; omega) _)))
  · rcases h with h | h
    · exact w_cp_of h i
    · exact w_cp_out h
  · rw [w_cp_in (by omega) (by omega), show dp + i - dp = i by omega]
/-- a value comes to a thing: to its room, behind its room, or the thing moves -/
def avH_ag (k kd bt : Int) (S Z : wS) : Prop := (Z 134 k = S 134 k + 1 ∧ Z 150 1 = S 150 1 + 1) ∧ (((S 134 k < S 135 k ∧ Z 133 k = S 133 k ∧ Z 135 k = S 135 k ∧ Z 140 2 = S 140 2) ∨ (S 134 k = S 135 k ∧ S 133 k + S 134 k = S 140 2 ∧ Z 133 k = S 133 k ∧ Z 135 k = S 135 k + 1 ∧ Z 140 2 = S 140 2 + 1)) ∨ (S 134 k = S 135 k ∧ Z 133 k = S 140 2 ∧ Z 135 k = (if 4 ≤ S 134 k * 2 then S 134 k * 2 else 4) ∧ Z 140 2 = S 140 2 + Z 135 k)) ∧ (∀ i : Int, 0 ≤ i → i < S 134 k → Z 141 (Z 133 k + i) = S 141 (S 133 k + i) ∧ Z 142 (Z 133 k + i) = S 142 (S 133 k + i)) ∧ (Z 141 (Z 133 k + S 134 k) = kd ∧ Z 142 (Z 133 k + S 134 k) = bt) ∧ (∀ i : Int, 0 ≤ i → i < S 140 2 → (i < S 133 k ∨ S 133 k + S 135 k ≤ i) → Z 141 i = S 141 i ∧ Z 142 i = S 142 i) ∧ (Z 142 (-1) = Z 141 (-1) ∧ Z 140 2 ≤ Z 141 (-1) ∧ S 141 (-1) ≤ Z 141 (-1) ∧ (Z 141 (-1) = S 141 (-1) ∨ Z 141 (-1) ≤ 2 * Z 140 2)) ∧ (∀ (j : Nat) (i : Int), j < 4000000 → j ≠ wG → j ≠ 141 → j ≠ 142 → ((j ≠ 133 ∧ j ≠ 134 ∧ j ≠ 135) ∨ i ≠ k) → (j ≠ 140 ∨ i ≠ 2) → (j ≠ 150 ∨ i ≠ 1) → Z j i = S j i) ∧ gI Z ∧ rmR S Z
set_option maxHeartbeats 4000000 in
theorem avH_ok {k kd bt st sz rm cs v0 : Int} (hC : w_CL S) (hI : gI S) (h2 : S 140 2 = cs) (hcs : 0 ≤ cs ∧ cs ≤ S 141 (-1)) (hl : S 142 (-1) = S 141 (-1)) (hz : 16 ≤ S 141 (-1) ∧ S 141 (-1) ≤ 480400) (hth : ∀ x : Nat, x < 10 → S (127 + x) (-1) = S 127 (-1)) (hk : 0 ≤ k ∧ k < S 127 (-1)) (hk2 : S 127 (-1) ≤ 16383) (hst : S 133 k = st) (hsz : S 134 k = sz) (hrm : S 135 k = rm) (hs1 : 0 ≤ st ∧ 0 ≤ sz ∧ sz ≤ rm ∧ st + rm ≤ cs) (hv0 : S 150 1 = v0) (hv1 : 0 ≤ v0 ∧ v0 ≤ 60000) (hs2 : sz ≤ 100000) (hkd : -128 ≤ kd ∧ kd ≤ 127) (hbt : -9223372036854775808 ≤ bt ∧ bt ≤ 9223372036854775807) : wJ (pe_GA xs) wY0 (mS [141, 142]) (d + 5) t_XH_addValue ((pe_at t_XH_addValue.bl 0).getD (0, [])).2 [(0, (2, 72)), (1, (0, k)), (2, (0, kd)), (3, (1, bt))] [] S (fun o Z => o = .inl none ∧ avH_ag k kd bt S Z) := by
  have hg : wG = 1000000 := rfl
  have hRm := rmR_rfl S
  refine wa_aload_n (n := 0) rfl ?_
  refine wb_gf4 72 rfl (wy_pr rfl) wt_72 wf_2_2 (v := 126) wl_72_2 ?_
  refine wa_bipush (w_rg2 (by omega) (by omega)) ?_
  refine wb_aald5 126 7 rfl rfl (wy_pr rfl) wt_126 (by rw [show _ = _ from ((cl_126 hC))]; omega) wl_126_7 ?_
  refine wa_iload_n (n := 1) rfl ?_
  refine wb_iald 134 rfl (wy_pr rfl) wt_134 (n := (S 127 (-1))) ((hth 7 (by decide))) (by omega) (by omega) (v := sz) (hsz) (fun r1 => ?_)
  refine wa_istore (n := 5) rfl ?_
  refine wa_aload_n (n := 0) rfl ?_
  refine wb_gf4 72 rfl (wy_pr rfl) wt_72 wf_2_2 (v := 126) wl_72_2 ?_
  refine wa_bipush (w_rg2 (by omega) (by omega)) ?_
  refine wb_aald5 126 6 rfl rfl (wy_pr rfl) wt_126 (by rw [show _ = _ from ((cl_126 hC))]; omega) wl_126_6 ?_
  refine wa_iload_n (n := 1) rfl ?_
  refine wb_iald 133 rfl (wy_pr rfl) wt_133 (n := (S 127 (-1))) ((hth 6 (by decide))) (by omega) (by omega) (v := st) (hst) (fun r2 => ?_)
  refine wa_istore (n := 6) rfl ?_
  refine wa_iload (n := 5) rfl ?_
  refine wa_aload_n (n := 0) rfl ?_
  refine wb_gf4 72 rfl (wy_pr rfl) wt_72 wf_2_2 (v := 126) wl_72_2 ?_
  refine wa_bipush (w_rg2 (by omega) (by omega)) ?_
  refine wb_aald5 126 8 rfl rfl (wy_pr rfl) wt_126 (by rw [show _ = _ from ((cl_126 hC))]; omega) wl_126_8 ?_
  refine wa_iload_n (n := 1) rfl ?_
  refine wb_iald 135 rfl (wy_pr rfl) wt_135 (n := (S 127 (-1))) ((hth 8 (by decide))) (by omega) (by omega) (v := rm) (hrm) (fun r3 => ?_)
  refine wa_icmpne (w_rg0 (by omega) (by omega)) (w_rg0 (by omega) (by omega)) ⟨_, rfl⟩ (fun c4 => ?_) (fun c4 => ?_)
  · skip
    refine wa_aload_n (n := 0) rfl ?_
    refine wb_gf4 72 rfl (wy_pr rfl) wt_72 wf_2_6 (v := 140) wl_72_6 ?_
    refine wa_iload (n := 6) rfl ?_
    refine wa_iload (n := 5) rfl ?_
    refine wa_iadd ?_
    refine wa_iload_n (n := 2) rfl ?_
    refine wa_lload_n (n := 3) rfl ?_
    refine wa_cv 140 rfl (wy_pr rfl) wt_140 (M2 := mS [141, 142]) rfl at_XV_put ⟨_, rfl⟩ rfl rfl ⟨trivial, trivial, (Or.inr ⟨wy_pr rfl, mS_no rfl⟩), trivial, trivial, trivial, trivial⟩ trivial (fun _ _ q => q) ?_ (fun _ _ _ q => q)
    refine wa_aload_n (n := 0) rfl ?_
    refine wb_gf4 140 rfl (wy_pr rfl) wt_140 wf_7_0 (v := 141) wl_140_0 ?_
    refine wa_iload_n (n := 1) rfl ?_
    refine wa_iload_n (n := 2) rfl ?_
    refine wb_i2b_r (wb_i2b_id ⟨(by omega), (by omega)⟩) ?_
    refine wb_bast 141 rfl (wy_pr rfl) wt_141 (n := (S 141 (-1))) (rfl) (by omega) (by omega) ⟨(by omega), (by omega)⟩ ?_
    refine wa_aload_n (n := 0) rfl ?_
    refine wb_gf4 140 rfl (wy_pr rfl) wt_140 wf_7_1 (v := 142) wl_140_1 ?_
    refine wa_iload_n (n := 1) rfl ?_
    refine wa_lload_n (n := 3) rfl ?_
    refine wb_last 142 rfl (wy_pr rfl) wt_142 (n := (S 141 (-1))) ((w_up_slot (by decide)).trans (hl)) (by omega) (by omega) ⟨(by omega), (by omega)⟩ ?_
    refine wa_return rfl ?_
    show wJ _ _ _ _ _ _ _ _ _ _
    refine wa_aload_n (n := 0) rfl ?_
    refine wb_gf4 72 rfl (wy_pr rfl) wt_72 wf_2_2 (v := 126) wl_72_2 ?_
    refine wa_bipush (w_rg2 (by omega) (by omega)) ?_
    refine wb_aald5 126 7 rfl rfl (wy_pr rfl) wt_126 (by rw [show _ = _ from ((w_up_slot (by decide)).trans ((w_up_slot (by decide)).trans ((cl_126 hC))))]; omega) wl_126_7 ?_
    refine wa_iload_n (n := 1) rfl ?_
    refine wa_dup2 (by decide) (by decide) ?_
    refine wb_iald 134 rfl (wy_pr rfl) wt_134 (n := (S 127 (-1))) ((w_up_slot (by decide)).trans ((w_up_slot (by decide)).trans ((hth 7 (by decide))))) (by omega) (by omega) (v := sz) ((w_up_slot (by decide)).trans ((w_up_slot (by decide)).trans (hsz))) (fun r5 => ?_)
    refine wa_iconst ?_
    refine wa_iadd ?_
    refine wb_iast 134 rfl (wy_pr rfl) wt_134 (n := (S 127 (-1))) ((w_up_slot (by decide)).trans ((w_up_slot (by decide)).trans ((hth 7 (by decide))))) (by omega) (by omega) ⟨(by omega), (by omega)⟩ ?_
    refine wa_aload_n (n := 0) rfl ?_
    refine wb_gf4 72 rfl (wy_pr rfl) wt_72 wf_2_10 (v := 150) wl_72_10 ?_
    refine wa_iconst ?_
    refine wa_dup2 (by decide) (by decide) ?_
    refine wb_iald 150 rfl (wy_pr rfl) wt_150 (n := 6) ((w_up_slot (by decide)).trans ((w_up_slot (by decide)).trans ((w_up_slot (by decide)).trans ((cl_150 hC))))) (by omega) (by omega) (v := v0) ((w_up_slot (by decide)).trans ((w_up_slot (by decide)).trans ((w_up_slot (by decide)).trans (hv0)))) (fun r6 => ?_)
    refine wa_iconst ?_
    refine wa_iadd ?_
    refine wb_iast 150 rfl (wy_pr rfl) wt_150 (n := 6) ((w_up_slot (by decide)).trans ((w_up_slot (by decide)).trans ((w_up_slot (by decide)).trans ((cl_150 hC))))) (by omega) (by omega) ⟨(by omega), (by omega)⟩ ?_
    refine wa_return rfl ?_
    refine ⟨rfl, ?_⟩
    unfold avH_ag
    rw [hst, hsz, hrm, h2, hv0]
    have f33 : (w_up (w_up (w_up (w_up S 141 (st + sz) kd) 142 (st + sz) bt) 134 k (sz + 1)) 150 1 (v0 + 1)) 133 k = st := ((w_up_slot (by decide)).trans ((w_up_slot (by decide)).trans ((w_up_slot (by decide)).trans ((w_up_slot (by decide)).trans (hst)))))
    have f35 : (w_up (w_up (w_up (w_up S 141 (st + sz) kd) 142 (st + sz) bt) 134 k (sz + 1)) 150 1 (v0 + 1)) 135 k = rm := ((w_up_slot (by decide)).trans ((w_up_slot (by decide)).trans ((w_up_slot (by decide)).trans ((w_up_slot (by decide)).trans (hrm)))))
    have f40 : (w_up (w_up (w_up (w_up S 141 (st + sz) kd) 142 (st + sz) bt) 134 k (sz + 1)) 150 1 (v0 + 1)) 140 2 = cs := ((w_up_slot (by decide)).trans ((w_up_slot (by decide)).trans ((w_up_slot (by decide)).trans ((w_up_slot (by decide)).trans (h2)))))
    rw [f33, f35, f40]
    refine ⟨⟨((w_up_slot (by decide)).trans (w_up_same _ _ _ _)), (w_up_same _ _ _ _)⟩, Or.inl (Or.inl ⟨by omega, rfl, rfl, rfl⟩), fun i i0 i1 => ⟨(w_up_no (by omega)).trans ((w_up_no (by omega)).trans ((w_up_no (by omega)).trans ((w_up_no (by omega)).trans (rfl)))), (w_up_no (by omega)).trans ((w_up_no (by omega)).trans ((w_up_no (by omega)).trans ((w_up_no (by omega)).trans (rfl))))⟩, ⟨(w_up_no (by omega)).trans ((w_up_no (by omega)).trans ((w_up_no (by omega)).trans (w_up_same _ _ _ _))), (w_up_no (by omega)).trans ((w_up_no (by omega)).trans (w_up_same _ _ _ _))⟩, fun i i0 i1 i2 => ⟨(w_up_no (by omega)).trans ((w_up_no (by omega)).trans ((w_up_no (by omega)).trans ((w_up_no (by omega)).trans (rfl)))), (w_up_no (by omega)).trans ((w_up_no (by omega)).trans ((w_up_no (by omega)).trans ((w_up_no (by omega)).trans (rfl))))⟩, ⟨(show (w_up (w_up (w_up (w_up S 141 (st + sz) kd) 142 (st + sz) bt) 134 k (sz + 1)) 150 1 (v0 + 1)) 142 (-1) = S 142 (-1) from (w_up_no (by omega)).trans ((w_up_no (by omega)).trans ((w_up_no (by omega)).trans ((w_up_no (by omega)).trans (rfl))))).trans (hl.trans (show (w_up (w_up (w_up (w_up S 141 (st + sz) kd) 142 (st + sz) bt) 134 k (sz + 1)) 150 1 (v0 + 1)) 141 (-1) = S 141 (-1) from (w_up_no (by omega)).trans ((w_up_no (by omega)).trans ((w_up_no (by omega)).trans ((w_up_no (by omega)).trans (rfl))))).symm), by rw [show (w_up (w_up (w_up (w_up S 141 (st + sz) kd) 142 (st + sz) bt) 134 k (sz + 1)) 150 1 (v0 + 1)) 141 (-1) = S 141 (-1) from (w_up_no (by omega)).trans ((w_up_no (by omega)).trans ((w_up_no (by omega)).trans ((w_up_no (by omega)).trans (rfl))))]; omega, by rw [show (w_up (w_up (w_up (w_up S 141 (st + sz) kd) 142 (st + sz) bt) 134 k (sz + 1)) 150 1 (v0 + 1)) 141 (-1) = S 141 (-1) from (w_up_no (by omega)).trans ((w_up_no (by omega)).trans ((w_up_no (by omega)).trans ((w_up_no (by omega)).trans (rfl))))]; omega, Or.inl ((w_up_no (by omega)).trans ((w_up_no (by omega)).trans ((w_up_no (by omega)).trans ((w_up_no (by omega)).trans (rfl)))))⟩, fun j i j0 j1 j2 j3 j4 j5 j6 => (w_up_no (by omega)).trans ((w_up_no (by omega)).trans ((w_up_no (by omega)).trans ((w_up_no (by omega)).trans (rfl)))), (gI_up (gI_up (gI_up (gI_up hI (by omega) (by omega) (by omega)) (by omega) (by omega) (by omega)) (by omega) (by omega) (by omega)) (by omega) (by omega) (by omega)), (rmR_up (rmR_up (rmR_up (rmR_up hRm (by omega) (by decide)) (by omega) (by decide)) (by omega) (by decide)) (by omega) (by decide))⟩
  · skip
    refine wa_iload (n := 6) rfl ?_
    refine wa_iload (n := 5) rfl ?_
    refine wa_iadd ?_
    refine wa_aload_n (n := 0) rfl ?_
    refine wb_gf4 72 rfl (wy_pr rfl) wt_72 wf_2_6 (v := 140) wl_72_6 ?_
    refine wb_gfi 140 rfl (wy_pr rfl) wt_140 wf_7_2 (v := cs) (h2) (fun r7 => ?_)
    refine wa_icmpne (w_rg0 (by omega) (by omega)) (w_rg0 (by omega) (by omega)) ⟨_, rfl⟩ (fun c8 => ?_) (fun c8 => ?_)
    · skip
      refine wa_iconst ?_
      refine wa_iload (n := 5) rfl ?_
      refine wa_iconst ?_
      refine wa_imul ?_
      refine wa_cs (M2 := mS [141, 142]) rfl at_JM_max ⟨_, rfl⟩ rfl rfl ⟨trivial, trivial, (Or.inr ⟨wy_pr rfl, mS_no rfl⟩), trivial, trivial, trivial, trivial⟩ trivial (fun _ _ q => q) ?_ (fun _ _ _ q => q)
      refine wa_iload_n (n := 0) rfl ?_
      refine wa_iload_n (n := 1) rfl ?_
      refine wa_icmplt (w_rg0 (by omega) (by omega)) (w_rg0 (by omega) (by omega)) ⟨_, rfl⟩ (fun c9 => ?_) (fun c9 => ?_)
      · skip
        refine wa_iload_n (n := 1) rfl ?_
        refine wa_fall ⟨_, rfl⟩ ?_
        refine wa_ireturn rfl ?_
        show wJ _ _ _ _ _ _ _ _ _ _
        refine wa_istore (n := 7) rfl ?_
        refine wa_aload_n (n := 0) rfl ?_
        refine wa_iload (n := 7) rfl ?_
        have tc10l : S 141 (-1) = (S 141 (-1)) := (rfl)
        have tc10m : S 142 (-1) = S 141 (-1) := ((hl) : S 142 (-1) = (S 141 (-1))).trans tc10l.symm
        refine wa_cv 72 rfl (wy_pr rfl) wt_72 (M2 := mS [141, 142]) rfl at_XH_takeCells ⟨_, rfl⟩ rfl rfl ⟨trivial, trivial, trivial, (Or.inr ⟨wy_pr rfl, mS_no rfl⟩), trivial, trivial, trivial, trivial⟩ trivial (fun _ _ q => mS_sub (by decide) q) (tc_ok (S := S) (m := (sz * 2)) (cs := cs) hI (h2) ⟨by omega, by omega⟩ tc10m ⟨by omega, by omega⟩ ⟨by omega, by omega⟩) (fun oq10 Sq10 hp11 q10 => ?_)
        rcases q10 with ⟨rfl, tc10⟩
        show wJ _ _ _ _ _ _ _ _ _ _
        have tc10y := tc10.2.2.2.1
        rw [h2] at tc10y
        refine wa_istore (n := 8) rfl ?_
        refine wa_aload_n (n := 0) rfl ?_
        refine wb_gf4 72 rfl (wy_pr rfl) wt_72 wf_2_6 (v := 140) wl_72_6 ?_
        refine wb_gf4 140 rfl (wy_pr rfl) wt_140 wf_7_0 (v := 141) wl_140_0 ?_
        refine wa_iload (n := 6) rfl ?_
        refine wa_aload_n (n := 0) rfl ?_
        refine wb_gf4 72 rfl (wy_pr rfl) wt_72 wf_2_6 (v := 140) wl_72_6 ?_
        refine wb_gf4 140 rfl (wy_pr rfl) wt_140 wf_7_0 (v := 141) wl_140_0 ?_
        refine wa_iload (n := 8) rfl ?_
        refine wa_iload (n := 5) rfl ?_
        refine wb_acB (S := Sq10) 141 141 rfl rfl (wy_pr rfl) (wy_pr rfl) wt_141 wt_141 tc10.2.2.2.2.1 tc10.2.2.2.2.2 (by decide) (by omega) (by omega) (by omega) (by have e : Sq10 141 (-1) = (Sq10 141 (-1)) := (rfl); omega) (by have e : Sq10 141 (-1) = (Sq10 141 (-1)) := (rfl); omega) (by omega) rfl (fun Z12 g13 gi14 rm15 => ?_)
        refine wa_aload_n (n := 0) rfl ?_
        refine wb_gf4 72 rfl (wy_pr rfl) wt_72 wf_2_6 (v := 140) wl_72_6 ?_
        refine wb_gf4 140 rfl (wy_pr rfl) wt_140 wf_7_1 (v := 142) wl_140_1 ?_
        refine wa_iload (n := 6) rfl ?_
        refine wa_aload_n (n := 0) rfl ?_
        refine wb_gf4 72 rfl (wy_pr rfl) wt_72 wf_2_6 (v := 140) wl_72_6 ?_
        refine wb_gf4 140 rfl (wy_pr rfl) wt_140 wf_7_1 (v := 142) wl_140_1 ?_
        refine wa_iload (n := 8) rfl ?_
        refine wa_iload (n := 5) rfl ?_
        refine wb_acL (S := Z12) 142 142 rfl rfl (wy_pr rfl) (wy_pr rfl) wt_142 wt_142 gi14 rm15 (by decide) (by omega) (by omega) (by omega) (by have e : Z12 142 (-1) = (Sq10 141 (-1)) := (((g13.1 142 (-1) (Or.inl (by decide))).trans (tc10.2.2.2.1.1))); omega) (by have e : Z12 142 (-1) = (Sq10 141 (-1)) := (((g13.1 142 (-1) (Or.inl (by decide))).trans (tc10.2.2.2.1.1))); omega) (by omega) rfl (fun Z16 g17 gi18 rm19 => ?_)
        refine wa_aload_n (n := 0) rfl ?_
        refine wb_gf4 72 rfl (wy_pr rfl) wt_72 wf_2_2 (v := 126) wl_72_2 ?_
        refine wa_bipush (w_rg2 (by omega) (by omega)) ?_
        refine wb_aald5 126 6 rfl rfl (wy_pr rfl) wt_126 (by rw [show _ = _ from (((g17.1 126 (-1) (Or.inl (by decide))).trans (((g13.1 126 (-1) (Or.inl (by decide))).trans (((tc10.2.2.1 126 (-1) (by decide) (by decide) (by decide) (by decide) (Or.inl (by decide))).trans ((cl_126 hC))))))))]; omega) wl_126_6 ?_
        refine wa_iload_n (n := 1) rfl ?_
        refine wa_iload (n := 8) rfl ?_
        refine wb_iast 133 rfl (wy_pr rfl) wt_133 (n := (S 127 (-1))) (((g17.1 133 (-1) (Or.inl (by decide))).trans (((g13.1 133 (-1) (Or.inl (by decide))).trans (((tc10.2.2.1 133 (-1) (by decide) (by decide) (by decide) (by decide) (Or.inl (by decide))).trans ((hth 6 (by decide))))))))) (by omega) (by omega) ⟨(by omega), (by omega)⟩ ?_
        refine wa_aload_n (n := 0) rfl ?_
        refine wb_gf4 72 rfl (wy_pr rfl) wt_72 wf_2_2 (v := 126) wl_72_2 ?_
        refine wa_bipush (w_rg2 (by omega) (by omega)) ?_
        refine wa_fall ⟨_, rfl⟩ ?_
        refine wb_aald5 126 8 rfl rfl (wy_pr rfl) wt_126 (by rw [show _ = _ from ((w_up_slot (by decide)).trans (((g17.1 126 (-1) (Or.inl (by decide))).trans (((g13.1 126 (-1) (Or.inl (by decide))).trans (((tc10.2.2.1 126 (-1) (by decide) (by decide) (by decide) (by decide) (Or.inl (by decide))).trans ((cl_126 hC)))))))))]; omega) wl_126_8 ?_
        refine wa_iload_n (n := 1) rfl ?_
        refine wa_iload (n := 7) rfl ?_
        refine wb_iast 135 rfl (wy_pr rfl) wt_135 (n := (S 127 (-1))) ((w_up_slot (by decide)).trans (((g17.1 135 (-1) (Or.inl (by decide))).trans (((g13.1 135 (-1) (Or.inl (by decide))).trans (((tc10.2.2.1 135 (-1) (by decide) (by decide) (by decide) (by decide) (Or.inl (by decide))).trans ((hth 8 (by decide)))))))))) (by omega) (by omega) ⟨(by omega), (by omega)⟩ ?_
        refine wa_iload (n := 8) rfl ?_
        refine wa_istore (n := 6) rfl ?_
        refine wa_fall ⟨_, rfl⟩ ?_
        refine wa_aload_n (n := 0) rfl ?_
        refine wb_gf4 72 rfl (wy_pr rfl) wt_72 wf_2_6 (v := 140) wl_72_6 ?_
        refine wa_iload (n := 6) rfl ?_
        refine wa_iload (n := 5) rfl ?_
        refine wa_iadd ?_
        refine wa_iload_n (n := 2) rfl ?_
        refine wa_lload_n (n := 3) rfl ?_
        refine wa_cv 140 rfl (wy_pr rfl) wt_140 (M2 := mS [141, 142]) rfl at_XV_put ⟨_, rfl⟩ rfl rfl ⟨trivial, trivial, trivial, trivial, (Or.inr ⟨wy_pr rfl, mS_no rfl⟩), trivial, trivial, trivial, trivial⟩ trivial (fun _ _ q => q) ?_ (fun _ _ _ q => q)
        refine wa_aload_n (n := 0) rfl ?_
        refine wb_gf4 140 rfl (wy_pr rfl) wt_140 wf_7_0 (v := 141) wl_140_0 ?_
        refine wa_iload_n (n := 1) rfl ?_
        refine wa_iload_n (n := 2) rfl ?_
        refine wb_i2b_r (wb_i2b_id ⟨(by omega), (by omega)⟩) ?_
        refine wb_bast 141 rfl (wy_pr rfl) wt_141 (n := (Sq10 141 (-1))) ((w_up_slot (by decide)).trans ((w_up_slot (by decide)).trans (((g17.1 141 (-1) (Or.inl (by decide))).trans (((g13.1 141 (-1) (by omega)).trans (rfl))))))) (by omega) (by omega) ⟨(by omega), (by omega)⟩ ?_
        refine wa_aload_n (n := 0) rfl ?_
        refine wb_gf4 140 rfl (wy_pr rfl) wt_140 wf_7_1 (v := 142) wl_140_1 ?_
        refine wa_iload_n (n := 1) rfl ?_
        refine wa_lload_n (n := 3) rfl ?_
        refine wb_last 142 rfl (wy_pr rfl) wt_142 (n := (Sq10 141 (-1))) ((w_up_slot (by decide)).trans ((w_up_slot (by decide)).trans ((w_up_slot (by decide)).trans (((g17.1 142 (-1) (by omega)).trans (((g13.1 142 (-1) (Or.inl (by decide))).trans (tc10.2.2.2.1.1)))))))) (by omega) (by omega) ⟨(by omega), (by omega)⟩ ?_
        refine wa_return rfl ?_
        show wJ _ _ _ _ _ _ _ _ _ _
        refine wa_aload_n (n := 0) rfl ?_
        refine wb_gf4 72 rfl (wy_pr rfl) wt_72 wf_2_2 (v := 126) wl_72_2 ?_
        refine wa_bipush (w_rg2 (by omega) (by omega)) ?_
        refine wb_aald5 126 7 rfl rfl (wy_pr rfl) wt_126 (by rw [show _ = _ from ((w_up_slot (by decide)).trans ((w_up_slot (by decide)).trans ((w_up_slot (by decide)).trans ((w_up_slot (by decide)).trans (((g17.1 126 (-1) (Or.inl (by decide))).trans (((g13.1 126 (-1) (Or.inl (by decide))).trans (((tc10.2.2.1 126 (-1) (by decide) (by decide) (by decide) (by decide) (Or.inl (by decide))).trans ((cl_126 hC))))))))))))]; omega) wl_126_7 ?_
        refine wa_iload_n (n := 1) rfl ?_
        refine wa_dup2 (by decide) (by decide) ?_
        refine wb_iald 134 rfl (wy_pr rfl) wt_134 (n := (S 127 (-1))) ((w_up_slot (by decide)).trans ((w_up_slot (by decide)).trans ((w_up_slot (by decide)).trans ((w_up_slot (by decide)).trans (((g17.1 134 (-1) (Or.inl (by decide))).trans (((g13.1 134 (-1) (Or.inl (by decide))).trans (((tc10.2.2.1 134 (-1) (by decide) (by decide) (by decide) (by decide) (Or.inl (by decide))).trans ((hth 7 (by decide))))))))))))) (by omega) (by omega) (v := sz) ((w_up_slot (by decide)).trans ((w_up_slot (by decide)).trans ((w_up_slot (by decide)).trans ((w_up_slot (by decide)).trans (((g17.1 134 k (Or.inl (by decide))).trans (((g13.1 134 k (Or.inl (by decide))).trans (((tc10.2.2.1 134 k (by decide) (by decide) (by decide) (by decide) (Or.inl (by decide))).trans (hsz))))))))))) (fun r20 => ?_)
        refine wa_iconst ?_
        refine wa_iadd ?_
        refine wb_iast 134 rfl (wy_pr rfl) wt_134 (n := (S 127 (-1))) ((w_up_slot (by decide)).trans ((w_up_slot (by decide)).trans ((w_up_slot (by decide)).trans ((w_up_slot (by decide)).trans (((g17.1 134 (-1) (Or.inl (by decide))).trans (((g13.1 134 (-1) (Or.inl (by decide))).trans (((tc10.2.2.1 134 (-1) (by decide) (by decide) (by decide) (by decide) (Or.inl (by decide))).trans ((hth 7 (by decide))))))))))))) (by omega) (by omega) ⟨(by omega), (by omega)⟩ ?_
        refine wa_aload_n (n := 0) rfl ?_
        refine wb_gf4 72 rfl (wy_pr rfl) wt_72 wf_2_10 (v := 150) wl_72_10 ?_
        refine wa_iconst ?_
        refine wa_dup2 (by decide) (by decide) ?_
        refine wb_iald 150 rfl (wy_pr rfl) wt_150 (n := 6) ((w_up_slot (by decide)).trans ((w_up_slot (by decide)).trans ((w_up_slot (by decide)).trans ((w_up_slot (by decide)).trans ((w_up_slot (by decide)).trans (((g17.1 150 (-1) (Or.inl (by decide))).trans (((g13.1 150 (-1) (Or.inl (by decide))).trans (((tc10.2.2.1 150 (-1) (by decide) (by decide) (by decide) (by decide) (Or.inl (by decide))).trans ((cl_150 hC))))))))))))) (by omega) (by omega) (v := v0) ((w_up_slot (by decide)).trans ((w_up_slot (by decide)).trans ((w_up_slot (by decide)).trans ((w_up_slot (by decide)).trans ((w_up_slot (by decide)).trans (((g17.1 150 1 (Or.inl (by decide))).trans (((g13.1 150 1 (Or.inl (by decide))).trans (((tc10.2.2.1 150 1 (by decide) (by decide) (by decide) (by decide) (Or.inl (by decide))).trans (hv0)))))))))))) (fun r21 => ?_)
        refine wa_iconst ?_
        refine wa_iadd ?_
        refine wb_iast 150 rfl (wy_pr rfl) wt_150 (n := 6) ((w_up_slot (by decide)).trans ((w_up_slot (by decide)).trans ((w_up_slot (by decide)).trans ((w_up_slot (by decide)).trans ((w_up_slot (by decide)).trans (((g17.1 150 (-1) (Or.inl (by decide))).trans (((g13.1 150 (-1) (Or.inl (by decide))).trans (((tc10.2.2.1 150 (-1) (by decide) (by decide) (by decide) (by decide) (Or.inl (by decide))).trans ((cl_150 hC))))))))))))) (by omega) (by omega) ⟨(by omega), (by omega)⟩ ?_
        refine wa_return rfl ?_
        refine ⟨rfl, ?_⟩
        unfold avH_ag
        rw [hst, hsz, hrm, h2, hv0]
        have f33 : (w_up (w_up (w_up (w_up (w_up (w_up Z16 133 k cs) 135 k (sz * 2)) 141 (cs + sz) kd) 142 (cs + sz) bt) 134 k (sz + 1)) 150 1 (v0 + 1)) 133 k = cs := ((w_up_slot (by decide)).trans ((w_up_slot (by decide)).trans ((w_up_slot (by decide)).trans ((w_up_slot (by decide)).trans ((w_up_slot (by decide)).trans (w_up_same _ _ _ _))))))
        have f35 : (w_up (w_up (w_up (w_up (w_up (w_up Z16 133 k cs) 135 k (sz * 2)) 141 (cs + sz) kd) 142 (cs + sz) bt) 134 k (sz + 1)) 150 1 (v0 + 1)) 135 k = (sz * 2) := ((w_up_slot (by decide)).trans ((w_up_slot (by decide)).trans ((w_up_slot (by decide)).trans ((w_up_slot (by decide)).trans (w_up_same _ _ _ _)))))
        have f40 : (w_up (w_up (w_up (w_up (w_up (w_up Z16 133 k cs) 135 k (sz * 2)) 141 (cs + sz) kd) 142 (cs + sz) bt) 134 k (sz + 1)) 150 1 (v0 + 1)) 140 2 = (cs + (sz * 2)) := ((w_up_slot (by decide)).trans ((w_up_slot (by decide)).trans ((w_up_slot (by decide)).trans ((w_up_slot (by decide)).trans ((w_up_slot (by decide)).trans ((w_up_slot (by decide)).trans (((g17.1 140 2 (Or.inl (by decide))).trans (((g13.1 140 2 (Or.inl (by decide))).trans ((by rw [tc10.1, show _ = _ from (h2)]))))))))))))
        rw [f33, f35, f40]
        obtain ⟨t1, t2, t3, -, t8, t9⟩ := id tc10
        obtain ⟨t4, t5, t6, t7⟩ := id tc10y
        have c41 : ∀ i : Int, Z16 141 i = Z12 141 i := fun i => g17.1 141 i (Or.inl (by decide))
        have c42 : ∀ i : Int, Z12 142 i = Sq10 142 i := fun i => g13.1 142 i (Or.inl (by decide))
        have cf : ∀ (j : Nat) (i : Int), j ≠ 141 → j ≠ 142 → Z16 j i = Sq10 j i := fun j i h1 h2 => (g17.1 j i (Or.inl h2)).trans (g13.1 j i (Or.inl h1))
        have l1 : (w_up (w_up (w_up (w_up (w_up (w_up Z16 133 k cs) 135 k (sz * 2)) 141 (cs + sz) kd) 142 (cs + sz) bt) 134 k (sz + 1)) 150 1 (v0 + 1)) 141 (-1) = Sq10 141 (-1) := (w_up_no (by omega)).trans ((w_up_no (by omega)).trans ((w_up_no (by omega)).trans ((w_up_no (by omega)).trans ((w_up_no (by omega)).trans ((w_up_no (by omega)).trans ((c41 (-1)).trans (g13.1 141 (-1) (by omega))))))))
        have l2 : (w_up (w_up (w_up (w_up (w_up (w_up Z16 133 k cs) 135 k (sz * 2)) 141 (cs + sz) kd) 142 (cs + sz) bt) 134 k (sz + 1)) 150 1 (v0 + 1)) 142 (-1) = Sq10 142 (-1) := (w_up_no (by omega)).trans ((w_up_no (by omega)).trans ((w_up_no (by omega)).trans ((w_up_no (by omega)).trans ((w_up_no (by omega)).trans ((w_up_no (by omega)).trans ((g17.1 142 (-1) (by omega)).trans (c42 (-1))))))))
        refine ⟨⟨((w_up_slot (by decide)).trans (w_up_same _ _ _ _)), (w_up_same _ _ _ _)⟩, Or.inr ⟨by omega, rfl, ?_, rfl⟩, fun i i0 i1 => ⟨(w_up_no (by omega)).trans ((w_up_no (by omega)).trans ((w_up_no (by omega)).trans ((w_up_no (by omega)).trans ((w_up_no (by omega)).trans ((w_up_no (by omega)).trans ((c41 _).trans ((g13.2 i i0 i1).trans (t2 _ (by omega) (by omega)).1))))))), (w_up_no (by omega)).trans ((w_up_no (by omega)).trans ((w_up_no (by omega)).trans ((w_up_no (by omega)).trans ((w_up_no (by omega)).trans ((w_up_no (by omega)).trans ((g17.2 i i0 i1).trans ((c42 _).trans (t2 _ (by omega) (by omega)).2)))))))⟩, ⟨(w_up_no (by omega)).trans ((w_up_no (by omega)).trans ((w_up_no (by omega)).trans (w_up_same _ _ _ _))), (w_up_no (by omega)).trans ((w_up_no (by omega)).trans (w_up_same _ _ _ _))⟩, fun i i0 i1 i2 => ⟨(w_up_no (by omega)).trans ((w_up_no (by omega)).trans ((w_up_no (by omega)).trans ((w_up_no (by omega)).trans ((w_up_no (by omega)).trans ((w_up_no (by omega)).trans ((c41 i).trans ((g13.1 141 i (by omega)).trans (t2 i (by omega) (by omega)).1))))))), (w_up_no (by omega)).trans ((w_up_no (by omega)).trans ((w_up_no (by omega)).trans ((w_up_no (by omega)).trans ((w_up_no (by omega)).trans ((w_up_no (by omega)).trans ((g17.1 142 i (by omega)).trans ((c42 i).trans (t2 i (by omega) (by omega)).2)))))))⟩, ⟨by rw [l1, l2]; exact t4, by rw [l1]; omega, by rw [l1]; omega, by rw [l1]; omega⟩, fun j i j0 j1 j2 j3 j4 j5 j6 => (w_up_no (by omega)).trans ((w_up_no (by omega)).trans ((w_up_no (by omega)).trans ((w_up_no (by omega)).trans ((w_up_no (by omega)).trans ((w_up_no (by omega)).trans ((cf j i j2 j3).trans (t3 j i j0 j1 j2 j3 j5))))))), (gI_up (gI_up (gI_up (gI_up (gI_up (gI_up gi18 (by omega) (by omega) (by omega)) (by omega) (by omega) (by omega)) (by omega) (by omega) (by omega)) (by omega) (by omega) (by omega)) (by omega) (by omega) (by omega)) (by omega) (by omega) (by omega)), (rmR_up (rmR_up (rmR_up (rmR_up (rmR_up (rmR_up rm19 (by omega) (by decide)) (by omega) (by decide)) (by omega) (by decide)) (by omega) (by decide)) (by omega) (by decide)) (by omega) (by decide))⟩
        split <;> omega
      · skip
        refine wa_iload_n (n := 0) rfl ?_
        refine wa_goto ⟨_, rfl⟩ ?_
        refine wa_ireturn rfl ?_
        show wJ _ _ _ _ _ _ _ _ _ _
        refine wa_istore (n := 7) rfl ?_
        refine wa_aload_n (n := 0) rfl ?_
        refine wa_iload (n := 7) rfl ?_
        have tc22l : S 141 (-1) = (S 141 (-1)) := (rfl)
        have tc22m : S 142 (-1) = S 141 (-1) := ((hl) : S 142 (-1) = (S 141 (-1))).trans tc22l.symm
        refine wa_cv 72 rfl (wy_pr rfl) wt_72 (M2 := mS [141, 142]) rfl at_XH_takeCells ⟨_, rfl⟩ rfl rfl ⟨trivial, trivial, trivial, (Or.inr ⟨wy_pr rfl, mS_no rfl⟩), trivial, trivial, trivial, trivial⟩ trivial (fun _ _ q => mS_sub (by decide) q) (tc_ok (S := S) (m := 4) (cs := cs) hI (h2) ⟨by omega, by omega⟩ tc22m ⟨by omega, by omega⟩ ⟨by omega, by omega⟩) (fun oq22 Sq22 hp23 q22 => ?_)
        rcases q22 with ⟨rfl, tc22⟩
        show wJ _ _ _ _ _ _ _ _ _ _
        have tc22y := tc22.2.2.2.1
        rw [h2] at tc22y
        refine wa_istore (n := 8) rfl ?_
        refine wa_aload_n (n := 0) rfl ?_
        refine wb_gf4 72 rfl (wy_pr rfl) wt_72 wf_2_6 (v := 140) wl_72_6 ?_
        refine wb_gf4 140 rfl (wy_pr rfl) wt_140 wf_7_0 (v := 141) wl_140_0 ?_
        refine wa_iload (n := 6) rfl ?_
        refine wa_aload_n (n := 0) rfl ?_
        refine wb_gf4 72 rfl (wy_pr rfl) wt_72 wf_2_6 (v := 140) wl_72_6 ?_
        refine wb_gf4 140 rfl (wy_pr rfl) wt_140 wf_7_0 (v := 141) wl_140_0 ?_
        refine wa_iload (n := 8) rfl ?_
        refine wa_iload (n := 5) rfl ?_
        refine wb_acB (S := Sq22) 141 141 rfl rfl (wy_pr rfl) (wy_pr rfl) wt_141 wt_141 tc22.2.2.2.2.1 tc22.2.2.2.2.2 (by decide) (by omega) (by omega) (by omega) (by have e : Sq22 141 (-1) = (Sq22 141 (-1)) := (rfl); omega) (by have e : Sq22 141 (-1) = (Sq22 141 (-1)) := (rfl); omega) (by omega) rfl (fun Z24 g25 gi26 rm27 => ?_)
        refine wa_aload_n (n := 0) rfl ?_
        refine wb_gf4 72 rfl (wy_pr rfl) wt_72 wf_2_6 (v := 140) wl_72_6 ?_
        refine wb_gf4 140 rfl (wy_pr rfl) wt_140 wf_7_1 (v := 142) wl_140_1 ?_
        refine wa_iload (n := 6) rfl ?_
        refine wa_aload_n (n := 0) rfl ?_
        refine wb_gf4 72 rfl (wy_pr rfl) wt_72 wf_2_6 (v := 140) wl_72_6 ?_
        refine wb_gf4 140 rfl (wy_pr rfl) wt_140 wf_7_1 (v := 142) wl_140_1 ?_
        refine wa_iload (n := 8) rfl ?_
        refine wa_iload (n := 5) rfl ?_
        refine wb_acL (S := Z24) 142 142 rfl rfl (wy_pr rfl) (wy_pr rfl) wt_142 wt_142 gi26 rm27 (by decide) (by omega) (by omega) (by omega) (by have e : Z24 142 (-1) = (Sq22 141 (-1)) := (((g25.1 142 (-1) (Or.inl (by decide))).trans (tc22.2.2.2.1.1))); omega) (by have e : Z24 142 (-1) = (Sq22 141 (-1)) := (((g25.1 142 (-1) (Or.inl (by decide))).trans (tc22.2.2.2.1.1))); omega) (by omega) rfl (fun Z28 g29 gi30 rm31 => ?_)
        refine wa_aload_n (n := 0) rfl ?_
        refine wb_gf4 72 rfl (wy_pr rfl) wt_72 wf_2_2 (v := 126) wl_72_2 ?_
        refine wa_bipush (w_rg2 (by omega) (by omega)) ?_
        refine wb_aald5 126 6 rfl rfl (wy_pr rfl) wt_126 (by rw [show _ = _ from (((g29.1 126 (-1) (Or.inl (by decide))).trans (((g25.1 126 (-1) (Or.inl (by decide))).trans (((tc22.2.2.1 126 (-1) (by decide) (by decide) (by decide) (by decide) (Or.inl (by decide))).trans ((cl_126 hC))))))))]; omega) wl_126_6 ?_
        refine wa_iload_n (n := 1) rfl ?_
        refine wa_iload (n := 8) rfl ?_
        refine wb_iast 133 rfl (wy_pr rfl) wt_133 (n := (S 127 (-1))) (((g29.1 133 (-1) (Or.inl (by decide))).trans (((g25.1 133 (-1) (Or.inl (by decide))).trans (((tc22.2.2.1 133 (-1) (by decide) (by decide) (by decide) (by decide) (Or.inl (by decide))).trans ((hth 6 (by decide))))))))) (by omega) (by omega) ⟨(by omega), (by omega)⟩ ?_
        refine wa_aload_n (n := 0) rfl ?_
        refine wb_gf4 72 rfl (wy_pr rfl) wt_72 wf_2_2 (v := 126) wl_72_2 ?_
        refine wa_bipush (w_rg2 (by omega) (by omega)) ?_
        refine wa_fall ⟨_, rfl⟩ ?_
        refine wb_aald5 126 8 rfl rfl (wy_pr rfl) wt_126 (by rw [show _ = _ from ((w_up_slot (by decide)).trans (((g29.1 126 (-1) (Or.inl (by decide))).trans (((g25.1 126 (-1) (Or.inl (by decide))).trans (((tc22.2.2.1 126 (-1) (by decide) (by decide) (by decide) (by decide) (Or.inl (by decide))).trans ((cl_126 hC)))))))))]; omega) wl_126_8 ?_
        refine wa_iload_n (n := 1) rfl ?_
        refine wa_iload (n := 7) rfl ?_
        refine wb_iast 135 rfl (wy_pr rfl) wt_135 (n := (S 127 (-1))) ((w_up_slot (by decide)).trans (((g29.1 135 (-1) (Or.inl (by decide))).trans (((g25.1 135 (-1) (Or.inl (by decide))).trans (((tc22.2.2.1 135 (-1) (by decide) (by decide) (by decide) (by decide) (Or.inl (by decide))).trans ((hth 8 (by decide)))))))))) (by omega) (by omega) ⟨(by omega), (by omega)⟩ ?_
        refine wa_iload (n := 8) rfl ?_
        refine wa_istore (n := 6) rfl ?_
        refine wa_fall ⟨_, rfl⟩ ?_
        refine wa_aload_n (n := 0) rfl ?_
        refine wb_gf4 72 rfl (wy_pr rfl) wt_72 wf_2_6 (v := 140) wl_72_6 ?_
        refine wa_iload (n := 6) rfl ?_
        refine wa_iload (n := 5) rfl ?_
        refine wa_iadd ?_
        refine wa_iload_n (n := 2) rfl ?_
        refine wa_lload_n (n := 3) rfl ?_
        refine wa_cv 140 rfl (wy_pr rfl) wt_140 (M2 := mS [141, 142]) rfl at_XV_put ⟨_, rfl⟩ rfl rfl ⟨trivial, trivial, trivial, trivial, (Or.inr ⟨wy_pr rfl, mS_no rfl⟩), trivial, trivial, trivial, trivial⟩ trivial (fun _ _ q => q) ?_ (fun _ _ _ q => q)
        refine wa_aload_n (n := 0) rfl ?_
        refine wb_gf4 140 rfl (wy_pr rfl) wt_140 wf_7_0 (v := 141) wl_140_0 ?_
        refine wa_iload_n (n := 1) rfl ?_
        refine wa_iload_n (n := 2) rfl ?_
        refine wb_i2b_r (wb_i2b_id ⟨(by omega), (by omega)⟩) ?_
        refine wb_bast 141 rfl (wy_pr rfl) wt_141 (n := (Sq22 141 (-1))) ((w_up_slot (by decide)).trans ((w_up_slot (by decide)).trans (((g29.1 141 (-1) (Or.inl (by decide))).trans (((g25.1 141 (-1) (by omega)).trans (rfl))))))) (by omega) (by omega) ⟨(by omega), (by omega)⟩ ?_
        refine wa_aload_n (n := 0) rfl ?_
        refine wb_gf4 140 rfl (wy_pr rfl) wt_140 wf_7_1 (v := 142) wl_140_1 ?_
        refine wa_iload_n (n := 1) rfl ?_
        refine wa_lload_n (n := 3) rfl ?_
        refine wb_last 142 rfl (wy_pr rfl) wt_142 (n := (Sq22 141 (-1))) ((w_up_slot (by decide)).trans ((w_up_slot (by decide)).trans ((w_up_slot (by decide)).trans (((g29.1 142 (-1) (by omega)).trans (((g25.1 142 (-1) (Or.inl (by decide))).trans (tc22.2.2.2.1.1)))))))) (by omega) (by omega) ⟨(by omega), (by omega)⟩ ?_
        refine wa_return rfl ?_
        show wJ _ _ _ _ _ _ _ _ _ _
        refine wa_aload_n (n := 0) rfl ?_
        refine wb_gf4 72 rfl (wy_pr rfl) wt_72 wf_2_2 (v := 126) wl_72_2 ?_
        refine wa_bipush (w_rg2 (by omega) (by omega)) ?_
        refine wb_aald5 126 7 rfl rfl (wy_pr rfl) wt_126 (by rw [show _ = _ from ((w_up_slot (by decide)).trans ((w_up_slot (by decide)).trans ((w_up_slot (by decide)).trans ((w_up_slot (by decide)).trans (((g29.1 126 (-1) (Or.inl (by decide))).trans (((g25.1 126 (-1) (Or.inl (by decide))).trans (((tc22.2.2.1 126 (-1) (by decide) (by decide) (by decide) (by decide) (Or.inl (by decide))).trans ((cl_126 hC))))))))))))]; omega) wl_126_7 ?_
        refine wa_iload_n (n := 1) rfl ?_
        refine wa_dup2 (by decide) (by decide) ?_
        refine wb_iald 134 rfl (wy_pr rfl) wt_134 (n := (S 127 (-1))) ((w_up_slot (by decide)).trans ((w_up_slot (by decide)).trans ((w_up_slot (by decide)).trans ((w_up_slot (by decide)).trans (((g29.1 134 (-1) (Or.inl (by decide))).trans (((g25.1 134 (-1) (Or.inl (by decide))).trans (((tc22.2.2.1 134 (-1) (by decide) (by decide) (by decide) (by decide) (Or.inl (by decide))).trans ((hth 7 (by decide))))))))))))) (by omega) (by omega) (v := sz) ((w_up_slot (by decide)).trans ((w_up_slot (by decide)).trans ((w_up_slot (by decide)).trans ((w_up_slot (by decide)).trans (((g29.1 134 k (Or.inl (by decide))).trans (((g25.1 134 k (Or.inl (by decide))).trans (((tc22.2.2.1 134 k (by decide) (by decide) (by decide) (by decide) (Or.inl (by decide))).trans (hsz))))))))))) (fun r32 => ?_)
        refine wa_iconst ?_
        refine wa_iadd ?_
        refine wb_iast 134 rfl (wy_pr rfl) wt_134 (n := (S 127 (-1))) ((w_up_slot (by decide)).trans ((w_up_slot (by decide)).trans ((w_up_slot (by decide)).trans ((w_up_slot (by decide)).trans (((g29.1 134 (-1) (Or.inl (by decide))).trans (((g25.1 134 (-1) (Or.inl (by decide))).trans (((tc22.2.2.1 134 (-1) (by decide) (by decide) (by decide) (by decide) (Or.inl (by decide))).trans ((hth 7 (by decide))))))))))))) (by omega) (by omega) ⟨(by omega), (by omega)⟩ ?_
        refine wa_aload_n (n := 0) rfl ?_
        refine wb_gf4 72 rfl (wy_pr rfl) wt_72 wf_2_10 (v := 150) wl_72_10 ?_
        refine wa_iconst ?_
        refine wa_dup2 (by decide) (by decide) ?_
        refine wb_iald 150 rfl (wy_pr rfl) wt_150 (n := 6) ((w_up_slot (by decide)).trans ((w_up_slot (by decide)).trans ((w_up_slot (by decide)).trans ((w_up_slot (by decide)).trans ((w_up_slot (by decide)).trans (((g29.1 150 (-1) (Or.inl (by decide))).trans (((g25.1 150 (-1) (Or.inl (by decide))).trans (((tc22.2.2.1 150 (-1) (by decide) (by decide) (by decide) (by decide) (Or.inl (by decide))).trans ((cl_150 hC))))))))))))) (by omega) (by omega) (v := v0) ((w_up_slot (by decide)).trans ((w_up_slot (by decide)).trans ((w_up_slot (by decide)).trans ((w_up_slot (by decide)).trans ((w_up_slot (by decide)).trans (((g29.1 150 1 (Or.inl (by decide))).trans (((g25.1 150 1 (Or.inl (by decide))).trans (((tc22.2.2.1 150 1 (by decide) (by decide) (by decide) (by decide) (Or.inl (by decide))).trans (hv0)))))))))))) (fun r33 => ?_)
        refine wa_iconst ?_
        refine wa_iadd ?_
        refine wb_iast 150 rfl (wy_pr rfl) wt_150 (n := 6) ((w_up_slot (by decide)).trans ((w_up_slot (by decide)).trans ((w_up_slot (by decide)).trans ((w_up_slot (by decide)).trans ((w_up_slot (by decide)).trans (((g29.1 150 (-1) (Or.inl (by decide))).trans (((g25.1 150 (-1) (Or.inl (by decide))).trans (((tc22.2.2.1 150 (-1) (by decide) (by decide) (by decide) (by decide) (Or.inl (by decide))).trans ((cl_150 hC))))))))))))) (by omega) (by omega) ⟨(by omega), (by omega)⟩ ?_
        refine wa_return rfl ?_
        refine ⟨rfl, ?_⟩
        unfold avH_ag
        rw [hst, hsz, hrm, h2, hv0]
        have f33 : (w_up (w_up (w_up (w_up (w_up (w_up Z28 133 k cs) 135 k 4) 141 (cs + sz) kd) 142 (cs + sz) bt) 134 k (sz + 1)) 150 1 (v0 + 1)) 133 k = cs := ((w_up_slot (by decide)).trans ((w_up_slot (by decide)).trans ((w_up_slot (by decide)).trans ((w_up_slot (by decide)).trans ((w_up_slot (by decide)).trans (w_up_same _ _ _ _))))))
        have f35 : (w_up (w_up (w_up (w_up (w_up (w_up Z28 133 k cs) 135 k 4) 141 (cs + sz) kd) 142 (cs + sz) bt) 134 k (sz + 1)) 150 1 (v0 + 1)) 135 k = 4 := ((w_up_slot (by decide)).trans ((w_up_slot (by decide)).trans ((w_up_slot (by decide)).trans ((w_up_slot (by decide)).trans (w_up_same _ _ _ _)))))
        have f40 : (w_up (w_up (w_up (w_up (w_up (w_up Z28 133 k cs) 135 k 4) 141 (cs + sz) kd) 142 (cs + sz) bt) 134 k (sz + 1)) 150 1 (v0 + 1)) 140 2 = (cs + 4) := ((w_up_slot (by decide)).trans ((w_up_slot (by decide)).trans ((w_up_slot (by decide)).trans ((w_up_slot (by decide)).trans ((w_up_slot (by decide)).trans ((w_up_slot (by decide)).trans (((g29.1 140 2 (Or.inl (by decide))).trans (((g25.1 140 2 (Or.inl (by decide))).trans ((by rw [tc22.1, show _ = _ from (h2)]))))))))))))
        rw [f33, f35, f40]
        obtain ⟨t1, t2, t3, -, t8, t9⟩ := id tc22
        obtain ⟨t4, t5, t6, t7⟩ := id tc22y
        have c41 : ∀ i : Int, Z28 141 i = Z24 141 i := fun i => g29.1 141 i (Or.inl (by decide))
        have c42 : ∀ i : Int, Z24 142 i = Sq22 142 i := fun i => g25.1 142 i (Or.inl (by decide))
        have cf : ∀ (j : Nat) (i : Int), j ≠ 141 → j ≠ 142 → Z28 j i = Sq22 j i := fun j i h1 h2 => (g29.1 j i (Or.inl h2)).trans (g25.1 j i (Or.inl h1))
        have l1 : (w_up (w_up (w_up (w_up (w_up (w_up Z28 133 k cs) 135 k 4) 141 (cs + sz) kd) 142 (cs + sz) bt) 134 k (sz + 1)) 150 1 (v0 + 1)) 141 (-1) = Sq22 141 (-1) := (w_up_no (by omega)).trans ((w_up_no (by omega)).trans ((w_up_no (by omega)).trans ((w_up_no (by omega)).trans ((w_up_no (by omega)).trans ((w_up_no (by omega)).trans ((c41 (-1)).trans (g25.1 141 (-1) (by omega))))))))
        have l2 : (w_up (w_up (w_up (w_up (w_up (w_up Z28 133 k cs) 135 k 4) 141 (cs + sz) kd) 142 (cs + sz) bt) 134 k (sz + 1)) 150 1 (v0 + 1)) 142 (-1) = Sq22 142 (-1) := (w_up_no (by omega)).trans ((w_up_no (by omega)).trans ((w_up_no (by omega)).trans ((w_up_no (by omega)).trans ((w_up_no (by omega)).trans ((w_up_no (by omega)).trans ((g29.1 142 (-1) (by omega)).trans (c42 (-1))))))))
        refine ⟨⟨((w_up_slot (by decide)).trans (w_up_same _ _ _ _)), (w_up_same _ _ _ _)⟩, Or.inr ⟨by omega, rfl, ?_, rfl⟩, fun i i0 i1 => ⟨(w_up_no (by omega)).trans ((w_up_no (by omega)).trans ((w_up_no (by omega)).trans ((w_up_no (by omega)).trans ((w_up_no (by omega)).trans ((w_up_no (by omega)).trans ((c41 _).trans ((g25.2 i i0 i1).trans (t2 _ (by omega) (by omega)).1))))))), (w_up_no (by omega)).trans ((w_up_no (by omega)).trans ((w_up_no (by omega)).trans ((w_up_no (by omega)).trans ((w_up_no (by omega)).trans ((w_up_no (by omega)).trans ((g29.2 i i0 i1).trans ((c42 _).trans (t2 _ (by omega) (by omega)).2)))))))⟩, ⟨(w_up_no (by omega)).trans ((w_up_no (by omega)).trans ((w_up_no (by omega)).trans (w_up_same _ _ _ _))), (w_up_no (by omega)).trans ((w_up_no (by omega)).trans (w_up_same _ _ _ _))⟩, fun i i0 i1 i2 => ⟨(w_up_no (by omega)).trans ((w_up_no (by omega)).trans ((w_up_no (by omega)).trans ((w_up_no (by omega)).trans ((w_up_no (by omega)).trans ((w_up_no (by omega)).trans ((c41 i).trans ((g25.1 141 i (by omega)).trans (t2 i (by omega) (by omega)).1))))))), (w_up_no (by omega)).trans ((w_up_no (by omega)).trans ((w_up_no (by omega)).trans ((w_up_no (by omega)).trans ((w_up_no (by omega)).trans ((w_up_no (by omega)).trans ((g29.1 142 i (by omega)).trans ((c42 i).trans (t2 i (by omega) (by omega)).2)))))))⟩, ⟨by rw [l1, l2]; exact t4, by rw [l1]; omega, by rw [l1]; omega, by rw [l1]; omega⟩, fun j i j0 j1 j2 j3 j4 j5 j6 => (w_up_no (by omega)).trans ((w_up_no (by omega)).trans ((w_up_no (by omega)).trans ((w_up_no (by omega)).trans ((w_up_no (by omega)).trans ((w_up_no (by omega)).trans ((cf j i j2 j3).trans (t3 j i j0 j1 j2 j3 j5))))))), (gI_up (gI_up (gI_up (gI_up (gI_up (gI_up gi30 (by omega) (by omega) (by omega)) (by omega) (by omega) (by omega)) (by omega) (by omega) (by omega)) (by omega) (by omega) (by omega)) (by omega) (by omega) (by omega)) (by omega) (by omega) (by omega)), (rmR_up (rmR_up (rmR_up (rmR_up (rmR_up (rmR_up rm31 (by omega) (by decide)) (by omega) (by decide)) (by omega) (by decide)) (by omega) (by decide)) (by omega) (by decide)) (by omega) (by decide))⟩
        split <;> omega
    · skip
      refine wa_aload_n (n := 0) rfl ?_
      refine wa_iconst ?_
      have tc34l : S 141 (-1) = (S 141 (-1)) := (rfl)
      have tc34m : S 142 (-1) = S 141 (-1) := ((hl) : S 142 (-1) = (S 141 (-1))).trans tc34l.symm
      refine wa_cv 72 rfl (wy_pr rfl) wt_72 (M2 := mS [141, 142]) rfl at_XH_takeCells ⟨_, rfl⟩ rfl rfl ⟨trivial, trivial, (Or.inr ⟨wy_pr rfl, mS_no rfl⟩), trivial, trivial, trivial, trivial⟩ trivial (fun _ _ q => mS_sub (by decide) q) (tc_ok (S := S) (m := 1) (cs := cs) hI (h2) ⟨by omega, by omega⟩ tc34m ⟨by omega, by omega⟩ ⟨by omega, by omega⟩) (fun oq34 Sq34 hp35 q34 => ?_)
      rcases q34 with ⟨rfl, tc34⟩
      show wJ _ _ _ _ _ _ _ _ _ _
      have tc34y := tc34.2.2.2.1
      rw [h2] at tc34y
      refine wa_pop (by decide) ?_
      refine wa_aload_n (n := 0) rfl ?_
      refine wb_gf4 72 rfl (wy_pr rfl) wt_72 wf_2_2 (v := 126) wl_72_2 ?_
      refine wa_bipush (w_rg2 (by omega) (by omega)) ?_
      refine wb_aald5 126 8 rfl rfl (wy_pr rfl) wt_126 (by rw [show _ = _ from (((tc34.2.2.1 126 (-1) (by decide) (by decide) (by decide) (by decide) (Or.inl (by decide))).trans ((cl_126 hC))))]; omega) wl_126_8 ?_
      refine wa_iload_n (n := 1) rfl ?_
      refine wa_dup2 (by decide) (by decide) ?_
      refine wb_iald 135 rfl (wy_pr rfl) wt_135 (n := (S 127 (-1))) (((tc34.2.2.1 135 (-1) (by decide) (by decide) (by decide) (by decide) (Or.inl (by decide))).trans ((hth 8 (by decide))))) (by omega) (by omega) (v := rm) (((tc34.2.2.1 135 k (by decide) (by decide) (by decide) (by decide) (Or.inl (by decide))).trans (hrm))) (fun r36 => ?_)
      refine wa_fall ⟨_, rfl⟩ ?_
      refine wa_iconst ?_
      refine wa_iadd ?_
      refine wb_iast 135 rfl (wy_pr rfl) wt_135 (n := (S 127 (-1))) (((tc34.2.2.1 135 (-1) (by decide) (by decide) (by decide) (by decide) (Or.inl (by decide))).trans ((hth 8 (by decide))))) (by omega) (by omega) ⟨(by omega), (by omega)⟩ ?_
      refine wa_goto ⟨_, rfl⟩ ?_
      refine wa_aload_n (n := 0) rfl ?_
      refine wb_gf4 72 rfl (wy_pr rfl) wt_72 wf_2_6 (v := 140) wl_72_6 ?_
      refine wa_iload (n := 6) rfl ?_
      refine wa_iload (n := 5) rfl ?_
      refine wa_iadd ?_
      refine wa_iload_n (n := 2) rfl ?_
      refine wa_lload_n (n := 3) rfl ?_
      refine wa_cv 140 rfl (wy_pr rfl) wt_140 (M2 := mS [141, 142]) rfl at_XV_put ⟨_, rfl⟩ rfl rfl ⟨trivial, trivial, (Or.inr ⟨wy_pr rfl, mS_no rfl⟩), trivial, trivial, trivial, trivial⟩ trivial (fun _ _ q => q) ?_ (fun _ _ _ q => q)
      refine wa_aload_n (n := 0) rfl ?_
      refine wb_gf4 140 rfl (wy_pr rfl) wt_140 wf_7_0 (v := 141) wl_140_0 ?_
      refine wa_iload_n (n := 1) rfl ?_
      refine wa_iload_n (n := 2) rfl ?_
      refine wb_i2b_r (wb_i2b_id ⟨(by omega), (by omega)⟩) ?_
      refine wb_bast 141 rfl (wy_pr rfl) wt_141 (n := (Sq34 141 (-1))) ((w_up_slot (by decide)).trans (rfl)) (by omega) (by omega) ⟨(by omega), (by omega)⟩ ?_
      refine wa_aload_n (n := 0) rfl ?_
      refine wb_gf4 140 rfl (wy_pr rfl) wt_140 wf_7_1 (v := 142) wl_140_1 ?_
      refine wa_iload_n (n := 1) rfl ?_
      refine wa_lload_n (n := 3) rfl ?_
      refine wb_last 142 rfl (wy_pr rfl) wt_142 (n := (Sq34 141 (-1))) ((w_up_slot (by decide)).trans ((w_up_slot (by decide)).trans (tc34.2.2.2.1.1))) (by omega) (by omega) ⟨(by omega), (by omega)⟩ ?_
      refine wa_return rfl ?_
      show wJ _ _ _ _ _ _ _ _ _ _
      refine wa_aload_n (n := 0) rfl ?_
      refine wb_gf4 72 rfl (wy_pr rfl) wt_72 wf_2_2 (v := 126) wl_72_2 ?_
      refine wa_bipush (w_rg2 (by omega) (by omega)) ?_
      refine wb_aald5 126 7 rfl rfl (wy_pr rfl) wt_126 (by rw [show _ = _ from ((w_up_slot (by decide)).trans ((w_up_slot (by decide)).trans ((w_up_slot (by decide)).trans (((tc34.2.2.1 126 (-1) (by decide) (by decide) (by decide) (by decide) (Or.inl (by decide))).trans ((cl_126 hC)))))))]; omega) wl_126_7 ?_
      refine wa_iload_n (n := 1) rfl ?_
      refine wa_dup2 (by decide) (by decide) ?_
      refine wb_iald 134 rfl (wy_pr rfl) wt_134 (n := (S 127 (-1))) ((w_up_slot (by decide)).trans ((w_up_slot (by decide)).trans ((w_up_slot (by decide)).trans (((tc34.2.2.1 134 (-1) (by decide) (by decide) (by decide) (by decide) (Or.inl (by decide))).trans ((hth 7 (by decide)))))))) (by omega) (by omega) (v := sz) ((w_up_slot (by decide)).trans ((w_up_slot (by decide)).trans ((w_up_slot (by decide)).trans (((tc34.2.2.1 134 k (by decide) (by decide) (by decide) (by decide) (Or.inl (by decide))).trans (hsz)))))) (fun r37 => ?_)
      refine wa_iconst ?_
      refine wa_iadd ?_
      refine wb_iast 134 rfl (wy_pr rfl) wt_134 (n := (S 127 (-1))) ((w_up_slot (by decide)).trans ((w_up_slot (by decide)).trans ((w_up_slot (by decide)).trans (((tc34.2.2.1 134 (-1) (by decide) (by decide) (by decide) (by decide) (Or.inl (by decide))).trans ((hth 7 (by decide)))))))) (by omega) (by omega) ⟨(by omega), (by omega)⟩ ?_
      refine wa_aload_n (n := 0) rfl ?_
      refine wb_gf4 72 rfl (wy_pr rfl) wt_72 wf_2_10 (v := 150) wl_72_10 ?_
      refine wa_iconst ?_
      refine wa_dup2 (by decide) (by decide) ?_
      refine wb_iald 150 rfl (wy_pr rfl) wt_150 (n := 6) ((w_up_slot (by decide)).trans ((w_up_slot (by decide)).trans ((w_up_slot (by decide)).trans ((w_up_slot (by decide)).trans (((tc34.2.2.1 150 (-1) (by decide) (by decide) (by decide) (by decide) (Or.inl (by decide))).trans ((cl_150 hC)))))))) (by omega) (by omega) (v := v0) ((w_up_slot (by decide)).trans ((w_up_slot (by decide)).trans ((w_up_slot (by decide)).trans ((w_up_slot (by decide)).trans (((tc34.2.2.1 150 1 (by decide) (by decide) (by decide) (by decide) (Or.inl (by decide))).trans (hv0))))))) (fun r38 => ?_)
      refine wa_iconst ?_
      refine wa_iadd ?_
      refine wb_iast 150 rfl (wy_pr rfl) wt_150 (n := 6) ((w_up_slot (by decide)).trans ((w_up_slot (by decide)).trans ((w_up_slot (by decide)).trans ((w_up_slot (by decide)).trans (((tc34.2.2.1 150 (-1) (by decide) (by decide) (by decide) (by decide) (Or.inl (by decide))).trans ((cl_150 hC)))))))) (by omega) (by omega) ⟨(by omega), (by omega)⟩ ?_
      refine wa_return rfl ?_
      refine ⟨rfl, ?_⟩
      unfold avH_ag
      rw [hst, hsz, hrm, h2, hv0]
      have f33 : (w_up (w_up (w_up (w_up (w_up Sq34 135 k (rm + 1)) 141 (st + sz) kd) 142 (st + sz) bt) 134 k (sz + 1)) 150 1 (v0 + 1)) 133 k = st := ((w_up_slot (by decide)).trans ((w_up_slot (by decide)).trans ((w_up_slot (by decide)).trans ((w_up_slot (by decide)).trans ((w_up_slot (by decide)).trans (((tc34.2.2.1 133 k (by decide) (by decide) (by decide) (by decide) (Or.inl (by decide))).trans (hst))))))))
      have f35 : (w_up (w_up (w_up (w_up (w_up Sq34 135 k (rm + 1)) 141 (st + sz) kd) 142 (st + sz) bt) 134 k (sz + 1)) 150 1 (v0 + 1)) 135 k = (rm + 1) := ((w_up_slot (by decide)).trans ((w_up_slot (by decide)).trans ((w_up_slot (by decide)).trans ((w_up_slot (by decide)).trans (w_up_same _ _ _ _)))))
      have f40 : (w_up (w_up (w_up (w_up (w_up Sq34 135 k (rm + 1)) 141 (st + sz) kd) 142 (st + sz) bt) 134 k (sz + 1)) 150 1 (v0 + 1)) 140 2 = (cs + 1) := ((w_up_slot (by decide)).trans ((w_up_slot (by decide)).trans ((w_up_slot (by decide)).trans ((w_up_slot (by decide)).trans ((w_up_slot (by decide)).trans ((by rw [tc34.1, show _ = _ from (h2)])))))))
      rw [f33, f35, f40]
      obtain ⟨t1, t2, t3, -, t8, t9⟩ := id tc34
      obtain ⟨t4, t5, t6, t7⟩ := id tc34y
      have l1 : (w_up (w_up (w_up (w_up (w_up Sq34 135 k (rm + 1)) 141 (st + sz) kd) 142 (st + sz) bt) 134 k (sz + 1)) 150 1 (v0 + 1)) 141 (-1) = Sq34 141 (-1) := (w_up_no (by omega)).trans ((w_up_no (by omega)).trans ((w_up_no (by omega)).trans ((w_up_no (by omega)).trans ((w_up_no (by omega)).trans (rfl)))))
      have l2 : (w_up (w_up (w_up (w_up (w_up Sq34 135 k (rm + 1)) 141 (st + sz) kd) 142 (st + sz) bt) 134 k (sz + 1)) 150 1 (v0 + 1)) 142 (-1) = Sq34 142 (-1) := (w_up_no (by omega)).trans ((w_up_no (by omega)).trans ((w_up_no (by omega)).trans ((w_up_no (by omega)).trans ((w_up_no (by omega)).trans (rfl)))))
      refine ⟨⟨((w_up_slot (by decide)).trans (w_up_same _ _ _ _)), (w_up_same _ _ _ _)⟩, Or.inl (Or.inr ⟨by omega, by omega, rfl, by omega, rfl⟩), fun i i0 i1 => ⟨(w_up_no (by omega)).trans ((w_up_no (by omega)).trans ((w_up_no (by omega)).trans ((w_up_no (by omega)).trans ((w_up_no (by omega)).trans ((t2 _ (by omega) (by omega)).1))))), (w_up_no (by omega)).trans ((w_up_no (by omega)).trans ((w_up_no (by omega)).trans ((w_up_no (by omega)).trans ((w_up_no (by omega)).trans ((t2 _ (by omega) (by omega)).2)))))⟩, ⟨(w_up_no (by omega)).trans ((w_up_no (by omega)).trans ((w_up_no (by omega)).trans (w_up_same _ _ _ _))), (w_up_no (by omega)).trans ((w_up_no (by omega)).trans (w_up_same _ _ _ _))⟩, fun i i0 i1 i2 => ⟨(w_up_no (by omega)).trans ((w_up_no (by omega)).trans ((w_up_no (by omega)).trans ((w_up_no (by omega)).trans ((w_up_no (by omega)).trans ((t2 _ (by omega) (by omega)).1))))), (w_up_no (by omega)).trans ((w_up_no (by omega)).trans ((w_up_no (by omega)).trans ((w_up_no (by omega)).trans ((w_up_no (by omega)).trans ((t2 _ (by omega) (by omega)).2)))))⟩, ⟨by rw [l1, l2]; exact t4, by rw [l1]; omega, by rw [l1]; omega, by rw [l1]; omega⟩, fun j i j0 j1 j2 j3 j4 j5 j6 => (w_up_no (by omega)).trans ((w_up_no (by omega)).trans ((w_up_no (by omega)).trans ((w_up_no (by omega)).trans ((w_up_no (by omega)).trans (t3 j i j0 j1 j2 j3 j5))))), (gI_up (gI_up (gI_up (gI_up (gI_up t8 (by omega) (by omega) (by omega)) (by omega) (by omega) (by omega)) (by omega) (by omega) (by omega)) (by omega) (by omega) (by omega)) (by omega) (by omega) (by omega)), (rmR_up (rmR_up (rmR_up (rmR_up (rmR_up t9 (by omega) (by decide)) (by omega) (by decide)) (by omega) (by decide)) (by omega) (by decide)) (by omega) (by decide))⟩
theorem nc_ok {k ep ch : Int} (hth : ∀ x : Nat, x < 10 → S (127 + x) (-1) = S 127 (-1)) (hk : 0 ≤ k ∧ k < S 127 (-1)) (hk2 : S 127 (-1) ≤ 16383) (hep : S 130 k = ep) (hep1 : -1 ≤ ep ∧ ep ≤ 10000000) (hch : S 72 11 = ch) (hch1 : 0 ≤ ch ∧ ch ≤ 10000000) (hC : w_CL S) : wJ (pe_GA xs) wY0 M d t_XH_noteChange ((pe_at t_XH_noteChange.bl 0).getD (0, [])).2 [(0, (2, 72)), (1, (0, k))] [] S (fun o Z => o = .inl none ∧ (if ep = -1 then S else w_up (w_up (w_up S 130 k (ep + 1)) 72 11 (ch + 1)) 131 k (ch + 1)) = Z) := by
  refine wa_aload_n (n := 0) rfl ?_
  refine wb_gf4 72 rfl (wy_pr rfl) wt_72 wf_2_2 (v := 126) wl_72_2 ?_
  refine wa_iconst ?_
  refine wb_aald5 126 3 rfl rfl (wy_pr rfl) wt_126 (by rw [show _ = _ from ((cl_126 hC))]; omega) wl_126_3 ?_
  refine wa_iload_n (n := 1) rfl ?_
  refine wb_iald 130 rfl (wy_pr rfl) wt_130 (n := (S 127 (-1))) ((hth 3 (by decide))) (by omega) (by omega) (v := ep) (hep) (fun r1 => ?_)
  refine wa_iconst ?_
  refine wa_icmpeq (w_rg0 (by omega) (by omega)) (w_rg0 (by omega) (by omega)) ⟨_, rfl⟩ (fun c2 => ?_) (fun c2 => ?_)
  · skip
    refine wa_return rfl ?_
    refine ⟨rfl, ?_⟩
    first | (rw [if_pos (by omega)]; done) | (rw [if_neg (by omega)]; done)
  · skip
    refine wa_aload_n (n := 0) rfl ?_
    refine wb_gf4 72 rfl (wy_pr rfl) wt_72 wf_2_2 (v := 126) wl_72_2 ?_
    refine wa_iconst ?_
    refine wb_aald5 126 3 rfl rfl (wy_pr rfl) wt_126 (by rw [show _ = _ from ((cl_126 hC))]; omega) wl_126_3 ?_
    refine wa_iload_n (n := 1) rfl ?_
    refine wa_dup2 (by decide) (by decide) ?_
    refine wb_iald 130 rfl (wy_pr rfl) wt_130 (n := (S 127 (-1))) ((hth 3 (by decide))) (by omega) (by omega) (v := ep) (hep) (fun r3 => ?_)
    refine wa_iconst ?_
    refine wa_iadd ?_
    refine wb_iast 130 rfl (wy_pr rfl) wt_130 (n := (S 127 (-1))) ((hth 3 (by decide))) (by omega) (by omega) ⟨(by omega), (by omega)⟩ ?_
    refine wa_aload_n (n := 0) rfl ?_
    refine wa_dup (by decide) ?_
    refine wb_gfi 72 rfl (wy_pr rfl) wt_72 wf_2_11 (v := ch) ((w_up_slot (by decide)).trans (hch)) (fun r4 => ?_)
    refine wa_iconst ?_
    refine wa_iadd ?_
    refine wb_pfi 72 rfl (wy_pr rfl) wt_72 wf_2_11 (n := 11) rfl ⟨(by omega), (by omega)⟩ ?_
    refine wa_aload_n (n := 0) rfl ?_
    refine wb_gf4 72 rfl (wy_pr rfl) wt_72 wf_2_2 (v := 126) wl_72_2 ?_
    refine wa_iconst ?_
    refine wb_aald5 126 4 rfl rfl (wy_pr rfl) wt_126 (by rw [show _ = _ from ((w_up_slot (by decide)).trans ((w_up_slot (by decide)).trans ((cl_126 hC))))]; omega) wl_126_4 ?_
    refine wa_iload_n (n := 1) rfl ?_
    refine wa_aload_n (n := 0) rfl ?_
    refine wb_gfi 72 rfl (wy_pr rfl) wt_72 wf_2_11 (v := (ch + 1)) (w_up_same _ _ _ _) (fun r5 => ?_)
    refine wb_iast 131 rfl (wy_pr rfl) wt_131 (n := (S 127 (-1))) ((w_up_slot (by decide)).trans ((w_up_slot (by decide)).trans ((hth 4 (by decide))))) (by omega) (by omega) ⟨(by omega), (by omega)⟩ ?_
    refine wa_fall ⟨_, rfl⟩ ?_
    refine wa_return rfl ?_
    refine ⟨rfl, ?_⟩
    first | (rw [if_pos (by omega)]; done) | (rw [if_neg (by omega)]; done)
end Web
